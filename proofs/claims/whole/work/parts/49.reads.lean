/-! calls that look -/
theorem q603 (V : qV) : (qu V 602 0 0) 603 = V 603 := by funext j; exact q602 _ _ _ (by decide)
theorem tP.m {V : qV} {t : Int} {w : Int → Int} (h : tP V t w) : mP w := ⟨h.1.2, fun p a b k c d => ((h.2 p a b).2.2.2 k c d).2⟩
theorem tS.m {V : qV} {t : Int} {w : Int → Int} (h : tS V t w) : mS w := ⟨h.1.2, fun c a b => by have := h.2 c a b; exact ⟨this.2.1.2, this.2.2.1.2, this.2.2.2.1.2⟩⟩
theorem mF_of {V : qV} {t : Int} {w : Int → Int} {f : Int} (hU : tU V t w) (hF : tF V t w) (hC : tC V t w) (h0 : 0 ≤ f) (h1 : f < w 142) : mF w f := by
  have h2 := hF.1
  obtain ⟨⟨k0, k1, k2, k3, k4, k5, k6, k7, k9, kh⟩, -⟩ := hF.2 f h0 h1
  have := hU.1
  exact ⟨by omega, k1.2, k3.2, by omega, by omega, hC.1.2⟩
theorem mH_of {V : qV} {t : Int} {w : Int → Int} {f : Int} (hP : tP V t w) (hF : tF V t w) (h0 : 0 ≤ f) (h1 : f < w 142) : mH w (143 + 27 * f) := fR_mH (hF.2 f h0 h1).1 hP.1.2.2
theorem nmM_e {V : qV} {o f many today : Int} {w : Int → Int} (h : fR V o w (143 + 27 * f) many today) : nmG w (V o 0) (V o 1) (V o 2) (V o 3) (w 20 - V o 5) (V o 6) (clF w f) = nmM w f := by
  obtain ⟨k0, k1, k2, k3, k4, k5, k6, k7, k9, kh⟩ := h
  unfold nmM
  rw [k0.1, k1.1, k2.1, k3.1, k5.1, k6.1]
theorem t_finders {n : Int} {a : Int} {V : qV} {J : qJ} {P : qV → Prop} (h : Rel n V J) (hP0 : ∀ V2, Rel (n + 1) V2 J → P V2) : W_X10_finders a V (fun r => W_X11_finders a V (fun s V2 => V2 602 0 = 0 ∧ r = s ∧ P V2)) (fun E => (E = "java/lang/IndexOutOfBoundsException" ∧ W_X11_finders a V (fun s V2 => V2 602 0 = 1 ∧ P V2))) := by
  have ht := h.2.2.2.1
  obtain ⟨hU, hP, hG, hF, hC, hS, hA⟩ := ht
  have q6 : (qu V 602 0 0) 603 = V 603 := q603 V
  have h142 := hF.1
  have nF : ¬ (0 ≤ a ∧ a < V 12 10) → ∀ Q : Int → qV → Prop, Q 0 (qu (qu V 602 0 0) 602 0 1) → W_X11_isFind a (qu V 602 0 0) Q := fun ha Q k => m_if0 (qs0 _) (by rw [q6]; exact h142.2) (by rw [q6, ← h142.1]; exact ha) k
  have iF : (0 ≤ a ∧ a < V 12 10) → ∀ Q : Int → qV → Prop, Q 1 (qu V 602 0 0) → W_X11_isFind a (qu V 602 0 0) Q := fun ha Q k => m_if1 (qs0 _) (by rw [q6]; exact h142.2) (by rw [q6]; omega) k
  refine if ha : 0 ≤ a ∧ a < V 12 10 then ?_ else s_fO0 ha (⟨rfl, nF ha _ (br_t rfl ⟨qu_s _ _ _ _, hP0 _ h.th⟩)⟩)
  refine s_fO1 ha (by omega) ?_
  have hf1 : a < V 603 142 := by omega
  obtain ⟨hfr, hf8⟩ := hF.2 a ha.1 hf1
  rw [show (12 : Int) + 42 + 4 * a = 54 + 4 * a by omega] at hfr hf8
  exact s_finderBits hfr (iF ha _ (br_f (by decide) (m_findersOf (by omega) (by rw [q6]; exact mH_of hP hF ha.1 hf1) ⟨qs0 _, by rw [q6], hP0 _ h.th0⟩)))
theorem t_has {n : Int} {a : Int} {V : qV} {J : qJ} {P : qV → Prop} (h : Rel n V J) (hP0 : ∀ V2, Rel (n + 1) V2 J → P V2) : W_X10_has a V (fun r => W_X11_has a V (fun s V2 => V2 602 0 = 0 ∧ r = s ∧ P V2)) (fun E => (E = "java/lang/IndexOutOfBoundsException" ∧ W_X11_has a V (fun s V2 => V2 602 0 = 1 ∧ P V2))) := by
  have ht := h.2.2.2.1
  obtain ⟨hU, hP, hG, hF, hC, hS, hA⟩ := ht
  have q6 : (qu V 602 0 0) 603 = V 603 := q603 V
  have h142 := hF.1
  have nF : ¬ (0 ≤ a ∧ a < V 12 10) → ∀ Q : Int → qV → Prop, Q 0 (qu (qu V 602 0 0) 602 0 1) → W_X11_isFind a (qu V 602 0 0) Q := fun ha Q k => m_if0 (qs0 _) (by rw [q6]; exact h142.2) (by rw [q6, ← h142.1]; exact ha) k
  have iF : (0 ≤ a ∧ a < V 12 10) → ∀ Q : Int → qV → Prop, Q 1 (qu V 602 0 0) → W_X11_isFind a (qu V 602 0 0) Q := fun ha Q k => m_if1 (qs0 _) (by rw [q6]; exact h142.2) (by rw [q6]; omega) k
  refine if ha : 0 ≤ a ∧ a < V 12 10 then ?_ else s_fO0 ha (⟨rfl, nF ha _ (br_t rfl ⟨qu_s _ _ _ _, hP0 _ h.th⟩)⟩)
  refine s_fO1 ha (by omega) ?_
  have hf1 : a < V 603 142 := by omega
  obtain ⟨hfr, hf8⟩ := hF.2 a ha.1 hf1
  rw [show (12 : Int) + 42 + 4 * a = 54 + 4 * a by omega] at hfr hf8
  exact s_hadBy hfr hf8 (iF ha _ (br_f (by decide) (m_hasNow (by omega) (by rw [q6]; exact mH_of hP hF ha.1 hf1) (by rw [q6]; exact hS.m) ⟨qs0 _, by rw [q6], hP0 _ h.th0⟩)))
theorem t_name {n : Int} {a : Int} {b : Int} {V : qV} {J : qJ} {P : qV → Prop} (h : Rel n V J) (hP0 : ∀ V2, Rel (n + 1) V2 J → P V2) : W_X10_name a b V (fun r => W_X11_name a b V (fun s V2 => V2 602 0 = 0 ∧ r = s ∧ P V2)) (fun E => (E = "java/lang/IndexOutOfBoundsException" ∧ W_X11_name a b V (fun s V2 => V2 602 0 = 1 ∧ P V2)) ∨ (E = "java/lang/IllegalArgumentException" ∧ W_X11_name a b V (fun s V2 => V2 602 0 = 2 ∧ P V2))) := by
  have ht := h.2.2.2.1
  obtain ⟨hU, hP, hG, hF, hC, hS, hA⟩ := ht
  have q6 : (qu V 602 0 0) 603 = V 603 := q603 V
  have h142 := hF.1
  have nF : ¬ (0 ≤ a ∧ a < V 12 10) → ∀ Q : Int → qV → Prop, Q 0 (qu (qu V 602 0 0) 602 0 1) → W_X11_isFind a (qu V 602 0 0) Q := fun ha Q k => m_if0 (qs0 _) (by rw [q6]; exact h142.2) (by rw [q6, ← h142.1]; exact ha) k
  have iF : (0 ≤ a ∧ a < V 12 10) → ∀ Q : Int → qV → Prop, Q 1 (qu V 602 0 0) → W_X11_isFind a (qu V 602 0 0) Q := fun ha Q k => m_if1 (qs0 _) (by rw [q6]; exact h142.2) (by rw [q6]; omega) k
  refine if ha : 0 ≤ a ∧ a < V 12 10 then ?_ else s_fO0 ha (Or.inl ⟨rfl, nF ha _ (br_t rfl ⟨qu_s _ _ _ _, hP0 _ h.th⟩)⟩)
  refine s_fO1 ha (by omega) ?_
  have hf1 : a < V 603 142 := by omega
  obtain ⟨hfr, hf8⟩ := hF.2 a ha.1 hf1
  rw [show (12 : Int) + 42 + 4 * a = 54 + 4 * a by omega] at hfr hf8
  refine if hb : 0 ≤ b ∧ b ≤ 9 then ?_ else s_tR0 hb (Or.inr ⟨rfl, iF ha _ (br_f (by decide) (m_in0 hb (m_may0 (qs0 _) (by decide) (br_t rfl ⟨qu_s _ _ _ _, hP0 _ h.th⟩))))⟩)
  have hm := mF_of hU hF hC ha.1 hf1
  have k1 := hfr.2.1
  have k3 := hfr.2.2.2.1
  have k5 := hfr.2.2.2.2.2.1
  have h20 := hU.1
  refine s_tR1 hb (s_nameOf hU hP hG hC (by omega) (by omega) (by omega) hb (iF ha _ (br_f (by decide) (m_in1 hb (m_may1 (qs0 _) (br_f (by decide) (m_nameFind (by rw [q6]; exact hP.m) (by rw [q6]; exact hm) (fun V5 e1 e2 => ⟨by omega, ?_, ?_, hP0 _ ?_⟩))))))))
  · rw [e1 _ _ (by decide)]; exact qs0 _
  · rw [e2 b hb.1 hb.2, q6, nmM_e hfr]
  · exact h.sc0 (by omega) (fun o j p => by rw [e1 o j (by unfold scrC at p; omega), qu_e (by unfold scrC at p; omega)]) (fun _ _ _ _ _ _ _ _ => rfl)
def leF (w : Int → Int) (f day : Int) : Int := max 0 (w (143 + 27 * f + 2) - w (143 + 27 * f + 4) * (day - w (143 + 27 * f + 5)))
theorem mul_b {a b : Int} (ha : 0 ≤ a ∧ a ≤ 99) (hb : -9999 ≤ b ∧ b ≤ 9999) : -989901 ≤ a * b ∧ a * b ≤ 989901 := by
  have h1 : a * b ≤ 99 * 9999 := by
    by_cases h : 0 ≤ b
    · exact Int.mul_le_mul ha.2 hb.2 h (by decide)
    · have := Int.mul_nonpos_of_nonneg_of_nonpos ha.1 (show b ≤ 0 by omega); omega
  have h2 : a * (-b) ≤ 99 * 9999 := by
    by_cases h : 0 ≤ -b
    · exact Int.mul_le_mul ha.2 (by omega) h (by decide)
    · have := Int.mul_nonpos_of_nonneg_of_nonpos ha.1 (show -b ≤ 0 by omega); omega
  rw [Int.mul_neg] at h2
  omega
theorem s_leftOn {V : qV} {o f many today day : Int} {w : Int → Int} {Q : Int → Prop} (h : fR V o w (143 + 27 * f) many today) (ht : today ≤ 9999) (hd : 0 ≤ day ∧ day ≤ 9999) (k : Q (leF w f day)) : W_X1_leftOn o day V Q := by
  obtain ⟨k0, k1, k2, k3, k4, k5, k6, k7, k9, kh⟩ := h
  unfold W_X1_leftOn
  rw [k2.1, k4.1, k5.1]
  have := mul_b (a := w (143 + 27 * f + 4)) (b := day - w (143 + 27 * f + 5)) k4.2 (by omega)
  exact ⟨zr_i (by omega) (by omega), zr_i (by omega) (by omega), zr_i (by omega) (by omega), k⟩
/-- ranges of a find that are asked when something is left -/
def mL (w : Int → Int) (f : Int) : Prop := (0 ≤ f ∧ f < 8) ∧ (1 ≤ w (143 + 27 * f + 2) ∧ w (143 + 27 * f + 2) ≤ 9999) ∧ (0 ≤ w (143 + 27 * f + 4) ∧ w (143 + 27 * f + 4) ≤ 99) ∧ (0 ≤ w (143 + 27 * f + 5) ∧ w (143 + 27 * f + 5) ≤ 9999)
theorem mL_of {V : qV} {t : Int} {w : Int → Int} {f : Int} (hU : tU V t w) (hF : tF V t w) (h0 : 0 ≤ f) (h1 : f < w 142) : mL w f := by
  have h2 := hF.1
  obtain ⟨⟨k0, k1, k2, k3, k4, k5, k6, k7, k9, kh⟩, -⟩ := hF.2 f h0 h1
  have := hU.1
  exact ⟨by omega, k2.2, k4.2, by omega⟩
theorem m_leftOn {V : qV} {f day : Int} {Q : Int → Prop} (h : mL (V 603) f) (hd : 0 ≤ day ∧ day ≤ 9999) (k : Q (leF (V 603) f day)) : W_X11_leftOn f day V Q := by
  obtain ⟨h0, h2, h4, h5⟩ := h
  have := mul_b (a := V 603 (143 + 27 * f + 4)) (b := day - V 603 (143 + 27 * f + 5)) h4 (by omega)
  refine ⟨zr_i (by omega) (by omega), zr_i (by omega) (by omega), zr_i (by omega) (by omega), by omega, zr_i (by omega) (by omega), by omega, zr_i (by omega) (by omega), by omega, zr_i (by omega) (by omega), zr_i (by omega) (by omega), zr_i (by omega) (by omega), ?_⟩
  unfold leF at k
  refine br_c (fun c => ?_) (fun c => ?_)
  · rwa [show max 0 (V 603 (143 + 27 * f + 2) - V 603 (143 + 27 * f + 4) * (day - V 603 (143 + 27 * f + 5))) = 0 by omega] at k
  · rwa [show max 0 (V 603 (143 + 27 * f + 2) - V 603 (143 + 27 * f + 4) * (day - V 603 (143 + 27 * f + 5))) = V 603 (143 + 27 * f + 2) - V 603 (143 + 27 * f + 4) * (day - V 603 (143 + 27 * f + 5)) by omega] at k
theorem t_left {n : Int} {a : Int} {b : Int} {V : qV} {J : qJ} {P : qV → Prop} (h : Rel n V J) (hP0 : ∀ V2, Rel (n + 1) V2 J → P V2) : W_X10_left a b V (fun r => W_X11_left a b V (fun s V2 => V2 602 0 = 0 ∧ r = s ∧ P V2)) (fun E => (E = "java/lang/IndexOutOfBoundsException" ∧ W_X11_left a b V (fun s V2 => V2 602 0 = 1 ∧ P V2)) ∨ (E = "java/lang/IllegalArgumentException" ∧ W_X11_left a b V (fun s V2 => V2 602 0 = 2 ∧ P V2))) := by
  have ht := h.2.2.2.1
  obtain ⟨hU, hP, hG, hF, hC, hS, hA⟩ := ht
  have q6 : (qu V 602 0 0) 603 = V 603 := q603 V
  have h142 := hF.1
  have nF : ¬ (0 ≤ a ∧ a < V 12 10) → ∀ Q : Int → qV → Prop, Q 0 (qu (qu V 602 0 0) 602 0 1) → W_X11_isFind a (qu V 602 0 0) Q := fun ha Q k => m_if0 (qs0 _) (by rw [q6]; exact h142.2) (by rw [q6, ← h142.1]; exact ha) k
  have iF : (0 ≤ a ∧ a < V 12 10) → ∀ Q : Int → qV → Prop, Q 1 (qu V 602 0 0) → W_X11_isFind a (qu V 602 0 0) Q := fun ha Q k => m_if1 (qs0 _) (by rw [q6]; exact h142.2) (by rw [q6]; omega) k
  refine if ha : 0 ≤ a ∧ a < V 12 10 then ?_ else s_fO0 ha (Or.inl ⟨rfl, nF ha _ (br_t rfl ⟨qu_s _ _ _ _, hP0 _ h.th⟩)⟩)
  refine s_fO1 ha (by omega) ?_
  have hf1 : a < V 603 142 := by omega
  obtain ⟨hfr, hf8⟩ := hF.2 a ha.1 hf1
  rw [show (12 : Int) + 42 + 4 * a = 54 + 4 * a by omega] at hfr hf8
  have k5 := hfr.2.2.2.2.2.1
  have h20 := hU.1
  have hml := mL_of hU hF ha.1 hf1
  rw [k5.1]
  refine if hb : V 603 (143 + 27 * a + 5) ≤ b ∧ b ≤ 9999 then ?_ else s_tR0 hb (Or.inr ⟨rfl, iF ha _ (br_f (by decide) ⟨zr_i (by omega) (by omega), zr_i (by omega) (by omega), zr_i (by omega) (by omega), by omega, m_in0 (by rw [q6]; exact hb) (m_may0 (qs0 _) (by decide) (br_t rfl ⟨qu_s _ _ _ _, hP0 _ h.th⟩))⟩)⟩)
  exact s_tR1 hb (s_leftOn hfr (by omega) (by omega) (iF ha _ (br_f (by decide) ⟨zr_i (by omega) (by omega), zr_i (by omega) (by omega), zr_i (by omega) (by omega), by omega, m_in1 (by rw [q6]; exact hb) (m_may1 (qs0 _) (br_f (by decide) (m_leftOn (by rw [q6]; exact hml) (by omega) ⟨qs0 _, by rw [q6], hP0 _ h.th0⟩)))⟩)))
theorem t_gone {n : Int} {a : Int} {V : qV} {J : qJ} {P : qV → Prop} (h : Rel n V J) (hP0 : ∀ V2, Rel (n + 1) V2 J → P V2) : W_X10_gone a V (fun r => W_X11_gone a V (fun s V2 => V2 602 0 = 0 ∧ r = s ∧ P V2)) (fun E => (E = "java/lang/IndexOutOfBoundsException" ∧ W_X11_gone a V (fun s V2 => V2 602 0 = 1 ∧ P V2))) := by
  have ht := h.2.2.2.1
  obtain ⟨hU, hP, hG, hF, hC, hS, hA⟩ := ht
  have q6 : (qu V 602 0 0) 603 = V 603 := q603 V
  have h142 := hF.1
  have nF : ¬ (0 ≤ a ∧ a < V 12 10) → ∀ Q : Int → qV → Prop, Q 0 (qu (qu V 602 0 0) 602 0 1) → W_X11_isFind a (qu V 602 0 0) Q := fun ha Q k => m_if0 (qs0 _) (by rw [q6]; exact h142.2) (by rw [q6, ← h142.1]; exact ha) k
  have iF : (0 ≤ a ∧ a < V 12 10) → ∀ Q : Int → qV → Prop, Q 1 (qu V 602 0 0) → W_X11_isFind a (qu V 602 0 0) Q := fun ha Q k => m_if1 (qs0 _) (by rw [q6]; exact h142.2) (by rw [q6]; omega) k
  refine if ha : 0 ≤ a ∧ a < V 12 10 then ?_ else s_fO0 ha (⟨rfl, nF ha _ (br_t rfl ⟨qu_s _ _ _ _, hP0 _ h.th⟩)⟩)
  refine s_fO1 ha (by omega) ?_
  have hf1 : a < V 603 142 := by omega
  obtain ⟨hfr, hf8⟩ := hF.2 a ha.1 hf1
  rw [show (12 : Int) + 42 + 4 * a = 54 + 4 * a by omega] at hfr hf8
  have k2 := hfr.2.2.1
  have k4 := hfr.2.2.2.2.1
  have k5 := hfr.2.2.2.2.2.1
  have h20 := hU.1
  have hml := mL_of hU hF ha.1 hf1
  rw [k2.1, k4.1, k5.1]
  have loop : ∀ r : Int, ((r = -1 ∧ ∀ d, V 603 (143 + 27 * a + 5) ≤ d → d ≤ 9999 → leF (V 603) a d ≠ 0) ∨ (V 603 (143 + 27 * a + 5) ≤ r ∧ r ≤ 9999 ∧ leF (V 603) a r = 0 ∧ ∀ d, V 603 (143 + 27 * a + 5) ≤ d → d < r → leF (V 603) a d ≠ 0)) → W_X11_gone a V (fun s V2 => V2 602 0 = 0 ∧ r = s ∧ P V2) := by
    intro r hr
    refine iF ha _ (br_f (by decide) ⟨zr_i (by omega) (by omega), zr_i (by omega) (by omega), zr_i (by omega) (by omega), by omega, ?_⟩)
    have main : ∀ (f : Nat) (d : Int), V 603 (143 + 27 * a + 5) ≤ d → d ≤ 10000 → 10000 < d + f → (∀ x, V 603 (143 + 27 * a + 5) ≤ x → x < d → leF (V 603) a x ≠ 0) → lp_X11_gone_27 a (qu V 602 0 0) (fun l2x8 => (qu V 602 0 0) 602 0 = 0 ∧ r = -1 ∧ P (qu V 602 0 0)) (fun s V2 => V2 602 0 = 0 ∧ r = s ∧ P V2) f d := by
      intro f
      induction f with
      | zero => intro d p q s; omega
      | succ f ih =>
        intro d p q s hx
        rw [lp_X11_gone_27]
        refine br_c (fun c => ⟨qs0 _, ?_, hP0 _ h.th0⟩) (fun c => m_leftOn (by rw [q6]; exact hml) (by omega) ?_)
        · rcases hr with hr | hr
          · exact hr.1
          · exact absurd hr.2.2.1 (hx r hr.1 (by omega))
        · rw [q6]
          refine br_c (fun z => ⟨qs0 _, ?_, hP0 _ h.th0⟩) (fun z => ⟨zr_i (by omega) (by omega), ih (d + 1) (by omega) (by omega) (by omega) (fun x p1 q1 => ?_)⟩)
          · rcases hr with hr | hr
            · exact absurd z (hr.2 d p (by omega))
            · by_cases h1 : d < r
              · exact absurd z (hr.2.2.2 d p h1)
              · by_cases h2 : r < d
                · exact absurd hr.2.2.1 (hx r hr.1 h2)
                · omega
          · by_cases h1 : x = d
            · subst h1; exact z
            · exact hx x p1 (by omega)
    rw [q6]
    exact main 100000 _ (Int.le_refl _) (by omega) (by omega) (fun x p q => by omega)
  have hle : ∀ d, leF (V 603) a d = 0 ↔ V 603 (143 + 27 * a + 2) ≤ V 603 (143 + 27 * a + 4) * (d - V 603 (143 + 27 * a + 5)) := fun d => by unfold leF; omega
  refine br_c (fun c => ?_) (fun c => ?_)
  · have e1 : (V 603 (143 + 27 * a + 2) + V 603 (143 + 27 * a + 4) - 1).tdiv (V 603 (143 + 27 * a + 4)) = (V 603 (143 + 27 * a + 2) + V 603 (143 + 27 * a + 4) - 1) / V 603 (143 + 27 * a + 4) := Int.tdiv_eq_ediv_of_nonneg (by omega)
    rw [e1]
    have m1 := Int.ediv_mul_le (V 603 (143 + 27 * a + 2) + V 603 (143 + 27 * a + 4) - 1) (show V 603 (143 + 27 * a + 4) ≠ 0 by omega)
    have m2 := Int.lt_ediv_add_one_mul_self (V 603 (143 + 27 * a + 2) + V 603 (143 + 27 * a + 4) - 1) c
    have hq0 := Int.ediv_nonneg (show 0 ≤ V 603 (143 + 27 * a + 2) + V 603 (143 + 27 * a + 4) - 1 by omega) (Int.le_of_lt c)
    have hq1 : (V 603 (143 + 27 * a + 2) + V 603 (143 + 27 * a + 4) - 1) / V 603 (143 + 27 * a + 4) ≤ V 603 (143 + 27 * a + 2) + V 603 (143 + 27 * a + 4) - 1 := Int.ediv_le_self _ (by omega)
    generalize (V 603 (143 + 27 * a + 2) + V 603 (143 + 27 * a + 4) - 1) / V 603 (143 + 27 * a + 4) = q at m1 m2 hq0 hq1 ⊢
    have hkp := k4.2.2
    generalize V 603 (143 + 27 * a + 4) = kp at c m1 m2 hle hkp ⊢
    have hz : ∀ d, leF (V 603) a d = 0 ↔ V 603 (143 + 27 * a + 5) + q ≤ d := fun d => by
      rw [hle]
      rw [Int.add_mul, Int.one_mul] at m2
      constructor
      · intro h1
        by_cases h2 : V 603 (143 + 27 * a + 5) + q ≤ d
        · exact h2
        · exfalso
          have h3 := Int.mul_le_mul_of_nonneg_left (show d - V 603 (143 + 27 * a + 5) ≤ q - 1 by omega) (Int.le_of_lt c)
          rw [Int.mul_comm kp (q - 1), Int.sub_mul, Int.one_mul] at h3
          omega
      · intro h1
        have h3 := Int.mul_le_mul_of_nonneg_left (show q ≤ d - V 603 (143 + 27 * a + 5) by omega) (Int.le_of_lt c)
        rw [Int.mul_comm kp q] at h3
        omega
    refine ⟨zr_i (by omega) (by omega), zr_i (by omega) (by omega), c, zr_i (by omega) (by omega), br_c (fun z => loop _ (Or.inl ⟨rfl, fun d p q1 h1 => ?_⟩)) (fun z => loop _ (Or.inr ⟨by omega, by omega, (hz _).mpr (Int.le_refl _), fun d p q1 h1 => ?_⟩))⟩
    · have := (hz d).mp h1; omega
    · have := (hz d).mp h1; omega
  · refine loop _ (Or.inl ⟨rfl, fun d p q h1 => ?_⟩)
    have e0 : V 603 (143 + 27 * a + 4) = 0 := by omega
    rw [hle, e0, Int.zero_mul] at h1
    omega
def loS (w : Int → Int) (f p c : Int) : Int := if w (433 + 4 * c) = f ∧ w (54 + w (433 + 4 * c + 1)) ≠ 0 then (if w (433 + 4 * c + 2) = p then w (433 + 4 * c + 3) else if w (433 + 4 * c + 1) = p then -w (433 + 4 * c + 3) else 0) else 0
def loF (w : Int → Int) (f p : Int) : Nat → Int
  | 0 => 0
  | n + 1 => loF w f p n + loS w f p n
theorem loF_s {w : Int → Int} {f p i : Int} (h : 0 ≤ i) : loF w f p (i + 1).toNat = loF w f p i.toNat + loS w f p i := by
  rw [show (i + 1).toNat = i.toNat + 1 by omega, loF, Int.toNat_of_nonneg h]
theorem loF_b {w : Int → Int} {f p : Int} (h : mS w) : ∀ n : Nat, (n : Int) ≤ w 432 → -(9999 * (n : Int)) ≤ loF w f p n ∧ loF w f p n ≤ 9999 * (n : Int)
  | 0, _ => by simp [loF]
  | n + 1, hn => by
    have h1 := loF_b (f := f) (p := p) h n (by omega)
    have h2 := (h.2 n (by omega) (by omega)).2.2
    have h3 : -9999 ≤ loS w f p n ∧ loS w f p n ≤ 9999 := by
      unfold loS
      split
      · split
        · omega
        · split <;> omega
      · omega
    rw [loF]
    omega
theorem t_loss {n : Int} {a : Int} {b : Int} {V : qV} {J : qJ} {P : qV → Prop} (h : Rel n V J) (hP0 : ∀ V2, Rel (n + 1) V2 J → P V2) : W_X10_loss a b V (fun r => W_X11_loss a b V (fun s V2 => V2 602 0 = 0 ∧ r = s ∧ P V2)) (fun E => (E = "java/lang/IndexOutOfBoundsException" ∧ W_X11_loss a b V (fun s V2 => V2 602 0 = 1 ∧ P V2)) ∨ (E = "java/util/NoSuchElementException" ∧ W_X11_loss a b V (fun s V2 => V2 602 0 = 2 ∧ P V2))) := by
  have ht := h.2.2.2.1
  obtain ⟨hU, hP, hG, hF, hC, hS, hA⟩ := ht
  have q6 : (qu V 602 0 0) 603 = V 603 := q603 V
  have h142 := hF.1
  have nF : ¬ (0 ≤ a ∧ a < V 12 10) → ∀ Q : Int → qV → Prop, Q 0 (qu (qu V 602 0 0) 602 0 1) → W_X11_isFind a (qu V 602 0 0) Q := fun ha Q k => m_if0 (qs0 _) (by rw [q6]; exact h142.2) (by rw [q6, ← h142.1]; exact ha) k
  have iF : (0 ≤ a ∧ a < V 12 10) → ∀ Q : Int → qV → Prop, Q 1 (qu V 602 0 0) → W_X11_isFind a (qu V 602 0 0) Q := fun ha Q k => m_if1 (qs0 _) (by rw [q6]; exact h142.2) (by rw [q6]; omega) k
  have h21 := hP.1
  have nP : ¬ (0 ≤ b ∧ b < V 12 8) → ∀ Q : Int → qV → Prop, Q 0 (qu (qu V 602 0 0) 602 0 2) → W_X11_isPerson b 2 (qu V 602 0 0) Q := fun hb Q k => m_ip0 (qs0 _) (by rw [q6]; exact h21.2) (by decide) (by rw [q6, ← h21.1]; exact hb) k
  have iP : (0 ≤ b ∧ b < V 12 8) → ∀ Q : Int → qV → Prop, Q 1 (qu V 602 0 0) → W_X11_isPerson b 2 (qu V 602 0 0) Q := fun hb Q k => m_ip1 (qs0 _) (by rw [q6]; exact h21.2) (by rw [q6]; omega) k
  refine if ha : 0 ≤ a ∧ a < V 12 10 then ?_ else s_fO0 ha (Or.inl ⟨rfl, nF ha _ (br_t rfl ⟨qu_s _ _ _ _, hP0 _ h.th⟩)⟩)
  refine s_fO1 ha (by omega) ?_
  have hf1 : a < V 603 142 := by omega
  obtain ⟨hfr, hf8⟩ := hF.2 a ha.1 hf1
  rw [show (12 : Int) + 42 + 4 * a = 54 + 4 * a by omega] at hfr hf8
  refine if hb : 0 ≤ b ∧ b < V 12 8 then ?_ else s_pO0 hb (Or.inr ⟨rfl, iF ha _ (br_f (by decide) (nP hb _ (br_t rfl ⟨qu_s _ _ _ _, hP0 _ h.th⟩)))⟩)
  refine s_pO1 hb (by omega) ?_
  have hS1 := hS.1
  have hSm := hS.m
  have mod : W_X11_loss a b V (fun s V2 => V2 602 0 = 0 ∧ loF (V 603) a b (V 603 432).toNat = s ∧ P V2) := by
    refine iF ha _ (br_f (by decide) (iP hb _ (br_f (by decide) ?_)))
    have main : ∀ (f : Nat) (i r : Int), 0 ≤ i → i ≤ V 603 432 → V 603 432 < i + f → r = loF (V 603) a b i.toNat → lp_X11_loss_29 a b (qu V 602 0 0) (fun l3x28 l4x28 => (qu V 602 0 0) 602 0 = 0 ∧ loF (V 603) a b (V 603 432).toNat = l3x28 ∧ P (qu V 602 0 0)) f r i := by
      intro f
      induction f with
      | zero => intro i r p q s; omega
      | succ f ih =>
        intro i r h0 h1 hf hr
        rw [lp_X11_loss_29, q6]
        refine br_c (fun c => ?_) (fun c => ?_)
        · have e : i = V 603 432 := by omega
          subst e
          exact ⟨qs0 _, hr.symm, hP0 _ h.th0⟩
        · have hb1 := loF_b (f := a) (p := b) hSm i.toNat (by omega)
          have h9 := hSm.2 i h0 (by omega)
          have go : ∀ x, x = r + loS (V 603) a b i → lp_X11_loss_29 a b (qu V 602 0 0) (fun l3x28 l4x28 => (qu V 602 0 0) 602 0 = 0 ∧ loF (V 603) a b (V 603 432).toNat = l3x28 ∧ P (qu V 602 0 0)) f x (i + 1) := fun x hx => ih (i + 1) x (by omega) (by omega) (by omega) (by rw [loF_s h0, hx, hr])
          have hls : loS (V 603) a b i = loS (V 603) a b i := rfl
          refine ⟨zr_i (by omega) (by omega), zr_i (by omega) (by omega), by omega, br_c (fun d => ⟨zr_i (by omega) (by omega), by omega, zr_i (by omega) (by omega), by omega, br_c (fun d2 => ⟨zr_i (by omega) (by omega), go _ ?_⟩) (fun d2 => ⟨zr_i (by omega) (by omega), by omega, br_c (fun d3 => ⟨zr_i (by omega) (by omega), by omega, zr_i (by omega) (by omega), zr_i (by omega) (by omega), go _ ?_⟩) (fun d3 => ⟨zr_i (by omega) (by omega), by omega, br_c (fun d4 => ⟨zr_i (by omega) (by omega), by omega, zr_i (by omega) (by omega), zr_i (by omega) (by omega), zr_i (by omega) (by omega), go _ ?_⟩) (fun d4 => ⟨zr_i (by omega) (by omega), zr_i (by omega) (by omega), go _ ?_⟩)⟩)⟩)⟩) (fun d => ⟨zr_i (by omega) (by omega), go _ ?_⟩)⟩
          · unfold loS; rw [if_neg (fun h => h.2 d2)]; omega
          · unfold loS; rw [if_pos ⟨d, d2⟩, if_pos d3]
          · unfold loS; rw [if_pos ⟨d, d2⟩, if_neg d3, if_pos d4]
          · unfold loS; rw [if_pos ⟨d, d2⟩, if_neg d3, if_neg d4]
          · unfold loS; rw [if_neg (fun h => d h.1)]; omega
    exact main 100000 0 0 (by decide) hS1.2.1 (by omega) rfl
  have main : ∀ (f : Nat) (i r : Int), 0 ≤ i → i ≤ V 603 432 → V 603 432 < i + f → r = loF (V 603) a b i.toNat → lp_X10_loss_17 a b V (fun l3x18 l4x18 => W_X11_loss a b V (fun s V2 => V2 602 0 = 0 ∧ l3x18 = s ∧ P V2)) (fun E => E = "java/lang/IndexOutOfBoundsException" ∧ W_X11_loss a b V (fun s V2 => V2 602 0 = 1 ∧ P V2) ∨ E = "java/util/NoSuchElementException" ∧ W_X11_loss a b V (fun s V2 => V2 602 0 = 2 ∧ P V2)) f r i := by
    intro f
    induction f with
    | zero => intro i r p q s; omega
    | succ f ih =>
      intro i r h0 h1 hf hr
      rw [lp_X10_loss_17, hS1.1]
      refine br_c (fun c => ?_) (fun c => br_f (by omega) ⟨by omega, ?_⟩)
      · have e : i = V 603 432 := by omega
        subst e
        rw [hr]; exact mod
      · have hb1 := loF_b (f := a) (p := b) hSm i.toNat (by omega)
        obtain ⟨s0', s1, s2, s3, hn⟩ := hS.2 i h0 (by omega)
        rw [show (12 : Int) + 98 + 1 * i = 110 + 1 * i by omega] at s0' s1 s2 s3
        rw [s0'.1, s1.1, s2.1, s3.1]
        have go : ∀ x, x = r + loS (V 603) a b i → (zr (i + 1) ∧ lp_X10_loss_17 a b V (fun l3x18 l4x18 => W_X11_loss a b V (fun s V2 => V2 602 0 = 0 ∧ l3x18 = s ∧ P V2)) (fun E => E = "java/lang/IndexOutOfBoundsException" ∧ W_X11_loss a b V (fun s V2 => V2 602 0 = 1 ∧ P V2) ∨ E = "java/util/NoSuchElementException" ∧ W_X11_loss a b V (fun s V2 => V2 602 0 = 2 ∧ P V2)) f x (i + 1)) := fun x hx => ⟨zr_i (by omega) (by omega), ih (i + 1) x (by omega) (by omega) (by omega) (by rw [loF_s h0, hx, hr])⟩
        refine br_c (fun d => s_pO1 (by omega) (by omega) ?_) (fun d => go _ ?_)
        · have e3 : V (22 + 2 * V 603 (433 + 4 * i + 1)) 3 = V 603 (54 + V 603 (433 + 4 * i + 1)) := (hP.2 (V 603 (433 + 4 * i + 1)) s1.2.1 s1.2.2).2.2.1.1
          rw [e3]
          refine br_c (fun d2 => go _ ?_) (fun d2 => br_c (fun d3 => ⟨zr_i (by omega) (by omega), br_f (by omega) ⟨zr_i (by omega) (by omega), go _ ?_⟩⟩) (fun d3 => ⟨zr_i (by omega) (by omega), br_c (fun d4 => ⟨zr_i (by omega) (by omega), go _ ?_⟩) (fun d4 => ⟨zr_i (by omega) (by omega), go _ ?_⟩)⟩))
          · unfold loS; rw [if_neg (fun h => h.2 d2)]; omega
          · unfold loS; rw [if_pos ⟨d, d2⟩, if_pos d3]; omega
          · unfold loS; rw [if_pos ⟨d, d2⟩, if_neg d3, if_pos d4]; omega
          · unfold loS; rw [if_pos ⟨d, d2⟩, if_neg d3, if_neg d4]; omega
        · unfold loS; rw [if_neg (fun h => d h.1)]; omega
  exact main 64 0 0 (by decide) hS1.2.1 (by omega) rfl
def fiF (w : Int → Int) (c : Int) : Bool := decide (zand (w (143 + 27 * w (360 + 3 * c) + 3)) (w (360 + 3 * c + 2)) = w (360 + 3 * c + 2)) && decide (zand (w (38 + w (360 + 3 * c + 1))) (w (360 + 3 * c + 2)) = w (360 + 3 * c + 2))
theorem and3 {x y m : Int} (hx : 0 ≤ x ∧ x ≤ 4095) (hy : 0 ≤ y ∧ y ≤ 4095) (hm : 0 ≤ m ∧ m ≤ 4095) : zand (zand x y) m = m ↔ zand x m = m ∧ zand y m = m := by
  have hxy := zand_rn (a := x) (b := y) hx.1 (by omega) hy.1 (by omega)
  have e : ∀ z, 0 ≤ z ∧ z ≤ 4095 → (zand z m = m ↔ ∀ k, 0 ≤ k → tb m k = true → tb z k = true) := fun z hz => by
    have hzm := zand_rn (a := z) (b := m) hz.1 (by omega) hm.1 (by omega)
    constructor
    · intro h k h0 hk
      rw [← h, tb_and hz.1 (by omega) hm.1 (by omega), Bool.and_eq_true] at hk
      exact hk.1
    · intro h
      apply tb_ext hzm.1 hm.1
      intro k hk
      rw [tb_and hz.1 (by omega) hm.1 (by omega)]
      cases h2 : tb m k with
      | false => simp
      | true => rw [h k hk h2]; rfl
  rw [e _ (by omega), e x hx, e y hy]
  constructor
  · intro h
    exact ⟨fun k a b => by have := h k a b; rw [tb_and hx.1 (by omega) hy.1 (by omega), Bool.and_eq_true] at this; exact this.1, fun k a b => by have := h k a b; rw [tb_and hx.1 (by omega) hy.1 (by omega), Bool.and_eq_true] at this; exact this.2⟩
  · rintro ⟨h1, h2⟩ k a b
    rw [tb_and hx.1 (by omega) hy.1 (by omega), h1 k a b, h2 k a b]; rfl
theorem s_fits {V : qV} {w : Int → Int} {c : Int} {Q : Int → Prop} (hP : tP V 12 w) (hF : tF V 12 w) (hC : tC V 12 w) (h0 : 0 ≤ c) (h1 : c < w 359) (k : Q (bit01 (fiF w c))) : W_X8_fits (86 + 1 * c) V Q := by
  obtain ⟨c0, c1, c2⟩ := hC.2 c h0 h1
  rw [show (12 : Int) + 74 + 1 * c = 86 + 1 * c by omega] at c0 c1 c2
  have f3 := (hF.2 (w (360 + 3 * c)) c0.2.1 c0.2.2).1.2.2.2.1
  have p1 := (hP.2 (w (360 + 3 * c + 1)) c1.2.1 c1.2.2).2.1
  rw [show (12 : Int) + 42 + 4 * w (360 + 3 * c) = 54 + 4 * w (360 + 3 * c) by omega] at f3
  rw [show (12 : Int) + 10 + 2 * w (360 + 3 * c + 1) = 22 + 2 * w (360 + 3 * c + 1) by omega] at p1
  have hF1 := hF.1
  have hP1 := hP.1
  unfold W_X8_fits
  rw [c0.1, c1.1, c2.1, f3.1, p1.1]
  have ha := and3 (x := w (143 + 27 * w (360 + 3 * c) + 3)) (y := w (38 + w (360 + 3 * c + 1))) (m := w (360 + 3 * c + 2)) f3.2 p1.2 (by omega)
  unfold fiF at k
  refine br_f (by omega) (br_f (by omega) (br_f (by omega) (br_t (by omega) ⟨by omega, by omega, br_c (fun d => ?_) (fun d => ?_)⟩)))
  · rw [ha] at d
    simpa [d.1, d.2, bit01] using k
  · rw [ha] at d
    have : (decide (zand (w (143 + 27 * w (360 + 3 * c) + 3)) (w (360 + 3 * c + 2)) = w (360 + 3 * c + 2)) && decide (zand (w (38 + w (360 + 3 * c + 1))) (w (360 + 3 * c + 2)) = w (360 + 3 * c + 2))) = false := by
      rw [Bool.eq_false_iff]
      intro h
      rw [Bool.and_eq_true, decide_eq_true_eq, decide_eq_true_eq] at h
      exact d h
    rw [this] at k; exact k
theorem m_fits {V : qV} {c : Int} {Q : Int → Prop} (hc : 0 ≤ c ∧ c < 24) (hf : 0 ≤ V 603 (360 + 3 * c) ∧ V 603 (360 + 3 * c) < 8) (hp : 0 ≤ V 603 (360 + 3 * c + 1) ∧ V 603 (360 + 3 * c + 1) < 16) (k : Q (bit01 (fiF (V 603) c))) : W_X11_fits c V Q := by
  unfold fiF at k
  refine ⟨zr_i (by omega) (by omega), zr_i (by omega) (by omega), zr_i (by omega) (by omega), by omega, zr_i (by omega) (by omega), zr_i (by omega) (by omega), by omega, zr_i (by omega) (by omega), zr_i (by omega) (by omega), zr_i (by omega) (by omega), by omega, br_c (fun d => ⟨zr_i (by omega) (by omega), zr_i (by omega) (by omega), zr_i (by omega) (by omega), by omega, zr_i (by omega) (by omega), by omega, br_c (fun d2 => ?_) (fun d2 => ?_)⟩) (fun d => ?_)⟩
  · simpa [d, d2, bit01] using k
  · simpa [d, d2, bit01] using k
  · simpa [d, bit01] using k
theorem t_claimed {n : Int} {a : Int} {b : Int} {V : qV} {J : qJ} {P : qV → Prop} (h : Rel n V J) (hP0 : ∀ V2, Rel (n + 1) V2 J → P V2) : W_X10_claimed a b V (fun r => W_X11_claimed a b V (fun s V2 => V2 602 0 = 0 ∧ r = s ∧ P V2)) (fun E => (E = "java/lang/IndexOutOfBoundsException" ∧ W_X11_claimed a b V (fun s V2 => V2 602 0 = 1 ∧ P V2)) ∨ (E = "java/lang/IllegalArgumentException" ∧ W_X11_claimed a b V (fun s V2 => V2 602 0 = 2 ∧ P V2))) := by
  have ht := h.2.2.2.1
  obtain ⟨hU, hP, hG, hF, hC, hS, hA⟩ := ht
  have q6 : (qu V 602 0 0) 603 = V 603 := q603 V
  have h359 := hC.1
  have hF1 := hF.1
  have h21 := hP.1
  have hmp := hP.m
  have mod : ∀ (x : Int) (y : Prop), (0 ≤ a ∧ a < V 603 359) → (0 ≤ b ∧ b ≤ 5) → x = (if b < 3 then V 603 (360 + 3 * a + b) else if b = 3 then bit01 (fiF (V 603) a) else if b = 4 then hvF (V 603) (V 603 (360 + 3 * a + 2)) else bit01 (fiF (V 603) a && decide (hvF (V 603) (V 603 (360 + 3 * a + 2)) = 1))) → W_X11_claimed a b V (fun s V2 => V2 602 0 = 0 ∧ x = s ∧ P V2) := by
    intro x _ ha hb hx
    obtain ⟨c0, c1, c2⟩ := hC.2 a ha.1 ha.2
    unfold W_X11_claimed
    rw [q6]
    refine ⟨zr_i (by omega) (by omega), m_in1 (by omega) (m_may1 (qs0 _) (br_f (by decide) (m_in1 hb (m_may1 (qs0 _) (br_f (by decide) ⟨zr_i (by omega) (by omega), zr_i (by omega) (by omega), zr_i (by omega) (by omega), by omega, m_have (by rw [q6]; exact h21.2) ?_⟩)))))⟩
    rw [q6]
    have fin : ∀ s, x = s → (qu V 602 0 0) 602 0 = 0 ∧ x = s ∧ P (qu V 602 0 0) := fun s hs => ⟨qs0 _, hs, hP0 _ h.th0⟩
    refine br_c (fun d => br_c (fun d3 => m_fits (by omega) (by rw [q6]; omega) (by rw [q6]; omega) ?_) (fun d3 => br_c (fun d4 => fin _ ?_) (fun d4 => m_fits (by omega) (by rw [q6]; omega) (by rw [q6]; omega) ?_))) (fun d => ⟨zr_i (by omega) (by omega), zr_i (by omega) (by omega), zr_i (by omega) (by omega), by omega, fin _ ?_⟩)
    · rw [q6]
      rw [if_neg (by omega), if_pos d3] at hx
      cases hz : fiF (V 603) a with
      | false => rw [hz] at hx; exact br_t rfl (fin _ hx)
      | true => rw [hz] at hx; exact br_f (by decide) (fin _ hx)
    · rw [if_neg (by omega), if_neg d3, if_pos d4] at hx; exact hx
    · rw [q6]
      rw [if_neg (by omega), if_neg d3, if_neg d4] at hx
      cases hz : fiF (V 603) a with
      | false => rw [hz] at hx; exact br_t rfl (fin _ hx)
      | true =>
        rw [hz] at hx
        refine br_f (by decide) (br_c (fun y => fin _ ?_) (fun y => fin _ ?_))
        · rw [hx, y]; rfl
        · rw [hx]; simp [y, bit01]
    · rw [if_pos (by omega)] at hx; exact hx
  have nC : ¬ (0 ≤ a ∧ a < V 603 359) → W_X11_claimed a b V (fun s V2 => V2 602 0 = 1 ∧ P V2) := fun ha => by
    unfold W_X11_claimed
    rw [q6]
    exact ⟨zr_i (by omega) (by omega), m_in0 (by omega) (m_may0 (qs0 _) (by decide) (br_t rfl ⟨qu_s _ _ _ _, hP0 _ h.th⟩))⟩
  unfold W_X10_claimed
  rw [h359.1]
  refine br_c (fun d => Or.inl ⟨rfl, nC (by omega)⟩) (fun d => br_c (fun d2 => Or.inl ⟨rfl, nC (by omega)⟩) (fun d2 => br_t (by omega) ⟨by omega, ?_⟩))
  have ha : 0 ≤ a ∧ a < V 603 359 := by omega
  obtain ⟨c0, c1, c2⟩ := hC.2 a ha.1 ha.2
  rw [show (12 : Int) + 74 + 1 * a = 86 + 1 * a by omega] at c0 c1 c2
  rw [c0.1, c1.1, c2.1]
  refine ⟨fun e => mod _ True ha (by omega) ?_, fun e => mod _ True ha (by omega) ?_, fun e => mod _ True ha (by omega) ?_, fun e => s_fits hP hF hC ha.1 ha.2 ?_, fun e => s_havers hP (mod _ True ha (by omega) ?_), fun e => s_fits hP hF hC ha.1 ha.2 ?_, fun e => Or.inr ⟨rfl, ?_⟩⟩
  · subst e; simp
  · subst e; simp
  · subst e; simp
  · refine br_c (fun z => mod _ True ha (by omega) ?_) (fun z => mod _ True ha (by omega) ?_)
    · subst e; simp [z]
    · subst e; rcases bit01_b (fiF (V 603) a) with y | y
      · exact absurd y z
      · simp [y]
  · subst e; simp
  · refine br_c (fun z => mod _ True ha (by omega) ?_) (fun z => s_havers hP (br_c (fun y => mod _ True ha (by omega) ?_) (fun y => mod _ True ha (by omega) ?_)))
    · subst e; rw [bit01_0] at z; simp [z, bit01]
    · subst e
      have hz : fiF (V 603) a = true := by
        cases hz : fiF (V 603) a with
        | true => rfl
        | false => rw [hz] at z; exact absurd rfl z
      simp [hz, y, bit01]
    · subst e; simp [y, bit01]
  · unfold W_X11_claimed
    rw [q6]
    exact ⟨zr_i (by omega) (by omega), m_in1 (by omega) (m_may1 (qs0 _) (br_f (by decide) (m_in0 (by omega) (m_may0 (qs0 _) (by decide) (br_t rfl ⟨qu_s _ _ _ _, hP0 _ h.th⟩)))))⟩
