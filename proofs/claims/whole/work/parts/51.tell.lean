/-! find, hold, pass -/
theorem t_find {n : Int} {a : Int} {b : Int} {c : Int} {d : Int} {k : Int} {V : qV} {J : qJ} {P : qV → Prop} (h : Rel n V J) (hP0 : ∀ V2, Rel (n + 1) V2 J → P V2) : W_X10_find a b c d k V (fun r V1 => W_X11_find a b c d k V1 (fun s V2 => V2 602 0 = 0 ∧ r = s ∧ P V2)) (fun E V1 => (E = "java/lang/IllegalArgumentException" ∧ W_X11_find a b c d k V1 (fun s V2 => V2 602 0 = 1 ∧ P V2))) := by
  have ht := h.2.2.2.1
  obtain ⟨hU, hP, hG, hF, hC, hS, hA⟩ := ht
  have h142 := hF.1
  have h20 := hU.1
  have dn : ∀ Q : Int → qV → Prop, Q 0 (qu (qu V 602 0 0) 602 0 1) → W_X11_may 0 1 (qu V 602 0 0) Q := fun Q q => m_may0 (qs0 _) (by decide) q
  refine if ha : 0 ≤ a ∧ a ≤ 5 then ?_ else s_tR0 ha ⟨rfl, m_in0 ha (br_t rfl (dn _ (br_t rfl ⟨qu_s _ _ _ _, hP0 _ h.th⟩)))⟩
  refine s_tR1 ha ?_
  refine if hb : 0 ≤ b ∧ b ≤ 3 then ?_ else s_tR0 hb ⟨rfl, m_in1 ha (br_f (by decide) (m_in0 (V := V) hb (br_t rfl (dn _ (br_t rfl ⟨qu_s _ _ _ _, hP0 _ h.th⟩)))))⟩
  refine s_tR1 hb ?_
  refine if hc : 1 ≤ c ∧ c ≤ 9999 then ?_ else s_tR0 hc ⟨rfl, m_in1 ha (br_f (by decide) (m_in1 (V := V) hb (br_f (by decide) (m_in0 hc (br_t rfl (dn _ (br_t rfl ⟨qu_s _ _ _ _, hP0 _ h.th⟩)))))))⟩
  refine s_tR1 hc ?_
  refine if hd : 0 ≤ d ∧ d ≤ 4095 then ?_ else s_tR0 hd ⟨rfl, m_in1 ha (br_f (by decide) (m_in1 (V := V) hb (br_f (by decide) (m_in1 hc (br_f (by decide) (m_in0 (V := V) hd (br_t rfl (dn _ (br_t rfl ⟨qu_s _ _ _ _, hP0 _ h.th⟩)))))))))⟩
  refine s_tR1 hd ?_
  refine if hk : 0 ≤ k ∧ k ≤ 99 then ?_ else s_tR0 hk ⟨rfl, m_in1 ha (br_f (by decide) (m_in1 (V := V) hb (br_f (by decide) (m_in1 hc (br_f (by decide) (m_in1 (V := V) hd (br_f (by decide) (m_in0 hk (br_t rfl (dn _ (br_t rfl ⟨qu_s _ _ _ _, hP0 _ h.th⟩)))))))))))⟩
  refine s_tR1 hk ?_
  refine br_c (fun z => ⟨by omega, ?_⟩) (fun z => ?_)
  · unfold W_X1_begin
    simp (disch := omega) only [qu_e, qu_s]
    refine ⟨zr_i (by omega) (by omega), zr_i (by omega) (by omega), m_in1 ha (br_f (by decide) (m_in1 (V := V) hb (br_f (by decide) (m_in1 hc (br_f (by decide) (m_in1 (V := V) hd (br_f (by decide) (m_in1 hk (br_f (by decide) (m_may1 (qs0 _) (br_f (by decide) (br_f ?_ ?_))))))))))))⟩
    · simp (disch := omega) only [qu_e]; omega
    · simp (disch := omega) only [qu_e, qu_s]
      refine ⟨zr_i (by omega) (by omega), zr_i (by omega) (by omega), zr_i (by omega) (by omega), by omega, zr_i (by omega) (by omega), by omega, zr_i (by omega) (by omega), by omega, zr_i (by omega) (by omega), by omega, zr_i (by omega) (by omega), by omega, zr_i (by omega) (by omega), by omega, zr_i (by omega) (by omega), by omega, zr_i (by omega) (by omega), by omega, zr_i (by omega) (by omega), by omega, zr_i (by omega) (by omega), zr_i (by omega) (by omega), trivial, by omega, hP0 _ ?_⟩
      generalize hV2 : (qu (qu (qu (qu (qu (qu (qu (qu (qu (qu (qu (qu (qu (qu (qu (qu (qu (qu (qu (qu (qu (qu (qu (qu V (54 + 4 * V 12 10) 0 a) (54 + 4 * V 12 10) 1 b) (54 + 4 * V 12 10) 2 c) (54 + 4 * V 12 10) 5 (V 12 4)) (54 + 4 * V 12 10) 3 0) (54 + 4 * V 12 10) 4 0) (54 + 4 * V 12 10) 6 0) (54 + 4 * V 12 10) 7 (-1)) (54 + 4 * V 12 10) 8 (-1)) (54 + 4 * V 12 10) 9 0) (54 + 4 * V 12 10) 3 d) (54 + 4 * V 12 10) 4 k) 12 10 (V 12 10 + 1)) 602 0 0) 603 (143 + 27 * V 603 142 + 0) a) 603 (143 + 27 * V 603 142 + 1) b) 603 (143 + 27 * V 603 142 + 2) c) 603 (143 + 27 * V 603 142 + 3) d) 603 (143 + 27 * V 603 142 + 4) k) 603 (143 + 27 * V 603 142 + 5) (V 603 20)) 603 (143 + 27 * V 603 142 + 6) 0) 603 (143 + 27 * V 603 142 + 7) (-1)) 603 (143 + 27 * V 603 142 + 8) 0) 603 142 (V 603 142 + 1)) = V2
      have e : ∀ o j, ¬ (o = 54 + 4 * V 603 142) ∧ ¬ (o = 12 ∧ j = 10) ∧ ¬ (o = 602 ∧ j = 0) ∧ o ≠ 603 → V2 o j = V o j := fun o j p => by rw [← hV2]; simp (disch := omega) only [qu_e]
      have ew : ∀ k, k ≠ 142 ∧ ¬ (143 + 27 * V 603 142 ≤ k ∧ k ≤ 143 + 27 * V 603 142 + 8) → V2 603 k = V 603 k := fun k p => by rw [← hV2]; simp (disch := omega) only [qu_e]
      have x10 : V2 12 10 = V 603 142 + 1 := by rw [← hV2]; simp (disch := omega) only [qu_e, qu_s]; omega
      have y142 : V2 603 142 = V 603 142 + 1 := by rw [← hV2, qu_s]
      have x0 : V2 (54 + 4 * V 603 142) 0 = a := by rw [← hV2]; simp (disch := omega) only [qu_e, qu_y]
      have x1 : V2 (54 + 4 * V 603 142) 1 = b := by rw [← hV2]; simp (disch := omega) only [qu_e, qu_y]
      have x2 : V2 (54 + 4 * V 603 142) 2 = c := by rw [← hV2]; simp (disch := omega) only [qu_e, qu_y]
      have x3 : V2 (54 + 4 * V 603 142) 3 = d := by rw [← hV2]; simp (disch := omega) only [qu_e, qu_y]
      have x4 : V2 (54 + 4 * V 603 142) 4 = k := by rw [← hV2]; simp (disch := omega) only [qu_e, qu_y]
      have x5 : V2 (54 + 4 * V 603 142) 5 = V 603 20 := by rw [← hV2]; simp (disch := omega) only [qu_e, qu_y]; omega
      have x6 : V2 (54 + 4 * V 603 142) 6 = 0 := by rw [← hV2]; simp (disch := omega) only [qu_e, qu_y]
      have x7 : V2 (54 + 4 * V 603 142) 7 = -1 := by rw [← hV2]; simp (disch := omega) only [qu_e, qu_y]
      have x8 : V2 (54 + 4 * V 603 142) 8 = -1 := by rw [← hV2]; simp (disch := omega) only [qu_e, qu_y]
      have x9 : V2 (54 + 4 * V 603 142) 9 = 0 := by rw [← hV2]; simp (disch := omega) only [qu_e, qu_y]
      have y0 : V2 603 (143 + 27 * V 603 142 + 0) = a := by rw [← hV2]; simp (disch := omega) only [qu_e, qu_y]
      have y1 : V2 603 (143 + 27 * V 603 142 + 1) = b := by rw [← hV2]; simp (disch := omega) only [qu_e, qu_y]
      have y2 : V2 603 (143 + 27 * V 603 142 + 2) = c := by rw [← hV2]; simp (disch := omega) only [qu_e, qu_y]
      have y3 : V2 603 (143 + 27 * V 603 142 + 3) = d := by rw [← hV2]; simp (disch := omega) only [qu_e, qu_y]
      have y4 : V2 603 (143 + 27 * V 603 142 + 4) = k := by rw [← hV2]; simp (disch := omega) only [qu_e, qu_y]
      have y5 : V2 603 (143 + 27 * V 603 142 + 5) = V 603 20 := by rw [← hV2]; simp (disch := omega) only [qu_e, qu_y]
      have y6 : V2 603 (143 + 27 * V 603 142 + 6) = 0 := by rw [← hV2]; simp (disch := omega) only [qu_e, qu_y]
      have y7 : V2 603 (143 + 27 * V 603 142 + 7) = -1 := by rw [← hV2]; simp (disch := omega) only [qu_e, qu_y]
      have y8 : V2 603 (143 + 27 * V 603 142 + 8) = 0 := by rw [← hV2]; simp (disch := omega) only [qu_e, qu_y]
      clear hV2
      have hfr : ∀ f, 0 ≤ f → f < V 603 142 → lastTo (V2 603) f (V 603 432).toNat = lastTo (V 603) f (V 603 432).toNat := fun f p q => lastTo_fw _ (fun k x y => ew k (by have := hS.1; omega))
      refine h.tl (by omega) (fun o j p q r => e o j (by unfold scrC at p; omega)) (fun _ _ _ => rfl) (ew _ (by omega)) ⟨hU.fw (e _ _ (by omega)) (fun o j p q => e o j (by omega)) (fun k p q => ew k (by omega)), hP.fw (e _ _ (by omega)) (fun o j p q => e o j (by omega)) (fun k p q => ew k (by omega)), hG.fw (fun o j p q => e o j (by omega)) (fun k p q => ew k (by omega)), ?_, ?_, ?_, hA.fw (e _ _ (by omega)) (ew _ (by omega)) (fun _ => rfl)⟩
      · refine ⟨by rw [x10, y142]; omega, fun f p q => ?_⟩
        rw [y142] at q
        rw [ew 21 (by omega), ew 20 (by omega), ew 432 (by have := hS.1; omega)]
        by_cases hf : f = V 603 142
        · subst hf
          rw [show (12 : Int) + 42 + 4 * V 603 142 = 54 + 4 * V 603 142 by omega]
          refine ⟨⟨by rw [x0, y0]; omega, by rw [x1, y1]; omega, by rw [x2, y2]; omega, by rw [x3, y3]; omega, by rw [x4, y4]; omega, by rw [x5, y5]; omega, by rw [x6, y6, y7]; omega, by rw [x7, y7]; omega, by rw [x9, y8]; omega, fun i x y => by rw [y8] at y; omega⟩, ?_⟩
          rw [x8, lastTo_fw (w := V 603) _ (fun k x y => ew k (by have := hS.1; omega))]
          have hn : ∀ m : Nat, (m : Int) ≤ V 603 432 → lastTo (V 603) (V 603 142) m = -1 := by
            intro m
            induction m with
            | zero => intro _; rfl
            | succ m ih =>
              intro hm
              have h9 := (hS.2 m (by omega) (by omega)).1.2
              rw [lastTo, if_neg (by omega)]
              exact ih (by omega)
          exact (hn _ (by have := hS.1; omega)).symm
        · have h9 := hF.2 f p (by omega)
          refine ⟨h9.1.fw (by omega) (fun o j x y => e o j (by omega)) (fun k x y => ew k (by omega)) (Int.le_refl _) (Int.le_refl _), ?_⟩
          rw [e _ _ (by omega), hfr f p (by omega)]; exact h9.2
      · exact hC.fw (e _ _ (by omega)) (fun o j p q => e o j (by omega)) (fun k p q => ew k (by omega)) (by rw [y142]; omega) (by rw [ew _ (by omega)]; exact Int.le_refl _)
      · exact hS.fw (e _ _ (by omega)) (fun o j p q => e o j (by omega)) (fun k p q => ew k (by omega)) (by rw [y142]; omega) (by rw [ew _ (by omega)]; exact Int.le_refl _)
  · refine m_in1 ha (br_f (by decide) (m_in1 (V := V) hb (br_f (by decide) (m_in1 hc (br_f (by decide) (m_in1 (V := V) hd (br_f (by decide) (m_in1 hk (br_f (by decide) (m_may1 (qs0 _) (br_f (by decide) (br_t ?_ ⟨qs0 _, rfl, hP0 _ h.th0⟩))))))))))))
    simp (disch := omega) only [qu_e]; omega
theorem t_hold {n : Int} {a : Int} {b : Int} {c : Int} {d : Int} {V : qV} {J : qJ} {P : qV → Prop} (h : Rel n V J) (hP0 : ∀ V2, Rel (n + 1) V2 J → P V2) : W_X10_hold a b c d V (fun r V1 => W_X11_hold a b c d V1 (fun s V2 => V2 602 0 = 0 ∧ r = s ∧ P V2)) (fun E V1 => (E = "java/lang/IndexOutOfBoundsException" ∧ W_X11_hold a b c d V1 (fun s V2 => V2 602 0 = 1 ∧ P V2)) ∨ (E = "java/util/NoSuchElementException" ∧ W_X11_hold a b c d V1 (fun s V2 => V2 602 0 = 2 ∧ P V2)) ∨ (E = "java/lang/IllegalArgumentException" ∧ W_X11_hold a b c d V1 (fun s V2 => V2 602 0 = 3 ∧ P V2))) := by
  have ht := h.2.2.2.1
  obtain ⟨hU, hP, hG, hF, hC, hS, hA⟩ := ht
  have h142 := hF.1
  have h21 := hP.1
  have w142 : (qu V 602 0 0) 603 142 = V 603 142 := q602 _ _ _ (by decide)
  have w21 : (qu V 602 0 0) 603 21 = V 603 21 := q602 _ _ _ (by decide)
  have iF : ∀ (V1 : qV) (Q : Int → qV → Prop), (0 ≤ a ∧ a < V 12 10) → V1 603 142 = V 603 142 → Q 1 (qu V1 602 0 0) → W_X11_isFind a (qu V1 602 0 0) Q := fun V1 Q ha e k => m_if1 (qs0 _) (by rw [q602 _ _ _ (by decide), e]; exact h142.2) (by rw [q602 _ _ _ (by decide), e]; omega) k
  have iP : ∀ (V1 : qV) (b : Int) (Q : Int → qV → Prop), (0 ≤ b ∧ b < V 12 8) → V1 603 21 = V 603 21 → Q 1 (qu V1 602 0 0) → W_X11_isPerson b 2 (qu V1 602 0 0) Q := fun V1 b Q hb e k => m_ip1 (qs0 _) (by rw [q602 _ _ _ (by decide), e]; exact h21.2) (by rw [q602 _ _ _ (by decide), e]; omega) k
  have nP : ∀ (b : Int) (Q : Int → qV → Prop), ¬ (0 ≤ b ∧ b < V 12 8) → Q 0 (qu (qu V 602 0 0) 602 0 2) → W_X11_isPerson b 2 (qu V 602 0 0) Q := fun b Q hb k => m_ip0 (qs0 _) (by rw [w21]; exact h21.2) (by decide) (by rw [w21, ← h21.1]; exact hb) k
  refine if ha : 0 ≤ a ∧ a < V 12 10 then ?_ else s_fO0 ha (Or.inl ⟨rfl, m_if0 (qs0 _) (by rw [w142]; exact h142.2) (by rw [w142, ← h142.1]; exact ha) (br_t rfl ⟨qu_s _ _ _ _, hP0 _ h.th⟩)⟩)
  refine s_fO1 ha (by omega) ?_
  have hf1 : a < V 603 142 := by omega
  have hfr := (hF.2 a ha.1 hf1).1
  have hf8 := (hF.2 a ha.1 hf1).2
  rw [show (12 : Int) + 42 + 4 * a = 54 + 4 * a by omega] at hfr hf8
  have k9 := hfr.2.2.2.2.2.2.2.2.1
  refine if hb : 0 ≤ b ∧ b < V 12 8 then ?_ else s_pO0 hb (Or.inr (Or.inl ⟨rfl, iF V _ ha rfl (br_f (by decide) (nP b _ hb (br_t rfl ⟨qu_s _ _ _ _, hP0 _ h.th⟩)))⟩))
  refine s_pO1 hb (by omega) ?_
  refine if hc : 0 ≤ c ∧ c ≤ 2 then ?_ else s_tR0 hc (Or.inr (Or.inr ⟨rfl, iF V _ ha rfl (br_f (by decide) (iP V b _ hb rfl (br_f (by decide) (m_in0 hc (br_t rfl (m_may0 (qs0 _) (by decide) (br_t rfl ⟨qu_s _ _ _ _, hP0 _ h.th⟩)))))))⟩))
  refine s_tR1 hc ?_
  refine if hd : 0 ≤ d ∧ d ≤ 999 then ?_ else s_tR0 hd (Or.inr (Or.inr ⟨rfl, iF V _ ha rfl (br_f (by decide) (iP V b _ hb rfl (br_f (by decide) (m_in1 hc (br_f (by decide) (m_in0 hd (br_t rfl (m_may0 (qs0 _) (by decide) (br_t rfl ⟨qu_s _ _ _ _, hP0 _ h.th⟩)))))))))⟩))
  refine s_tR1 hd ?_
  have o9 : V (54 + 4 * a) 9 = V 603 (143 + 27 * a + 8) := k9.1
  refine br_c (fun z => ?_) (fun z => ?_)
  · simp (disch := omega) only [qu_e, qu_s]
    refine ⟨by omega, by omega, by omega, zr_i (by omega) (by omega), ?_⟩
    refine iF _ _ ha (by simp (disch := omega) only [qu_e]) (br_f (by decide) (iP _ b _ hb (by simp (disch := omega) only [qu_e]) (br_f (by decide) (m_in1 hc (br_f (by decide) (m_in1 hd (br_f (by decide) (m_may1 (qs0 _) (br_f (by decide) ⟨zr_i (by omega) (by omega), zr_i (by omega) (by omega), zr_i (by omega) (by omega), by omega, br_f ?_ ?_⟩)))))))))
    · simp (disch := omega) only [qu_e]; omega
    · simp (disch := omega) only [qu_e, qu_s]
      refine ⟨zr_i (by omega) (by omega), zr_i (by omega) (by omega), by omega, zr_i (by omega) (by omega), zr_i (by omega) (by omega), by omega, zr_i (by omega) (by omega), by omega, zr_i (by omega) (by omega), by omega, zr_i (by omega) (by omega), by omega, zr_i (by omega) (by omega), by omega, zr_i (by omega) (by omega), by omega, trivial, by omega, hP0 _ ?_⟩
      generalize hV2 : (qu (qu (qu (qu (qu (qu (qu (qu (qu V (54 + 4 * a + 1) (V (54 + 4 * a) 9) b) (54 + 4 * a + 2) (V (54 + 4 * a) 9) c) (54 + 4 * a + 3) (V (54 + 4 * a) 9) d) (54 + 4 * a) 9 (V (54 + 4 * a) 9 + 1)) 602 0 0) 603 (143 + 27 * a + 9 + 3 * V 603 (143 + 27 * a + 8)) b) 603 (143 + 27 * a + 9 + 3 * V 603 (143 + 27 * a + 8) + 1) c) 603 (143 + 27 * a + 9 + 3 * V 603 (143 + 27 * a + 8) + 2) d) 603 (143 + 27 * a + 8) (V 603 (143 + 27 * a + 8) + 1)) = V2
      have e : ∀ o j, ¬ (54 + 4 * a + 1 ≤ o ∧ o ≤ 54 + 4 * a + 3 ∧ j = V 603 (143 + 27 * a + 8)) ∧ ¬ (o = 54 + 4 * a ∧ j = 9) ∧ ¬ (o = 602 ∧ j = 0) ∧ o ≠ 603 → V2 o j = V o j := fun o j p => by rw [← hV2]; simp (disch := omega) only [qu_e]
      have ew : ∀ k, k ≠ 143 + 27 * a + 8 ∧ ¬ (143 + 27 * a + 9 + 3 * V 603 (143 + 27 * a + 8) ≤ k ∧ k ≤ 143 + 27 * a + 9 + 3 * V 603 (143 + 27 * a + 8) + 2) → V2 603 k = V 603 k := fun k p => by rw [← hV2]; simp (disch := omega) only [qu_e]
      have x9 : V2 (54 + 4 * a) 9 = V 603 (143 + 27 * a + 8) + 1 := by rw [← hV2]; simp (disch := omega) only [qu_e, qu_s]; omega
      have y9 : V2 603 (143 + 27 * a + 8) = V 603 (143 + 27 * a + 8) + 1 := by rw [← hV2, qu_s]
      have x1 : V2 (54 + 4 * a + 1) (V 603 (143 + 27 * a + 8)) = b := by rw [← hV2]; simp (disch := omega) only [qu_e, qu_y]
      have x2 : V2 (54 + 4 * a + 2) (V 603 (143 + 27 * a + 8)) = c := by rw [← hV2]; simp (disch := omega) only [qu_e, qu_y]
      have x3 : V2 (54 + 4 * a + 3) (V 603 (143 + 27 * a + 8)) = d := by rw [← hV2]; simp (disch := omega) only [qu_e, qu_y]
      have y1 : V2 603 (143 + 27 * a + 9 + 3 * V 603 (143 + 27 * a + 8)) = b := by rw [← hV2]; simp (disch := omega) only [qu_e, qu_s]
      have y2 : V2 603 (143 + 27 * a + 9 + 3 * V 603 (143 + 27 * a + 8) + 1) = c := by rw [← hV2]; simp (disch := omega) only [qu_e, qu_s]
      have y3 : V2 603 (143 + 27 * a + 9 + 3 * V 603 (143 + 27 * a + 8) + 2) = d := by rw [← hV2]; simp (disch := omega) only [qu_e, qu_s]
      clear hV2
      refine h.tl (by omega) (fun o j p q r => e o j (by unfold scrC at p; omega)) (fun _ _ _ => rfl) (ew _ (by omega)) ⟨hU.fw (e _ _ (by omega)) (fun o j p q => e o j (by omega)) (fun k p q => ew k (by omega)), hP.fw (e _ _ (by omega)) (fun o j p q => e o j (by omega)) (fun k p q => ew k (by omega)), hG.fw (fun o j p q => e o j (by omega)) (fun k p q => ew k (by omega)), ?_, hC.fw (e _ _ (by omega)) (fun o j p q => e o j (by omega)) (fun k p q => ew k (by omega)) (by rw [ew _ (by omega)]; exact Int.le_refl _) (by rw [ew _ (by omega)]; exact Int.le_refl _), hS.fw (e _ _ (by omega)) (fun o j p q => e o j (by omega)) (fun k p q => ew k (by omega)) (by rw [ew _ (by omega)]; exact Int.le_refl _) (by rw [ew _ (by omega)]; exact Int.le_refl _), hA.fw (e _ _ (by omega)) (ew _ (by omega)) (fun _ => rfl)⟩
      refine ⟨by simp (disch := omega) only [e, ew]; exact h142, fun f p q => ?_⟩
      rw [ew _ (by omega)] at q
      have h9 := hF.2 f p q
      rw [ew 21 (by omega), ew 20 (by omega), ew 432 (by omega), e _ 8 (by omega), lastTo_fw (w := V 603) _ (fun k x y => ew k (by have := hS.1; omega))]
      refine ⟨?_, h9.2⟩
      by_cases hfa : f = a
      · subst hfa
        rw [show (12 : Int) + 42 + 4 * f = 54 + 4 * f by omega] at h9 ⊢
        obtain ⟨⟨k0, k1, k2, k3, k4, k5, k6, k7, k9, kh⟩, -⟩ := h9
        refine ⟨by simp (disch := omega) only [e, ew]; exact k0, by simp (disch := omega) only [e, ew]; exact k1, by simp (disch := omega) only [e, ew]; exact k2, by simp (disch := omega) only [e, ew]; exact k3, by simp (disch := omega) only [e, ew]; exact k4, by simp (disch := omega) only [e, ew]; exact k5, by simp (disch := omega) only [e, ew]; exact k6, by simp (disch := omega) only [e, ew]; exact k7, by rw [x9, y9]; omega, fun i x y => ?_⟩
        rw [y9] at y
        by_cases hi : i = V 603 (143 + 27 * f + 8)
        · subst hi
          rw [x1, x2, x3, y1, y2, y3]; omega
        · simp (disch := omega) only [e, ew]; exact kh i x (by omega)
      · exact h9.1.fw (by omega) (fun o j x y => e o j (by omega)) (fun k x y => ew k (by omega)) (Int.le_refl _) (Int.le_refl _)
  · refine iF V _ ha rfl (br_f (by decide) (iP V b _ hb rfl (br_f (by decide) (m_in1 hc (br_f (by decide) (m_in1 hd (br_f (by decide) (m_may1 (qs0 _) (br_f (by decide) ⟨zr_i (by omega) (by omega), zr_i (by omega) (by omega), zr_i (by omega) (by omega), by omega, br_t ?_ ⟨qs0 _, rfl, hP0 _ h.th0⟩⟩)))))))))
    simp (disch := omega) only [qu_e]; omega
theorem t_pass {n : Int} {a : Int} {b : Int} {c : Int} {d : Int} {V : qV} {J : qJ} {P : qV → Prop} (h : Rel n V J) (hP0 : ∀ V2, Rel (n + 1) V2 J → P V2) : W_X10_pass a b c d V (fun r V1 => W_X11_pass_ a b c d V1 (fun s V2 => V2 602 0 = 0 ∧ r = s ∧ P V2)) (fun E V1 => (E = "java/lang/IndexOutOfBoundsException" ∧ W_X11_pass_ a b c d V1 (fun s V2 => V2 602 0 = 1 ∧ P V2)) ∨ (E = "java/util/NoSuchElementException" ∧ W_X11_pass_ a b c d V1 (fun s V2 => V2 602 0 = 2 ∧ P V2)) ∨ (E = "java/lang/IllegalArgumentException" ∧ W_X11_pass_ a b c d V1 (fun s V2 => V2 602 0 = 3 ∧ P V2))) := by
  have ht := h.2.2.2.1
  obtain ⟨hU, hP, hG, hF, hC, hS, hA⟩ := ht
  have h142 := hF.1
  have h21 := hP.1
  have w142 : (qu V 602 0 0) 603 142 = V 603 142 := q602 _ _ _ (by decide)
  have w21 : (qu V 602 0 0) 603 21 = V 603 21 := q602 _ _ _ (by decide)
  have iF : ∀ (V1 : qV) (Q : Int → qV → Prop), (0 ≤ a ∧ a < V 12 10) → V1 603 142 = V 603 142 → Q 1 (qu V1 602 0 0) → W_X11_isFind a (qu V1 602 0 0) Q := fun V1 Q ha e k => m_if1 (qs0 _) (by rw [q602 _ _ _ (by decide), e]; exact h142.2) (by rw [q602 _ _ _ (by decide), e]; omega) k
  have iP : ∀ (V1 : qV) (b : Int) (Q : Int → qV → Prop), (0 ≤ b ∧ b < V 12 8) → V1 603 21 = V 603 21 → Q 1 (qu V1 602 0 0) → W_X11_isPerson b 2 (qu V1 602 0 0) Q := fun V1 b Q hb e k => m_ip1 (qs0 _) (by rw [q602 _ _ _ (by decide), e]; exact h21.2) (by rw [q602 _ _ _ (by decide), e]; omega) k
  have nP : ∀ (b : Int) (Q : Int → qV → Prop), ¬ (0 ≤ b ∧ b < V 12 8) → Q 0 (qu (qu V 602 0 0) 602 0 2) → W_X11_isPerson b 2 (qu V 602 0 0) Q := fun b Q hb k => m_ip0 (qs0 _) (by rw [w21]; exact h21.2) (by decide) (by rw [w21, ← h21.1]; exact hb) k
  refine if ha : 0 ≤ a ∧ a < V 12 10 then ?_ else s_fO0 ha (Or.inl ⟨rfl, m_if0 (qs0 _) (by rw [w142]; exact h142.2) (by rw [w142, ← h142.1]; exact ha) (br_t rfl ⟨qu_s _ _ _ _, hP0 _ h.th⟩)⟩)
  refine s_fO1 ha (by omega) ?_
  have hf1 : a < V 603 142 := by omega
  have hfr := (hF.2 a ha.1 hf1).1
  have hf8 := (hF.2 a ha.1 hf1).2
  rw [show (12 : Int) + 42 + 4 * a = 54 + 4 * a by omega] at hfr hf8
  have hS1 := hS.1
  have hmH := mH_of hP hF ha.1 hf1
  have hmS := hS.m
  have hab := haF_b hmH hmS h21.2.2
  refine if hb : 0 ≤ b ∧ b < V 12 8 then ?_ else s_pO0 hb (Or.inr (Or.inl ⟨rfl, iF V _ ha rfl (br_f (by decide) (nP b _ hb (br_t rfl ⟨qu_s _ _ _ _, hP0 _ h.th⟩)))⟩))
  refine s_pO1 hb (by omega) ?_
  refine if hc : 0 ≤ c ∧ c < V 12 8 then ?_ else s_pO0 hc (Or.inr (Or.inl ⟨rfl, iF V _ ha rfl (br_f (by decide) (iP V b _ hb rfl (br_f (by decide) (nP c _ hc (br_t rfl ⟨qu_s _ _ _ _, hP0 _ h.th⟩)))))⟩))
  refine s_pO1 hc (by omega) ?_
  refine if hd : 0 ≤ d ∧ d ≤ 9999 then ?_ else s_tR0 hd (Or.inr (Or.inr ⟨rfl, iF V _ ha rfl (br_f (by decide) (iP V b _ hb rfl (br_f (by decide) (iP V c _ hc rfl (br_f (by decide) (m_in0 hd (m_may0 (qs0 _) (by decide) (br_t rfl ⟨qu_s _ _ _ _, hP0 _ h.th⟩))))))))⟩))
  refine s_tR1 hd ?_
  have pre : ∀ (V1 : qV) (Q : Int → qV → Prop), V1 603 = V 603 → (((qu V1 602 0 0) 603 432 = 40 → Q (-1) (qu V1 602 0 0)) ∧ (¬ (qu V1 602 0 0) 603 432 = 40 → ((b = c → Q (-2) (qu V1 602 0 0)) ∧ (¬ b = c → W_X11_hasNow a (qu V1 602 0 0) (fun r7 => ((zand (zshr r7 b) 1 = 0 → Q (-2) (qu V1 602 0 0)) ∧ (¬ zand (zshr r7 b) 1 = 0 → (zr (4 * ((qu V1 602 0 0) 603 432)) ∧ (zr (433 + (4 * ((qu V1 602 0 0) 603 432))) ∧ ((0 ≤ 433 + (4 * ((qu V1 602 0 0) 603 432)) ∧ 433 + (4 * ((qu V1 602 0 0) 603 432)) < 594) ∧ (zr ((433 + (4 * ((qu V1 602 0 0) 603 432))) + 1) ∧ ((0 ≤ (433 + (4 * ((qu V1 602 0 0) 603 432))) + 1 ∧ (433 + (4 * ((qu V1 602 0 0) 603 432))) + 1 < 594) ∧ (zr ((433 + (4 * ((qu V1 602 0 0) 603 432))) + 2) ∧ ((0 ≤ (433 + (4 * ((qu V1 602 0 0) 603 432))) + 2 ∧ (433 + (4 * ((qu V1 602 0 0) 603 432))) + 2 < 594) ∧ (zr ((433 + (4 * ((qu V1 602 0 0) 603 432))) + 3) ∧ ((0 ≤ (433 + (4 * ((qu V1 602 0 0) 603 432))) + 3 ∧ (433 + (4 * ((qu V1 602 0 0) 603 432))) + 3 < 594) ∧ (zr (((qu (qu (qu (qu (qu V1 602 0 0) 603 (433 + (4 * ((qu V1 602 0 0) 603 432))) a) 603 ((433 + (4 * ((qu V1 602 0 0) 603 432))) + 1) b) 603 ((433 + (4 * ((qu V1 602 0 0) 603 432))) + 2) c) 603 ((433 + (4 * ((qu V1 602 0 0) 603 432))) + 3) d) 603 432) + 1) ∧ Q c (qu (qu (qu (qu (qu (qu V1 602 0 0) 603 (433 + (4 * ((qu V1 602 0 0) 603 432))) a) 603 ((433 + (4 * ((qu V1 602 0 0) 603 432))) + 1) b) 603 ((433 + (4 * ((qu V1 602 0 0) 603 432))) + 2) c) 603 ((433 + (4 * ((qu V1 602 0 0) 603 432))) + 3) d) 603 432 (((qu (qu (qu (qu (qu V1 602 0 0) 603 (433 + (4 * ((qu V1 602 0 0) 603 432))) a) 603 ((433 + (4 * ((qu V1 602 0 0) 603 432))) + 1) b) 603 ((433 + (4 * ((qu V1 602 0 0) 603 432))) + 2) c) 603 ((433 + (4 * ((qu V1 602 0 0) 603 432))) + 3) d) 603 432) + 1))))))))))))))))))) → W_X11_pass_ a b c d V1 Q := fun V1 Q e k => iF V1 _ ha (by rw [e]) (br_f (by decide) (iP V1 b _ hb (by rw [e]) (br_f (by decide) (iP V1 c _ hc (by rw [e]) (br_f (by decide) (m_in1 hd (m_may1 (qs0 _) (br_f (by decide) k))))))))
  have q6 : (qu V 602 0 0) 603 = V 603 := q603 V
  have hbit : zand (haF (V 603) a) (zshl 1 b) = 0 ↔ zand (zshr (haF (V 603) a) b) 1 = 0 := by
    rw [and_p hab.1 (by omega) (by omega), tb_sh hab.1 (by omega) hb.1 (by omega)]
    cases tb (haF (V 603) a) b <;> simp
  rw [hS1.1]
  refine br_c (fun z => ?_) (fun z => ?_)
  · refine br_c (fun y => ?_) (fun y => s_hadBy hfr hf8 ?_)
    · refine pre V _ rfl (br_f (by rw [q6]; omega) (br_t y ⟨qs0 _, rfl, hP0 _ h.th0⟩))
    · refine br_c (fun x => ?_) (fun x => ⟨by omega, ?_⟩)
      · refine pre V _ rfl (br_f (by rw [q6]; omega) (br_f y (m_hasNow (by omega) (by rw [q6]; exact hmH) (by rw [q6]; exact hmS) ?_)))
        rw [q6]
        exact br_t (hbit.mp x) ⟨qs0 _, rfl, hP0 _ h.th0⟩
      · unfold W_X4_begin
        simp (disch := omega) only [qu_e, qu_s]
        refine ⟨zr_i (by omega) (by omega), ?_⟩
        refine pre _ _ (by funext j; simp (disch := omega) only [qu_e]) ?_
        have q7 : ∀ j, (qu (qu (qu (qu (qu (qu (qu V (110 + 1 * V 603 432) 0 a) (110 + 1 * V 603 432) 1 b) (110 + 1 * V 603 432) 2 c) (110 + 1 * V 603 432) 3 d) 12 14 (V 12 14 + 1)) (54 + 4 * a) 8 c) 602 0 0) 603 j = V 603 j := fun j => by simp (disch := omega) only [qu_e]
        have q8 : (qu (qu (qu (qu (qu (qu (qu V (110 + 1 * V 603 432) 0 a) (110 + 1 * V 603 432) 1 b) (110 + 1 * V 603 432) 2 c) (110 + 1 * V 603 432) 3 d) 12 14 (V 12 14 + 1)) (54 + 4 * a) 8 c) 602 0 0) 603 = V 603 := by funext j; exact q7 j
        simp (disch := omega) only [q7, qu_e]
        refine br_f (by omega) (br_f y (m_hasNow (by omega) (by rw [q8]; exact hmH) (by rw [q8]; exact hmS) ?_))
        rw [q8]
        refine br_f (fun h9 => x (hbit.mpr h9)) ⟨zr_i (by omega) (by omega), zr_i (by omega) (by omega), by omega, zr_i (by omega) (by omega), by omega, zr_i (by omega) (by omega), by omega, zr_i (by omega) (by omega), by omega, zr_i (by omega) (by omega), by simp (disch := omega) only [qu_e, qu_s], by simp, hP0 _ ?_⟩
        generalize hV2 : (qu (qu (qu (qu (qu (qu (qu (qu (qu (qu (qu (qu V (110 + 1 * V 603 432) 0 a) (110 + 1 * V 603 432) 1 b) (110 + 1 * V 603 432) 2 c) (110 + 1 * V 603 432) 3 d) 12 14 (V 12 14 + 1)) (54 + 4 * a) 8 c) 602 0 0) 603 (433 + 4 * V 603 432) a) 603 (433 + 4 * V 603 432 + 1) b) 603 (433 + 4 * V 603 432 + 2) c) 603 (433 + 4 * V 603 432 + 3) d) 603 432 (V 603 432 + 1)) = V2
        have e : ∀ o j, o ≠ 110 + V 603 432 ∧ ¬ (o = 12 ∧ j = 14) ∧ ¬ (o = 54 + 4 * a ∧ j = 8) ∧ ¬ (o = 602 ∧ j = 0) ∧ o ≠ 603 → V2 o j = V o j := fun o j p => by rw [← hV2]; simp (disch := omega) only [qu_e]
        have ew : ∀ k, k ≠ 432 ∧ ¬ (433 + 4 * V 603 432 ≤ k ∧ k ≤ 433 + 4 * V 603 432 + 3) → V2 603 k = V 603 k := fun k p => by rw [← hV2]; simp (disch := omega) only [qu_e]
        have x14 : V2 12 14 = V 603 432 + 1 := by rw [← hV2]; simp (disch := omega) only [qu_e, qu_s]; omega
        have y4 : V2 603 432 = V 603 432 + 1 := by rw [← hV2, qu_s]
        have x8 : V2 (54 + 4 * a) 8 = c := by rw [← hV2]; simp (disch := omega) only [qu_e, qu_s]
        have x0 : V2 (110 + V 603 432) 0 = a := by rw [← hV2]; simp (disch := omega) only [qu_e, qu_y]
        have x1 : V2 (110 + V 603 432) 1 = b := by rw [← hV2]; simp (disch := omega) only [qu_e, qu_y]
        have x2 : V2 (110 + V 603 432) 2 = c := by rw [← hV2]; simp (disch := omega) only [qu_e, qu_y]
        have x3 : V2 (110 + V 603 432) 3 = d := by rw [← hV2]; simp (disch := omega) only [qu_e, qu_y]
        have y0 : V2 603 (433 + 4 * V 603 432) = a := by rw [← hV2]; simp (disch := omega) only [qu_e, qu_s]
        have y1 : V2 603 (433 + 4 * V 603 432 + 1) = b := by rw [← hV2]; simp (disch := omega) only [qu_e, qu_s]
        have y2 : V2 603 (433 + 4 * V 603 432 + 2) = c := by rw [← hV2]; simp (disch := omega) only [qu_e, qu_s]
        have y3 : V2 603 (433 + 4 * V 603 432 + 3) = d := by rw [← hV2]; simp (disch := omega) only [qu_e, qu_s]
        clear hV2
        have hl : ∀ f, lastTo (V2 603) f (V 603 432 + 1).toNat = if a = f then c else lastTo (V 603) f (V 603 432).toNat := fun f => by
          rw [lastTo_s hS1.2.1, y0, y2, lastTo_fw (w := V 603) _ (fun k p q => ew k (by omega))]
        refine h.tl (by omega) (fun o j p q r => e o j (by unfold scrC at p; omega)) (fun _ _ _ => rfl) (ew _ (by omega)) ⟨hU.fw (e _ _ (by omega)) (fun o j p q => e o j (by omega)) (fun k p q => ew k (by omega)), hP.fw (e _ _ (by omega)) (fun o j p q => e o j (by omega)) (fun k p q => ew k (by omega)), hG.fw (fun o j p q => e o j (by omega)) (fun k p q => ew k (by omega)), ?_, hC.fw (e _ _ (by omega)) (fun o j p q => e o j (by omega)) (fun k p q => ew k (by omega)) (by rw [ew _ (by omega)]; exact Int.le_refl _) (by rw [ew _ (by omega)]; exact Int.le_refl _), ?_, hA.fw (e _ _ (by omega)) (ew _ (by omega)) (fun _ => rfl)⟩
        · refine ⟨by simp (disch := omega) only [e, ew]; exact h142, fun f p q => ?_⟩
          rw [ew 142 (by omega)] at q
          have h9 := hF.2 f p q
          rw [ew 21 (by omega), ew 20 (by omega), y4, hl]
          have fr0 : fR V2 (12 + 42 + 4 * f) (V2 603) (143 + 27 * f) (V 603 21) (V 603 20) := by
            obtain ⟨⟨k0, k1, k2, k3, k4, k5, k6, k7, k9, kh⟩, -⟩ := h9
            refine ⟨by simp (disch := omega) only [e, ew]; exact k0, by simp (disch := omega) only [e, ew]; exact k1, by simp (disch := omega) only [e, ew]; exact k2, by simp (disch := omega) only [e, ew]; exact k3, by simp (disch := omega) only [e, ew]; exact k4, by simp (disch := omega) only [e, ew]; exact k5, by simp (disch := omega) only [e, ew]; exact k6, by simp (disch := omega) only [e, ew]; exact k7, by simp (disch := omega) only [e, ew]; exact k9, fun i x y => ?_⟩
            rw [ew _ (by omega)] at y
            simp (disch := omega) only [e, ew]; exact kh i x y
          refine ⟨fr0, ?_⟩
          by_cases hfa : a = f
          · subst hfa
            rw [if_pos rfl, show (12 : Int) + 42 + 4 * a = 54 + 4 * a by omega, x8]
          · rw [if_neg hfa, e _ _ (by omega)]; exact h9.2
        · refine ⟨by rw [x14, y4]; omega, fun i p q => ?_⟩
          rw [y4] at q
          rw [ew 142 (by omega), ew 21 (by omega)]
          by_cases hi : i = V 603 432
          · subst hi
            rw [show (12 : Int) + 98 + 1 * V 603 432 = 110 + V 603 432 by omega, x0, x1, x2, x3, y0, y1, y2, y3]; omega
          · have h9 := hS.2 i p (by omega)
            rw [e _ 0 (by omega), e _ 1 (by omega), e _ 2 (by omega), e _ 3 (by omega), ew (433 + 4 * i) (by omega), ew (433 + 4 * i + 1) (by omega), ew (433 + 4 * i + 2) (by omega), ew (433 + 4 * i + 3) (by omega)]
            exact h9
  · exact pre V _ rfl (br_t (by rw [q6]; omega) ⟨qs0 _, rfl, hP0 _ h.th0⟩)
