/-! calls that tell -/
theorem Rel.th {n : Int} {V : qV} {J : qJ} {c : Int} (h : Rel n V J) : Rel (n + 1) (qu (qu V 602 0 0) 602 0 c) J := h.sc0 (by omega) (fun o j p => by rw [qu_e (by unfold scrC at p; omega), qu_e (by unfold scrC at p; omega)]) (fun _ _ _ _ _ _ _ _ => rfl)
theorem Rel.th0 {n : Int} {V : qV} {J : qJ} (h : Rel n V J) : Rel (n + 1) (qu V 602 0 0) J := h.sc0 (by omega) (fun o j p => by rw [qu_e (by unfold scrC at p; omega)]) (fun _ _ _ _ _ _ _ _ => rfl)
theorem qs0 (V : qV) : (qu V 602 0 0) 602 0 = 0 := qu_s _ _ _ _
theorem q602 (V : qV) (v j : Int) {o : Int} (h : o ≠ 602) : (qu V 602 0 v) o j = V o j := qu_o _ _ h _
theorem t_know {n : Int} {a : Int} {b : Int} {V : qV} {J : qJ} {P : qV → Prop} (h : Rel n V J) (hP0 : ∀ V2, Rel (n + 1) V2 J → P V2) : W_X10_know a b V (fun r V1 => W_X11_know a b V1 (fun s V2 => V2 602 0 = 0 ∧ r = s ∧ P V2)) (fun E V1 => (E = "java/lang/IndexOutOfBoundsException" ∧ W_X11_know a b V1 (fun s V2 => V2 602 0 = 1 ∧ P V2)) ∨ (E = "java/lang/IllegalArgumentException" ∧ W_X11_know a b V1 (fun s V2 => V2 602 0 = 2 ∧ P V2))) := by
  have ht := h.2.2.2.1
  obtain ⟨hU, hP, hG, hF, hC, hS, hA⟩ := ht
  refine if hu : 0 ≤ a ∧ a < 10 then ?_ else s_tU0 hu (Or.inl ⟨rfl, m_iu0 (qs0 _) hu (br_t rfl ⟨qu_s _ _ _ _, hP0 _ h.th⟩)⟩)
  refine s_tU1 hu ?_
  refine if hv : 0 ≤ b ∧ b ≤ 2 then ?_ else s_tR0 hv (Or.inr ⟨rfl, m_iu1 (qs0 _) hu (br_f (by decide) (m_in0 hv (m_may0 (qs0 _) (by decide) (br_t rfl ⟨qu_s _ _ _ _, hP0 _ h.th⟩))))⟩)
  refine s_tR1 hv ⟨hu, hu, m_iu1 (qs0 _) hu (br_f (by decide) (m_in1 hv (m_may1 (qs0 _) (br_f (by decide) ⟨zr_i (by omega) (by omega), by omega, zr_i (by omega) (by omega), by omega, ?_⟩))))⟩
  refine ⟨by rw [qu_o _ _ (by decide)]; exact qs0 _, ?_, hP0 _ ?_⟩
  · rw [q602 _ _ _ (by decide), qu_o _ _ (by decide), show 0 + a = a by omega]
    exact (hU.2 a hu.1 hu.2).1.1
  · have e : ∀ o j, ¬ (o = 14 ∧ j = a) ∧ ¬ (o = 602 ∧ j = 0) ∧ o ≠ 603 → (qu (qu (qu V 14 a b) 602 0 0) 603 (0 + a) b) o j = V o j := fun o j p => by rw [qu_o _ _ p.2.2, qu_e p.2.1, qu_e p.1]
    have ew : ∀ k, k ≠ 0 + a → (qu (qu (qu V 14 a b) 602 0 0) 603 (0 + a) b) 603 k = V 603 k := fun k p => by rw [qu_j _ _ p, q602 _ _ _ (by decide), qu_o _ _ (by decide)]
    have e1 : (qu (qu (qu V 14 a b) 602 0 0) 603 (0 + a) b) 14 a = b := by rw [qu_o _ _ (by decide), q602 _ _ _ (by decide), qu_s]
    have e2 : (qu (qu (qu V 14 a b) 602 0 0) 603 (0 + a) b) 603 (0 + a) = b := by rw [qu_s]
    generalize (qu (qu (qu V 14 a b) 602 0 0) 603 (0 + a) b) = V2 at e ew e1 e2 ⊢
    refine h.tl (by omega) (fun o j p q r => e o j (by unfold scrC at p; omega)) (fun _ _ _ => rfl) (ew _ (by omega)) ⟨?_, hP.fw (e _ _ (by omega)) (fun o j p q => e o j (by omega)) (fun k p q => ew k (by omega)), hG.fw (fun o j p q => e o j (by omega)) (fun k p q => ew k (by omega)), hF.fw (e _ _ (by omega)) (fun o j p q => e o j (by omega)) (fun k p q => ew k (by omega)) (ew _ (by omega)) (fun k p q => ew k (by omega)) (by rw [ew _ (by omega)]; exact Int.le_refl _) (by rw [ew _ (by omega)]; exact Int.le_refl _), hC.fw (e _ _ (by omega)) (fun o j p q => e o j (by omega)) (fun k p q => ew k (by omega)) (by rw [ew _ (by omega)]; exact Int.le_refl _) (by rw [ew _ (by omega)]; exact Int.le_refl _), hS.fw (e _ _ (by omega)) (fun o j p q => e o j (by omega)) (fun k p q => ew k (by omega)) (by rw [ew _ (by omega)]; exact Int.le_refl _) (by rw [ew _ (by omega)]; exact Int.le_refl _), hA.fw (e _ _ (by omega)) (ew _ (by omega)) (fun _ => rfl)⟩
    refine ⟨by simp (disch := omega) only [e, ew]; exact hU.1, fun k p q => ?_⟩
    have hk := hU.2 k p q
    refine ⟨?_, by simp (disch := omega) only [e, ew]; exact hk.2⟩
    by_cases hka : k = a
    · subst hka
      rw [show (12 : Int) + 2 = 14 from rfl, e1, show V2 603 k = b by rw [← e2]; congr 1; omega]; omega
    · simp (disch := omega) only [e, ew]; exact hk.1
theorem t_weigh {n : Int} {a : Int} {b : Int} {V : qV} {J : qJ} {P : qV → Prop} (h : Rel n V J) (hP0 : ∀ V2, Rel (n + 1) V2 J → P V2) : W_X10_weigh a b V (fun r V1 => W_X11_weigh a b V1 (fun s V2 => V2 602 0 = 0 ∧ r = s ∧ P V2)) (fun E V1 => (E = "java/lang/IndexOutOfBoundsException" ∧ W_X11_weigh a b V1 (fun s V2 => V2 602 0 = 1 ∧ P V2)) ∨ (E = "java/lang/IllegalArgumentException" ∧ W_X11_weigh a b V1 (fun s V2 => V2 602 0 = 2 ∧ P V2))) := by
  have ht := h.2.2.2.1
  obtain ⟨hU, hP, hG, hF, hC, hS, hA⟩ := ht
  refine if hu : 0 ≤ a ∧ a < 10 then ?_ else s_tU0 hu (Or.inl ⟨rfl, m_iu0 (qs0 _) hu (br_t rfl ⟨qu_s _ _ _ _, hP0 _ h.th⟩)⟩)
  refine s_tU1 hu ?_
  refine if hv : 1 ≤ b ∧ b ≤ 9 then ?_ else s_tR0 hv (Or.inr ⟨rfl, m_iu1 (qs0 _) hu (br_f (by decide) (m_in0 hv (m_may0 (qs0 _) (by decide) (br_t rfl ⟨qu_s _ _ _ _, hP0 _ h.th⟩))))⟩)
  refine s_tR1 hv ⟨hu, hu, m_iu1 (qs0 _) hu (br_f (by decide) (m_in1 hv (m_may1 (qs0 _) (br_f (by decide) ⟨zr_i (by omega) (by omega), by omega, zr_i (by omega) (by omega), by omega, ?_⟩))))⟩
  refine ⟨by rw [qu_o _ _ (by decide)]; exact qs0 _, ?_, hP0 _ ?_⟩
  · rw [q602 _ _ _ (by decide), qu_o _ _ (by decide)]
    exact (hU.2 a hu.1 hu.2).2.1
  · have e : ∀ o j, ¬ (o = 15 ∧ j = a) ∧ ¬ (o = 602 ∧ j = 0) ∧ o ≠ 603 → (qu (qu (qu V 15 a b) 602 0 0) 603 (10 + a) b) o j = V o j := fun o j p => by rw [qu_o _ _ p.2.2, qu_e p.2.1, qu_e p.1]
    have ew : ∀ k, k ≠ 10 + a → (qu (qu (qu V 15 a b) 602 0 0) 603 (10 + a) b) 603 k = V 603 k := fun k p => by rw [qu_j _ _ p, q602 _ _ _ (by decide), qu_o _ _ (by decide)]
    have e1 : (qu (qu (qu V 15 a b) 602 0 0) 603 (10 + a) b) 15 a = b := by rw [qu_o _ _ (by decide), q602 _ _ _ (by decide), qu_s]
    have e2 : (qu (qu (qu V 15 a b) 602 0 0) 603 (10 + a) b) 603 (10 + a) = b := by rw [qu_s]
    generalize (qu (qu (qu V 15 a b) 602 0 0) 603 (10 + a) b) = V2 at e ew e1 e2 ⊢
    refine h.tl (by omega) (fun o j p q r => e o j (by unfold scrC at p; omega)) (fun _ _ _ => rfl) (ew _ (by omega)) ⟨?_, hP.fw (e _ _ (by omega)) (fun o j p q => e o j (by omega)) (fun k p q => ew k (by omega)), hG.fw (fun o j p q => e o j (by omega)) (fun k p q => ew k (by omega)), hF.fw (e _ _ (by omega)) (fun o j p q => e o j (by omega)) (fun k p q => ew k (by omega)) (ew _ (by omega)) (fun k p q => ew k (by omega)) (by rw [ew _ (by omega)]; exact Int.le_refl _) (by rw [ew _ (by omega)]; exact Int.le_refl _), hC.fw (e _ _ (by omega)) (fun o j p q => e o j (by omega)) (fun k p q => ew k (by omega)) (by rw [ew _ (by omega)]; exact Int.le_refl _) (by rw [ew _ (by omega)]; exact Int.le_refl _), hS.fw (e _ _ (by omega)) (fun o j p q => e o j (by omega)) (fun k p q => ew k (by omega)) (by rw [ew _ (by omega)]; exact Int.le_refl _) (by rw [ew _ (by omega)]; exact Int.le_refl _), hA.fw (e _ _ (by omega)) (ew _ (by omega)) (fun _ => rfl)⟩
    refine ⟨by simp (disch := omega) only [e, ew]; exact hU.1, fun k p q => ?_⟩
    have hk := hU.2 k p q
    refine ⟨by simp (disch := omega) only [e, ew]; exact hk.1, ?_⟩
    by_cases hka : k = a
    · subst hka
      rw [show (12 : Int) + 3 = 15 from rfl, e1, e2]; omega
    · simp (disch := omega) only [e, ew]; exact hk.2
theorem t_days {n : Int} {a : Int} {V : qV} {J : qJ} {P : qV → Prop} (h : Rel n V J) (hP0 : ∀ V2, Rel (n + 1) V2 J → P V2) : W_X10_days a V (fun r V1 => W_X11_days a V1 (fun s V2 => V2 602 0 = 0 ∧ r = s ∧ P V2)) (fun E V1 => (E = "java/lang/IllegalArgumentException" ∧ W_X11_days a V1 (fun s V2 => V2 602 0 = 1 ∧ P V2)) ∨ (E = "java/lang/IllegalStateException" ∧ W_X11_days a V1 (fun s V2 => V2 602 0 = 2 ∧ P V2))) := by
  have ht := h.2.2.2.1
  obtain ⟨hU, hP, hG, hF, hC, hS, hA⟩ := ht
  have h20 := hU.1
  refine if hv : 0 ≤ a ∧ a ≤ 999 then ?_ else s_tR0 hv (Or.inl ⟨rfl, m_in0 hv (m_may0 (qs0 _) (by decide) (br_t rfl ⟨qu_s _ _ _ _, hP0 _ h.th⟩))⟩)
  refine s_tR1 hv ?_
  have e20 : (qu V 602 0 0) 603 20 = V 603 20 := q602 _ _ _ (by decide)
  refine ⟨zr_i (by omega) (by omega), br_c (fun c => ⟨zr_i (by omega) (by omega), ?_⟩) (fun c => Or.inr ⟨rfl, ?_⟩)⟩
  · refine m_in1 hv (m_may1 (qs0 _) (br_f (by decide) ?_))
    have e3 : (qu (qu V 12 4 (V 12 4 + a)) 602 0 0) 603 20 = V 603 20 := by rw [q602 _ _ _ (by decide), qu_o _ _ (by decide)]
    rw [e3]
    refine ⟨zr_i (by omega) (by omega), br_f (by omega) (m_may1 (qs0 _) (br_f (by decide) ?_))⟩
    rw [e3]
    refine ⟨zr_i (by omega) (by omega), by rw [qu_o _ _ (by decide)]; exact qs0 _, by rw [qu_s, qu_s, h20.1], hP0 _ ?_⟩
    have e : ∀ o j, ¬ (o = 12 ∧ j = 4) ∧ ¬ (o = 602 ∧ j = 0) ∧ o ≠ 603 → (qu (qu (qu V 12 4 (V 12 4 + a)) 602 0 0) 603 20 (V 603 20 + a)) o j = V o j := fun o j p => by rw [qu_o _ _ p.2.2, qu_e p.2.1, qu_e p.1]
    have ew : ∀ k, k ≠ 20 → (qu (qu (qu V 12 4 (V 12 4 + a)) 602 0 0) 603 20 (V 603 20 + a)) 603 k = V 603 k := fun k p => by rw [qu_j _ _ p, q602 _ _ _ (by decide), qu_o _ _ (by decide)]
    have e1 : (qu (qu (qu V 12 4 (V 12 4 + a)) 602 0 0) 603 20 (V 603 20 + a)) 12 4 = V 603 20 + a := by rw [qu_o _ _ (by decide), q602 _ _ _ (by decide), qu_s, h20.1]
    have e2 : (qu (qu (qu V 12 4 (V 12 4 + a)) 602 0 0) 603 20 (V 603 20 + a)) 603 20 = V 603 20 + a := by rw [qu_s]
    generalize (qu (qu (qu V 12 4 (V 12 4 + a)) 602 0 0) 603 20 (V 603 20 + a)) = V2 at e ew e1 e2 ⊢
    refine h.tl (by omega) (fun o j p q r => e o j (by unfold scrC at p; omega)) (fun _ _ _ => rfl) (ew _ (by omega)) ⟨?_, hP.fw (e _ _ (by omega)) (fun o j p q => e o j (by omega)) (fun k p q => ew k (by omega)), hG.fw (fun o j p q => e o j (by omega)) (fun k p q => ew k (by omega)), ?_, hC.fw (e _ _ (by omega)) (fun o j p q => e o j (by omega)) (fun k p q => ew k (by omega)) (by rw [ew _ (by omega)]; exact Int.le_refl _) (by rw [ew _ (by omega)]; exact Int.le_refl _), hS.fw (e _ _ (by omega)) (fun o j p q => e o j (by omega)) (fun k p q => ew k (by omega)) (by rw [ew _ (by omega)]; exact Int.le_refl _) (by rw [ew _ (by omega)]; exact Int.le_refl _), hA.fw (e _ _ (by omega)) (ew _ (by omega)) (fun _ => rfl)⟩
    · exact ⟨by rw [e1, e2]; omega, fun k p q => by simp (disch := omega) only [e, ew]; exact hU.2 k p q⟩
    · exact hF.fw (e _ _ (by omega)) (fun o j p q => e o j (by omega)) (fun k p q => ew k (by omega)) (ew _ (by omega)) (fun k p q => ew k (by omega)) (by rw [ew _ (by omega)]; exact Int.le_refl _) (by rw [e2]; omega)
  · refine m_in1 hv (m_may1 (qs0 _) (br_f (by decide) ?_))
    rw [e20]
    exact ⟨zr_i (by omega) (by omega), br_t (by omega) (m_may0 (qs0 _) (by decide) (br_t rfl ⟨qu_s _ _ _ _, hP0 _ h.th⟩))⟩
theorem t_passes {n : Int} {a : Int} {b : Int} {c : Int} {V : qV} {J : qJ} {P : qV → Prop} (h : Rel n V J) (hP0 : ∀ V2, Rel (n + 1) V2 J → P V2) : W_X10_passes a b c V (fun r V1 => W_X11_passes a b c V1 (fun s V2 => V2 602 0 = 0 ∧ r = s ∧ P V2)) (fun E V1 => (E = "java/util/NoSuchElementException" ∧ W_X11_passes a b c V1 (fun s V2 => V2 602 0 = 1 ∧ P V2)) ∨ (E = "java/lang/IllegalArgumentException" ∧ W_X11_passes a b c V1 (fun s V2 => V2 602 0 = 2 ∧ P V2))) := by
  have ht := h.2.2.2.1
  obtain ⟨hU, hP, hG, hF, hC, hS, hA⟩ := ht
  have h21 := hP.1
  have w21 : (qu V 602 0 0) 603 21 = V 603 21 := q602 _ _ _ (by decide)
  refine if ha : 0 ≤ a ∧ a < V 12 8 then ?_ else s_pO0 ha (Or.inl ⟨rfl, m_ip0 (qs0 _) (by rw [w21]; exact h21.2) (by decide) (by rw [w21, ← h21.1]; exact ha) (br_t rfl ⟨qu_s _ _ _ _, hP0 _ h.th⟩)⟩)
  have hpr := hP.2 a ha.1 (by omega)
  refine s_pO1 ha (by omega) ?_
  have ip : ∀ (V1 : qV) (Q : Int → qV → Prop), V1 603 21 = V 603 21 → Q 1 (qu V1 602 0 0) → W_X11_isPerson a 1 (qu V1 602 0 0) Q := fun V1 Q e k => m_ip1 (qs0 _) (by rw [q602 _ _ _ (by decide), e]; exact h21.2) (by rw [q602 _ _ _ (by decide), e]; omega) k
  refine if hb : 0 ≤ b ∧ b ≤ 3 then ?_ else s_tR0 hb (Or.inr ⟨rfl, ip V _ rfl (br_f (by decide) (m_in0 hb (br_t rfl (m_may0 (qs0 _) (by decide) (br_t rfl ⟨qu_s _ _ _ _, hP0 _ h.th⟩)))))⟩)
  refine s_tR1 hb ?_
  refine if hc : 0 ≤ c ∧ c ≤ 99 then ?_ else s_tR0 hc (Or.inr ⟨rfl, ip V _ rfl (br_f (by decide) (m_in1 hb (br_f (by decide) (m_in0 hc (br_t rfl (m_may0 (qs0 _) (by decide) (br_t rfl ⟨qu_s _ _ _ _, hP0 _ h.th⟩)))))))⟩)
  refine s_tR1 hc ⟨by omega, by omega, ip _ _ (by simp (disch := omega) only [qu_e]) (br_f (by decide) (m_in1 hb (br_f (by decide) (m_in1 hc (br_f (by decide) (m_may1 (qs0 _) (br_f (by decide) ?_)))))))⟩
  refine ⟨zr_i (by omega) (by omega), zr_i (by omega) (by omega), zr_i (by omega) (by omega), by omega, zr_i (by omega) (by omega), zr_i (by omega) (by omega), zr_i (by omega) (by omega), by omega, by rw [qu_o _ _ (by decide)]; exact qs0 _, ?_, hP0 _ ?_⟩
  · simp (disch := omega) only [qu_e]
    exact (hpr.2.2.2 b hb.1 (by omega)).1
  · generalize hV2 : (qu (qu (qu V (22 + 2 * a + 1) b c) 602 0 0) 603 (70 + 4 * a + b) c) = V2
    have e : ∀ o j, ¬ (o = 22 + 2 * a + 1 ∧ j = b) ∧ ¬ (o = 602 ∧ j = 0) ∧ o ≠ 603 → V2 o j = V o j := fun o j p => by rw [← hV2]; simp (disch := omega) only [qu_e]
    have ew : ∀ k, k ≠ 70 + 4 * a + b → V2 603 k = V 603 k := fun k p => by rw [← hV2]; simp (disch := omega) only [qu_e]
    have e1 : V2 (22 + 2 * a + 1) b = c := by rw [← hV2]; simp (disch := omega) only [qu_e, qu_s]
    have e2 : V2 603 (70 + 4 * a + b) = c := by rw [← hV2, qu_s]
    refine h.tl (by omega) (fun o j p q r => e o j (by unfold scrC at p; omega)) (fun _ _ _ => rfl) (ew _ (by omega)) ⟨hU.fw (e _ _ (by omega)) (fun o j p q => e o j (by omega)) (fun k p q => ew k (by omega)), ?_, hG.fw (fun o j p q => e o j (by omega)) (fun k p q => ew k (by omega)), hF.fw (e _ _ (by omega)) (fun o j p q => e o j (by omega)) (fun k p q => ew k (by omega)) (ew _ (by omega)) (fun k p q => ew k (by omega)) (by rw [ew _ (by omega)]; exact Int.le_refl _) (by rw [ew _ (by omega)]; exact Int.le_refl _), hC.fw (e _ _ (by omega)) (fun o j p q => e o j (by omega)) (fun k p q => ew k (by omega)) (by rw [ew _ (by omega)]; exact Int.le_refl _) (by rw [ew _ (by omega)]; exact Int.le_refl _), hS.fw (e _ _ (by omega)) (fun o j p q => e o j (by omega)) (fun k p q => ew k (by omega)) (by rw [ew _ (by omega)]; exact Int.le_refl _) (by rw [ew _ (by omega)]; exact Int.le_refl _), hA.fw (e _ _ (by omega)) (ew _ (by omega)) (fun _ => rfl)⟩
    refine ⟨by simp (disch := omega) only [e, ew]; exact h21, fun p q r => ?_⟩
    rw [ew _ (by omega)] at r
    by_cases hpa : p = a
    · subst hpa
      refine ⟨by simp (disch := omega) only [e, ew]; exact hpr.1, by simp (disch := omega) only [e, ew]; exact hpr.2.1, by simp (disch := omega) only [e, ew]; exact hpr.2.2.1, fun k x y => ?_⟩
      by_cases hkb : k = b
      · subst hkb
        rw [show (12 : Int) + 10 + 2 * p + 1 = 22 + 2 * p + 1 by omega, e1, e2]; omega
      · simp (disch := omega) only [e, ew]; exact hpr.2.2.2 k x y
    · have h9 := hP.2 p q r
      refine ⟨by simp (disch := omega) only [e, ew]; exact h9.1, by simp (disch := omega) only [e, ew]; exact h9.2.1, by simp (disch := omega) only [e, ew]; exact h9.2.2.1, fun k x y => by simp (disch := omega) only [e, ew]; exact h9.2.2.2 k x y⟩
theorem t_away {n : Int} {a : Int} {b : Int} {V : qV} {J : qJ} {P : qV → Prop} (hb : b = 0 ∨ b = 1) (h : Rel n V J) (hP0 : ∀ V2, Rel (n + 1) V2 J → P V2) : W_X10_away a b V (fun r V1 => W_X11_away a b V1 (fun s V2 => V2 602 0 = 0 ∧ r = s ∧ P V2)) (fun E V1 => (E = "java/util/NoSuchElementException" ∧ W_X11_away a b V1 (fun s V2 => V2 602 0 = 1 ∧ P V2))) := by
  have ht := h.2.2.2.1
  obtain ⟨hU, hP, hG, hF, hC, hS, hA⟩ := ht
  have h21 := hP.1
  have w21 : (qu V 602 0 0) 603 21 = V 603 21 := q602 _ _ _ (by decide)
  refine if ha : 0 ≤ a ∧ a < V 12 8 then ?_ else s_pO0 ha ⟨rfl, m_ip0 (qs0 _) (by rw [w21]; exact h21.2) (by decide) (by rw [w21, ← h21.1]; exact ha) (br_t rfl ⟨qu_s _ _ _ _, hP0 _ h.th⟩)⟩
  have hpr := hP.2 a ha.1 (by omega)
  have e3 : V (22 + 2 * a) 3 = V 603 (54 + a) := hpr.2.2.1.1
  have e4 := hpr.2.2.1.2
  refine s_pO1 ha (by omega) ⟨by omega, m_ip1 (qs0 _) (by rw [q602 _ _ _ (by decide), qu_o _ _ (by omega)]; exact h21.2) (by rw [q602 _ _ _ (by decide), qu_o _ _ (by omega)]; omega) (br_f (by decide) ⟨zr_i (by omega) (by omega), by omega, ?_⟩)⟩
  rw [q602 _ _ _ (by decide), qu_o _ _ (by omega)]
  have fin : ∀ s, s = V (22 + 2 * a) 3 → (qu (qu (qu V (22 + 2 * a) 3 b) 602 0 0) 603 (54 + a) b) 602 0 = 0 ∧ V (22 + 2 * a) 3 = s ∧ P (qu (qu (qu V (22 + 2 * a) 3 b) 602 0 0) 603 (54 + a) b) := by
    intro s hs
    refine ⟨by rw [qu_o _ _ (by decide)]; exact qs0 _, hs.symm, hP0 _ ?_⟩
    generalize hV2 : (qu (qu (qu V (22 + 2 * a) 3 b) 602 0 0) 603 (54 + a) b) = V2
    have e : ∀ o j, ¬ (o = 22 + 2 * a ∧ j = 3) ∧ ¬ (o = 602 ∧ j = 0) ∧ o ≠ 603 → V2 o j = V o j := fun o j p => by rw [← hV2]; simp (disch := omega) only [qu_e]
    have ew : ∀ k, k ≠ 54 + a → V2 603 k = V 603 k := fun k p => by rw [← hV2]; simp (disch := omega) only [qu_e]
    have e1 : V2 (22 + 2 * a) 3 = b := by rw [← hV2]; simp (disch := omega) only [qu_e, qu_s]
    have e2 : V2 603 (54 + a) = b := by rw [← hV2, qu_s]
    refine h.tl (by omega) (fun o j p q r => e o j (by unfold scrC at p; omega)) (fun _ _ _ => rfl) (ew _ (by omega)) ⟨hU.fw (e _ _ (by omega)) (fun o j p q => e o j (by omega)) (fun k p q => ew k (by omega)), ?_, hG.fw (fun o j p q => e o j (by omega)) (fun k p q => ew k (by omega)), hF.fw (e _ _ (by omega)) (fun o j p q => e o j (by omega)) (fun k p q => ew k (by omega)) (ew _ (by omega)) (fun k p q => ew k (by omega)) (by rw [ew _ (by omega)]; exact Int.le_refl _) (by rw [ew _ (by omega)]; exact Int.le_refl _), hC.fw (e _ _ (by omega)) (fun o j p q => e o j (by omega)) (fun k p q => ew k (by omega)) (by rw [ew _ (by omega)]; exact Int.le_refl _) (by rw [ew _ (by omega)]; exact Int.le_refl _), hS.fw (e _ _ (by omega)) (fun o j p q => e o j (by omega)) (fun k p q => ew k (by omega)) (by rw [ew _ (by omega)]; exact Int.le_refl _) (by rw [ew _ (by omega)]; exact Int.le_refl _), hA.fw (e _ _ (by omega)) (ew _ (by omega)) (fun _ => rfl)⟩
    refine ⟨by simp (disch := omega) only [e, ew]; exact h21, fun p q r => ?_⟩
    rw [ew _ (by omega)] at r
    have h9 := hP.2 p q r
    refine ⟨by simp (disch := omega) only [e, ew]; exact h9.1, by simp (disch := omega) only [e, ew]; exact h9.2.1, ?_, fun k x y => by simp (disch := omega) only [e, ew]; exact h9.2.2.2 k x y⟩
    by_cases hpa : p = a
    · subst hpa
      rw [show (12 : Int) + 10 + 2 * p = 22 + 2 * p by omega, e1, e2]; omega
    · simp (disch := omega) only [e, ew]; exact h9.2.2.1
  refine br_c (fun z => ⟨zr_i (by omega) (by omega), ?_⟩) (fun z => ⟨zr_i (by omega) (by omega), ?_⟩)
  · rcases hb with rfl | rfl
    · exact br_t rfl ⟨by omega, fin 1 (by omega)⟩
    · exact br_f (by decide) ⟨by omega, fin 1 (by omega)⟩
  · rcases hb with rfl | rfl
    · exact br_t rfl ⟨by omega, fin 0 (by omega)⟩
    · exact br_f (by decide) ⟨by omega, fin 0 (by omega)⟩
theorem t_cry {n : Int} {a : Int} {V : qV} {J : qJ} {P : qV → Prop} (h : Rel n V J) (hP0 : ∀ V2, Rel (n + 1) V2 J → P V2) : W_X10_cry a V (fun r V1 => W_X11_cry a V1 (fun s V2 => V2 602 0 = 0 ∧ r = s ∧ P V2)) (fun E V1 => (E = "java/lang/IndexOutOfBoundsException" ∧ W_X11_cry a V1 (fun s V2 => V2 602 0 = 1 ∧ P V2))) := by
  have ht := h.2.2.2.1
  obtain ⟨hU, hP, hG, hF, hC, hS, hA⟩ := ht
  have h142 := hF.1
  have h20 := hU.1
  have w142 : (qu V 602 0 0) 603 142 = V 603 142 := q602 _ _ _ (by decide)
  refine if ha : 0 ≤ a ∧ a < V 12 10 then ?_ else s_fO0 ha ⟨rfl, m_if0 (qs0 _) (by rw [w142]; exact h142.2) (by rw [w142, ← h142.1]; exact ha) (br_t rfl ⟨qu_s _ _ _ _, hP0 _ h.th⟩)⟩
  have hfr := (hF.2 a ha.1 (by omega)).1
  have e7 : V (54 + 4 * a) 7 = V 603 (143 + 27 * a + 7) := hfr.2.2.2.2.2.2.2.1.1
  have e6 : V (54 + 4 * a) 6 = V 603 (143 + 27 * a + 6) := hfr.2.2.2.2.2.2.1.1
  have b7 := hfr.2.2.2.2.2.2.2.1.2
  have b6 := hfr.2.2.2.2.2.2.1.2
  refine s_fO1 ha (by omega) ?_
  refine br_c (fun c => ?_) (fun c => ?_)
  · refine m_if1 (qs0 _) (by rw [w142]; exact h142.2) (by rw [w142]; omega) (br_f (by decide) ⟨zr_i (by omega) (by omega), zr_i (by omega) (by omega), zr_i (by omega) (by omega), by omega, br_t ?_ ⟨qs0 _, rfl, hP0 _ h.th0⟩⟩)
    simp (disch := omega) only [qu_e]
    omega
  · have q6 : (qu V (54 + 4 * a) 7 (V 12 4)) (54 + 4 * a) 6 = V (54 + 4 * a) 6 := by rw [qu_j _ _ (by decide)]
    rw [q6]
    refine ⟨zr_i (by omega) (by omega), m_if1 (qs0 _) ?_ ?_ (br_f (by decide) ⟨zr_i (by omega) (by omega), zr_i (by omega) (by omega), zr_i (by omega) (by omega), by omega, br_f ?_ ?_⟩)⟩
    · simp (disch := omega) only [qu_e]; exact h142.2
    · simp (disch := omega) only [qu_e]; omega
    · simp (disch := omega) only [qu_e]; omega
    · simp (disch := omega) only [qu_e]
      refine ⟨zr_i (by omega) (by omega), by omega, zr_i (by omega) (by omega), by omega, zr_i (by omega) (by omega), by omega, qs0 _, trivial, hP0 _ ?_⟩
      generalize hV2 : (qu (qu (qu (qu (qu V (54 + 4 * a) 7 (V 12 4)) (54 + 4 * a) 6 (V (54 + 4 * a) 6 + 1)) 602 0 0) 603 (143 + 27 * a + 7) (V 603 20)) 603 (143 + 27 * a + 6) (V 603 (143 + 27 * a + 6) + 1)) = V2
      have e : ∀ o j, ¬ (o = 54 + 4 * a ∧ (j = 7 ∨ j = 6)) ∧ ¬ (o = 602 ∧ j = 0) ∧ o ≠ 603 → V2 o j = V o j := fun o j p => by rw [← hV2]; simp (disch := omega) only [qu_e]
      have ew : ∀ k, k ≠ 143 + 27 * a + 7 ∧ k ≠ 143 + 27 * a + 6 → V2 603 k = V 603 k := fun k p => by rw [← hV2]; simp (disch := omega) only [qu_e]
      have x7 : V2 (54 + 4 * a) 7 = V 603 20 := by rw [← hV2]; simp (disch := omega) only [qu_e, qu_s]; omega
      have x6 : V2 (54 + 4 * a) 6 = V 603 (143 + 27 * a + 6) + 1 := by rw [← hV2]; simp (disch := omega) only [qu_e, qu_s]; omega
      have y7 : V2 603 (143 + 27 * a + 7) = V 603 20 := by rw [← hV2]; simp (disch := omega) only [qu_e, qu_s]
      have y6 : V2 603 (143 + 27 * a + 6) = V 603 (143 + 27 * a + 6) + 1 := by rw [← hV2, qu_s]
      clear hV2
      refine h.tl (by omega) (fun o j p q r => e o j (by unfold scrC at p; omega)) (fun _ _ _ => rfl) (ew _ (by omega)) ⟨hU.fw (e _ _ (by omega)) (fun o j p q => e o j (by omega)) (fun k p q => ew k (by omega)), hP.fw (e _ _ (by omega)) (fun o j p q => e o j (by omega)) (fun k p q => ew k (by omega)), hG.fw (fun o j p q => e o j (by omega)) (fun k p q => ew k (by omega)), ?_, hC.fw (e _ _ (by omega)) (fun o j p q => e o j (by omega)) (fun k p q => ew k (by omega)) (by rw [ew _ (by omega)]; exact Int.le_refl _) (by rw [ew _ (by omega)]; exact Int.le_refl _), hS.fw (e _ _ (by omega)) (fun o j p q => e o j (by omega)) (fun k p q => ew k (by omega)) (by rw [ew _ (by omega)]; exact Int.le_refl _) (by rw [ew _ (by omega)]; exact Int.le_refl _), hA.fw (e _ _ (by omega)) (ew _ (by omega)) (fun _ => rfl)⟩
      refine ⟨by simp (disch := omega) only [e, ew]; exact h142, fun f p q => ?_⟩
      rw [ew _ (by omega)] at q
      have h9 := hF.2 f p q
      rw [ew _ (by omega), ew _ (by omega), ew _ (by omega), e _ _ (by omega), lastTo_fw (w := V 603) _ (fun k x y => ew k (by have := hS.1; omega))]
      refine ⟨?_, h9.2⟩
      by_cases hfa : f = a
      · subst hfa
        rw [show (12 : Int) + 42 + 4 * f = 54 + 4 * f by omega] at h9 ⊢
        obtain ⟨⟨k0, k1, k2, k3, k4, k5, k6, k7, k9, kh⟩, -⟩ := h9
        refine ⟨by simp (disch := omega) only [e, ew]; exact k0, by simp (disch := omega) only [e, ew]; exact k1, by simp (disch := omega) only [e, ew]; exact k2, by simp (disch := omega) only [e, ew]; exact k3, by simp (disch := omega) only [e, ew]; exact k4, by simp (disch := omega) only [e, ew]; exact k5, by rw [x6, y6, y7]; omega, by rw [x7, y7]; omega, by simp (disch := omega) only [e, ew]; exact k9, fun i x y => ?_⟩
        rw [ew _ (by omega)] at y
        simp (disch := omega) only [e, ew]; exact kh i x y
      · exact h9.1.fw (by omega) (fun o j x y => e o j (by omega)) (fun k x y => ew k (by omega)) (Int.le_refl _) (Int.le_refl _)
theorem t_claim {n : Int} {a : Int} {b : Int} {c : Int} {V : qV} {J : qJ} {P : qV → Prop} (h : Rel n V J) (hP0 : ∀ V2, Rel (n + 1) V2 J → P V2) : W_X10_claim a b c V (fun r V1 => W_X11_claim a b c V1 (fun s V2 => V2 602 0 = 0 ∧ r = s ∧ P V2)) (fun E V1 => (E = "java/lang/IndexOutOfBoundsException" ∧ W_X11_claim a b c V1 (fun s V2 => V2 602 0 = 1 ∧ P V2)) ∨ (E = "java/util/NoSuchElementException" ∧ W_X11_claim a b c V1 (fun s V2 => V2 602 0 = 2 ∧ P V2)) ∨ (E = "java/lang/IllegalArgumentException" ∧ W_X11_claim a b c V1 (fun s V2 => V2 602 0 = 3 ∧ P V2))) := by
  have ht := h.2.2.2.1
  obtain ⟨hU, hP, hG, hF, hC, hS, hA⟩ := ht
  have h142 := hF.1
  have h21 := hP.1
  have w142 : (qu V 602 0 0) 603 142 = V 603 142 := q602 _ _ _ (by decide)
  have w21 : (qu V 602 0 0) 603 21 = V 603 21 := q602 _ _ _ (by decide)
  have iF : ∀ (V1 : qV) (Q : Int → qV → Prop), (0 ≤ a ∧ a < V 12 10) → V1 603 142 = V 603 142 → Q 1 (qu V1 602 0 0) → W_X11_isFind a (qu V1 602 0 0) Q := fun V1 Q ha e k => m_if1 (qs0 _) (by rw [q602 _ _ _ (by decide), e]; exact h142.2) (by rw [q602 _ _ _ (by decide), e]; omega) k
  have iP : ∀ (V1 : qV) (b : Int) (Q : Int → qV → Prop), (0 ≤ b ∧ b < V 12 8) → V1 603 21 = V 603 21 → Q 1 (qu V1 602 0 0) → W_X11_isPerson b 2 (qu V1 602 0 0) Q := fun V1 b Q hb e k => m_ip1 (qs0 _) (by rw [q602 _ _ _ (by decide), e]; exact h21.2) (by rw [q602 _ _ _ (by decide), e]; omega) k
  have nP : ∀ (b : Int) (Q : Int → qV → Prop), ¬ (0 ≤ b ∧ b < V 12 8) → Q 0 (qu (qu V 602 0 0) 602 0 2) → W_X11_isPerson b 2 (qu V 602 0 0) Q := fun b Q hb k => m_ip0 (qs0 _) (by rw [w21]; exact h21.2) (by decide) (by rw [w21, ← h21.1]; exact hb) k
  refine if ha : 0 ≤ a ∧ a < V 12 10 then ?_ else s_fO0 ha (Or.inl ⟨rfl, m_if0 (qs0 _) (by rw [w142]; exact h142.2) (by rw [w142, ← h142.1]; exact ha) (br_t rfl ⟨qu_s _ _ _ _, hP0 _ h.th⟩)⟩)
  refine s_fO1 ha (by omega) ?_
  have h359 := hC.1
  refine if hb : 0 ≤ b ∧ b < V 12 8 then ?_ else s_pO0 hb (Or.inr (Or.inl ⟨rfl, iF V _ ha rfl (br_f (by decide) (nP b _ hb (br_t rfl ⟨qu_s _ _ _ _, hP0 _ h.th⟩)))⟩))
  refine s_pO1 hb (by omega) ?_
  refine if hc : 1 ≤ c ∧ c ≤ 4095 then ?_ else s_tR0 hc (Or.inr (Or.inr ⟨rfl, iF V _ ha rfl (br_f (by decide) (iP V b _ hb rfl (br_f (by decide) (m_in0 hc (m_may0 (qs0 _) (by decide) (br_t rfl ⟨qu_s _ _ _ _, hP0 _ h.th⟩))))))⟩))
  refine s_tR1 hc (br_c (fun z => ⟨by omega, ?_⟩) (fun z => ?_))
  · unfold W_X0_begin
    simp (disch := omega) only [qu_e, qu_s]
    refine ⟨zr_i (by omega) (by omega), zr_i (by omega) (by omega), iF _ _ ha (by simp (disch := omega) only [qu_e]) (br_f (by decide) (iP _ b _ hb (by simp (disch := omega) only [qu_e]) (br_f (by decide) (m_in1 hc (m_may1 (qs0 _) (br_f (by decide) (br_f ?_ ?_)))))))⟩
    · simp (disch := omega) only [qu_e]; omega
    · simp (disch := omega) only [qu_e, qu_s]
      refine ⟨zr_i (by omega) (by omega), zr_i (by omega) (by omega), by omega, zr_i (by omega) (by omega), by omega, zr_i (by omega) (by omega), by omega, zr_i (by omega) (by omega), zr_i (by omega) (by omega), trivial, by omega, hP0 _ ?_⟩
      generalize hV2 : (qu (qu (qu (qu (qu (qu (qu (qu (qu V (86 + 1 * V 12 12) 0 a) (86 + 1 * V 12 12) 1 b) (86 + 1 * V 12 12) 2 c) 12 12 (V 12 12 + 1)) 602 0 0) 603 (360 + 3 * V 603 359) a) 603 (360 + 3 * V 603 359 + 1) b) 603 (360 + 3 * V 603 359 + 2) c) 603 359 (V 603 359 + 1)) = V2
      have e : ∀ o j, o ≠ 86 + V 603 359 ∧ ¬ (o = 12 ∧ j = 12) ∧ ¬ (o = 602 ∧ j = 0) ∧ o ≠ 603 → V2 o j = V o j := fun o j p => by rw [← hV2]; simp (disch := omega) only [qu_e]
      have ew : ∀ k, k ≠ 359 ∧ ¬ (360 + 3 * V 603 359 ≤ k ∧ k ≤ 360 + 3 * V 603 359 + 2) → V2 603 k = V 603 k := fun k p => by rw [← hV2]; simp (disch := omega) only [qu_e]
      have x12 : V2 12 12 = V 603 359 + 1 := by rw [← hV2]; simp (disch := omega) only [qu_e, qu_s]; omega
      have y : V2 603 359 = V 603 359 + 1 := by rw [← hV2, qu_s]
      have x0 : V2 (86 + V 603 359) 0 = a := by rw [← hV2]; simp (disch := omega) only [qu_e, qu_y]
      have x1 : V2 (86 + V 603 359) 1 = b := by rw [← hV2]; simp (disch := omega) only [qu_e, qu_y]
      have x2 : V2 (86 + V 603 359) 2 = c := by rw [← hV2]; simp (disch := omega) only [qu_e, qu_y]
      have y0 : V2 603 (360 + 3 * V 603 359) = a := by rw [← hV2]; simp (disch := omega) only [qu_e, qu_s]
      have y1 : V2 603 (360 + 3 * V 603 359 + 1) = b := by rw [← hV2]; simp (disch := omega) only [qu_e, qu_s]
      have y2 : V2 603 (360 + 3 * V 603 359 + 2) = c := by rw [← hV2]; simp (disch := omega) only [qu_e, qu_s]
      clear hV2
      refine h.tl (by omega) (fun o j p q r => e o j (by unfold scrC at p; omega)) (fun _ _ _ => rfl) (ew _ (by omega)) ⟨hU.fw (e _ _ (by omega)) (fun o j p q => e o j (by omega)) (fun k p q => ew k (by omega)), hP.fw (e _ _ (by omega)) (fun o j p q => e o j (by omega)) (fun k p q => ew k (by omega)), hG.fw (fun o j p q => e o j (by omega)) (fun k p q => ew k (by omega)), hF.fw (e _ _ (by omega)) (fun o j p q => e o j (by omega)) (fun k p q => ew k (by omega)) (ew _ (by omega)) (fun k p q => ew k (by omega)) (by rw [ew _ (by omega)]; exact Int.le_refl _) (by rw [ew _ (by omega)]; exact Int.le_refl _), ?_, hS.fw (e _ _ (by omega)) (fun o j p q => e o j (by omega)) (fun k p q => ew k (by omega)) (by rw [ew _ (by omega)]; exact Int.le_refl _) (by rw [ew _ (by omega)]; exact Int.le_refl _), hA.fw (e _ _ (by omega)) (ew _ (by omega)) (fun _ => rfl)⟩
      refine ⟨by rw [x12, y]; omega, fun i p q => ?_⟩
      rw [y] at q
      simp (disch := omega) only [e, ew]
      by_cases hi : i = V 603 359
      · subst hi
        rw [show (12 : Int) + 74 + 1 * V 603 359 = 86 + V 603 359 by omega, x0, x1, x2, y0, y1, y2]; omega
      · simp (disch := omega) only [e, ew]
        exact hC.2 i p (by omega)
  · refine iF V _ ha rfl (br_f (by decide) (iP V b _ hb rfl (br_f (by decide) (m_in1 hc (m_may1 (qs0 _) (br_f (by decide) (br_t ?_ ⟨qs0 _, rfl, hP0 _ h.th0⟩)))))))
    simp (disch := omega) only [qu_e]; omega
theorem s_pbegin {o a b : Int} {V : qV} {Q : qV → Prop} (k : Q (fl (qu (qu (qu V o 0 a) o 1 b) o 3 0) (o + 1) 0 4 (fun _ => 0))) : W_X5_begin o a b V Q := by
  have main : ∀ (f : Nat) (i : Int) (V1 : qV), 0 ≤ i → i ≤ 4 → 4 < i + f → Q (fl V1 (o + 1) i 4 (fun _ => 0)) → lp_X5_begin_17 o (fun l3x7 V7 => Q V7) f i V1 := by
    intro f
    induction f with
    | zero => intro i V1 a b c; omega
    | succ f ih =>
      intro i V1 h0 h1 hf hk
      rw [lp_X5_begin_17]
      refine br_c (fun c => ?_) (fun c => ⟨by omega, zr_i (by omega) (by omega), ih (i + 1) _ (by omega) (by omega) (by omega) ?_⟩)
      · rwa [fl_e (by omega)] at hk
      · rw [fl_s (c := fun _ => 0) (by omega)]; exact hk
  exact main 100000 0 _ (by decide) (by decide) (by decide) k
theorem m_person_l {p : Int} {V : qV} {K : Int → qV → Prop} (hp : 0 ≤ p ∧ p < 16) (k : K 4 (fl V 603 (70 + 4 * p) (70 + 4 * p + 4) (fun _ => 0))) : lp_X11_person_91 p K 100000 0 V := by
  have main : ∀ (f : Nat) (i : Int) (V1 : qV), 0 ≤ i → i ≤ 4 → 4 < i + f → K 4 (fl V1 603 (70 + 4 * p + i) (70 + 4 * p + 4) (fun _ => 0)) → lp_X11_person_91 p K f i V1 := by
    intro f
    induction f with
    | zero => intro i V1 a b c; omega
    | succ f ih =>
      intro i V1 h0 h1 hf hk
      rw [lp_X11_person_91]
      refine br_c (fun c => ?_) (fun c => ⟨zr_i (by omega) (by omega), zr_i (by omega) (by omega), zr_i (by omega) (by omega), by omega, zr_i (by omega) (by omega), ih (i + 1) _ (by omega) (by omega) (by omega) ?_⟩)
      · have e : i = 4 := by omega
        subst e
        rwa [fl_e (by omega)] at hk
      · rw [show 70 + 4 * p + (i + 1) = 70 + 4 * p + i + 1 by omega, fl_s (c := fun _ => 0) (by omega)]; exact hk
  exact main 100000 0 V (by decide) (by decide) (by decide) (by rw [Int.add_zero]; exact k)
theorem t_person {n : Int} {a : Int} {b : Int} {V : qV} {J : qJ} {P : qV → Prop} (h : Rel n V J) (hP0 : ∀ V2, Rel (n + 1) V2 J → P V2) : W_X10_person a b V (fun r V1 => W_X11_person a b V1 (fun s V2 => V2 602 0 = 0 ∧ r = s ∧ P V2)) (fun E V1 => (E = "java/lang/IllegalArgumentException" ∧ W_X11_person a b V1 (fun s V2 => V2 602 0 = 1 ∧ P V2))) := by
  have ht := h.2.2.2.1
  obtain ⟨hU, hP, hG, hF, hC, hS, hA⟩ := ht
  have h21 := hP.1
  refine if ha : 0 ≤ a ∧ a ≤ 1 then ?_ else s_tR0 ha ⟨rfl, m_in0 ha (br_t rfl (m_may0 (qs0 _) (by decide) (br_t rfl ⟨qu_s _ _ _ _, hP0 _ h.th⟩)))⟩
  refine s_tR1 ha ?_
  refine if hb : 0 ≤ b ∧ b ≤ 4095 then ?_ else s_tR0 hb ⟨rfl, m_in1 ha (br_f (by decide) (m_in0 hb (br_t rfl (m_may0 (qs0 _) (by decide) (br_t rfl ⟨qu_s _ _ _ _, hP0 _ h.th⟩)))))⟩
  refine s_tR1 hb (br_c (fun z => ⟨by omega, s_pbegin ?_⟩) (fun z => ?_))
  · simp (disch := omega) only [qu_e, qu_s, fl_x]
    refine ⟨zr_i (by omega) (by omega), zr_i (by omega) (by omega), m_in1 ha (br_f (by decide) (m_in1 hb (br_f (by decide) (m_may1 (qs0 _) (br_f (by decide) (br_f ?_ ?_))))))⟩
    · simp (disch := omega) only [qu_e, fl_x]; omega
    · simp (disch := omega) only [qu_e, qu_s, fl_x]
      refine ⟨zr_i (by omega) (by omega), by omega, zr_i (by omega) (by omega), by omega, zr_i (by omega) (by omega), by omega, m_person_l (by omega) ?_⟩
      simp (disch := omega) only [qu_e, qu_s, fl_x]
      refine ⟨zr_i (by omega) (by omega), trivial, by omega, hP0 _ ?_⟩
      generalize hV2 : (qu (fl (qu (qu (qu (qu (qu (fl (qu (qu (qu V (22 + 2 * V 12 8) 0 a) (22 + 2 * V 12 8) 1 b) (22 + 2 * V 12 8) 3 0) (22 + 2 * V 12 8 + 1) 0 4 fun _ => 0) 12 8 (V 12 8 + 1)) 602 0 0) 603 (22 + V 603 21) a) 603 (38 + V 603 21) b) 603 (54 + V 603 21) 0) 603 (70 + 4 * V 603 21) (70 + 4 * V 603 21 + 4) fun _ => 0) 603 21 (V 603 21 + 1)) = V2
      have e : ∀ o j, ¬ (22 + 2 * V 603 21 ≤ o ∧ o ≤ 22 + 2 * V 603 21 + 1) ∧ ¬ (o = 12 ∧ j = 8) ∧ ¬ (o = 602 ∧ j = 0) ∧ o ≠ 603 → V2 o j = V o j := fun o j p => by rw [← hV2]; simp (disch := omega) only [qu_e, fl_x]
      have ew : ∀ k, k ≠ 21 ∧ k ≠ 22 + V 603 21 ∧ k ≠ 38 + V 603 21 ∧ k ≠ 54 + V 603 21 ∧ ¬ (70 + 4 * V 603 21 ≤ k ∧ k < 70 + 4 * V 603 21 + 4) → V2 603 k = V 603 k := fun k p => by rw [← hV2]; simp (disch := omega) only [qu_e, fl_x]
      have x8 : V2 12 8 = V 603 21 + 1 := by rw [← hV2]; simp (disch := omega) only [qu_e, qu_s, fl_x]; omega
      have y21 : V2 603 21 = V 603 21 + 1 := by rw [← hV2, qu_s]
      have x0 : V2 (22 + 2 * V 603 21) 0 = a := by rw [← hV2]; simp (disch := omega) only [qu_e, qu_y, fl_x]
      have x1 : V2 (22 + 2 * V 603 21) 1 = b := by rw [← hV2]; simp (disch := omega) only [qu_e, qu_y, fl_x]
      have x3 : V2 (22 + 2 * V 603 21) 3 = 0 := by rw [← hV2]; simp (disch := omega) only [qu_e, qu_y, fl_x]
      have xk : ∀ k, 0 ≤ k → k < 4 → V2 (22 + 2 * V 603 21 + 1) k = 0 := fun k p q => by rw [← hV2]; simp (disch := omega) only [qu_e, fl_x, fl_y]
      have y0 : V2 603 (22 + V 603 21) = a := by rw [← hV2]; simp (disch := omega) only [qu_e, qu_s, fl_x]
      have y1 : V2 603 (38 + V 603 21) = b := by rw [← hV2]; simp (disch := omega) only [qu_e, qu_s, fl_x]
      have y3 : V2 603 (54 + V 603 21) = 0 := by rw [← hV2]; simp (disch := omega) only [qu_e, qu_s, fl_x]
      have yk : ∀ k, 0 ≤ k → k < 4 → V2 603 (70 + 4 * V 603 21 + k) = 0 := fun k p q => by rw [← hV2]; simp (disch := omega) only [qu_e, fl_x, fl_y]
      clear hV2
      refine h.tl (by omega) (fun o j p q r => e o j (by unfold scrC at p; omega)) (fun _ _ _ => rfl) (ew _ (by omega)) ⟨hU.fw (e _ _ (by omega)) (fun o j p q => e o j (by omega)) (fun k p q => ew k (by omega)), ?_, hG.fw (fun o j p q => e o j (by omega)) (fun k p q => ew k (by omega)), ?_, ?_, ?_, hA.fw (e _ _ (by omega)) (ew _ (by omega)) (fun _ => rfl)⟩
      · refine ⟨by rw [x8, y21]; omega, fun p q r => ?_⟩
        rw [y21] at r
        by_cases hp : p = V 603 21
        · subst hp
          rw [show (12 : Int) + 10 + 2 * V 603 21 = 22 + 2 * V 603 21 by omega]
          exact ⟨by rw [x0, y0]; omega, by rw [x1, y1]; omega, by rw [x3, y3]; omega, fun k s u => by rw [xk k s u, yk k s u]; omega⟩
        · have h9 := hP.2 p q (by omega)
          exact ⟨by simp (disch := omega) only [e, ew]; exact h9.1, by simp (disch := omega) only [e, ew]; exact h9.2.1, by simp (disch := omega) only [e, ew]; exact h9.2.2.1, fun k s u => by simp (disch := omega) only [e, ew]; exact h9.2.2.2 k s u⟩
      · exact hF.fw (e _ _ (by omega)) (fun o j p q => e o j (by omega)) (fun k p q => ew k (by omega)) (ew _ (by omega)) (fun k p q => ew k (by omega)) (by rw [y21]; omega) (by rw [ew _ (by omega)]; exact Int.le_refl _)
      · exact hC.fw (e _ _ (by omega)) (fun o j p q => e o j (by omega)) (fun k p q => ew k (by omega)) (by rw [ew _ (by omega)]; exact Int.le_refl _) (by rw [y21]; omega)
      · exact hS.fw (e _ _ (by omega)) (fun o j p q => e o j (by omega)) (fun k p q => ew k (by omega)) (by rw [ew _ (by omega)]; exact Int.le_refl _) (by rw [y21]; omega)
  · refine m_in1 ha (br_f (by decide) (m_in1 hb (br_f (by decide) (m_may1 (qs0 _) (br_f (by decide) (br_t ?_ ⟨qs0 _, rfl, hP0 _ h.th0⟩))))))
    simp (disch := omega) only [qu_e]; omega
theorem t_ground {n : Int} {a : Int} {b : Int} {c : Int} {V : qV} {J : qJ} {P : qV → Prop} (hb : b = 0 ∨ b = 1) (h : Rel n V J) (hP0 : ∀ V2, Rel (n + 1) V2 J → P V2) : W_X10_ground a b c V (fun r V1 => W_X11_ground a b c V1 (fun s V2 => V2 602 0 = 0 ∧ r = s ∧ P V2)) (fun E V1 => (E = "java/lang/IllegalArgumentException" ∧ W_X11_ground a b c V1 (fun s V2 => V2 602 0 = 1 ∧ P V2)) ∨ (E = "java/util/NoSuchElementException" ∧ W_X11_ground a b c V1 (fun s V2 => V2 602 0 = 2 ∧ P V2))) := by
  have ht := h.2.2.2.1
  obtain ⟨hU, hP, hG, hF, hC, hS, hA⟩ := ht
  have h21 := hP.1
  have w21 : (qu V 602 0 0) 603 21 = V 603 21 := q602 _ _ _ (by decide)
  refine if ha : 0 ≤ a ∧ a ≤ 3 then ?_ else s_tR0 ha (Or.inl ⟨rfl, m_in0 (V := V) ha (m_may0 (qs0 _) (by decide) (br_t rfl ⟨qu_s _ _ _ _, hP0 _ h.th⟩))⟩)
  refine s_tR1 ha ?_
  have hg := hG a ha.1 (by omega)
  have fin : (qu (qu (qu (qu (qu V 16 a b) 17 a c) 602 0 0) 603 (134 + a) b) 603 (138 + a) c) 602 0 = 0 ∧ V 17 a = (qu (qu (qu V 16 a b) 17 a c) 602 0 0) 603 (138 + a) ∧ P (qu (qu (qu (qu (qu V 16 a b) 17 a c) 602 0 0) 603 (134 + a) b) 603 (138 + a) c) := by
    refine ⟨by simp (disch := omega) only [qu_e, qu_s], ?_, hP0 _ ?_⟩
    · simp (disch := omega) only [qu_e]; exact hg.2
    · generalize hV2 : (qu (qu (qu (qu (qu V 16 a b) 17 a c) 602 0 0) 603 (134 + a) b) 603 (138 + a) c) = V2
      have e : ∀ o j, ¬ ((o = 16 ∨ o = 17) ∧ j = a) ∧ ¬ (o = 602 ∧ j = 0) ∧ o ≠ 603 → V2 o j = V o j := fun o j p => by rw [← hV2]; simp (disch := omega) only [qu_e]
      have ew : ∀ k, k ≠ 134 + a ∧ k ≠ 138 + a → V2 603 k = V 603 k := fun k p => by rw [← hV2]; simp (disch := omega) only [qu_e]
      have x0 : V2 16 a = b := by rw [← hV2]; simp (disch := omega) only [qu_e, qu_s]
      have x1 : V2 17 a = c := by rw [← hV2]; simp (disch := omega) only [qu_e, qu_s]
      have y0 : V2 603 (134 + a) = b := by rw [← hV2]; simp (disch := omega) only [qu_e, qu_s]
      have y1 : V2 603 (138 + a) = c := by rw [← hV2, qu_s]
      clear hV2
      refine h.tl (by omega) (fun o j p q r => e o j (by unfold scrC at p; omega)) (fun _ _ _ => rfl) (ew _ (by omega)) ⟨hU.fw (e _ _ (by omega)) (fun o j p q => e o j (by omega)) (fun k p q => ew k (by omega)), hP.fw (e _ _ (by omega)) (fun o j p q => e o j (by omega)) (fun k p q => ew k (by omega)), ?_, hF.fw (e _ _ (by omega)) (fun o j p q => e o j (by omega)) (fun k p q => ew k (by omega)) (ew _ (by omega)) (fun k p q => ew k (by omega)) (by rw [ew _ (by omega)]; exact Int.le_refl _) (by rw [ew _ (by omega)]; exact Int.le_refl _), hC.fw (e _ _ (by omega)) (fun o j p q => e o j (by omega)) (fun k p q => ew k (by omega)) (by rw [ew _ (by omega)]; exact Int.le_refl _) (by rw [ew _ (by omega)]; exact Int.le_refl _), hS.fw (e _ _ (by omega)) (fun o j p q => e o j (by omega)) (fun k p q => ew k (by omega)) (by rw [ew _ (by omega)]; exact Int.le_refl _) (by rw [ew _ (by omega)]; exact Int.le_refl _), hA.fw (e _ _ (by omega)) (ew _ (by omega)) (fun _ => rfl)⟩
      intro k p q
      by_cases hk : k = a
      · subst hk
        rw [show (12 : Int) + 4 = 16 from rfl, show (12 : Int) + 5 = 17 from rfl, x0, x1, y0, y1]; omega
      · simp (disch := omega) only [e, ew]; exact hG k p q
  have fin2 : ∀ Q : Int → qV → Prop, (Q = fun s V2 => V2 602 0 = 0 ∧ V 17 a = s ∧ P V2) → (zr (138 + a) ∧ ((0 ≤ 138 + a ∧ 138 + a < 594) ∧ (zr (134 + a) ∧ ((b = 0 → ((0 ≤ 134 + a ∧ 134 + a < 594) ∧ (zr (138 + a) ∧ ((0 ≤ 138 + a ∧ 138 + a < 594) ∧ Q ((qu (qu (qu V 16 a b) 17 a c) 602 0 0) 603 (138 + a)) (qu (qu (qu (qu (qu V 16 a b) 17 a c) 602 0 0) 603 (134 + a) 0) 603 (138 + a) c))))) ∧ (¬ b = 0 → ((0 ≤ 134 + a ∧ 134 + a < 594) ∧ (zr (138 + a) ∧ ((0 ≤ 138 + a ∧ 138 + a < 594) ∧ Q ((qu (qu (qu V 16 a b) 17 a c) 602 0 0) 603 (138 + a)) (qu (qu (qu (qu (qu V 16 a b) 17 a c) 602 0 0) 603 (134 + a) 1) 603 (138 + a) c))))))))) := by
    intro Q hQ
    subst hQ
    refine ⟨zr_i (by omega) (by omega), by omega, zr_i (by omega) (by omega), ?_⟩
    rcases hb with rfl | rfl
    · exact br_t rfl ⟨by omega, zr_i (by omega) (by omega), by omega, fin⟩
    · exact br_f (by decide) ⟨by omega, zr_i (by omega) (by omega), by omega, fin⟩
  refine br_c (fun z => ⟨by omega, ?_⟩) (fun z => ?_)
  · have go : W_X11_ground a b c (qu (qu V 16 a b) 17 a c) (fun s V2 => V2 602 0 = 0 ∧ V 17 a = s ∧ P V2) := m_in1 (V := V) ha (m_may1 (qs0 _) (br_f (by decide) (br_t z (fin2 _ rfl))))
    rcases hb with rfl | rfl
    · exact br_t rfl ⟨by omega, by omega, go⟩
    · exact br_f (by decide) ⟨by omega, by omega, go⟩
  · refine if hc : 0 ≤ c ∧ c < V 12 8 then ?_ else s_pO0 hc (Or.inr ⟨rfl, m_in1 (V := V) ha (m_may1 (qs0 _) (br_f (by decide) (br_f z (m_ip0 (qs0 _) (by rw [w21]; exact h21.2) (by decide) (by rw [w21, ← h21.1]; exact hc) (br_t rfl ⟨qu_s _ _ _ _, hP0 _ h.th⟩)))))⟩)
    have go : W_X11_ground a b c (qu (qu V 16 a b) 17 a c) (fun s V2 => V2 602 0 = 0 ∧ V 17 a = s ∧ P V2) := m_in1 (V := V) ha (m_may1 (qs0 _) (br_f (by decide) (br_f z (m_ip1 (qs0 _) (by simp (disch := omega) only [qu_e]; exact h21.2) (by simp (disch := omega) only [qu_e]; omega) (br_f (by decide) (fin2 _ rfl))))))
    refine s_pO1 hc (by omega) ⟨by omega, ?_⟩
    rcases hb with rfl | rfl
    · exact br_t rfl ⟨by omega, by omega, go⟩
    · exact br_f (by decide) ⟨by omega, by omega, go⟩
