/-! images -/
theorem qcp_x {α : Type} {f : Int → Int → α} {b a n i j : Int} (h : ¬ (i = a ∧ j < n)) : qcp f b a n i j = f i j := by unfold qcp; rw [if_neg h]
theorem qcp_y {α : Type} {f : Int → Int → α} {b a n i j : Int} (h : i = a ∧ j < n) : qcp f b a n i j = f b j := by unfold qcp; rw [if_pos h]
theorem s_pcopy {a b : Int} {V : qV} {Q : qV → Prop} (hab : b ≠ a ∧ b ≠ a + 1 ∧ b + 1 ≠ a) (h3 : V b 3 = 0 ∨ V b 3 = 1) (k : ∀ V', (∀ o j, o ≠ a → o ≠ a + 1 → V' o j = V o j) → V' a 0 = V b 0 → V' a 1 = V b 1 → V' a 3 = V b 3 → (∀ i, 0 ≤ i → i < 4 → V' (a + 1) i = V (b + 1) i) → Q V') : W_X5_copy a b V Q := by
  unfold W_X5_copy
  refine ⟨by simp (disch := omega) only [qu_e]; exact h3, k _ (fun o j x y => ?_) ?_ ?_ ?_ (fun i x y => ?_)⟩
  · simp (disch := omega) only [qcp_x, qu_e]
  · simp (disch := omega) only [qcp_x, qu_e, qu_y]
  · simp (disch := omega) only [qcp_x, qu_e, qu_y]
  · simp (disch := omega) only [qcp_x, qu_e, qu_y]
  · simp (disch := omega) only [qcp_y, qu_e]
theorem s_fcopy {a b : Int} {V : qV} {Q : qV → Prop} (hab : b + 3 < a ∨ a + 3 < b) (k : ∀ V', (∀ o j, ¬ (a ≤ o ∧ o ≤ a + 3) → V' o j = V o j) → (∀ i, 0 ≤ i → i ≤ 9 → V' a i = V b i) → (∀ r i, 1 ≤ r → r ≤ 3 → 0 ≤ i → i < 6 → V' (a + r) i = V (b + r) i) → Q V') : W_X1_copy a b V Q := by
  unfold W_X1_copy W_X1_begin
  refine k _ (fun o j x => ?_) (fun i x y => ?_) (fun r i x y z w => ?_)
  · simp (disch := omega) only [qcp_x, qu_e]
  · have : i = 0 ∨ i = 1 ∨ i = 2 ∨ i = 3 ∨ i = 4 ∨ i = 5 ∨ i = 6 ∨ i = 7 ∨ i = 8 ∨ i = 9 := by omega
    rcases this with e | e | e | e | e | e | e | e | e | e <;> subst e <;> simp (disch := omega) only [qcp_x, qu_e, qu_y]
  · have : r = 1 ∨ r = 2 ∨ r = 3 := by omega
    rcases this with e | e | e <;> subst e <;> simp (disch := omega) only [qcp_x, qcp_y, qu_e]
theorem s_copy {a b : Int} {w : Int → Int} {cs : Int → Int → Prop} {V : qV} {J : qJ} {Q : qV → qJ → Prop} (hab : b + 138 ≤ a ∨ a + 138 ≤ b) (h : tR V J b w cs) (k : ∀ V' J', (∀ o j, ¬ (a ≤ o ∧ o < a + 138) → V' o j = V o j) → (∀ o j, o ≠ a + 1 → J' o j = J o j) → tR V' J' a w cs → Q V' J') : W_X8_copy a b V J Q := by
  obtain ⟨hU, hP, hG, hF, hC, hS, hA⟩ := h
  have h21 := hP.1
  have h142 := hF.1
  have h359 := hC.1
  have h432 := hS.1
  unfold W_X8_copy
  generalize hV0 : (qcp (qcp (qcp (qcp (qu (qu (qu (qu (qu (qu V a 0 (V b 0)) a 4 _) a 8 _) a 10 _) a 12 _) a 14 _) (b + 2) (a + 2) 10) (b + 3) (a + 3) 10) (b + 4) (a + 4) 4) (b + 5) (a + 5) 4) = V0
  have e0 : ∀ o j, ¬ (a ≤ o ∧ o ≤ a + 5) → V0 o j = V o j := fun o j x => by rw [← hV0]; simp (disch := omega) only [qcp_x, qu_e]
  have c0 : ∀ i, i = 0 ∨ i = 4 ∨ i = 8 ∨ i = 10 ∨ i = 12 ∨ i = 14 → V0 a i = V b i := fun i x => by
    rw [← hV0]
    rcases x with e | e | e | e | e | e <;> subst e <;> simp (disch := omega) only [qcp_x, qu_e, qu_y]
  have c2 : ∀ i, 0 ≤ i → i < 10 → V0 (a + 2) i = V (b + 2) i := fun i x y => by rw [← hV0]; simp (disch := omega) only [qcp_x, qcp_y, qu_e]
  have c3 : ∀ i, 0 ≤ i → i < 10 → V0 (a + 3) i = V (b + 3) i := fun i x y => by rw [← hV0]; simp (disch := omega) only [qcp_x, qcp_y, qu_e]
  have c4 : ∀ i, 0 ≤ i → i < 4 → V0 (a + 4) i = V (b + 4) i := fun i x y => by rw [← hV0]; simp (disch := omega) only [qcp_x, qcp_y, qu_e]
  have c5 : ∀ i, 0 ≤ i → i < 4 → V0 (a + 5) i = V (b + 5) i := fun i x y => by rw [← hV0]; simp (disch := omega) only [qcp_x, qcp_y, qu_e]
  clear hV0
  have L1 : ∀ (K : Int → qV → Prop), (∀ i V1, (∀ o j, ¬ (a + 10 ≤ o ∧ o < a + 42) → V1 o j = V0 o j) → (∀ p, 0 ≤ p → p < w 21 → pR V1 (a + 10 + 2 * p) w p) → K i V1) → ∀ (g : Nat) (i : Int) (V1 : qV), 0 ≤ i → i ≤ w 21 → w 21 < i + g → (∀ o j, ¬ (a + 10 ≤ o ∧ o < a + 42) → V1 o j = V0 o j) → (∀ p, 0 ≤ p → p < i → pR V1 (a + 10 + 2 * p) w p) → lp_X8_copy_123 a b (qcp J (b + 1) (a + 1) 16) K g i V1 := by
    intro K hK g
    induction g with
    | zero => intro i V1 x y z; omega
    | succ g ih =>
      intro i V1 x y z e1 e2
      rw [lp_X8_copy_123, e1 _ _ (by omega), c0 8 (by omega), h21.1]
      refine br_c (fun c => hK i V1 e1 (fun p u v => e2 p u (by omega))) (fun c => br_f (by omega) ⟨by omega, by omega, ?_⟩)
      have hq := hP.2 i x (by omega)
      have eb : ∀ o j, b ≤ o → o < b + 138 → V1 o j = V o j := fun o j u v => by rw [e1 o j (by omega), e0 o j (by omega)]
      refine s_pcopy (by omega) ?_ (fun V2 f1 f2 f3 f4 f5 => ⟨zr_i (by omega) (by omega), ih _ _ (by omega) (by omega) (by omega) (fun o j u => by rw [f1 o j (by omega) (by omega), e1 o j u]) (fun p u v => ?_)⟩)
      · rw [eb _ _ (by omega) (by omega), hq.2.2.1.1]; exact hq.2.2.1.2
      · by_cases hp : p = i
        · subst hp
          refine ⟨by rw [f2, eb _ _ (by omega) (by omega)]; exact hq.1, by rw [f3, eb _ _ (by omega) (by omega)]; exact hq.2.1, by rw [f4, eb _ _ (by omega) (by omega)]; exact hq.2.2.1, fun k u2 v2 => ?_⟩
          rw [f5 k u2 v2, eb _ _ (by omega) (by omega)]; exact hq.2.2.2 k u2 v2
        · exact (e2 p u (by omega)).fr (fun q j u2 v2 => f1 q j (by omega) (by omega))
  refine L1 _ (fun _ V1 a1 p1 => ?_) 100000 0 V0 (by decide) h21.2.1 (by omega) (fun _ _ _ => rfl) (fun p u v => by omega)
  have L2 : ∀ (K : Int → qV → Prop), (∀ i V2, (∀ o j, ¬ (a + 42 ≤ o ∧ o < a + 74) → V2 o j = V1 o j) → (∀ f, 0 ≤ f → f < w 142 → fR V2 (a + 42 + 4 * f) w (143 + 27 * f) (w 21) (w 20) ∧ V2 (a + 42 + 4 * f) 8 = lastTo w f (w 432).toNat) → K i V2) → ∀ (g : Nat) (i : Int) (V2 : qV), 0 ≤ i → i ≤ w 142 → w 142 < i + g → (∀ o j, ¬ (a + 42 ≤ o ∧ o < a + 74) → V2 o j = V1 o j) → (∀ f, 0 ≤ f → f < i → fR V2 (a + 42 + 4 * f) w (143 + 27 * f) (w 21) (w 20) ∧ V2 (a + 42 + 4 * f) 8 = lastTo w f (w 432).toNat) → lp_X8_copy_160 a b (qcp J (b + 1) (a + 1) 16) K g i V2 := by
    intro K hK g
    induction g with
    | zero => intro i V2 x y z; omega
    | succ g ih =>
      intro i V2 x y z e1 e2
      rw [lp_X8_copy_160, e1 _ _ (by omega), a1 _ _ (by omega), c0 10 (by omega), h142.1]
      refine br_c (fun c => hK i V2 e1 (fun p u v => e2 p u (by omega))) (fun c => br_f (by omega) ⟨by omega, by omega, ?_⟩)
      obtain ⟨⟨k0, k1, k2, k3, k4, k5, k6, k7, k9, kh⟩, q8⟩ := hF.2 i x (by omega)
      have eb : ∀ o j, b ≤ o → o < b + 138 → V2 o j = V o j := fun o j u v => by rw [e1 o j (by omega), a1 o j (by omega), e0 o j (by omega)]
      refine s_fcopy (by omega) (fun V3 f1 f2 f3 => ⟨zr_i (by omega) (by omega), ih _ _ (by omega) (by omega) (by omega) (fun o j u => by rw [f1 o j (by omega), e1 o j u]) (fun p u v => ?_)⟩)
      by_cases hp : p = i
      · subst hp
        have g2 : ∀ m, 0 ≤ m → m ≤ 9 → V3 (a + 42 + 4 * p) m = V (b + 42 + 4 * p) m := fun m u2 v2 => by rw [f2 m u2 v2, eb _ _ (by omega) (by omega)]
        refine ⟨⟨by rw [g2 0 (by decide) (by decide)]; exact k0, by rw [g2 1 (by decide) (by decide)]; exact k1, by rw [g2 2 (by decide) (by decide)]; exact k2, by rw [g2 3 (by decide) (by decide)]; exact k3, by rw [g2 4 (by decide) (by decide)]; exact k4, by rw [g2 5 (by decide) (by decide)]; exact k5, by rw [g2 6 (by decide) (by decide)]; exact k6, by rw [g2 7 (by decide) (by decide)]; exact k7, by rw [g2 9 (by decide) (by decide)]; exact k9, fun m u2 v2 => ?_⟩, by rw [g2 8 (by decide) (by decide)]; exact q8⟩
        rw [f3 1 m (by decide) (by decide) u2 (by omega), f3 2 m (by decide) (by decide) u2 (by omega), f3 3 m (by decide) (by decide) u2 (by omega), eb _ _ (by omega) (by omega), eb _ _ (by omega) (by omega), eb _ _ (by omega) (by omega)]
        exact kh m u2 v2
      · refine ⟨(e2 p u (by omega)).1.fr (fun q j u2 v2 => f1 q j (by omega)), ?_⟩
        rw [f1 _ _ (by omega)]; exact (e2 p u (by omega)).2
  refine L2 _ (fun _ V2 a2 p2 => ?_) 100000 0 V1 (by decide) h142.2.1 (by omega) (fun _ _ _ => rfl) (fun p u v => by omega)
  have L3 : ∀ (K : Int → qV → Prop), (∀ i V3, (∀ o j, ¬ (a + 74 ≤ o ∧ o < a + 98) → V3 o j = V2 o j) → (∀ c, 0 ≤ c → c < w 359 → ∀ m, 0 ≤ m → m ≤ 2 → V3 (a + 74 + 1 * c) m = V (b + 74 + 1 * c) m) → K i V3) → ∀ (g : Nat) (i : Int) (V3 : qV), 0 ≤ i → i ≤ w 359 → w 359 < i + g → (∀ o j, ¬ (a + 74 ≤ o ∧ o < a + 98) → V3 o j = V2 o j) → (∀ c, 0 ≤ c → c < i → ∀ m, 0 ≤ m → m ≤ 2 → V3 (a + 74 + 1 * c) m = V (b + 74 + 1 * c) m) → lp_X8_copy_197 a b (qcp J (b + 1) (a + 1) 16) K g i V3 := by
    intro K hK g
    induction g with
    | zero => intro i V3 x y z; omega
    | succ g ih =>
      intro i V3 x y z e1 e2
      rw [lp_X8_copy_197, e1 a 12 (by omega), a2 a 12 (by omega), a1 a 12 (by omega), c0 12 (by omega), h359.1]
      refine br_c (fun c => hK i V3 e1 (fun p u v => e2 p u (by omega))) (fun c => br_f (by omega) ⟨by omega, by omega, ?_⟩)
      have eb : ∀ o j, b ≤ o → o < b + 138 → V3 o j = V o j := fun o j u v => by rw [e1 o j (by omega), a2 o j (by omega), a1 o j (by omega), e0 o j (by omega)]
      rw [eb _ _ (by omega) (by omega), eb _ _ (by omega) (by omega), eb _ _ (by omega) (by omega)]
      unfold W_X0_begin
      refine ⟨zr_i (by omega) (by omega), ih _ _ (by omega) (by omega) (by omega) (fun o j u => by simp (disch := omega) only [qu_e]; exact e1 o j u) (fun p u v m u2 v2 => ?_)⟩
      by_cases hp : p = i
      · subst hp
        have : m = 0 ∨ m = 1 ∨ m = 2 := by omega
        rcases this with e | e | e <;> subst e <;> simp (disch := omega) only [qu_e, qu_y]
      · simp (disch := omega) only [qu_e]; exact e2 p u (by omega) m u2 v2
  refine L3 _ (fun _ V3 a3 p3 => ?_) 100000 0 V2 (by decide) h359.2.1 (by omega) (fun _ _ _ => rfl) (fun p u v => by omega)
  have L4 : ∀ (K : Int → qV → Prop), (∀ i V4, (∀ o j, ¬ (a + 98 ≤ o ∧ o < a + 138) → V4 o j = V3 o j) → (∀ c, 0 ≤ c → c < w 432 → ∀ m, 0 ≤ m → m ≤ 3 → V4 (a + 98 + 1 * c) m = V (b + 98 + 1 * c) m) → K i V4) → ∀ (g : Nat) (i : Int) (V4 : qV), 0 ≤ i → i ≤ w 432 → w 432 < i + g → (∀ o j, ¬ (a + 98 ≤ o ∧ o < a + 138) → V4 o j = V3 o j) → (∀ c, 0 ≤ c → c < i → ∀ m, 0 ≤ m → m ≤ 3 → V4 (a + 98 + 1 * c) m = V (b + 98 + 1 * c) m) → lp_X8_copy_247 a b (qcp J (b + 1) (a + 1) 16) K g i V4 := by
    intro K hK g
    induction g with
    | zero => intro i V4 x y z; omega
    | succ g ih =>
      intro i V4 x y z e1 e2
      rw [lp_X8_copy_247, e1 a 14 (by omega), a3 a 14 (by omega), a2 a 14 (by omega), a1 a 14 (by omega), c0 14 (by omega), h432.1]
      refine br_c (fun c => hK i V4 e1 (fun p u v => e2 p u (by omega))) (fun c => br_f (by omega) ⟨by omega, by omega, ?_⟩)
      have eb : ∀ o j, b ≤ o → o < b + 138 → V4 o j = V o j := fun o j u v => by rw [e1 o j (by omega), a3 o j (by omega), a2 o j (by omega), a1 o j (by omega), e0 o j (by omega)]
      rw [eb _ _ (by omega) (by omega), eb _ _ (by omega) (by omega), eb _ _ (by omega) (by omega), eb _ _ (by omega) (by omega)]
      unfold W_X4_begin
      refine ⟨zr_i (by omega) (by omega), ih _ _ (by omega) (by omega) (by omega) (fun o j u => by simp (disch := omega) only [qu_e]; exact e1 o j u) (fun p u v m u2 v2 => ?_)⟩
      by_cases hp : p = i
      · subst hp
        have : m = 0 ∨ m = 1 ∨ m = 2 ∨ m = 3 := by omega
        rcases this with e | e | e | e <;> subst e <;> simp (disch := omega) only [qu_e, qu_y]
      · simp (disch := omega) only [qu_e]; exact e2 p u (by omega) m u2 v2
  refine L4 _ (fun _ V4 a4 p4 => ?_) 100000 0 V3 (by decide) h432.2.1 (by omega) (fun _ _ _ => rfl) (fun p u v => by omega)
  have eJ : ∀ o j, o ≠ a + 1 → (qcp J (b + 1) (a + 1) 16) o j = J o j := fun o j x => qcp_x (by omega)
  have ez : ∀ o j, a ≤ o → o ≤ a + 5 → V4 o j = V0 o j := fun o j u v => by rw [a4 o j (by omega), a3 o j (by omega), a2 o j (by omega), a1 o j (by omega)]
  refine k V4 _ (fun o j x => by rw [a4 o j (by omega), a3 o j (by omega), a2 o j (by omega), a1 o j (by omega), e0 o j (by omega)]) eJ ⟨?_, ?_, ?_, ?_, ?_, ?_, ?_⟩
  · refine ⟨by rw [ez _ _ (by omega) (by omega), c0 4 (by omega)]; exact hU.1, fun m u v => ?_⟩
    rw [ez _ _ (by omega) (by omega), ez _ _ (by omega) (by omega), c2 m u v, c3 m u v]; exact hU.2 m u v
  · refine ⟨by rw [ez _ _ (by omega) (by omega), c0 8 (by omega)]; exact h21, fun p u v => (p1 p u v).fr (fun q j x y => ?_)⟩
    rw [a4 q j (by omega), a3 q j (by omega), a2 q j (by omega)]
  · intro m u v
    rw [ez _ _ (by omega) (by omega), ez _ _ (by omega) (by omega), c4 m u v, c5 m u v]; exact hG m u v
  · refine ⟨by rw [ez _ _ (by omega) (by omega), c0 10 (by omega)]; exact h142, fun f u v => ⟨(p2 f u v).1.fr (fun q j x y => ?_), ?_⟩⟩
    · rw [a4 q j (by omega), a3 q j (by omega)]
    · rw [a4 _ _ (by omega), a3 _ _ (by omega)]; exact (p2 f u v).2
  · refine ⟨by rw [ez _ _ (by omega) (by omega), c0 12 (by omega)]; exact h359, fun c u v => ?_⟩
    rw [a4 _ _ (by omega), a4 _ _ (by omega), a4 _ _ (by omega), p3 c u v 0 (by decide) (by decide), p3 c u v 1 (by decide) (by decide), p3 c u v 2 (by decide) (by decide)]
    exact hC.2 c u v
  · refine ⟨by rw [ez _ _ (by omega) (by omega), c0 14 (by omega)]; exact h432, fun c u v => ?_⟩
    rw [p4 c u v 0 (by decide) (by decide), p4 c u v 1 (by decide) (by decide), p4 c u v 2 (by decide) (by decide), p4 c u v 3 (by decide) (by decide)]
    exact hS.2 c u v
  · refine ⟨by rw [ez _ _ (by omega) (by omega), c0 0 (by omega)]; exact hA.1, fun v x y => ?_⟩
    rw [qcp_y (by omega)]; exact hA.2 v x y
