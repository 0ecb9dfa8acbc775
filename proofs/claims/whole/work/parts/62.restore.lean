/-! images made and taken back -/
theorem tR.fww {V : qV} {J : qJ} {t : Int} {w w' : Int → Int} {cs : Int → Int → Prop} (h : tR V J t w cs) (hw : ∀ k, 0 ≤ k → k < 594 → w' k = w k) : tR V J t w' cs := by
  obtain ⟨hU, hP, hG, hF, hC, hS, hA⟩ := h
  have r1 := hP.1
  have r2 := hF.1
  have r3 := hC.1
  have r4 := hS.1
  exact ⟨hU.fw rfl (fun _ _ _ _ => rfl) (fun k a b => hw k a (by omega)), hP.fw rfl (fun _ _ _ _ => rfl) (fun k a b => hw k (by omega) (by omega)), hG.fw (fun _ _ _ _ => rfl) (fun k a b => hw k (by omega) (by omega)),
    hF.fw rfl (fun _ _ _ _ => rfl) (fun k a b => hw k (by omega) (by omega)) (hw _ (by decide) (by decide)) (fun k a b => hw k (by omega) (by omega)) (by rw [hw 21 (by decide) (by decide)]; omega) (by rw [hw 20 (by decide) (by decide)]; omega),
    hC.fw rfl (fun _ _ _ _ => rfl) (fun k a b => hw k (by omega) (by omega)) (by rw [hw 142 (by decide) (by decide)]; omega) (by rw [hw 21 (by decide) (by decide)]; omega),
    hS.fw rfl (fun _ _ _ _ => rfl) (fun k a b => hw k (by omega) (by omega)) (by rw [hw 142 (by decide) (by decide)]; omega) (by rw [hw 21 (by decide) (by decide)]; omega), hA.fw rfl (hw _ (by decide) (by decide)) (fun _ => rfl)⟩
theorem tpR.fr {V V' : qV} (h : tpR V) (h1 : V' 1 1 = V 1 1) (h2 : V' 602 12 = V 602 12) (hV : ∀ o j, o = 2 ∨ o = 613 → V' o j = V o j) : tpR V' := by
  refine ⟨by rw [h1, h2]; exact h.1, fun k a b => ?_⟩
  rw [hV _ _ (Or.inl rfl), hV _ _ (Or.inr rfl)]; exact h.2 k a b
theorem t_image {n : Int} {V : qV} {J : qJ} {P : qV → qJ → Prop} (h : Rel n V J) (hP0 : ∀ V2 J2, Rel (n + 1) V2 J2 → P V2 J2) : W_X10_image V J (fun r V1 J1 => W_X11_image V1 (fun s V2 => V2 602 0 = 0 ∧ r = s ∧ P V2 J1)) := by
  have h5 := h.2.2.2.2.1
  have h33 := h5.1
  refine br_c (fun y => ⟨by omega, ?_⟩) (fun y => ?_)
  · obtain ⟨c, hc⟩ : ∃ c, c = V 0 5 := ⟨_, rfl⟩
    rw [← hc] at y ⊢
    have hc3 : c = 0 ∨ c = 1 ∨ c = 2 := by omega
    refine s_copy (by omega) h.2.2.2.1 (fun V3 J3 a1 a2 a3 => ?_)
    rw [a1 0 5 (by omega), ← hc, qu_s]
    refine ⟨zr_i (by omega) (by omega), ?_⟩
    have q33 : (qu (qu V3 0 5 (c + 1)) 602 0 0) 602 33 = c := by rw [qu_e (by omega), qu_e (by omega), a1 _ _ (by omega)]; omega
    unfold W_X11_image
    dsimp only
    rw [q33]
    refine br_f (by omega) ?_
    have b1 : ∀ o j, ¬ (188 + 138 * c ≤ o ∧ o < 188 + 138 * c + 138) → ¬ (o = 0 ∧ j = 5) → ¬ (o = 602 ∧ j = 0) → (qu (qu V3 0 5 (c + 1)) 602 0 0) o j = V o j := fun o j u v x => by rw [qu_e (by omega), qu_e (by omega), a1 o j u]
    have b2 : ∀ o j, (188 + 138 * c ≤ o ∧ o < 188 + 138 * c + 138) → (qu (qu V3 0 5 (c + 1)) 602 0 0) o j = V3 o j := fun o j u => by rw [qu_e (by omega), qu_e (by omega)]
    have b3 : (qu (qu V3 0 5 (c + 1)) 602 0 0) 0 5 = c + 1 := by rw [qu_e (by omega), qu_s]
    have b4 := qs0 (qu V3 0 5 (c + 1))
    generalize (qu (qu V3 0 5 (c + 1)) 602 0 0) = V4 at q33 b1 b2 b3 b4 ⊢
    have main : ∀ (g : Nat) (i : Int) (V5 : qV), 0 ≤ i → i ≤ 594 → 594 < i + g → (∀ o j, o ≠ 623 → V5 o j = V4 o j) → (∀ j, ¬ (594 * c ≤ j ∧ j < 594 * c + i) → V5 623 j = V4 623 j) → (∀ m, 0 ≤ m → m < i → V5 623 (594 * c + m) = V4 603 m) → lp_X11_image_17 (fun l1x8 V8 => (zr ((V8 602 33) + 1) ∧ ((qu V8 602 33 ((V8 602 33) + 1)) 602 0 = 0 ∧ c + 1 = ((qu V8 602 33 ((V8 602 33) + 1)) 602 33) ∧ P (qu V8 602 33 ((V8 602 33) + 1)) J3))) g i V5 := by
      intro g
      induction g with
      | zero => intro i V5 u v x; omega
      | succ g ih =>
        intro i V5 u v x e1 e2 e3
        rw [lp_X11_image_17, e1 602 33 (by decide), q33]
        refine br_c (fun z => ⟨zr_i (by omega) (by omega), by rw [qu_e (by omega), e1 _ _ (by decide)]; exact b4, by rw [qu_s], hP0 _ _ ?_⟩) (fun z => ⟨zr_i (by omega) (by omega), zr_i (by omega) (by omega), by omega, by omega, zr_i (by omega) (by omega), ih _ _ (by omega) (by omega) (by omega) (fun o j p => by rw [qu_o _ _ p]; exact e1 o j p) (fun j p => ?_) (fun m p q => ?_)⟩)
        · have hi : i = 594 := by omega
          subst hi
          have f1 : ∀ o j, ¬ (188 + 138 * c ≤ o ∧ o < 188 + 138 * c + 138) → ¬ (o = 0 ∧ j = 5) → ¬ (o = 602 ∧ (j = 0 ∨ j = 33)) → o ≠ 623 → (qu V5 602 33 (c + 1)) o j = V o j := fun o j p q r s => by rw [qu_e (by omega), e1 o j s, b1 o j p q (by omega)]
          have f2 : ∀ o j, (188 + 138 * c ≤ o ∧ o < 188 + 138 * c + 138) → (qu V5 602 33 (c + 1)) o j = V3 o j := fun o j p => by rw [qu_e (by omega), e1 o j (by omega), b2 o j p]
          have f3 : ∀ i k, 0 ≤ i → i < c → 0 ≤ k → k < 594 → wI (qu V5 602 33 (c + 1)) i k = wI V i k := fun i k p q r s => by
            unfold wI
            rw [qu_e (by omega), e2 _ (by omega), b1 _ _ (by omega) (by omega) (by omega)]
          have f4 : ∀ k, 0 ≤ k → k < 594 → wI (qu V5 602 33 (c + 1)) c k = V 603 k := fun k p q => by
            unfold wI
            rw [qu_e (by omega), e3 k p q, b1 _ _ (by omega) (by omega) (by omega)]
          have f5 : (qu V5 602 33 (c + 1)) 602 33 = c + 1 := qu_s _ _ _ _
          have f6 : (qu V5 602 33 (c + 1)) 0 5 = c + 1 := by rw [qu_e (by omega), e1 _ _ (by decide)]; exact b3
          generalize (qu V5 602 33 (c + 1)) = V6 at f1 f2 f3 f4 f5 f6 ⊢
          have e63 : V6 603 = V 603 := by funext j; exact f1 _ _ (by omega) (by omega) (by omega) (by omega)
          have ecs : cS V6 = cS V := cS_fr (fun o j p q => f1 _ _ (by omega) (by omega) (by omega) (by omega))
          refine h.bld (by omega) (h.1.fr (f1 _ _ (by omega) (by omega) (by omega) (by omega)) (f1 _ _ (by omega) (by omega) (by omega) (by omega)) (fun o j p => f1 _ _ (by omega) (by omega) (by omega) (by omega))) (fun o j p => f1 _ _ (by omega) (by omega) (by omega) (by omega)) (fun j => a2 _ _ (by omega)) ?_ ⟨?_, fun i p q => ?_, fun i j p q r => ?_⟩ (by rw [e63]; omega)
          · rw [e63, ecs]
            exact h.2.2.2.1.fr (fun o j p q => f1 _ _ (by omega) (by omega) (by omega) (by omega)) (fun j => a2 _ _ (by omega))
          · rw [f5, f6]; omega
          · rw [f5] at q
            rw [e63, ecs]
            by_cases hi : i = c
            · subst hi
              rw [f4 593 (by decide) (by decide)]
              exact ⟨(a3.fr (fun o j p q => f2 o j (by omega)) (fun _ => rfl)).fww f4, by omega⟩
            · have h9 := h5.2.1 i p (by omega)
              have hi3 : i = 0 ∨ i = 1 := by omega
              rw [f3 i 593 p (by omega) (by decide) (by decide)]
              exact ⟨(h9.1.fr (fun o j p q => f1 _ _ (by omega) (by omega) (by omega) (by omega)) (fun j => a2 _ _ (by omega))).fww (fun k r s => f3 i k p (by omega) r s), h9.2⟩
          · rw [f5] at r
            by_cases hj : j = c
            · subst hj
              rw [f4 593 (by decide) (by decide)]
              by_cases hi : i = j
              · subst hi; rw [f4 593 (by decide) (by decide)]; omega
              · rw [f3 i 593 p (by omega) (by decide) (by decide)]; exact (h5.2.1 i p (by omega)).2
            · rw [f3 i 593 p (by omega) (by decide) (by decide), f3 j 593 (by omega) (by omega) (by decide) (by decide)]
              exact h5.2.2 i j p q (by omega)
        · rw [qu_e (by omega)]; exact e2 j (by omega)
        · by_cases hm : m = i
          · subst hm; rw [qu_s, e1 _ _ (by decide)]
          · rw [qu_e (by omega)]; exact e3 m p (by omega)
    exact main 100000 0 V4 (by decide) (by decide) (by decide) (fun _ _ _ => rfl) (fun _ _ => rfl) (fun m p q => by omega)
  · have q33 : (qu V 602 0 0) 602 33 = V 0 5 := by rw [qu_e (by omega)]; omega
    unfold W_X11_image
    dsimp only
    rw [q33]
    exact br_t (by omega) ⟨qs0 _, rfl, hP0 _ _ h.th0⟩
theorem t_restore {n : Int} {V : qV} {J : qJ} {P : qV → qJ → Prop} (h : Rel n V J) (hP0 : ∀ V2 J2, Rel (n + 1) V2 J2 → P V2 J2) : W_X10_restore V J (fun r V1 J1 => W_X11_restore V1 (fun s V2 => V2 602 0 = 0 ∧ r = s ∧ P V2 J1)) := by
  have h5 := h.2.2.2.2.1
  have h33 := h5.1
  refine br_c (fun y => ?_) (fun y => br_t (by omega) ⟨zr_i (by omega) (by omega), ?_⟩)
  · have q33 : (qu V 602 0 0) 602 33 = V 0 5 := by rw [qu_e (by omega)]; omega
    unfold W_X11_restore
    dsimp only
    rw [q33]
    exact br_t (by omega) ⟨qs0 _, rfl, hP0 _ _ h.th0⟩
  · obtain ⟨c, hc⟩ : ∃ c, c = V 0 5 - 1 := ⟨_, rfl⟩
    have hc3 : c = 0 ∨ c = 1 ∨ c = 2 := by omega
    rw [← hc, qu_s]
    have hcc := h5.2.1 c (by omega) (by omega)
    refine ⟨by omega, s_copy (w := wI V c) (cs := cS V) (by omega) (hcc.1.fr (fun o j p q => qu_e (by omega)) (fun _ => rfl)) (fun V3 J3 a1 a2 a3 => ?_)⟩
    have a1' : ∀ o j, ¬ (12 ≤ o ∧ o < 12 + 138) → ¬ (o = 0 ∧ j = 5) → V3 o j = V o j := fun o j p q => by rw [a1 o j p, qu_e q]
    have a05 : V3 0 5 = c := by rw [a1 _ _ (by omega), qu_s]
    have q33 : (qu V3 602 0 0) 602 33 = c + 1 := by rw [qu_e (by omega), a1' _ _ (by omega) (by omega)]; omega
    rw [a05]
    unfold W_X11_restore
    dsimp only
    rw [q33, show c + 1 - 1 = c by omega]
    refine br_f (by omega) ⟨zr_i (by omega) (by omega), ?_⟩
    have b1 : ∀ o j, ¬ (o = 602 ∧ (j = 0 ∨ j = 33)) → (qu (qu V3 602 0 0) 602 33 c) o j = V3 o j := fun o j u => by rw [qu_e (by omega), qu_e (by omega)]
    have b2 : (qu (qu V3 602 0 0) 602 33 c) 602 33 = c := qu_s _ _ _ _
    have b3 : (qu (qu V3 602 0 0) 602 33 c) 602 0 = 0 := by rw [qu_e (by omega)]; exact qs0 _
    generalize (qu (qu V3 602 0 0) 602 33 c) = V4 at b1 b2 b3 ⊢
    have main : ∀ (g : Nat) (i : Int) (V5 : qV), 0 ≤ i → i ≤ 594 → 594 < i + g → (∀ o j, o ≠ 603 → V5 o j = V4 o j) → (∀ m, 0 ≤ m → m < i → V5 603 m = V4 623 (594 * c + m)) → lp_X11_restore_26 (fun l1x10 V10 => V10 602 0 = 0 ∧ c = V10 602 33 ∧ P V10 J3) g i V5 := by
      intro g
      induction g with
      | zero => intro i V5 u v x; omega
      | succ g ih =>
        intro i V5 u v x e1 e3
        rw [lp_X11_restore_26, e1 602 33 (by decide), b2]
        refine br_c (fun z => ⟨by rw [e1 _ _ (by decide)]; exact b3, rfl, hP0 _ _ ?_⟩) (fun z => ⟨zr_i (by omega) (by omega), zr_i (by omega) (by omega), by omega, by omega, zr_i (by omega) (by omega), ih _ _ (by omega) (by omega) (by omega) (fun o j p => by rw [qu_o _ _ p]; exact e1 o j p) (fun m p q => ?_)⟩)
        · have hi : i = 594 := by omega
          subst hi
          have f1 : ∀ o j, ¬ (12 ≤ o ∧ o < 12 + 138) → ¬ (o = 0 ∧ j = 5) → ¬ (o = 602 ∧ (j = 0 ∨ j = 33)) → o ≠ 603 → V5 o j = V o j := fun o j p q r s => by rw [e1 o j s, b1 o j r, a1' o j p q]
          have f2 : ∀ o j, 12 ≤ o → o < 12 + 138 → V5 o j = V3 o j := fun o j p q => by rw [e1 o j (by omega), b1 o j (by omega)]
          have f3 : ∀ i, wI V5 i = wI V i := fun i => by funext k; unfold wI; exact f1 _ _ (by omega) (by omega) (by omega) (by omega)
          have f4 : ∀ k, 0 ≤ k → k < 594 → V5 603 k = wI V c k := fun k p q => by
            rw [e3 k p q, b1 _ _ (by omega), a1' _ _ (by omega) (by omega)]; rfl
          have f5 : V5 602 33 = c := by rw [e1 _ _ (by decide)]; exact b2
          have f6 : V5 0 5 = c := by rw [e1 _ _ (by decide), b1 _ _ (by omega)]; exact a05
          have ecs : cS V5 = cS V := cS_fr (fun o j p q => f1 _ _ (by omega) (by omega) (by omega) (by omega))
          refine h.bld (by omega) (h.1.fr (f1 _ _ (by omega) (by omega) (by omega) (by omega)) (f1 _ _ (by omega) (by omega) (by omega) (by omega)) (fun o j p => f1 _ _ (by omega) (by omega) (by omega) (by omega))) (fun o j p => f1 _ _ (by omega) (by omega) (by omega) (by omega)) (fun j => a2 _ _ (by omega)) ?_ ⟨?_, fun i p q => ?_, fun i j p q r => ?_⟩ (by rw [f4 593 (by decide) (by decide)]; exact hcc.2)
          · rw [ecs]
            exact (a3.fr f2 (fun _ => rfl)).fww f4
          · rw [f5, f6]; omega
          · rw [f5] at q
            have hi3 : i = 0 ∨ i = 1 := by omega
            have h9 := h5.2.1 i p (by omega)
            rw [f3, ecs, f4 593 (by decide) (by decide)]
            exact ⟨h9.1.fr (fun o j p q => f1 _ _ (by omega) (by omega) (by omega) (by omega)) (fun j => a2 _ _ (by omega)), h5.2.2 i c p (by omega) (by omega)⟩
          · rw [f5] at r
            rw [f3, f3]; exact h5.2.2 i j p q (by omega)
        · by_cases hm : m = i
          · subst hm; rw [qu_s, e1 _ _ (by decide)]
          · rw [qu_e (by omega)]; exact e3 m p (by omega)
    exact main 100000 0 V4 (by decide) (by decide) (by decide) (fun _ _ _ => rfl) (fun m p q => by omega)
