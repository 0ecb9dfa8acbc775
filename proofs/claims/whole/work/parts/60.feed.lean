/-! bytes laid on the tape -/
theorem Rel.bld {n n' : Int} {V V' : qV} {J J' : qJ} (h : Rel n V J) (hn : n ≤ n') (tp : tpR V') (hV : ∀ o j, (o = 0 ∧ j = 2) ∨ (o = 1 ∧ j = 12) ∨ (173 ≤ o ∧ o < 188) ∨ (o = 602 ∧ (j = 11 ∨ j = 20)) ∨ (604 ≤ o ∧ o ≤ 612) ∨ o = 621 ∨ o = 151 ∨ (159 ≤ o ∧ o ≤ 165) ∨ 625 ≤ o → V' o j = V o j) (hJ : ∀ j, J' 152 j = J 152 j) (ht : tR V' J' 12 (V' 603) (cS V')) (him : imR V' J') (h593 : V' 603 593 ≤ V 603 593) : Rel n' V' J' := by
  obtain ⟨h1, h2, h3, h4, h5, h6, h7, h8, h9⟩ := h
  refine ⟨tp, ?_, ?_, ht, him, ?_, ?_, ?_, ?_⟩
  · rw [hV _ _ (by omega), hV _ _ (by omega)]; exact h2
  · refine ⟨by rw [hV _ _ (by omega), hV _ _ (by omega)]; exact h3.1, fun l p q => ?_⟩
    rw [hV _ _ (by omega)] at q
    exact (h3.2 l p q).fr (by have := h3.1; omega) (fun o j ho => hV o j (by omega))
  · intro c p q
    exact cW_fr (fun o j a b => hV o j (by omega)) (h6 c p (by omega))
  · exact h7.fr hn (fun o j p q => hV o j (by omega)) (fun j => hV _ _ (by have := h7.2.2.2.2.1.2; omega))
  · refine ⟨by rw [hV _ _ (by omega)]; exact h8.1, fun q v p r => ?_⟩
    rw [hV _ _ (by omega)] at q
    have := h8.2 q v p r
    unfold s0 at this ⊢
    rw [hJ]; exact this
  · intro k p q
    rw [hV _ _ (by omega)]; exact h9 k p q
theorem s_put {a p : Int} {V : qV} {Q : qV → Prop} (h : V 1 1 = p) (h0 : 0 ≤ p) (h1 : p + 4 ≤ 400) (k : ∀ V', (∀ o j, ¬ (o = 1 ∧ j = 1) → ¬ (o = 2 ∧ p ≤ j ∧ j < p + 4) → V' o j = V o j) → V' 1 1 = p + 4 → (∀ i, 0 ≤ i → i < 4 → V' 2 (p + i) = (zshr a (24 - 8 * i)).bmod 256) → Q V') : W_X6_put a V Q := by
  have main : ∀ (g : Nat) (i : Int) (V1 : qV), 0 ≤ i → i ≤ 4 → 4 < i + g → (∀ o j, ¬ (o = 1 ∧ j = 1) → ¬ (o = 2 ∧ p ≤ j ∧ j < p + i) → V1 o j = V o j) → V1 1 1 = p + i → (∀ m, 0 ≤ m → m < i → V1 2 (p + m) = (zshr a (24 - 8 * m)).bmod 256) → lp_X6_put_3 a (fun l2x6 V6 => Q V6) g (24 - 8 * i) V1 := by
    intro g
    induction g with
    | zero => intro i V1 a1 a2 a3; omega
    | succ g ih =>
      intro i V1 a1 a2 a3 e1 e2 e3
      rw [lp_X6_put_3, e2]
      refine br_c (fun c => ?_) (fun c => br_f (by omega) ⟨by omega, ?_⟩)
      · have : i = 4 := by omega
        subst this
        exact k V1 e1 e2 e3
      · rw [qu_e (by omega), e2]
        refine ⟨zr_i (by omega) (by omega), zr_i (by omega) (by omega), ?_⟩
        have := ih (i + 1) (qu (qu V1 2 (p + i) ((zshr a (24 - 8 * i)).bmod 256)) 1 1 (p + i + 1)) (by omega) (by omega) (by omega) (fun o j x y => by rw [qu_e (by omega), qu_e (by omega), e1 o j x (by omega)]) (by rw [qu_s]; omega) (fun m x y => by
          rw [qu_e (by omega)]
          by_cases hm : m = i
          · subst hm; rw [qu_s]
          · rw [qu_e (by omega)]; exact e3 m x (by omega))
        rw [show 24 - 8 * i + -8 = 24 - 8 * (i + 1) by omega]
        exact this
  exact main 100000 0 V (by decide) (by decide) (by decide) (fun _ _ _ _ => rfl) (by omega) (fun m x y => by omega)
def sel (a b c d e q : Int) : Int := if q < 4 then a else if q < 8 then b else if q < 12 then c else if q < 16 then d else e
theorem t_feed {n : Int} {a b c d e : Int} {V : qV} {J : qJ} {P : qV → Prop} (h : Rel n V J) (hP0 : ∀ V2, Rel (n + 1) V2 J → P V2) : W_X10_feed a b c d e V (fun r V1 => W_X11_feed a b c d e V1 (fun s V2 => V2 602 0 = 0 ∧ r = s ∧ P V2)) := by
  have h1 := h.1
  have ha := h1.1
  refine ⟨zr_i (by omega) (by omega), br_c (fun y => ?_) (fun y => ?_)⟩
  · obtain ⟨p, hp⟩ : ∃ p, p = V 1 1 := ⟨_, rfl⟩
    refine s_put hp.symm (by omega) (by omega) (fun V2 x1 x2 x3 => s_put x2 (by omega) (by omega) (fun V3 y1 y2 y3 => s_put y2 (by omega) (by omega) (fun V4 z1 z2 z3 => s_put z2 (by omega) (by omega) (fun V5 u1 u2 u3 => s_put u2 (by omega) (by omega) (fun V6 w1 w2 w3 => ?_)))))
    have f1 : ∀ o j, ¬ (o = 1 ∧ j = 1) → ¬ (o = 2 ∧ p ≤ j ∧ j < p + 20) → V6 o j = V o j := fun o j q r => by
      rw [w1 o j q (by omega), u1 o j q (by omega), z1 o j q (by omega), y1 o j q (by omega), x1 o j q (by omega)]
    have f2 : V6 1 1 = p + 20 := by omega
    have f3 : ∀ i, 0 ≤ i → i < 20 → V6 2 (p + i) = (zshr (sel a b c d e i) (24 - 8 * (i % 4))).bmod 256 := fun i q r => by
      unfold sel
      by_cases i1 : i < 4
      · rw [if_pos i1, w1 _ _ (by omega) (by omega), u1 _ _ (by omega) (by omega), z1 _ _ (by omega) (by omega), y1 _ _ (by omega) (by omega), x3 i q i1, show i % 4 = i by omega]
      · rw [if_neg i1]
        by_cases i2 : i < 8
        · rw [if_pos i2, w1 _ _ (by omega) (by omega), u1 _ _ (by omega) (by omega), z1 _ _ (by omega) (by omega), show p + i = p + 4 + (i - 4) by omega, y3 (i - 4) (by omega) (by omega), show i % 4 = i - 4 by omega]
        · rw [if_neg i2]
          by_cases i3 : i < 12
          · rw [if_pos i3, w1 _ _ (by omega) (by omega), u1 _ _ (by omega) (by omega), show p + i = p + 4 + 4 + (i - 8) by omega, z3 (i - 8) (by omega) (by omega), show i % 4 = i - 8 by omega]
          · rw [if_neg i3]
            by_cases i4 : i < 16
            · rw [if_pos i4, w1 _ _ (by omega) (by omega), show p + i = p + 4 + 4 + 4 + (i - 12) by omega, u3 (i - 12) (by omega) (by omega), show i % 4 = i - 12 by omega]
            · rw [if_neg i4, show p + i = p + 4 + 4 + 4 + 4 + (i - 16) by omega, w3 (i - 16) (by omega) (by omega), show i % 4 = i - 16 by omega]
    clear x1 x2 x3 y1 y2 y3 z1 z2 z3 u1 u2 u3 w1 w2 w3
    have q12 : (qu V6 602 0 0) 602 12 = p := by rw [qu_e (by omega), f1 _ _ (by omega) (by omega)]; omega
    unfold W_X11_feed
    dsimp only
    rw [q12]
    refine ⟨zr_i (by omega) (by omega), br_t (by omega) ?_⟩
    have main : ∀ (g : Nat) (i : Int) (V1 : qV), 0 ≤ i → i ≤ 20 → 20 < i + g → (∀ o j, ¬ (o = 602 ∧ j = 12) → ¬ (o = 613 ∧ p ≤ j ∧ j < p + i) → V1 o j = (qu V6 602 0 0) o j) → V1 602 12 = p + i → (∀ m, 0 ≤ m → m < i → V1 613 (p + m) = zand (zshr (sel a b c d e m) (24 - 8 * (m % 4))) 255) → lp_X11_feed_23 a b c d e (fun l6x38 V38 => V38 602 0 = 0 ∧ V6 1 1 = V38 602 12 ∧ P V38) g i V1 := by
      intro g
      induction g with
      | zero => intro i V1 a1 a2 a3; omega
      | succ g ih =>
        intro i V1 a1 a2 a3 e1 e2 e3
        rw [lp_X11_feed_23, e2, Int.tmod_eq_emod_of_nonneg a1]
        have go : ∀ s, s = sel a b c d e i → (zr (8 * (i % 4)) ∧ (zr (24 - (8 * (i % 4))) ∧ ((0 ≤ p + i ∧ p + i < 400) ∧ (zr (((qu V1 613 (p + i) (zand (zshr s (24 - (8 * (i % 4)))) 255)) 602 12) + 1) ∧ (zr (i + 1) ∧ lp_X11_feed_23 a b c d e (fun l6x38 V38 => V38 602 0 = 0 ∧ V6 1 1 = V38 602 12 ∧ P V38) g (i + 1) (qu (qu V1 613 (p + i) (zand (zshr s (24 - (8 * (i % 4)))) 255)) 602 12 (((qu V1 613 (p + i) (zand (zshr s (24 - (8 * (i % 4)))) 255)) 602 12) + 1))))))) ∨ 20 ≤ i := fun s hs => by
          by_cases c : 20 ≤ i
          · exact Or.inr c
          · left
            have q13 : (qu V1 613 (p + i) (zand (zshr s (24 - (8 * (i % 4)))) 255)) 602 12 = p + i := by rw [qu_e (by omega)]; exact e2
            rw [q13]
            refine ⟨zr_i (by omega) (by omega), zr_i (by omega) (by omega), by omega, zr_i (by omega) (by omega), zr_i (by omega) (by omega), ih (i + 1) _ (by omega) (by omega) (by omega) (fun o j x y => by rw [qu_e (by omega), qu_e (by omega), e1 o j x (by omega)]) (by rw [qu_s]; omega) (fun m x y => ?_)⟩
            rw [qu_e (by omega)]
            by_cases hm : m = i
            · subst hm; rw [qu_s, hs]
            · rw [qu_e (by omega)]; exact e3 m x (by omega)
        refine br_c (fun c => ?_) (fun c => ?_)
        · have : i = 20 := by omega
          subst this
          have e1' : ∀ o j, ¬ (o = 602 ∧ (j = 12 ∨ j = 0)) → ¬ (o = 613 ∧ p ≤ j ∧ j < p + 20) → ¬ (o = 1 ∧ j = 1) → ¬ (o = 2 ∧ p ≤ j ∧ j < p + 20) → V1 o j = V o j := fun o j q r s t => by rw [e1 o j (by omega) r, qu_e (by omega), f1 o j s t]
          refine ⟨by rw [e1 _ _ (by omega) (by omega)]; exact qs0 _, f2, hP0 _ (h.bld (by omega) ⟨⟨?_, by omega, by omega⟩, fun m q r => ?_⟩ (fun o j x => e1' o j (by omega) (by omega) (by omega) (by omega)) (fun _ => rfl) ?_ ?_ ?_)⟩
          · rw [e1 _ _ (by omega) (by omega), qu_e (by omega), f2, e2]
          · by_cases hm : p ≤ m ∧ m < p + 20
            · have g1 : V1 2 m = V6 2 m := by rw [e1 _ _ (by omega) (by omega), qu_e (by omega)]
              have g2 := f3 (m - p) (by omega) (by omega)
              have g3 := e3 (m - p) (by omega) (by omega)
              rw [show p + (m - p) = m by omega] at g2 g3
              rw [g1, g2, g3, fx_and255, fx_bm]
              exact ⟨rfl, by omega⟩
            · rw [e1' _ _ (by omega) (by omega) (by omega) (by omega), e1' _ _ (by omega) (by omega) (by omega) (by omega)]
              exact h1.2 m q r
          · have e3' : V1 603 = V 603 := by funext j; exact e1' _ _ (by omega) (by omega) (by omega) (by omega)
            rw [e3', cS_fr (V' := V1) (V := V) (fun o j q r => e1' _ _ (by omega) (by omega) (by omega) (by omega))]
            exact h.2.2.2.1.fr (fun o j q r => e1' _ _ (by omega) (by omega) (by omega) (by omega)) (fun _ => rfl)
          · have h5 := h.2.2.2.2.1
            have ewI : ∀ i, wI V1 i = wI V i := fun i => by funext k; unfold wI; exact e1' _ _ (by omega) (by omega) (by omega) (by omega)
            have e3' : V1 603 = V 603 := by funext j; exact e1' _ _ (by omega) (by omega) (by omega) (by omega)
            have e33 : V1 602 33 = V 602 33 := e1' _ _ (by omega) (by omega) (by omega) (by omega)
            refine ⟨by rw [e1' _ _ (by omega) (by omega) (by omega) (by omega), e33]; exact h5.1, fun i q r => ?_, fun i j q r s => ?_⟩
            · rw [e33] at r
              have hi : i = 0 ∨ i = 1 ∨ i = 2 := by have := h5.1; omega
              rw [ewI, e3', cS_fr (V' := V1) (V := V) (fun o j q r => e1' _ _ (by omega) (by omega) (by omega) (by omega))]
              exact ⟨(h5.2.1 i q r).1.fr (fun o j q r => e1' _ _ (by omega) (by omega) (by omega) (by omega)) (fun _ => rfl), (h5.2.1 i q r).2⟩
            · rw [e33] at s
              rw [ewI, ewI]; exact h5.2.2 i j q r s
          · rw [e1' _ _ (by omega) (by omega) (by omega) (by omega)]; omega
        · refine br_c (fun c1 => br_c (fun c2 => br_c (fun c3 => br_c (fun c4 => ?_) (fun c4 => ?_)) (fun c3 => ?_)) (fun c2 => ?_)) (fun c1 => ?_)
          all_goals refine (go _ ?_).resolve_right c
          all_goals unfold sel
          · rw [if_neg (by omega), if_neg (by omega), if_neg (by omega), if_neg (by omega)]
          · rw [if_neg (by omega), if_neg (by omega), if_neg (by omega), if_pos (by omega)]
          · rw [if_neg (by omega), if_neg (by omega), if_pos (by omega)]
          · rw [if_neg (by omega), if_pos (by omega)]
          · rw [if_pos (by omega)]
    exact main 100000 0 (qu V6 602 0 0) (by decide) (by decide) (by decide) (fun _ _ _ _ => rfl) (by omega) (fun m x y => by omega)
  · have q12 : (qu V 602 0 0) 602 12 = V 1 1 := by rw [qu_e (by omega)]; omega
    unfold W_X11_feed
    dsimp only
    rw [q12]
    exact ⟨zr_i (by omega) (by omega), br_f y ⟨qs0 _, rfl, hP0 _ h.th0⟩⟩
