/-! all cubes of the class -/
theorem asg_fr {V V' : qV} (h2 : V' 162 = V 162) (h6 : V' 159 6 = V 159 6) (h3 : V' 159 3 = V 159 3) (h4 : V' 159 4 = V 159 4) (c : Int) : asg V' c = asg V c := by
  funext u
  unfold asg
  rw [h2, h6, h3, h4]
theorem cbC_fr {V V' : qV} {c c' : Int} (h : cbC V c) (h0 : 0 ≤ c') (h9 : ∀ j, V' 159 j = V 159 j) (h160 : V' 160 = V 160) (h162 : V' 162 = V 162) (h164 : ∀ i, 0 ≤ i → i < 10 → V' 164 i = 3 ^ i.toNat) (h165 : ∀ i, 0 ≤ i → i < 10 → V' 165 i = dg c' i.toNat) (hx : ∀ x, 0 ≤ x → x < c' → V' (V 159 7) x = vlA (V 160) (asg V x)) : cbC V' c' := by
  obtain ⟨h1, h2, h3, h4, h5, h6, h7, h8, h9'⟩ := h
  refine ⟨?_, ?_, ?_, ?_, ?_, h164, h165, fun x a b => ?_, h0⟩
  · unfold tlR at h1 ⊢
    rw [h9, h9, h160, h162]; exact h1
  · rw [h9, h9]; exact h2
  · rw [h160]; exact h3
  · rw [h9]; exact h4
  · rw [h9, h9]; exact h5
  · rw [h9, h160, asg_fr h162 (h9 _) (h9 _) (h9 _)]; exact hx x a b
theorem s_fill65 {V : qV} {K : Int → qV → Prop} (h : cbC V 0) (hR : V 159 7 = 163 ∨ (625 ≤ V 159 7 ∧ V 159 7 < 1000000))
    (k : ∀ c V', (∀ o j, o ≠ 165 → o ≠ V 159 7 → V' o j = V o j) → cbC V' (3 ^ (V 159 6).toNat) → K c V') : lp_X7_fillCubes_65 (3 ^ (V 159 6).toNat) K 100000 0 V := by
  have t := h.1.1
  have b2 := p3_le (V 159 6).toNat (by omega)
  have main : ∀ (g : Nat) (c : Int) (V1 : qV), 0 ≤ c → c ≤ 3 ^ (V 159 6).toNat → 3 ^ (V 159 6).toNat < c + g → (∀ o j, o ≠ 165 → o ≠ V 159 7 → V1 o j = V o j) → cbC V1 c → lp_X7_fillCubes_65 (3 ^ (V 159 6).toNat) K g c V1 := by
    intro g
    induction g with
    | zero => intro c V1 p q r; omega
    | succ g ih =>
      intro c V1 p q r e1 e2
      have e9 : ∀ j, V1 159 j = V 159 j := fun j => e1 _ _ (by decide) (by omega)
      have h5 := e2.2.2.2.2.1
      rw [lp_X7_fillCubes_65]
      rw [e9, e9] at h5
      refine br_c (fun y => ?_) (fun y => ?_)
      · have : c = 3 ^ (V 159 6).toNat := by omega
        subst this
        exact k _ V1 e1 e2
      · rw [e9]
        refine br_f (by omega) (s_cubeValue e2 (by rw [e9]; omega) ⟨by omega, ?_⟩)
        have b := vl_b (V1 160) (asg V1 c)
        rw [show (vlA (V1 160) (asg V1 c)).bmod 256 = vlA (V1 160) (asg V1 c) from Int.bmod_eq_of_le (by omega) (by omega), e9]
        have e7 := e2.2.2.2.2.2.2.1
        refine s_countOn (c := c) (fun i a b => by rw [qu_o _ _ (by omega)]; exact e7 i a b) (fun V2 f1 f2 => ⟨zr_i (by omega) (by omega), ih _ _ (by omega) (by omega) (by omega) (fun o j x y => by rw [f1 o j x, qu_o _ _ y]; exact e1 o j x y) ?_⟩)
        have g1 : ∀ o j, o ≠ 165 → o ≠ V 159 7 → V2 o j = V1 o j := fun o j x y => by rw [f1 o j x, qu_o _ _ y]
        refine cbC_fr e2 (by omega) (fun j => g1 _ _ (by decide) (by omega)) (by funext j; exact g1 _ _ (by decide) (by omega)) (by funext j; exact g1 _ _ (by decide) (by omega)) (fun i a b => by rw [g1 _ _ (by decide) (by omega)]; exact e2.2.2.2.2.2.1 i a b) f2 (fun x a b => ?_)
        rw [e9, f1 _ _ (by omega)]
        by_cases hx : x = c
        · subst hx; rw [qu_s]
        · rw [qu_e (by omega)]
          have := e2.2.2.2.2.2.2.2.1 x a (by omega)
          rw [e9] at this; exact this
  exact main 100000 0 V (by decide) (by have := p3 (V 159 6).toNat; omega) (by omega) (fun _ _ _ _ => rfl) h
theorem s_fill34 {V : qV} {m : Int} {K : Int → qV → Prop} (k : ∀ c V', (∀ o j, o ≠ 164 → o ≠ 165 → V' o j = V o j) → (∀ i, 0 ≤ i → i < 10 → V' 164 i = 3 ^ i.toNat) → (∀ i, 0 ≤ i → i < 10 → V' 165 i = 0) → K c V') : lp_X7_fillCubes_34 m K 100000 0 V := by
  have main : ∀ (g : Nat) (c : Int) (V1 : qV), 0 ≤ c → c ≤ 10 → 10 < c + g → (∀ o j, o ≠ 164 → o ≠ 165 → V1 o j = V o j) → (∀ i, 0 ≤ i → i < c → V1 164 i = 3 ^ i.toNat) → (∀ i, 0 ≤ i → i < c → V1 165 i = 0) → lp_X7_fillCubes_34 m K g c V1 := by
    intro g
    induction g with
    | zero => intro c V1 p q r; omega
    | succ g ih =>
      intro c V1 p q r e1 e2 e3
      rw [lp_X7_fillCubes_34]
      refine br_c (fun y => k c V1 e1 (fun i a b => e2 i a (by omega)) (fun i a b => e3 i a (by omega))) (fun y => s_powerOf p (by omega) ⟨by omega, by omega, zr_i (by omega) (by omega), ih _ _ (by omega) (by omega) (by omega) (fun o j x z => by rw [qu_o _ _ z, qu_o _ _ x]; exact e1 o j x z) (fun i a b => ?_) (fun i a b => ?_)⟩)
      · rw [qu_o _ _ (by decide)]
        by_cases hi : i = c
        · subst hi; rw [qu_s]
        · rw [qu_e (by omega)]; exact e2 i a (by omega)
      · by_cases hi : i = c
        · subst hi; rw [qu_s]
        · rw [qu_e (by omega), qu_o _ _ (by decide)]; exact e3 i a (by omega)
  exact main 100000 0 V (by decide) (by decide) (by decide) (fun _ _ _ _ => rfl) (fun i a b => by omega) (fun i a b => by omega)
theorem dg_0 (k : Nat) : dg 0 k = 0 := by unfold dg; simp
/-- the row is long enough, and what it was before -/
def gwP (V V' : qV) : Prop := V 159 100 ≤ V' 159 100 ∧ 3 ^ (V 159 6).toNat ≤ V' 159 100 ∧ V' 159 2 = V 159 2
/-- behind the powers and the cubes -/
theorem s_fillG {n f l : Int} {V V1 : qV} {J : qJ} {Q : qV → Prop} (h : psR n f l V J) (h9 : ∀ j, j ≠ 7 → j ≠ 100 → V1 159 j = V 159 j) (hR : V1 159 7 = 163 ∨ (625 ≤ V1 159 7 ∧ V1 159 7 < 1000000)) (hl : 3 ^ (V 159 6).toNat ≤ V1 159 100 ∧ V1 159 100 ≤ 59049) (hg : V 159 100 ≤ V1 159 100) (hV : ∀ o j, o ≠ 159 → o < 625 → V1 o j = V o j)
    (k : ∀ V', psR n f l V' J → V' 159 8 = 1 → (∀ o j, ¬ (159 ≤ o ∧ o ≤ 165) → o < 625 → V' o j = V o j) → gwP V V' → Q V') : lp_X7_fillCubes_34 (3 ^ (V 159 6).toNat) (fun l2x8 V8 => lp_X7_fillCubes_65 (3 ^ (V 159 6).toNat) (fun l2x14 V14 => Q (qu V14 159 8 1)) 100000 0 V8) 100000 0 V1 := by
  obtain ⟨hr, p1, p2, p3', p4, p5⟩ := h
  have hrd := hr.2.2.2.2.2.2.1
  obtain ⟨g1, g2, g3, g4, g5, g6⟩ := hrd
  refine s_fill34 (fun _ V2 e1 e2 e3 => ?_)
  have c9 : ∀ j, j ≠ 7 → j ≠ 100 → V2 159 j = V 159 j := fun j a b => by rw [e1 _ _ (by decide) (by decide)]; exact h9 j a b
  have c7 : V2 159 7 = V1 159 7 := e1 _ _ (by decide) (by decide)
  have c100 : V2 159 100 = V1 159 100 := e1 _ _ (by decide) (by decide)
  have c160 : V2 160 = V 160 := by funext j; rw [e1 _ _ (by decide) (by decide)]; exact hV _ _ (by decide) (by decide)
  have c162 : V2 162 = V 162 := by funext j; rw [e1 _ _ (by decide) (by decide)]; exact hV _ _ (by decide) (by decide)
  have ct : tlR V2 := by
    unfold tlR at g4 ⊢
    rw [c9 6 (by decide) (by decide), c9 3 (by decide) (by decide), c160, c162]; exact g4
  have cb : cbC V2 0 := by
    refine ⟨ct, ?_, ?_, ?_, ?_, e2, fun i a b => by rw [e3 i a b, dg_0], fun x a b => by omega, by decide⟩
    · rw [c9 3 (by decide) (by decide), c9 4 (by decide) (by decide)]
      intro u a b c
      rw [p4.2 u a b] at c
      rw [p5.2 u a b]
      have := of_decide_eq_true c
      exact decide_eq_false (by omega)
    · rw [c160]; exact g3
    · rw [c9 4 (by decide) (by decide)]; exact g2.2
    · rw [c9 6 (by decide) (by decide), c100]; exact hl.1
  rw [← c9 6 (by decide) (by decide)]
  refine s_fill65 cb (by rw [c7]; exact hR) (fun _ V3 f1 f2 => ?_)
  have R : V2 159 7 = 163 ∨ (625 ≤ V2 159 7 ∧ V2 159 7 < 1000000) := by rw [c7]; exact hR
  have d9 : ∀ j, V3 159 j = V2 159 j := fun j => f1 _ _ (by decide) (by omega)
  have fr : ∀ o j, ¬ (159 ≤ o ∧ o ≤ 165) → o < 625 → (qu V3 159 8 1) o j = V o j := fun o j a b => by
    rw [qu_o _ _ (by omega), f1 o j (by omega) (by omega), e1 o j (by omega) (by omega)]; exact hV o j (by omega) b
  have q9 : ∀ j, j ≠ 7 → j ≠ 100 → j ≠ 8 → (qu V3 159 8 1) 159 j = V 159 j := fun j a b c => by rw [qu_j _ _ c, d9]; exact c9 j a b
  have q160 : (qu V3 159 8 1) 160 = V 160 := by funext j; rw [qu_o _ _ (by decide), f1 _ _ (by decide) (by omega), c160]
  have q161 : (qu V3 159 8 1) 161 = V 161 := by funext j; rw [qu_o _ _ (by decide), f1 _ _ (by decide) (by omega), e1 _ _ (by decide) (by decide)]; exact hV _ _ (by decide) (by decide)
  have q162 : (qu V3 159 8 1) 162 = V 162 := by funext j; rw [qu_o _ _ (by decide), f1 _ _ (by decide) (by omega), c162]
  have q7 : (qu V3 159 8 1) 159 7 = V2 159 7 := by rw [qu_j _ _ (by decide), d9]
  have q100 : (qu V3 159 8 1) 159 100 = V2 159 100 := by rw [qu_j _ _ (by decide), d9]
  have e63 : (qu V3 159 8 1) 603 = V 603 := by funext j; exact fr _ _ (by omega) (by decide)
  have hrd' : rd n (qu V3 159 8 1) := by
    refine ⟨?_, ?_, ?_, ?_, ?_, Or.inr ⟨qu_s _ _ _ _, ?_, ?_, ?_⟩⟩
    · rw [q9 2 (by decide) (by decide) (by decide), q161, q100, c100]
      have := gN_m hg
      exact ⟨by omega, g1.2⟩
    · rw [q9 3 (by decide) (by decide) (by decide), q9 4 (by decide) (by decide) (by decide)]; exact g2
    · rw [q160]; exact g3
    · unfold tlR at g4 ⊢
      rw [q9 6 (by decide) (by decide) (by decide), q9 3 (by decide) (by decide) (by decide), q160, q162]; exact g4
    · rw [q100, q7, c100]
      have := p3 (V 159 6).toNat
      exact ⟨⟨by omega, hl.2⟩, R⟩
    · rw [q9 6 (by decide) (by decide) (by decide), q100, c100]; exact hl.1
    · intro i a b
      rw [qu_o _ _ (by decide)]; exact f2.2.2.2.2.2.1 i a b
    · intro c a b
      rw [q9 6 (by decide) (by decide) (by decide), ← c9 6 (by decide) (by decide)] at b
      have := f2.2.2.2.2.2.2.2.1 c a b
      rw [q7, q160, asg_fr (V := V3) (by rw [q162]; funext j; rw [f1 _ _ (by decide) (by omega), c162]) (qu_j _ _ (by decide)) (qu_j _ _ (by decide)) (qu_j _ _ (by decide)), qu_o _ _ (by omega), ← d9 7, this]
      congr 1
  refine k _ ⟨hr.sc (by omega) (fun o j _ _ a b => fr o j a b) (fun _ _ _ => rfl) hrd' ?_, ?_, ?_, fun v a b => ?_, ?_, ?_⟩ (qu_s _ _ _ _) fr ⟨by rw [q100, c100]; exact hg, by rw [q100, c100]; exact hl.1, q9 2 (by decide) (by decide) (by decide)⟩
  · have g := hr.2.2.2.2.2.2.2.1
    refine ⟨by rw [fr _ _ (by omega) (by decide)]; exact g.1, fun u => ?_⟩
    rw [fr _ _ (by omega) (by decide)] at u
    exact g.2 u
  · rw [fr _ _ (by omega) (by decide)]; exact p1
  · rw [fr _ _ (by omega) (by decide)]; exact p2
  · rw [q160, omW_fr (fun o j u w => fr o j (by omega) (by omega))]; exact p3' v a b
  · rw [q9 3 (by decide) (by decide) (by decide), e63]; exact p4
  · rw [q9 4 (by decide) (by decide) (by decide), e63]; exact p5
theorem s_fillCubes {n f l : Int} {V : qV} {J : qJ} {kz : Nat} {Q : qV → Prop} (h : psR n f l V J) (hk : 3 ^ (V 159 6).toNat ≤ V 159 100 ∨ 59049 ≤ kz) (k : ∀ V', psR n f l V' J → V' 159 8 = 1 → (∀ o j, ¬ (159 ≤ o ∧ o ≤ 165) → o < 625 → V' o j = V o j) → gwP V V' → Q V') : W_X7_fillCubes V kz Q := by
  have hrd := h.1.2.2.2.2.2.2.1
  obtain ⟨g1, g2, g3, g4, g5, g6⟩ := hrd
  have t := g4.1
  have b := p3_le (V 159 6).toNat (by omega)
  refine br_c (fun y => s_powerOf t.1 t.2 (br_c (fun z => ?_) (fun z => ⟨by omega, by omega, fun o o0 o1 => ?_⟩))) (fun y => ?_)
  · exact s_fillG h (fun _ _ _ => rfl) g5.2 ⟨z, g5.1.2⟩ (Int.le_refl _) (fun _ _ _ _ => rfl) k
  · exact s_fillG h (fun j a b => qcub_r (by omega) a b) (by rw [qcub_7]; omega) (by rw [qcub_l]; omega) (by rw [qcub_l]; omega) (fun o' j a b => qcub_o (by omega) a) k
  · rcases g6 with g6 | ⟨g6, g7⟩
    · exact absurd g6 y
    · exact k V h g6 (fun _ _ _ _ => rfl) ⟨Int.le_refl _, g7.1, rfl⟩
theorem psR.cu {n f l : Int} {V : qV} {J : qJ} (h : psR n f l V J) (h8 : V 159 8 = 1) : cuR V := by
  obtain ⟨g1, g2, g3, g4, g5, g6⟩ := h.1.2.2.2.2.2.2.1
  rcases g6 with g6 | ⟨_, g6⟩
  · omega
  · exact g6
/-- all that is open stands open in the last cube -/
theorem asg_top {n f l : Int} {V : qV} {J : qJ} (h : psR n f l V J) : ∀ u, 0 ≤ u → u < 10 → asg V (3 ^ (V 159 6).toNat - 1) u = V 603 u := by
  obtain ⟨hr, p1, p2, p3', p4, p5⟩ := h
  obtain ⟨g1, g2, g3, g4, g5, g6⟩ := hr.2.2.2.2.2.2.1
  have hU := hr.2.2.2.1.1
  intro u a b
  have hu := (hU.2 u a b).1
  have m2 := p4.2 u a b
  have m1 := p5.2 u a b
  by_cases x : isT V u
  · obtain ⟨i, i0, i1, i2⟩ := x
    have tl := (g4.2.1 i i0 i1).2
    rw [i2, telB_e, Bool.and_eq_true, m2] at tl
    have e2 := of_decide_eq_true tl.1
    rw [← i2, asg_t g4 i0 i1, dg_top, if_pos (by omega), i2, e2]
  · rw [asg_n g4 (isT_no x), m2, m1]
    by_cases e : V 603 u = 2
    · rw [decide_eq_true e, if_pos rfl, e]
    · rw [decide_eq_false e, if_neg (by decide)]
      by_cases e1 : V 603 u = 1
      · rw [decide_eq_true e1, e1]; rfl
      · rw [decide_eq_false e1]; show (0 : Int) = _; omega
theorem s_fewestQuestions {n f l : Int} {V : qV} {J : qJ} {kz : Nat} {Q : Int → qV → Prop} (h : psR n f l V J) (hk : 3 ^ (V 159 6).toNat ≤ V 159 100 ∨ 59049 ≤ kz) (k : ∀ V', psR n f l V' J → V' 159 8 = 1 → gwP V V' → Q (aA (V' 160) 10 (V' 603)) V') : W_X7_fewestQuestions V kz Q := by
  refine s_fillCubes h hk (fun V1 p q _ w => ?_)
  have cu := p.cu q
  obtain ⟨g1, g2, g3, g4, g5, g6⟩ := p.1.2.2.2.2.2.2.1
  have t := g4.1
  have b := p3_le (V1 159 6).toNat (by omega)
  have b0 := p3 (V1 159 6).toNat
  have c1 := cu.1
  refine s_powerOf t.1 t.2 ⟨zr_i (by omega) (by omega), s_questionsIn (a := asg V1 (3 ^ (V1 159 6).toNat - 1)) (by omega) (cu.2.2 _ (by omega) (by omega)) ?_⟩
  rw [(aA_cg 10 _ _ (asg_top p)).2]
  exact k V1 p q w
