/-! questions, ask -/
def stC (a : Int → Int) : Nat → Int
  | 0 => 0
  | n + 1 => stC a n + 3 ^ n * a n
theorem stC_b {a : Int → Int} (h : ∀ k, 0 ≤ k → k < 10 → 0 ≤ a k ∧ a k ≤ 2) : ∀ n : Nat, n ≤ 10 → 0 ≤ stC a n ∧ stC a n < 3 ^ n
  | 0, _ => by show (0 : Int) ≤ 0 ∧ (0 : Int) < 3 ^ 0; decide
  | n + 1, hn => by
    have ih := stC_b h n (by omega)
    have hk := h n (by omega) (by omega)
    have b0 := p3 n
    rw [stC, Int.pow_succ]
    have : a n = 0 ∨ a n = 1 ∨ a n = 2 := by omega
    rcases this with e | e | e <;> rw [e] <;> omega
theorem stC_d {a : Int → Int} (h : ∀ k, 0 ≤ k → k < 10 → 0 ≤ a k ∧ a k ≤ 2) : ∀ n : Nat, n ≤ 10 → ∀ k : Nat, k < n → dg (stC a n) k = a k
  | 0, _, k, hk => by omega
  | n + 1, hn, k, hk => by
    have bn := stC_b h n (by omega)
    have an := h n (by omega) (by omega)
    have b0 := p3 n
    rw [stC]
    by_cases e : k = n
    · subst e
      unfold dg
      rw [Int.mul_comm, Int.add_mul_ediv_right _ _ (by omega), Int.ediv_eq_zero_of_lt bn.1 bn.2]
      omega
    · have ih := stC_d h n (by omega) k (by omega)
      unfold dg at *
      have e2 : (3 : Int) ^ n * a n = (a n * 3 ^ (n - k - 1) * 3) * 3 ^ k := by
        have : (3 : Int) ^ n = 3 ^ (n - k - 1) * 3 * 3 ^ k := by
          rw [← Int.pow_succ, ← Int.pow_add]
          congr 1; omega
        rw [this, Int.mul_comm _ (a n), ← Int.mul_assoc, ← Int.mul_assoc]
      rw [e2, Int.add_mul_ediv_right _ _ (by have := p3 k; omega)]
      generalize a n * 3 ^ (n - k - 1) = y
      omega
theorem m_startCube {V : qV} {Q : Int → Prop} (hp : ∀ k, 0 ≤ k → k < 10 → V 621 k = 3 ^ k.toNat) (h : ∀ k, 0 ≤ k → k < 10 → 0 ≤ V 603 k ∧ V 603 k ≤ 2) (k : ∀ T, (0 ≤ T ∧ T < 59049) → (∀ k, 0 ≤ k → k < 10 → dgF T k = V 603 k) → Q T) : W_X11_startCube V Q := by
  have main : ∀ (g : Nat) (i : Int), 0 ≤ i → i ≤ 10 → 10 < i + g → lp_X11_startCube_4 V (fun l1x7 l2x7 => Q l1x7) g (stC (V 603) i.toNat) i := by
    intro g
    induction g with
    | zero => intro i p q r; omega
    | succ g ih =>
      intro i p q r
      rw [lp_X11_startCube_4]
      refine br_c (fun c => ?_) (fun c => ⟨by omega, zr_i (by omega) (by omega), by omega, ?_⟩)
      · have : i = 10 := by omega
        subst this
        have b := stC_b h 10 (by decide)
        refine k _ ⟨b.1, b.2⟩ (fun j j0 j1 => ?_)
        have := stC_d h 10 (by decide) j.toNat (by omega)
        unfold dgF
        rw [Int.toNat_of_nonneg j0] at this
        exact this
      · rw [Int.zero_add, hp i p (by omega)]
        have b := stC_b h i.toNat (by omega)
        have b3 := p3_le i.toNat (by omega)
        have b0 := p3 i.toNat
        have hi := h i p (by omega)
        have es : stC (V 603) (i + 1).toNat = stC (V 603) i.toNat + 3 ^ i.toNat * V 603 i := by
          rw [show (i + 1).toNat = i.toNat + 1 by omega, stC, Int.toNat_of_nonneg p]
        have b' := stC_b h (i + 1).toNat (by omega)
        have b4 := p3_le (i + 1).toNat (by omega)
        have nn : 0 ≤ 3 ^ i.toNat * V 603 i := Int.mul_nonneg (by omega) hi.1
        rw [es] at b'
        have ih' := ih (i + 1) (by omega) (by omega) (by omega)
        rw [es] at ih'
        exact ⟨zr_i (by omega) (by omega), zr_i (by omega) (by omega), zr_i (by omega) (by omega), ih'⟩
  exact main 100000 0 (by decide) (by decide) (by decide)
theorem Rel.kn {n : Int} {V : qV} {J : qJ} (h : Rel n V J) : ∀ k, 0 ≤ k → k < 10 → 0 ≤ V 603 k ∧ V 603 k ≤ 2 := fun k a b => (h.2.2.2.1.1.2 k a b).1.2
/-- class's state and the reference's cubes -/
theorem m_cubes {n f l : Int} {V : qV} {J : qJ} {Q : Int → qV → Prop} (p : psR n f l V J) (k : ∀ T V4, Rel (n + 1) V4 J → V4 602 0 = 0 → (∀ k, 0 ≤ k → k < 10 → V4 603 k = V 603 k ∧ dgF T k = V 603 k) → (0 ≤ T ∧ T < 59049) → V4 620 T = aA (V 160) 10 (V 603) → mcR (V 160) V4 59049 → (∀ j, V4 159 j = V 159 j) → Q T V4) : W_X11_findWho f l (qu V 602 0 0) (fun V3 => W_X11_findCubes V3 (fun V4 => W_X11_startCube V4 (fun r5 => Q r5 V4))) := by
  have oe := omW_e p
  obtain ⟨hr, hf1, hl1, ho, m2, m1⟩ := p
  refine m_whoR hr hf1 hl1 (fun V3 x1 x2 x3 x4 x5 x6 => m_findCubes (om := V 160) x1.2.2.2.2.2.2.2.2 x4 x6 oe.2 oe.1 (fun V4 y1 y2 => ?_))
  have r4 : Rel (n + 1) V4 J := x1.sc0 (by omega) (fun o j q => y1 o j (by unfold scrC at q; omega) (by unfold scrC at q; omega)) (fun _ _ _ _ _ _ _ _ => rfl)
  have e3 : ∀ k, V4 603 k = V 603 k := fun k => by rw [y1 _ _ (by decide) (by decide), x3 _ _ (by decide) (by decide) (by decide) (by decide) (by decide)]
  refine m_startCube r4.2.2.2.2.2.2.2.2 r4.kn (fun T hT hd => ?_)
  refine k T V4 r4 (by rw [y1 _ _ (by decide) (by decide)]; exact x2) (fun k a b => ⟨e3 k, by rw [hd k a b, e3]⟩) hT ?_ y2 (fun j => by rw [y1 _ _ (by decide) (by decide), x3 _ _ (by decide) (by decide) (by decide) (by decide) (by decide)])
  rw [(y2 T hT.1 hT.2).2]
  exact (aA_cg 10 _ _ (fun k a b => by rw [hd k a b, e3])).2
/-! when the cubes' row grows -/
theorem tlR_c {V : qV} (h : tlR V) : V 159 6 = cntB (telB (V 160) (V 159 3)) 10 := by
  have key : ∀ N : Nat, N ≤ 10 → ∃ m : Int, (0 ≤ m ∧ m ≤ V 159 6) ∧ (∀ i, 0 ≤ i → i < m → V 162 i < N) ∧ (∀ i, m ≤ i → i < V 159 6 → (N : Int) ≤ V 162 i) ∧ cntB (telB (V 160) (V 159 3)) N = m := by
    intro N
    induction N with
    | zero => exact fun _ => ⟨0, ⟨by omega, h.1.1⟩, fun i a b => by omega, fun i a b => (h.2.1 i a b).1.1, rfl⟩
    | succ N ih =>
      intro hN
      obtain ⟨m, m0, m1, m2, m3⟩ := ih (by omega)
      cases hp : telB (V 160) (V 159 3) N with
      | true =>
        obtain ⟨i, i0, i1, i2⟩ := (inL_t h (u := N) (by omega) (by omega)).mpr hp
        have him : i = m := by
          by_cases e : i < m
          · have := m1 i i0 e; omega
          · by_cases e2 : i = m
            · exact e2
            · have u1 := h.2.2.1 m i m0.1 (by omega) i1
              have u2 := m2 m (by omega) (by omega)
              omega
        subst him
        refine ⟨i + 1, by omega, fun j a b => ?_, fun j a b => ?_, ?_⟩
        · by_cases e : j = i
          · subst e; omega
          · have := m1 j a (by omega); omega
        · have := h.2.2.1 i j i0 (by omega) b; omega
        · rw [cntB, m3, hp]; rfl
      | false =>
        refine ⟨m, m0, fun j a b => ?_, fun j a b => ?_, ?_⟩
        · have := m1 j a b; omega
        · have u := m2 j a b
          by_cases e : V 162 j = N
          · have := (h.2.1 j (by omega) b).2
            rw [e, hp] at this; exact absurd this (by decide)
          · omega
        · rw [cntB, m3, hp]; show m + 0 = m; omega
  obtain ⟨m, m0, m1, m2, m3⟩ := key 10 (Nat.le_refl _)
  rw [m3]
  by_cases e : m = V 159 6
  · exact e.symm
  · have u1 := m2 m (by omega) (by omega)
    have u2 := (h.2.1 m m0.1 (by omega)).1
    omega
def tN (V : qV) (f l : Int) : Int := cntB (fun u => decide (V 603 u = 2) && dfB (omW V f l) u 0) 10
theorem dfB_cg {om om' : Int → Int} {u : Int} (hu : 0 ≤ u ∧ u < 10) (h : ∀ v, 0 ≤ v → v < 1024 → om v = om' v) : dfB om u 0 = dfB om' u 0 := by
  rw [Bool.eq_iff_iff, dfB_iff, dfB_iff]
  constructor
  · rintro ⟨v, a, b, c, d, _⟩
    have m := (mk_or ⟨a, b⟩ hu).1
    exact ⟨v, a, b, c, by rw [← h v a b, ← h _ m.1 m.2]; exact d, Or.inl rfl⟩
  · rintro ⟨v, a, b, c, d, _⟩
    have m := (mk_or ⟨a, b⟩ hu).1
    exact ⟨v, a, b, c, by rw [h v a b, h _ m.1 m.2]; exact d, Or.inl rfl⟩
theorem psR.tn {n f l : Int} {V : qV} {J : qJ} (h : psR n f l V J) : V 159 6 = tN V f l := by
  obtain ⟨hr, p1, p2, p3', p4, p5⟩ := h
  rw [tlR_c hr.2.2.2.2.2.2.1.2.2.2.1]
  refine cntB_cg 10 (fun u a b => ?_)
  rw [telB_e, p4.2 u a b, dfB_cg ⟨a, b⟩ p3']
theorem tN_fr {V V' : qV} {f l : Int} (h : ∀ o j, 603 ≤ o → o ≤ 612 → V' o j = V o j) : tN V' f l = tN V f l := by
  unfold tN
  rw [omW_fr h, show V' 603 = V 603 by funext j; exact h _ _ (by decide) (by decide)]
/-- the row of the cubes grows at this call -/
def gw (V : qV) (f l : Int) : Prop := (0 ≤ f ∧ f < V 12 10) ∧ (0 ≤ l ∧ l < V 0 2) ∧ V 159 100 < 3 ^ (tN V f l).toNat
theorem Rel.lo {n n' : Int} {V : qV} {J : qJ} (h : Rel n V J) (h' : V 159 2 + 8388608 * gN (V 159 100) ≤ 1024 * n') : Rel n' V J := by
  obtain ⟨h1, h2, h3, h4, h5, h6, ⟨⟨g0, g1⟩, g2⟩, h8⟩ := h
  exact ⟨h1, h2, h3, h4, h5, h6, ⟨⟨⟨g0.1, h'⟩, g1⟩, g2⟩, h8⟩
/-- a row that grew can grow less often -/
theorem gw_lo {n f l : Int} {V V1 V2 V4 : qV} {J1 J4 : qJ} (p : psR n f l V1 J1) (e1 : V1 159 100 = V 159 100 ∧ ∀ o j, 603 ≤ o → o ≤ 612 → V1 o j = V o j) (w : gwP V1 V2) (e4 : ∀ j, V4 159 j = V2 159 j) (r : Rel (n + 1) V4 J4) (g : gw V f l) : Rel (n + 1 - 8192) V4 J4 := by
  have tn := p.tn
  rw [tN_fr e1.2] at tn
  obtain ⟨g1, g2, g3, g4, g5, g6⟩ := p.1.2.2.2.2.2.2.1
  have g3' := g.2.2
  rw [← tn, ← e1.1] at g3'
  have t := g4.1
  have m0 : 0 < (V1 159 6).toNat := by
    by_cases e : (V1 159 6).toNat = 0
    · rw [e] at g3'
      have : V1 159 100 < 1 := g3'
      omega
    · omega
  have := gT_lt w.1 g3' w.2.1 m0 10 (by omega)
  have u : gN (V2 159 100) + 1 ≤ gN (V1 159 100) := this
  refine r.lo ?_
  rw [e4, e4, w.2.2]
  have := g1.1
  omega
theorem gw_hk {n f l : Int} {V V1 : qV} {J1 : qJ} {kz : Nat} (hf : 0 ≤ f ∧ f < V 12 10) (hl : 0 ≤ l ∧ l < V 0 2) (p : psR n f l V1 J1) (e1 : V1 159 100 = V 159 100 ∧ ∀ o j, 603 ≤ o → o ≤ 612 → V1 o j = V o j) (hk : ¬ gw V f l ∨ 59049 ≤ kz) : 3 ^ (V1 159 6).toNat ≤ V1 159 100 ∨ 59049 ≤ kz := by
  rcases hk with hk | hk
  · left
    rw [p.tn, tN_fr e1.2, e1.1]
    by_cases e : V 159 100 < 3 ^ (tN V f l).toNat
    · exact absurd ⟨hf, hl, e⟩ hk
    · omega
  · exact Or.inr hk
theorem t_questions {n : Int} {a : Int} {b : Int} {kz : Nat} {V : qV} {J : qJ} {P : qV → qJ → Prop} (hk : ¬ gw V a b ∨ 59049 ≤ kz) (h : Rel n V J) (hP0 : ∀ V2 J2, Rel (n + 1) V2 J2 → (gw V a b → Rel (n + 1 - 8192) V2 J2) → P V2 J2) : W_X10_questions a b V J kz (fun r V1 J1 => W_X11_questions a b V1 (fun s V2 => V2 602 0 = 0 ∧ r = s ∧ P V2 J1)) (fun E V1 J1 => (E = "java/lang/IndexOutOfBoundsException" ∧ W_X11_questions a b V1 (fun s V2 => V2 602 0 = 1 ∧ P V2 J1)) ∨ (E = "java/lang/IllegalArgumentException" ∧ W_X11_questions a b V1 (fun s V2 => V2 602 0 = 2 ∧ P V2 J1))) := by
  have h142 := h.2.2.2.1.2.2.2.1.1
  refine if ha : 0 ≤ a ∧ a < V 12 10 then ?_ else s_po0 ha (Or.inl ⟨rfl, m_asks0 h ha (br_t rfl ⟨qu_s _ _ _ _, hP0 _ _ h.th (fun g => absurd g.1 ha)⟩)⟩)
  refine if hl : 0 ≤ b ∧ b < V 0 2 then ?_ else s_po2 ha (by omega) hl (Or.inr ⟨rfl, m_asks2 h ha hl (br_t rfl ⟨qu_s _ _ _ _, hP0 _ _ h.th (fun g => absurd g.2.1 hl)⟩)⟩)
  refine s_pose h ha hl (fun V1 J1 p e1 => s_fewestQuestions p (gw_hk ha hl p e1 hk) (fun V2 p2 _ w => ?_))
  exact m_asks p2.1 p2.2.1 p2.2.2.1 (br_f (by decide) (m_cubes p2 (fun T V4 x1 x2 x3 x4 x5 x6 x7 => ⟨x4, x2, x5.symm, hP0 _ _ x1 (gw_lo p e1 w x7 x1)⟩)))
/-- the first question that is worth asking -/
def frs (om a : Int → Int) (j : Int) : Prop := (0 ≤ j ∧ j < 10) ∧ a j = 2 ∧ qst (aA om 10) a j = aA om 10 a ∧ ∀ k, 0 ≤ k → k < j → a k = 2 → qst (aA om 10) a k ≠ aA om 10 a
theorem aA_c2 {om : Int → Int} : ∀ (N : Nat) (a : Int → Int), c2 a ≤ N → aA om 10 a ≤ c2 a
  | 0, a, h => by rw [aA_0 (c2_0 (by omega))]; exact (c2_b a).1
  | N + 1, a, h => by
    by_cases e : nB om a ≤ 1
    · rw [aA_0 e]; exact (c2_b a).1
    · have ex : ∃ j : Int, (0 ≤ j ∧ j < 10) ∧ a j = 2 := by
        apply Classical.byContradiction
        intro hn
        refine e (c2_0 ?_)
        have : c2 a = 0 := cnt_0 10 (fun k p q => decide_eq_false (fun x => hn ⟨k, ⟨p, by omega⟩, x⟩))
        omega
      obtain ⟨j, j0, j1⟩ := ex
      have u0 := c2_up (b := 0) j0 j1 (Or.inl rfl)
      have u1 := c2_up (b := 1) j0 j1 (Or.inr rfl)
      have i0 := aA_c2 (om := om) N _ (show c2 (up a j 0) ≤ N by omega)
      have i1 := aA_c2 (om := om) N _ (show c2 (up a j 1) ≤ N by omega)
      have := mnA_le (g := aA om 10) (a := a) 10 j0.1 (by omega) j1
      rw [aA_e e]
      unfold qst at this
      omega
theorem A_at {om a : Int → Int} (h : aA om 10 a ≠ 0) : mnW (aA om 10) a 10 (aA om 10 a) := by
  have e : ¬ nB om a ≤ 1 := fun x => h (aA_0 x 10)
  rcases mnA_at (aA om 10) a 10 with x | x
  · have ex : ∃ j : Int, (0 ≤ j ∧ j < 10) ∧ a j = 2 := by
      apply Classical.byContradiction
      intro hn
      refine e (c2_0 ?_)
      have : c2 a = 0 := cnt_0 10 (fun k p q => decide_eq_false (fun x => hn ⟨k, ⟨p, by omega⟩, x⟩))
      omega
    obtain ⟨j, j0, j1⟩ := ex
    have u0 := c2_up (b := 0) j0 j1 (Or.inl rfl)
    have u1 := c2_up (b := 1) j0 j1 (Or.inr rfl)
    have i0 := aA_c2 (om := om) 10 _ (c2_b (up a j 0)).2
    have i1 := aA_c2 (om := om) 10 _ (c2_b (up a j 1)).2
    have b := c2_b a
    have := mnA_le (g := aA om 10) (a := a) 10 j0.1 (by omega) j1
    rw [aA_e e]
    refine ⟨j, j0.1, j0.2, j1, ?_⟩
    unfold qst at this ⊢
    omega
  · rw [aA_e e]; exact x
theorem qst_cg {om a b : Int → Int} (h : ∀ k, 0 ≤ k → k < 10 → a k = b k) (j : Int) : qst (aA om 10) a j = qst (aA om 10) b j := by
  have hup : ∀ (c : Int), ∀ k, 0 ≤ k → k < 10 → up a j c k = up b j c k := fun c k p q => by
    unfold up
    split
    · rfl
    · exact h k p q
  unfold qst
  rw [(aA_cg 10 _ _ (hup 0)).2, (aA_cg 10 _ _ (hup 1)).2]
theorem s_firstQuestion {n f l : Int} {V : qV} {J : qJ} {kz : Nat} {Q : Int → qV → Prop} (h : psR n f l V J) (hk : 3 ^ (V 159 6).toNat ≤ V 159 100 ∨ 59049 ≤ kz) (k0 : ∀ V', psR n f l V' J → aA (V' 160) 10 (V' 603) = 0 → gwP V V' → Q (-1) V') (k1 : ∀ V' j, psR n f l V' J → aA (V' 160) 10 (V' 603) ≠ 0 → frs (V' 160) (V' 603) j → gwP V V' → Q j V') : W_X7_firstQuestion V kz Q := by
  refine s_fewestQuestions h hk (fun V1 p q w => br_c (fun y => k0 V1 p y w) (fun y => ?_))
  have cu := p.cu q
  have top := asg_top p
  have p' := p
  obtain ⟨hr, p1, p2, p3', p4, p5⟩ := p'
  obtain ⟨g1, g2, g3, g4, g5, g6⟩ := hr.2.2.2.2.2.2.1
  have t := g4.1
  have b := p3_le (V1 159 6).toNat (by omega)
  have b0 := p3 (V1 159 6).toNat
  have c1 := cu.1
  -- what is worth asking is told
  have att : ∀ j, 0 ≤ j → j < 10 → V1 603 j = 2 → qst (aA (V1 160) 10) (V1 603) j = aA (V1 160) 10 (V1 603) → isT V1 j := fun j a b' c d => by
    by_cases x : isT V1 j
    · exact x
    · exfalso
      have df : dfB (V1 160) j 0 = false := by
        cases df : dfB (V1 160) j 0 with
        | false => rfl
        | true => exact absurd ((inL_t g4 a b').mpr (by rw [telB_e, df, p4.2 j a b', decide_eq_true c]; rfl)) x
      have := idl_A (om := V1 160) (u := j) (b := 1) ⟨a, b'⟩ (Or.inr rfl) 10 (V1 603) (c2_b _).2 c (idl_tel df)
      unfold qst at d
      omega
  have op : ∀ i, 0 ≤ i → i < V1 159 6 → V1 603 (V1 162 i) = 2 := fun i a c => by
    have tl := g4.2.1 i a c
    have := tl.2
    rw [telB_e, Bool.and_eq_true, p4.2 _ tl.1.1 tl.1.2] at this
    exact of_decide_eq_true this.1
  refine s_powerOf t.1 t.2 ⟨zr_i (by omega) (by omega), ?_⟩
  have main : ∀ (g : Nat) (i : Int), 0 ≤ i → i ≤ V1 159 6 → V1 159 6 < i + g → (∀ m, 0 ≤ m → m < i → qst (aA (V1 160) 10) (V1 603) (V1 162 m) ≠ aA (V1 160) 10 (V1 603)) → lp_X7_firstQuestion_23 (aA (V1 160) 10 (V1 603)) (3 ^ (V1 159 6).toNat - 1) V1 (fun l3x7 => Q (-1) V1) Q g i := by
    intro g
    induction g with
    | zero => intro i p q r; omega
    | succ g ih =>
      intro i i0 i1 r e
      rw [lp_X7_firstQuestion_23]
      refine br_c (fun c => ?_) (fun c => br_f (by omega) ?_)
      · exfalso
        obtain ⟨j, j0, j1, j2, j3⟩ := A_at y
        obtain ⟨m, m0, m1, m2⟩ := att j j0 j1 j2 j3.symm
        exact e m m0 (by omega) (by rw [m2]; exact j3.symm)
      · refine s_questionsBy g4 cu.2.1 cu.1 (fun x x0 x1 => cu.2.2 x x0 (by omega)) (by omega) i0 (by omega) (by rw [dg_top, if_pos (by omega)]) ?_
        rw [qst_cg top]
        refine br_c (fun z => ⟨by omega, k1 V1 _ p y ⟨(g4.2.1 i i0 (by omega)).1, op i i0 (by omega), z, fun k a b' c' d => ?_⟩ w⟩) (fun z => ⟨zr_i (by omega) (by omega), ih _ (by omega) (by omega) (by omega) (fun m a b' => ?_)⟩)
        · have tl := (g4.2.1 i i0 (by omega)).1
          obtain ⟨m, m0, m1, m2⟩ := att k a (by omega) c' d
          by_cases hm : m < i
          · exact e m m0 hm (by rw [m2]; exact d)
          · by_cases hm2 : m = i
            · subst hm2; omega
            · have := g4.2.2.1 i m i0 (by omega) m1; omega
        · by_cases hm : m = i
          · subst hm; exact z
          · exact e m a (by omega)
  exact main 100000 0 (by decide) t.1 (by omega) (fun m a b => by omega)
theorem t_ask {n : Int} {a : Int} {b : Int} {kz : Nat} {V : qV} {J : qJ} {P : qV → qJ → Prop} (hk : ¬ gw V a b ∨ 59049 ≤ kz) (h : Rel n V J) (hP0 : ∀ V2 J2, Rel (n + 1) V2 J2 → (gw V a b → Rel (n + 1 - 8192) V2 J2) → P V2 J2) : W_X10_ask a b V J kz (fun r V1 J1 => W_X11_ask a b V1 (fun s V2 => V2 602 0 = 0 ∧ r = s ∧ P V2 J1)) (fun E V1 J1 => (E = "java/lang/IndexOutOfBoundsException" ∧ W_X11_ask a b V1 (fun s V2 => V2 602 0 = 1 ∧ P V2 J1)) ∨ (E = "java/lang/IllegalArgumentException" ∧ W_X11_ask a b V1 (fun s V2 => V2 602 0 = 2 ∧ P V2 J1))) := by
  have h142 := h.2.2.2.1.2.2.2.1.1
  refine if ha : 0 ≤ a ∧ a < V 12 10 then ?_ else s_po0 ha (Or.inl ⟨rfl, m_asks0 h ha (br_t rfl ⟨qu_s _ _ _ _, hP0 _ _ h.th (fun g => absurd g.1 ha)⟩)⟩)
  refine if hl : 0 ≤ b ∧ b < V 0 2 then ?_ else s_po2 ha (by omega) hl (Or.inr ⟨rfl, m_asks2 h ha hl (br_t rfl ⟨qu_s _ _ _ _, hP0 _ _ h.th (fun g => absurd g.2.1 hl)⟩)⟩)
  refine s_pose h ha hl (fun V1 J1 p e1 => s_firstQuestion p (gw_hk ha hl p e1 hk) (fun V2 p2 z w => ?_) (fun V2 j p2 z hf gv => ?_))
  · exact m_asks p2.1 p2.2.1 p2.2.2.1 (br_f (by decide) (m_cubes p2 (fun T V4 x1 x2 x3 x4 x5 x6 x7 => ⟨x4, br_t (by rw [x5]; exact z) ⟨x2, rfl, hP0 _ _ x1 (gw_lo p e1 w x7 x1)⟩⟩)))
  · refine m_asks p2.1 p2.2.1 p2.2.2.1 (br_f (by decide) (m_cubes p2 (fun T V4 x1 x2 x3 x4 x5 x6 x7 => ⟨x4, br_f (by rw [x5]; exact z) ?_⟩)))
    have hd : ∀ k, 0 ≤ k → k < 10 → dgF T k = V2 603 k := fun k a b => (x3 k a b).2
    have main : ∀ (g : Nat) (i : Int), 0 ≤ i → i ≤ j → j < i + g → lp_X11_ask_45 T V4 (fun l4x14 => V4 602 0 = 0 ∧ j = l4x14 ∧ P V4 J1) g i := by
      intro g
      induction g with
      | zero => intro i p q r; omega
      | succ g ih =>
        intro i i0 i1 r
        have j9 := hf.1
        rw [lp_X11_ask_45, Int.zero_add, (x3 i i0 (by omega)).1]
        refine ⟨zr_i (by omega) (by omega), by omega, br_c (fun y => m_worseOf x1.2.2.2.2.2.2.2.2 x6 ⟨x4.1, by omega, x4.2⟩ ⟨i0, by omega⟩ (by rw [hd i i0 (by omega)]; exact y) (fun w hw => ?_)) (fun y => ?_)⟩
        · rw [qst_cg hd] at hw
          have qb : 0 ≤ qst (aA (V2 160) 10) (V2 603) i ∧ qst (aA (V2 160) 10) (V2 603) i ≤ 11 := by
            have u0 := aA_b (V2 160) 10 (up (V2 603) i 0)
            have u1 := aA_b (V2 160) 10 (up (V2 603) i 1)
            unfold qst; omega
          rw [hw, x5]
          refine ⟨zr_i (by omega) (by omega), x4, br_c (fun u => ⟨x2, ?_, hP0 _ _ x1 (gw_lo p e1 gv x7 x1)⟩) (fun u => ⟨zr_i (by omega) (by omega), ih _ (by omega) ?_ (by omega)⟩)⟩
          · by_cases lt : i < j
            · exact absurd u (hf.2.2.2 i i0 lt y)
            · omega
          · by_cases e : i = j
            · subst e; exact absurd hf.2.2.1 u
            · omega
        · refine ⟨zr_i (by omega) (by omega), ih _ (by omega) ?_ (by omega)⟩
          by_cases e : i = j
          · subst e; exact absurd hf.2.1 y
          · omega
    exact main 100000 0 (by decide) hf.1.1 (by have := hf.1; omega)
