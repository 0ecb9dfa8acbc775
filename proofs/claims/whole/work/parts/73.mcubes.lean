/-! the reference's cubes -/
def dgF (T : Int) : Int → Int := fun k => dg T k.toNat
theorem dgF_sub {T k c : Int} (hk : 0 ≤ k) (h2 : dgF T k = 2) (hc : c = 0 ∨ c = 1) : ∀ j, 0 ≤ j → j < 10 → dgF (T - (2 - c) * 3 ^ k.toNat) j = up (dgF T) k c j := fun j a b => by
  unfold dgF at *
  rw [dg_sub (2 - c) (by omega) (by omega) _ _ _ h2]
  unfold up
  by_cases e : j = k
  · subst e; rw [if_pos rfl, if_pos rfl]; omega
  · rw [if_neg (by omega), if_neg e]
theorem hasY_cg {om a b : Int → Int} (h : ∀ k, 0 ≤ k → k < 10 → a k = b k) (y : Int) : hasY om a y = hasY om b y := by
  rw [Bool.eq_iff_iff, hasY_iff, hasY_iff]
  exact ⟨fun ⟨v, p, q, r, s⟩ => ⟨v, p, q, fun k k0 k1 => by rw [← h k k0 k1]; exact r k k0 k1, s⟩, fun ⟨v, p, q, r, s⟩ => ⟨v, p, q, fun k k0 k1 => by rw [h k k0 k1]; exact r k k0 k1, s⟩⟩
/-- bits of a cube, and its questions -/
def cbB (om a : Int → Int) (b : Int) : Prop := (0 ≤ b ∧ b < 32) ∧ ∀ i, 0 ≤ i → i < 5 → tb b i = hasY om a (i + 1)
def mcR (om : Int → Int) (V : qV) (c : Int) : Prop := ∀ T, 0 ≤ T → T < c → cbB om (dgF T) (V 619 T) ∧ V 620 T = aA om 10 (dgF T)
theorem cbB_0 {om a : Int → Int} {b : Int} (h : cbB om a b) (h0 : b = 0) : nB om a ≤ 1 := by
  have : nB om a = 0 := cnt_0 5 (fun k p q => by rw [← h.2 k p (by omega), h0, tb_0])
  omega
theorem tb_e5q {a b : Int} (a0 : 0 ≤ a ∧ a < 32) (b0 : 0 ≤ b ∧ b < 32) (h : ∀ k, 0 ≤ k → k < 5 → tb a k = tb b k) : a = b := by
  refine tb_ext a0.1 b0.1 (fun k hk => ?_)
  by_cases h1 : k < 5
  · exact h k hk h1
  · rw [tb_lt (n := 5) (show a < 2 ^ 5 from a0.2) (by omega), tb_lt (n := 5) (show b < 2 ^ 5 from b0.2) (by omega)]
theorem sh5 {i : Int} (h : 0 ≤ i ∧ i < 5) : 0 ≤ zshl 1 i ∧ zshl 1 i < 32 := by
  have := zshl_rn (k := i) (n := 5) (by decide) h.1 (by omega)
  have h2 : zshl 1 i < 32 := this.2
  omega
theorem cbB_1 {om a : Int → Int} {b i : Int} (h : cbB om a b) (hi : 0 ≤ i ∧ i < 5) (h0 : b = zshl 1 i) : nB om a ≤ 1 := by
  refine cnt_1 5 (fun x y x0 x1 y0 y1 p q => ?_)
  have e : ∀ z, 0 ≤ z → z < 5 → hasY om a (z + 1) = true → z = i := fun z z0 z1 r => by
    rw [← h.2 z z0 z1, h0, tb_p hi.1 (by omega) z0] at r
    exact (of_decide_eq_true r).symm
  rw [e x x0 (by omega) p, e y y0 (by omega) q]
theorem cbB_2 {om a : Int → Int} {b i : Int} (h : cbB om a b) (hi : 0 ≤ i ∧ i < 5) (ht : tb b i = true) (h0 : b ≠ zshl 1 i) : ¬ nB om a ≤ 1 := by
  intro hn
  refine h0 (tb_e5q h.1 (sh5 hi) (fun k p q => ?_))
  rw [tb_p hi.1 (by omega) p]
  by_cases e : i = k
  · subst e; rw [ht]; simp
  · rw [decide_eq_false e]
    cases hk : tb b k with
    | false => rfl
    | true =>
      exfalso
      have h1 : hasY om a (i + 1) = true := by rw [← h.2 i hi.1 hi.2]; exact ht
      have h2 : hasY om a (k + 1) = true := by rw [← h.2 k p q]; exact hk
      have g : cntB (fun j => decide (j = i)) 5 + 1 ≤ nB om a := cnt_lt (m := k) 5 (fun j _ _ r => by rw [of_decide_eq_true r]; exact h1) p (by omega) (decide_eq_false (fun x => e x.symm)) h2
      have g2 : cntB (fun _ => false) 5 + 1 ≤ cntB (fun j => decide (j = i)) 5 := cnt_lt (m := i) 5 (fun j _ _ r => absurd r (by decide)) hi.1 (by omega) rfl (decide_eq_true rfl)
      have g3 : cntB (fun _ => false) 5 = 0 := rfl
      omega
theorem low5 {b : Int} (h : 0 ≤ b ∧ b < 32) (h0 : b ≠ 0) : ∃ i, 0 ≤ i ∧ i < 5 ∧ tb b i = true ∧ ∀ k, 0 ≤ k → k < i → tb b k = false := by
  have hr := ri_bd (p := fun i => tb b i) (n := 5) (by decide)
  by_cases e : ri (fun i => tb b i) 5 = -1
  · exfalso
    refine h0 (tb_e5q h (by decide) (fun k p q => ?_))
    rw [tb_0]
    cases hk : tb b k with
    | false => rfl
    | true => exact absurd e (ri_ex (p := fun i => tb b i) p q hk)
  · refine ⟨_, by omega, hr.2, ri_so (p := fun i => tb b i) (by decide) e, fun k p q => ?_⟩
    cases hk : tb b k with
    | false => rfl
    | true =>
      exfalso
      have e1 := ri_ex (p := fun i => tb b i) (n := k + 1) p (by omega) hk
      have e2 := ri_le (p := fun i => tb b i) (i := k + 1) (n := 5) (by omega) (by omega) e1
      have e3 := ri_bd (p := fun i => tb b i) (n := k + 1) (by omega)
      omega
theorem td {T : Int} {k : Int} {V : qV} (hT : 0 ≤ T) (h : ∀ k, 0 ≤ k → k < 10 → V 621 k = 3 ^ k.toNat) (a : 0 ≤ k) (b : k < 10) : (T.tdiv (V 621 k)).tmod 3 = dgF T k := by
  rw [h k a b, Int.tdiv_eq_ediv_of_nonneg hT, Int.tmod_eq_emod_of_nonneg (Int.ediv_nonneg hT (by have := p3 k.toNat; omega))]; rfl
theorem m_worseOf {om : Int → Int} {V : qV} {T c k : Int} {Q : Int → Prop} (hp : ∀ k, 0 ≤ k → k < 10 → V 621 k = 3 ^ k.toNat) (hm : mcR om V c) (hT : 0 ≤ T ∧ T ≤ c ∧ T < 59049) (hk : 0 ≤ k ∧ k < 10) (h2 : dgF T k = 2) (hq : ∀ r, 1 + r = qst (aA om 10) (dgF T) k → Q r) : W_X11_worseOf T k V Q := by
  have g : 2 * 3 ^ k.toNat ≤ T := dg_ge h2 hT.1
  have b0 := p3 k.toNat
  have b := p3_le k.toNat (by omega)
  have e1 : V 620 (T - 3 ^ k.toNat) = aA om 10 (up (dgF T) k 1) := by
    rw [(hm _ (by omega) (by omega)).2]
    refine (aA_cg 10 _ _ (fun j p q => ?_)).2
    have := dgF_sub (T := T) (k := k) (c := 1) hk.1 h2 (Or.inr rfl) j p q
    rw [show (2 - 1 : Int) * 3 ^ k.toNat = 3 ^ k.toNat by omega] at this
    exact this
  have e0 : V 620 (T - 2 * 3 ^ k.toNat) = aA om 10 (up (dgF T) k 0) := by
    rw [(hm _ (by omega) (by omega)).2]
    exact (aA_cg 10 _ _ (fun j p q => dgF_sub (T := T) (k := k) (c := 0) hk.1 h2 (Or.inl rfl) j p q)).2
  refine ⟨by omega, ?_⟩
  rw [hp k hk.1 hk.2, e0, e1]
  refine ⟨zr_i (by omega) (by omega), by omega, by omega, zr_i (by omega) (by omega), zr_i (by omega) (by omega), by omega, br_c (fun y => hq _ ?_) (fun y => hq _ ?_)⟩ <;> unfold qst <;> omega
theorem m_leastAsks {om : Int → Int} {V : qV} {T : Int} {Q : Int → Prop} (hp : ∀ k, 0 ≤ k → k < 10 → V 621 k = 3 ^ k.toNat) (hm : mcR om V T) (hT : 0 ≤ T ∧ T < 59049) (hb' : cbB om (dgF T) (V 619 T)) (k : Q (aA om 10 (dgF T))) : W_X11_leastAsks T V Q := by
  refine ⟨hT, br_c (fun y => ?_) (fun y => ?_)⟩
  · rw [aA_0 (cbB_0 hb' y)] at k; exact k
  obtain ⟨i, i0, i1, i2, i3⟩ := low5 hb'.1 y
  have bb := hb'.1
  refine m_lowest ⟨i0, i1⟩ (by rw [tb_sh bb.1 (by omega) i0 (by omega), i2]; decide) (fun x x0 x1 => by rw [tb_sh bb.1 (by omega) x0 (by omega), i3 x x0 x1]; rfl) (br_c (fun z => ?_) (fun z => ?_))
  · rw [aA_0 (cbB_1 hb' ⟨i0, i1⟩ z)] at k; exact k
  have hn := cbB_2 hb' ⟨i0, i1⟩ i2 z
  rw [aA_e hn] at k
  have main : ∀ (g : Nat) (j : Int), 0 ≤ j → j ≤ 10 → 10 < j + g → lp_X11_leastAsks_29 T V (fun l3x10 l4x10 => Q l3x10) g (mnA (aA om 10) (dgF T) j.toNat) j := by
    intro g
    induction g with
    | zero => intro j p q r; omega
    | succ g ih =>
      intro j p q r
      rw [lp_X11_leastAsks_29]
      have es : mnA (aA om 10) (dgF T) (j + 1).toNat = if dgF T j = 2 then min (mnA (aA om 10) (dgF T) j.toNat) (qst (aA om 10) (dgF T) j) else mnA (aA om 10) (dgF T) j.toNat := by
        rw [show (j + 1).toNat = j.toNat + 1 by omega, mnA_s, Int.toNat_of_nonneg p]
      refine br_c (fun c => ?_) (fun c => ⟨by omega, ?_, ?_⟩)
      · have : j = 10 := by omega
        subst this; exact k
      · rw [hp j p (by omega)]; exact p3 _
      · rw [td hT.1 hp p (by omega)]
        have ih' := ih (j + 1) (by omega) (by omega) (by omega)
        rw [es] at ih'
        refine br_c (fun d => ?_) (fun d => ⟨zr_i (by omega) (by omega), ?_⟩)
        · rw [if_pos d] at ih'
          refine m_worseOf hp hm ⟨hT.1, by omega, hT.2⟩ ⟨p, by omega⟩ d (fun w hw => ?_)
          have a0 := aA_b om 10 (up (dgF T) j 0)
          have a1 := aA_b om 10 (up (dgF T) j 1)
          have hw2 := hw
          unfold qst at hw2
          rw [hw]
          refine ⟨zr_i (by unfold qst; omega) (by unfold qst; omega), br_c (fun u => ⟨zr_i (by omega) (by omega), ?_⟩) (fun u => ⟨zr_i (by omega) (by omega), ?_⟩)⟩
          · rw [Int.min_eq_left u] at ih'; exact ih'
          · rw [Int.min_eq_right (by omega)] at ih'; exact ih'
        · rw [if_neg d] at ih'; exact ih'
  exact main 100000 0 (by decide) (by decide) (by decide)
def lst2 (a : Int → Int) (l n : Int) : Prop := (l = -1 ∧ ∀ k, 0 ≤ k → k < n → a k ≠ 2) ∨ (0 ≤ l ∧ l < n ∧ a l = 2)
theorem m_digits {T : Int} {V : qV} {K : Int → Int → Int → Prop} (hp : ∀ k, 0 ≤ k → k < 10 → V 621 k = 3 ^ k.toNat) (hT : 0 ≤ T) (k : ∀ l v i, lst2 (dgF T) l 10 → (0 ≤ v ∧ v < 1024) → (∀ u, 0 ≤ u → u < 10 → tb v u = decide (dgF T u = 1)) → K l v i) : lp_X11_findCubes_15 T V K 100000 (-1) 0 0 := by
  have main : ∀ (g : Nat) (i l v : Int), 0 ≤ i → i ≤ 10 → 10 < i + g → lst2 (dgF T) l i → (0 ≤ v ∧ v < 1024) → (∀ u, 0 ≤ u → u < 10 → tb v u = decide (u < i ∧ dgF T u = 1)) → lp_X11_findCubes_15 T V K g l v i := by
    intro g
    induction g with
    | zero => intro i l v p q r; omega
    | succ g ih =>
      intro i l v p q r e1 e2 e3
      rw [lp_X11_findCubes_15]
      have z0 : zor v 0 = v := by
        refine tb_e10 ?_ e2 (fun k a b => by rw [tb_or e2.1 (by omega) (by decide) (by decide), tb_0, Bool.or_false])
        have := zor_rn (n := 10) (a := v) (b := 0) (by decide) e2.1 e2.2 (by decide) (by decide)
        exact this
      refine br_c (fun c => ?_) (fun c => ⟨by omega, ?_, ?_⟩)
      · have : i = 10 := by omega
        subst this
        exact k l v 10 e1 e2 (fun u a b => by rw [e3 u a b, decide_eq_decide]; omega)
      · rw [hp i p (by omega)]; exact p3 _
      · rw [td hT hp p (by omega), z0]
        have n0 : dgF T i ≠ 1 → ∀ u, 0 ≤ u → u < 10 → tb v u = decide (u < i + 1 ∧ dgF T u = 1) := fun h u a b => by
          rw [e3 u a b, decide_eq_decide]
          by_cases hu : u = i
          · subst hu; omega
          · omega
        have l2 : dgF T i ≠ 2 → lst2 (dgF T) l (i + 1) := fun h => by
          rcases e1 with ⟨x, y⟩ | ⟨x, y, z⟩
          · refine Or.inl ⟨x, fun m a b => ?_⟩
            by_cases hm : m = i
            · subst hm; exact h
            · exact y m a (by omega)
          · exact Or.inr ⟨x, by omega, z⟩
        refine br_c (fun d => br_f (by omega) ⟨zr_i (by omega) (by omega), ih _ _ _ (by omega) (by omega) (by omega) (Or.inr ⟨p, by omega, d⟩) e2 (n0 (by omega))⟩) (fun d => br_c (fun d1 => ⟨zr_i (by omega) (by omega), ih _ _ _ (by omega) (by omega) (by omega) (l2 d) (mk_or e2 (by omega)).1 (fun u a b => ?_)⟩) (fun d1 => ⟨zr_i (by omega) (by omega), ih _ _ _ (by omega) (by omega) (by omega) (l2 d) e2 (n0 d1)⟩))
        rw [(mk_or e2 (by omega)).2 u a, e3 u a b, ← Bool.decide_or, decide_eq_decide]
        by_cases hu : i = u
        · subst hu; omega
        · omega
  exact main 100000 0 (-1) 0 (by decide) (by decide) (by decide) (Or.inl ⟨rfl, fun k a b => by omega⟩) (by decide) (fun u a b => by rw [tb_0]; symm; rw [decide_eq_false_iff_not]; omega)
theorem m_findCubes {W : Int → Bool} {x om : Int → Int} {V : qV} {Q : qV → Prop} (hp : ∀ k, 0 ≤ k → k < 10 → V 621 k = 3 ^ k.toNat) (h6 : ∀ v, 0 ≤ v → v < 1024 → V 616 v = bit01 (W v)) (h7 : ∀ v, 0 ≤ v → v < 1024 → W v = true → V 617 v = x v) (hx : ∀ v, 0 ≤ x v ∧ x v ≤ 4) (hom : ∀ v, 0 ≤ v → v < 1024 → om v = if W v then x v + 1 else 0)
    (k : ∀ V', (∀ o j, o ≠ 619 → o ≠ 620 → V' o j = V o j) → mcR om V' 59049 → Q V') : W_X11_findCubes V Q := by
  have main : ∀ (g : Nat) (c : Int) (V1 : qV), 0 ≤ c → c ≤ 59049 → 59049 < c + g → (∀ o j, o ≠ 619 → o ≠ 620 → V1 o j = V o j) → mcR om V1 c → lp_X11_findCubes_2 (fun l1x33 V33 => Q V33) g c V1 := by
    intro g
    induction g with
    | zero => intro c V1 p q r; omega
    | succ g ih =>
      intro c V1 p q r e1 e2
      have hp1 : ∀ k, 0 ≤ k → k < 10 → V1 621 k = 3 ^ k.toNat := fun k a b => by rw [e1 _ _ (by decide) (by decide)]; exact hp k a b
      rw [lp_X11_findCubes_2]
      have nx : ∀ a b, cbB om (dgF c) a → b = aA om 10 (dgF c) → c < 59049 → (zr (c + 1) ∧ lp_X11_findCubes_2 (fun l1x33 V33 => Q V33) g (c + 1) (qu (qu V1 619 c a) 620 c b)) := fun a b f1 f2 hc => by
        refine ⟨zr_i (by omega) (by omega), ih _ _ (by omega) (by omega) (by omega) (fun o j y z => by rw [qu_o _ _ z, qu_o _ _ y]; exact e1 o j y z) (fun T t0 t1 => ?_)⟩
        by_cases hT : T = c
        · subst hT
          rw [qu_s, qu_o _ _ (by decide), qu_s]; exact ⟨f1, f2⟩
        · rw [qu_o _ _ (by decide), qu_e (by omega), qu_e (by omega), qu_o _ _ (by decide)]
          exact e2 T t0 (by omega)
      refine br_c (fun y => ?_) (fun y => m_digits hp1 p (fun l v i f1 f2 f3 => br_c (fun z => ⟨f2, ?_⟩) (fun z => ?_)))
      · have : c = 59049 := by omega
        subst this; exact k V1 e1 e2
      · rcases f1 with ⟨_, f1⟩ | f1
        · have ag : ∀ w, 0 ≤ w → w < 1024 → (agr (dgF c) w ↔ w = v) := fun w w0 w1 => by
            have e : ∀ u, 0 ≤ u → u < 10 → dgF c u = bit01 (tb v u) := fun u a b => by
              have d := dg_b c u.toNat
              have n2 := f1 u a b
              rw [f3 u a b]
              unfold dgF at *
              by_cases h1 : dg c u.toNat = 1
              · rw [h1]; rfl
              · rw [decide_eq_false h1]; show _ = (0 : Int); omega
            constructor
            · intro h
              refine tb_e10 ⟨w0, w1⟩ f2 (fun u a b => ?_)
              have h1 := (h u a b).resolve_left (f1 u a b)
              rw [e u a b] at h1
              cases t1 : tb v u <;> cases t2 : tb w u <;> rw [t1, t2] at h1 <;> first | rfl | exact absurd h1 (by decide)
            · intro h
              subst h
              exact fun u a b => Or.inr (e u a b)
          have hy : ∀ y, hasY om (dgF c) y = decide (om v = y) := fun y => by
            rw [Bool.eq_iff_iff, hasY_iff, decide_eq_true_eq]
            constructor
            · rintro ⟨w, w0, w1, w2, w3⟩
              rw [(ag w w0 w1).mp w2] at w3; exact w3
            · intro h
              exact ⟨v, f2.1, f2.2, (ag v f2.1 f2.2).mpr rfl, h⟩
          have n1 : aA om 10 (dgF c) = 0 := aA_0 (cnt_1 5 (fun i j _ _ _ _ a b => by
            rw [hy] at a b
            have := of_decide_eq_true a
            have := of_decide_eq_true b
            omega)) 10
          have o := hom v f2.1 f2.2
          have xb := hx v
          rw [e1 616 _ (by decide) (by decide), e1 617 _ (by decide) (by decide), h6 v f2.1 f2.2]
          cases w : W v with
          | false =>
            rw [w, if_neg (by decide)] at o
            refine br_t rfl ⟨by omega, by omega, nx 0 0 ⟨by decide, fun i a b => ?_⟩ n1.symm (by omega)⟩
            rw [tb_0, hy, o]; symm; exact decide_eq_false (by omega)
          | true =>
            rw [w, if_pos rfl] at o
            rw [h7 v f2.1 f2.2 w]
            refine br_f (by decide) ⟨f2, by omega, by omega, nx _ 0 ⟨sh5 (by omega), fun i a b => ?_⟩ n1.symm (by omega)⟩
            rw [tb_p xb.1 (by omega) a, hy, o, decide_eq_decide]; omega
        · omega
      · have f1 := f1.resolve_left (fun h => z h.1)
        have d2 : dgF c l = 2 := f1.2.2
        have g : 2 * 3 ^ l.toNat ≤ c := dg_ge d2 p
        have b0 := p3 l.toNat
        have b := p3_le l.toNat (by omega)
        refine ⟨by omega, ?_⟩
        rw [hp1 l f1.1 f1.2.1]
        have c1 := (e2 (c - 3 ^ l.toNat) (by omega) (by omega)).1
        have c0 := (e2 (c - 2 * 3 ^ l.toNat) (by omega) (by omega)).1
        have cb : cbB om (dgF c) (zor (V1 619 (c - 3 ^ l.toNat)) (V1 619 (c - 2 * 3 ^ l.toNat))) := by
          have r1 := c1.1
          have r0 := c0.1
          refine ⟨zor_rn (n := 5) (by decide) r1.1 r1.2 r0.1 r0.2, fun i a b => ?_⟩
          have y0 := hasY_cg (om := om) (fun j p q => dgF_sub (T := c) (k := l) (c := 0) f1.1 d2 (Or.inl rfl) j p q) (i + 1)
          have y1 := hasY_cg (om := om) (a := dgF (c - 3 ^ l.toNat)) (b := up (dgF c) l 1) (fun j p q => by
            have := dgF_sub (T := c) (k := l) (c := 1) f1.1 d2 (Or.inr rfl) j p q
            rw [show (2 - 1 : Int) * 3 ^ l.toNat = 3 ^ l.toNat by omega] at this
            exact this) (i + 1)
          have y0' : hasY om (dgF (c - 2 * 3 ^ l.toNat)) (i + 1) = hasY om (up (dgF c) l 0) (i + 1) := y0
          rw [tb_or r1.1 (by omega) r0.1 (by omega), c1.2 i a b, c0.2 i a b, hasY_up (u := l) ⟨f1.1, f1.2.1⟩ d2, y0', y1, Bool.or_comm]
        refine ⟨zr_i (by omega) (by omega), by omega, by omega, zr_i (by omega) (by omega), zr_i (by omega) (by omega), by omega, by omega, m_leastAsks (om := om) (fun k a b => by rw [qu_o _ _ (by decide)]; exact hp1 k a b) (fun T t0 t1 => ?_) (by omega) (by rw [qu_s]; exact cb) ⟨by omega, nx _ _ cb rfl (by omega)⟩⟩
        rw [qu_e (by omega), qu_o _ _ (by decide)]
        exact e2 T t0 t1
  exact main 100000 0 V (by decide) (by decide) (by decide) (fun _ _ _ _ => rfl) (fun T a b => by omega)
