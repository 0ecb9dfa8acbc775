/-! the class fills its cubes -/
theorem asg_t {V : qV} {c i : Int} (h : tlR V) (h0 : 0 ≤ i) (h1 : i < V 159 6) : asg V c (V 162 i) = dg c i.toNat := by
  have e : ri (fun m => decide (V 162 m = V 162 i)) (V 159 6) = i := ri_first h0 h1 (decide_eq_true rfl) (fun m p q => decide_eq_false (by have := h.2.2.1 m i p q h1; omega))
  unfold asg dg
  rw [e, if_neg (by omega)]
theorem asg_n {V : qV} {c u : Int} (h : tlR V) (hn : ∀ i, 0 ≤ i → i < V 159 6 → V 162 i ≠ u) : asg V c u = if tb (V 159 3) u then 2 else bit01 (tb (V 159 4) u) := by
  have e : ri (fun m => decide (V 162 m = u)) (V 159 6) = -1 := by
    have := ri_none (p := fun m => decide (V 162 m = u)) (V 159 6).toNat (fun i p q => decide_eq_false (hn i p (by have := h.1.1; omega)))
    rw [Int.toNat_of_nonneg h.1.1] at this
    exact this
  unfold asg
  rw [e, if_pos rfl]
def isT (V : qV) (u : Int) : Prop := ∃ i, 0 ≤ i ∧ i < V 159 6 ∧ V 162 i = u
theorem isT_no {V : qV} {u : Int} (h : ¬ isT V u) : ∀ i, 0 ≤ i → i < V 159 6 → V 162 i ≠ u := fun i p q r => h ⟨i, p, q, r⟩
theorem asg_up {V : qV} {c i d : Int} (h : tlR V) (h0 : 0 ≤ i) (h1 : i < V 159 6) (h2 : dg c i.toNat = 2) (hd : d = 0 ∨ d = 1) : asg V (c - (2 - d) * 3 ^ i.toNat) = up (asg V c) (V 162 i) d := by
  funext u
  by_cases hu : isT V u
  · obtain ⟨m, p, q, r⟩ := hu
    subst r
    rw [asg_t h p q, dg_sub (2 - d) (by omega) (by omega) i.toNat m.toNat c h2]
    by_cases e : m = i
    · subst e; rw [if_pos rfl, up_s]; omega
    · have : V 162 m ≠ V 162 i := fun x => by
        rcases Int.lt_or_gt_of_ne e with y | y
        · have := h.2.2.1 m i p y h1; omega
        · have := h.2.2.1 i m h0 y q; omega
      rw [if_neg (by omega), up_o this, asg_t h p q]
  · have : u ≠ V 162 i := fun x => hu ⟨i, h0, h1, x.symm⟩
    rw [up_o this, asg_n h (isT_no hu), asg_n h (isT_no hu)]
/-- what stands while the cubes below c are filled -/
def cbC (V : qV) (c : Int) : Prop := tlR V ∧ (∀ u, 0 ≤ u → u < 10 → tb (V 159 3) u = true → tb (V 159 4) u = false) ∧ (∀ v, 0 ≤ v → v < 1024 → 0 ≤ V 160 v ∧ V 160 v ≤ 5) ∧ (0 ≤ V 159 4 ∧ V 159 4 < 1024) ∧ (3 ^ (V 159 6).toNat ≤ V 159 100) ∧ (∀ i, 0 ≤ i → i < 10 → V 164 i = 3 ^ i.toNat) ∧ (∀ i, 0 ≤ i → i < 10 → V 165 i = dg c i.toNat) ∧ (∀ x, 0 ≤ x → x < c → V (V 159 7) x = vlA (V 160) (asg V x)) ∧ 0 ≤ c
theorem s_powerOf {t : Int} {V : qV} {Q : Int → Prop} (h0 : 0 ≤ t) (h : t ≤ 10) (k : Q (3 ^ t.toNat)) : W_X7_powerOf t V Q := by
  have main : ∀ (g : Nat) (i x : Int), 0 ≤ i → i ≤ t → t < i + g → x = 3 ^ i.toNat → lp_X7_powerOf_4 t V (fun l1x3 l2x3 => Q l1x3) g x i := by
    intro g
    induction g with
    | zero => intro i x p q r; omega
    | succ g ih =>
      intro i x p q r e
      rw [lp_X7_powerOf_4]
      have b := p3_le i.toNat (by omega)
      have b0 := p3 i.toNat
      refine br_c (fun c => ?_) (fun c => br_f (by omega) ⟨zr_i (by omega) (by omega), zr_i (by omega) (by omega), ih _ _ (by omega) (by omega) (by omega) ?_⟩)
      · have : i = t := by omega
        subst this; rw [e]; exact k
      · rw [show (i + 1).toNat = i.toNat + 1 by omega, Int.pow_succ, e]
  exact main 100000 0 1 (by decide) h0 (by omega) rfl
theorem s_firstFree {V : qV} {Q : Int → Prop} (ht : 0 ≤ V 159 6 ∧ V 159 6 ≤ 10) (k0 : (∀ i, 0 ≤ i → i < V 159 6 → V 165 i ≠ 2) → Q (-1)) (k1 : ∀ i, 0 ≤ i → i < V 159 6 → V 165 i = 2 → (∀ m, 0 ≤ m → m < i → V 165 m ≠ 2) → Q i) : W_X7_firstFree V Q := by
  have main : ∀ (g : Nat) (i : Int), 0 ≤ i → i ≤ V 159 6 → V 159 6 < i + g → (∀ m, 0 ≤ m → m < i → V 165 m ≠ 2) → lp_X7_firstFree_2 V (fun l1x3 => Q (-1)) Q g i := by
    intro g
    induction g with
    | zero => intro i p q r; omega
    | succ g ih =>
      intro i p q r e
      rw [lp_X7_firstFree_2]
      refine br_c (fun c => k0 (fun m a b => e m a (by omega))) (fun c => br_f (by omega) ⟨by omega, br_c (fun y => k1 i p (by omega) y e) (fun y => ⟨zr_i (by omega) (by omega), ih _ (by omega) (by omega) (by omega) (fun m a b => ?_)⟩)⟩)
      by_cases hm : m = i
      · subst hm; exact y
      · exact e m a (by omega)
  exact main 100000 0 (by decide) ht.1 (by omega) (fun m a b => by omega)
def d1L (V : qV) (i u : Int) : Prop := ∃ m, 0 ≤ m ∧ m < i ∧ V 162 m = u ∧ V 165 m = 1
theorem s_worldOfDigits {V : qV} {Q : Int → Prop} (h : tlR V) (h4 : 0 ≤ V 159 4 ∧ V 159 4 < 1024) (k : ∀ w, (0 ≤ w ∧ w < 1024) → (∀ u, 0 ≤ u → u < 10 → (tb w u = true ↔ tb (V 159 4) u = true ∨ d1L V (V 159 6) u)) → Q w) : W_X7_worldOfDigits V Q := by
  have ht := h.1
  have main : ∀ (g : Nat) (i a : Int), 0 ≤ i → i ≤ V 159 6 → V 159 6 < i + g → (0 ≤ a ∧ a < 1024) → (∀ u, 0 ≤ u → u < 10 → (tb a u = true ↔ tb (V 159 4) u = true ∨ d1L V i u)) → lp_X7_worldOfDigits_7 V (fun l1x5 l2x5 => Q (zand l1x5 1023)) g a i := by
    intro g
    induction g with
    | zero => intro i a p q r; omega
    | succ g ih =>
      intro i a p q r ha e
      rw [lp_X7_worldOfDigits_7]
      refine br_c (fun c => ?_) (fun c => br_f (by omega) ⟨by omega, br_c (fun y => ⟨by omega, zr_i (by omega) (by omega), ?_⟩) (fun y => ⟨zr_i (by omega) (by omega), ih _ _ (by omega) (by omega) (by omega) ha (fun u v w => ?_)⟩)⟩)
      · have : i = V 159 6 := by omega
        subst this
        have e2 : zand a 1023 = a := tb_e10 (an_b ha (by decide)) ha (fun u v w => by
          rw [tb_and ha.1 (by omega) (by decide) (by decide)]
          have : tb 1023 u = true := by
            have hu : u = 0 ∨ u = 1 ∨ u = 2 ∨ u = 3 ∨ u = 4 ∨ u = 5 ∨ u = 6 ∨ u = 7 ∨ u = 8 ∨ u = 9 := by omega
            rcases hu with rfl | rfl | rfl | rfl | rfl | rfl | rfl | rfl | rfl | rfl <;> decide
          rw [this, Bool.and_true])
        rw [e2]
        exact k a ha e
      · have hi := (h.2.1 i p (by omega)).1
        refine ih _ _ (by omega) (by omega) (by omega) (mk_or ha hi).1 (fun u v w => ?_)
        rw [(mk_or ha hi).2 u v, Bool.or_eq_true, e u v w, decide_eq_true_eq]
        constructor
        · rintro ((x | ⟨m, m0, m1, m2, m3⟩) | x)
          · exact Or.inl x
          · exact Or.inr ⟨m, m0, by omega, m2, m3⟩
          · exact Or.inr ⟨i, p, by omega, x, y⟩
        · rintro (x | ⟨m, m0, m1, m2, m3⟩)
          · exact Or.inl (Or.inl x)
          · by_cases hm : m = i
            · subst hm; exact Or.inr m2
            · exact Or.inl (Or.inr ⟨m, m0, by omega, m2, m3⟩)
      · rw [e u v w]
        constructor
        · rintro (x | ⟨m, m0, m1, m2, m3⟩)
          · exact Or.inl x
          · exact Or.inr ⟨m, m0, by omega, m2, m3⟩
        · rintro (x | ⟨m, m0, m1, m2, m3⟩)
          · exact Or.inl x
          · by_cases hm : m = i
            · subst hm; exact absurd m3 y
            · exact Or.inr ⟨m, m0, by omega, m2, m3⟩
  exact main 100000 0 (V 159 4) (by decide) ht.1 (by omega) h4 (fun u v w => ⟨fun x => Or.inl x, fun x => by
    rcases x with x | ⟨m, m0, m1, _⟩
    · exact x
    · omega⟩)
/-- a cube with no question left -/
theorem vl_leaf {V : qV} {c w : Int} (h : cbC V c) (hn : ∀ i, 0 ≤ i → i < V 159 6 → V 165 i ≠ 2) (hw : 0 ≤ w ∧ w < 1024) (hb' : ∀ u, 0 ≤ u → u < 10 → (tb w u = true ↔ tb (V 159 4) u = true ∨ d1L V (V 159 6) u)) : vlA (V 160) (asg V c) = V 160 w := by
  obtain ⟨h1, h2, h3, h4, h5, h6, h7, h8, h9⟩ := h
  have inj : ∀ i m, 0 ≤ i → i < V 159 6 → 0 ≤ m → m < V 159 6 → V 162 i = V 162 m → i = m := fun i m a b c d e => by
    rcases Int.lt_trichotomy i m with x | x | x
    · have := h1.2.2.1 i m a x d; omega
    · exact x
    · have := h1.2.2.1 m i c x b; omega
  -- each unknown: told by a digit, open, or known
  have tb01 : ∀ (b : Bool) (P : Prop), (b = true ↔ P) → ¬ P → b = false := fun b P e n => by
    cases b with
    | false => rfl
    | true => exact absurd (e.mp rfl) n
  have hT : ∀ i, 0 ≤ i → i < V 159 6 → asg V c (V 162 i) = bit01 (tb w (V 162 i)) ∧ asg V c (V 162 i) ≠ 2 := fun i a b => by
    have t := h1.2.1 i a b
    have op : tb (V 159 3) (V 162 i) = true := by
      have := t.2
      rw [telB_e, Bool.and_eq_true] at this
      exact this.1
    have nt := h2 _ t.1.1 t.1.2 op
    have d := h7 i a (by have := h1.1; omega)
    have n2 := hn i a b
    have dgb := dg_b c i.toNat
    rw [asg_t h1 a b, ← d]
    refine ⟨?_, n2⟩
    have hb2 := hb' _ t.1.1 t.1.2
    by_cases e : V 165 i = 1
    · have : tb w (V 162 i) = true := hb2.mpr (Or.inr ⟨i, a, b, rfl, e⟩)
      rw [this, e]; rfl
    · have : tb w (V 162 i) = false := tb01 _ _ hb2 (fun x => by
        rcases x with x | ⟨m, m0, m1, m2, m3⟩
        · rw [nt] at x; exact absurd x (by decide)
        · have := inj m i m0 m1 a b m2
          subst this; exact e m3)
      rw [this, show V 165 i = 0 by omega]; rfl
  have hN : ∀ u, 0 ≤ u → u < 10 → ¬ isT V u → tb w u = tb (V 159 4) u := fun u a b n => by
    rw [Bool.eq_iff_iff, hb' u a b]
    exact ⟨fun x => by
      rcases x with x | ⟨m, m0, m1, m2, _⟩
      · exact x
      · exact absurd ⟨m, m0, m1, m2⟩ n, fun x => Or.inl x⟩
  have hA : agr (asg V c) w := fun u a b => by
    by_cases n : isT V u
    · obtain ⟨i, i0, i1, i2⟩ := n
      subst i2
      exact Or.inr (hT i i0 i1).1
    · rw [asg_n h1 (isT_no n), hN u a b n]
      cases tb (V 159 3) u with
      | true => exact Or.inl rfl
      | false => exact Or.inr rfl
  refine vl_one hw hA (fun v v0 v1 v2 => ?_) (h3 w hw.1 hw.2)
  refine om_same (D := fun u => tb (V 159 3) u && !(dfB (V 160) u 0)) ⟨v0, v1⟩ hw (fun u a b d => ?_) (fun u a b d => ?_)
  · rw [Bool.and_eq_true] at d
    have := d.2
    cases e : dfB (V 160) u 0 with
    | false => rfl
    | true => rw [e] at this; exact absurd this (by decide)
  · have e1 := v2 u a b
    have e2 := hA u a b
    have n2 : asg V c u ≠ 2 := by
      by_cases n : isT V u
      · obtain ⟨i, i0, i1, i2⟩ := n
        subst i2
        exact (hT i i0 i1).2
      · rw [asg_n h1 (isT_no n)]
        cases op : tb (V 159 3) u with
        | false => rw [if_neg (by decide)]; have := b01 (tb (V 159 4) u); omega
        | true =>
          exfalso
          rw [op] at d
          have df : dfB (V 160) u 0 = true := by
            cases e : dfB (V 160) u 0 with
            | true => rfl
            | false => rw [e] at d; exact absurd d (by decide)
          have tl : telB (V 160) (V 159 3) u = true := by rw [telB_e, op, df]; rfl
          exact n ((inL_t h1 a b).mpr tl)
    have e1 := e1.resolve_left n2
    have e2 := e2.resolve_left n2
    rw [e1] at e2
    cases t1 : tb v u <;> cases t2 : tb w u <;> rw [t1, t2] at e2 <;> first | rfl | exact absurd e2 (by decide)
theorem s_valueAt {V : qV} {x : Int} {Q : Int → Prop} (h : 0 ≤ x ∧ x < V 159 100) (k : Q (V (V 159 7) x)) : W_X7_valueAt x V Q := br_f (by omega) (br_f (by omega) ⟨h, k⟩)
theorem s_questionsIn {V : qV} {x : Int} {a : Int → Int} {Q : Int → Prop} (h : 0 ≤ x ∧ x < V 159 100) (hv : V (V 159 7) x = vlA (V 160) a) (k : Q (aA (V 160) 10 a)) : W_X7_questionsIn x V Q := by
  have b := vl_b (V 160) a
  refine br_f (by omega) (br_f (by omega) ⟨h, zr_i (by omega) (by omega), ?_⟩)
  rw [hv, vl_q]; exact k
theorem s_questionsBy {V : qV} {c i : Int} {Q : Int → Prop} (ht : tlR V) (h6 : ∀ i, 0 ≤ i → i < 10 → V 164 i = 3 ^ i.toNat) (h5 : 3 ^ (V 159 6).toNat ≤ V 159 100) (h8 : ∀ x, 0 ≤ x → x < c → V (V 159 7) x = vlA (V 160) (asg V x)) (hc : 0 ≤ c ∧ c < 3 ^ (V 159 6).toNat) (h0 : 0 ≤ i) (h1 : i < V 159 6) (h2 : dg c i.toNat = 2) (k : Q (qst (aA (V 160) 10) (asg V c) (V 162 i))) : W_X7_questionsBy c i V Q := by
  have t := ht.1
  have g := dg_ge h2 hc.1
  have b := p3_le i.toNat (by omega)
  have b0 := p3 i.toNat
  have b2 := p3_le (V 159 6).toNat (by omega)
  refine ⟨by omega, ?_⟩
  rw [h6 i h0 (by omega)]
  have e0 : asg V (c - 2 * 3 ^ i.toNat) = up (asg V c) (V 162 i) 0 := asg_up (d := 0) ht h0 h1 h2 (Or.inl rfl)
  have e1 : asg V (c - 3 ^ i.toNat) = up (asg V c) (V 162 i) 1 := by
    have := asg_up (d := 1) ht h0 h1 h2 (Or.inr rfl)
    rw [show (2 - 1 : Int) * 3 ^ i.toNat = 3 ^ i.toNat by omega] at this
    exact this
  have a0 := aA_b (V 160) 10 (up (asg V c) (V 162 i) 0)
  have a1 := aA_b (V 160) 10 (up (asg V c) (V 162 i) 1)
  refine ⟨zr_i (by omega) (by omega), zr_i (by omega) (by omega), s_questionsIn (a := up (asg V c) (V 162 i) 0) (by omega) (by rw [h8 _ (by omega) (by omega), e0]) ⟨by omega, zr_i (by omega) (by omega), s_questionsIn (a := up (asg V c) (V 162 i) 1) (by omega) (by rw [h8 _ (by omega) (by omega), e1]) ⟨zr_i (by omega) (by omega), k⟩⟩⟩
theorem s_cubeValue {V : qV} {c : Int} {Q : Int → Prop} (h : cbC V c) (hc : c < 3 ^ (V 159 6).toNat) (k : Q (vlA (V 160) (asg V c))) : W_X7_cubeValue c V Q := by
  have h' := h
  obtain ⟨h1, h2, h3, h4, h5, h6, h7, h8, h9⟩ := h
  have t := h1.1
  refine s_firstFree t (fun n => br_t rfl (s_worldOfDigits h1 h4 (fun w hw hb' => ⟨hw, ?_⟩))) (fun i i0 i1 i2 i3 => br_f (by omega) ⟨by omega, ?_⟩)
  · rw [← vl_leaf h' n hw hb']; exact k
  have d2 : dg c i.toNat = 2 := by rw [← h7 i i0 (by omega)]; exact i2
  have g := dg_ge d2 h9
  have b := p3_le i.toNat (by omega)
  have b0 := p3 i.toNat
  have b2 := p3_le (V 159 6).toNat (by omega)
  rw [h6 i i0 (by omega)]
  have e0 : asg V (c - 2 * 3 ^ i.toNat) = up (asg V c) (V 162 i) 0 := asg_up (d := 0) h1 i0 i1 d2 (Or.inl rfl)
  have e1 : asg V (c - 3 ^ i.toNat) = up (asg V c) (V 162 i) 1 := by
    have := asg_up (d := 1) h1 i0 i1 d2 (Or.inr rfl)
    rw [show (2 - 1 : Int) * 3 ^ i.toNat = 3 ^ i.toNat by omega] at this
    exact this
  have hu := (h1.2.1 i i0 i1).1
  have a2 : asg V c (V 162 i) = 2 := by rw [asg_t h1 i0 i1]; exact d2
  refine ⟨zr_i (by omega) (by omega), zr_i (by omega) (by omega), s_valueAt (by omega) ⟨by omega, zr_i (by omega) (by omega), s_valueAt (by omega) ?_⟩⟩
  rw [h8 _ (by omega) (by omega), h8 _ (by omega) (by omega), e0, e1]
  have f0 := vl_b (V 160) (up (asg V c) (V 162 i) 0)
  have f1 := vl_b (V 160) (up (asg V c) (V 162 i) 1)
  have L : ¬ nB (V 160) (asg V c) ≤ 1 → lp_X7_cubeValue_85 c V (fun l5x16 l6x16 => (zr (5 + l5x16) ∧ Q (5 + l5x16))) 100000 10 i := fun hn => by
    have fin : ∀ m, m ≤ 10 → 0 ≤ m → (∀ j, i ≤ j → j < V 159 6 → V 165 j = 2 → m ≤ qst (aA (V 160) 10) (asg V c) (V 162 j)) → (m = 10 ∨ mnW (aA (V 160) 10) (asg V c) 10 m) → (zr (5 + m) ∧ Q (5 + m)) := fun m m0 m1 m2 m3 => by
      refine ⟨zr_i (by omega) (by omega), ?_⟩
      have := A_min (S := isT V) (m := m) hn (fun u u0 u1 u2 => ?_) m0 (fun u u0 u1 u2 u3 => ?_) m3
      · rw [vl_e, if_neg hn, this] at k; exact k
      · by_cases x : isT V u
        · exact Or.inl x
        · right
          apply idl_tel
          rw [asg_n h1 (isT_no x)] at u2
          cases op : tb (V 159 3) u with
          | false => rw [op, if_neg (by decide)] at u2; have := b01 (tb (V 159 4) u); omega
          | true =>
            cases df : dfB (V 160) u 0 with
            | false => rfl
            | true => exact absurd ((inL_t h1 u0 u1).mpr (by rw [telB_e, op, df]; rfl)) x
      · obtain ⟨j, j0, j1, j2⟩ := u3
        subst j2
        rw [asg_t h1 j0 j1, ← h7 j j0 (by omega)] at u2
        by_cases ij : i ≤ j
        · exact m2 j ij j1 u2
        · exact absurd u2 (i3 j j0 (by omega))
    have main : ∀ (gg : Nat) (j m : Int), i ≤ j → j ≤ V 159 6 → V 159 6 < j + gg → m ≤ 10 → 0 ≤ m → (∀ x, i ≤ x → x < j → V 165 x = 2 → m ≤ qst (aA (V 160) 10) (asg V c) (V 162 x)) → (m = 10 ∨ mnW (aA (V 160) 10) (asg V c) 10 m) → lp_X7_cubeValue_85 c V (fun l5x16 l6x16 => (zr (5 + l5x16) ∧ Q (5 + l5x16))) gg m j := by
      intro gg
      induction gg with
      | zero => intro j m p q r; omega
      | succ gg ih =>
        intro j m p q r m0 m1 m2 m3
        rw [lp_X7_cubeValue_85]
        refine br_c (fun y => fin m m0 m1 (fun x x0 x1 x2 => m2 x x0 (by omega) x2) m3) (fun y => br_f (by omega) ⟨by omega, br_c (fun z => ?_) (fun z => ⟨zr_i (by omega) (by omega), ih _ _ (by omega) (by omega) (by omega) m0 m1 (fun x x0 x1 x2 => ?_) m3⟩)⟩)
        · have dj : dg c j.toNat = 2 := by rw [← h7 j (by omega) (by omega)]; exact z
          refine s_questionsBy h1 h6 h5 h8 ⟨h9, hc⟩ (by omega) (by omega) dj ⟨zr_i (by omega) (by omega), ih _ _ (by omega) (by omega) (by omega) (by omega) ?_ (fun x x0 x1 x2 => ?_) ?_⟩
          · have := aA_b (V 160) 10 (up (asg V c) (V 162 j) 0)
            unfold qst; omega
          · by_cases xj : x = j
            · subst xj; omega
            · have := m2 x x0 (by omega) x2; omega
          · by_cases le : m ≤ qst (aA (V 160) 10) (asg V c) (V 162 j)
            · rw [Int.min_eq_left le]; exact m3
            · rw [Int.min_eq_right (by omega)]
              have tj := (h1.2.1 j (by omega) (by omega)).1
              exact Or.inr ⟨V 162 j, tj.1, tj.2, by rw [asg_t h1 (by omega) (by omega)]; exact dj, rfl⟩
        · by_cases xj : x = j
          · subst xj; exact absurd x2 z
          · exact m2 x x0 (by omega) x2
    exact main 100000 i 10 (by omega) (by omega) (by omega) (by omega) (by omega) (fun x x0 x1 => by omega) (Or.inl rfl)
  refine br_c (fun z => ⟨zr_i (by omega) (by omega), ?_⟩) (fun z => br_c (fun z2 => ⟨zr_i (by omega) (by omega), ?_⟩) (fun z2 => ?_))
  · rw [z, Int.zero_add, vl_z0 h3 hu a2 z]; exact k
  · rw [z2, Int.add_zero, vl_z1 h3 hu a2 z2]; exact k
  · have tw := vl_two (om := V 160) hu a2 z z2
    refine br_c (fun y => br_c (fun y2 => L (tw.2 (by omega))) (fun y2 => ?_)) (fun y => L (tw.2 (fun x => y x.1)))
    rw [← tw.1 y (by omega)]; exact k
theorem s_countOn {V : qV} {c : Int} {Q : qV → Prop} (h : ∀ i, 0 ≤ i → i < 10 → V 165 i = dg c i.toNat) (k : ∀ V', (∀ o j, o ≠ 165 → V' o j = V o j) → (∀ i, 0 ≤ i → i < 10 → V' 165 i = dg (c + 1) i.toNat) → Q V') : W_X7_countOn V Q := by
  have main : ∀ (g : Nat) (i : Int) (V1 : qV), 0 ≤ i → i ≤ 10 → 10 < i + g → (∀ o j, o ≠ 165 → V1 o j = V o j) → (∀ m, 0 ≤ m → m < i → V1 165 m = 0 ∧ dg c m.toNat = 2) → (∀ m, i ≤ m → m < 10 → V1 165 m = dg c m.toNat) → lp_X7_countOn_2 (fun l1x9 V9 => Q V9) Q g i V1 := by
    intro g
    induction g with
    | zero => intro i V1 p q r; omega
    | succ g ih =>
      intro i V1 p q r e1 e2 e3
      have al : ∀ m : Nat, m < i.toNat → dg c m = 2 := fun m hm => by
        have := (e2 (m : Int) (by omega) (by omega)).2
        rw [Int.toNat_natCast] at this; exact this
      have inc := dg_inc i.toNat al
      rw [lp_X7_countOn_2]
      refine br_c (fun y => k V1 e1 (fun m a b => ?_)) (fun y => ⟨by omega, ?_⟩)
      · rw [(e2 m a (by omega)).1, inc.1 m.toNat (by omega)]
      · have e4 := e3 i (by omega) (by omega)
        have db := dg_b c i.toNat
        refine br_c (fun z => ⟨by omega, zr_i (by omega) (by omega), ih _ _ (by omega) (by omega) (by omega) (fun o j x => by rw [qu_o _ _ x]; exact e1 o j x) (fun m a b => ?_) (fun m a b => ?_)⟩) (fun z => ⟨by omega, zr_i (by omega) (by omega), by omega, k _ (fun o j x => by rw [qu_o _ _ x]; exact e1 o j x) (fun m a b => ?_)⟩)
        · by_cases hm : m = i
          · subst hm; rw [qu_s]; exact ⟨rfl, by omega⟩
          · rw [qu_e (by omega)]; exact e2 m a (by omega)
        · rw [qu_e (by omega)]; exact e3 m (by omega) b
        · have i2 := dg_in2 (l := i.toNat) al (by omega)
          by_cases hm : m = i
          · subst hm; rw [qu_s, e4, i2.1]
          · rw [qu_e (by omega)]
            by_cases lt : m < i
            · rw [(e2 m a lt).1, inc.1 m.toNat (by omega)]
            · rw [e3 m (by omega) b, i2.2 m.toNat (by omega)]
  exact main 100000 0 V (by decide) (by decide) (by decide) (fun _ _ _ => rfl) (fun m a b => by omega) (fun m a b => h m a b)
