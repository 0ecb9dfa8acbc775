/-! a riddle is posed -/
theorem ri_ex {p : Int → Bool} {n m : Int} (h0 : 0 ≤ m) (h1 : m < n) (hp : p m = true) : ri p n ≠ -1 := by
  intro h
  by_cases hm : ri p m = -1
  · have e : ri p (m + 1) = m := by rw [ri_s h0, hm, if_pos rfl, hp]; simp
    have := ri_le (p := p) (i := m + 1) (n := n) (by omega) (by omega) (by omega)
    omega
  · have := ri_le (p := p) (i := m) (n := n) h0 (by omega) hm
    have b := ri_bd (p := p) (n := m) h0
    omega
def dfB (om : Int → Int) (u fl : Int) : Bool := exB (fun v => decide (zor v (zshl 1 u) ≠ v ∧ om v ≠ om (zor v (zshl 1 u)) ∧ (fl = 0 ∨ (om v ≠ 0 ∧ om (zor v (zshl 1 u)) ≠ 0)))) 1024
theorem dfB_iff {om : Int → Int} {u fl : Int} : dfB om u fl = true ↔ ∃ v, 0 ≤ v ∧ v < 1024 ∧ zor v (zshl 1 u) ≠ v ∧ om v ≠ om (zor v (zshl 1 u)) ∧ (fl = 0 ∨ (om v ≠ 0 ∧ om (zor v (zshl 1 u)) ≠ 0)) := by
  unfold dfB
  rw [exB_iff]
  constructor
  · rintro ⟨v, a, b, c⟩
    exact ⟨v, a, by omega, of_decide_eq_true c⟩
  · rintro ⟨v, a, b, c⟩
    exact ⟨v, a, by omega, decide_eq_true c⟩
theorem telB_e {om : Int → Int} {op u : Int} : telB om op u = (tb op u && dfB om u 0) := by
  unfold telB dfB
  simp
theorem or_b {v u : Int} (hv : 0 ≤ v ∧ v < 1024) (hu : 0 ≤ u ∧ u < 10) : 0 ≤ zor v (zshl 1 u) ∧ zor v (zshl 1 u) < 1024 := by
  have h := zshl_rn (k := u) (n := 10) (by decide) hu.1 (by omega)
  exact zor_rn (n := 10) (by decide) hv.1 hv.2 (by omega) h.2
theorem s_differs {u fl : Int} {V : qV} {Q : Int → Prop} (hu : 0 ≤ u ∧ u < 10) (k : Q (bit01 (dfB (V 160) u fl))) : W_X7_differs (zshl 1 u) fl V Q := by
  have main : ∀ (g : Nat) (i : Int), 0 ≤ i → i ≤ 1024 → 1024 < i + g → (∀ v, 0 ≤ v → v < i → ¬ (zor v (zshl 1 u) ≠ v ∧ V 160 v ≠ V 160 (zor v (zshl 1 u)) ∧ (fl = 0 ∨ (V 160 v ≠ 0 ∧ V 160 (zor v (zshl 1 u)) ≠ 0)))) → lp_X7_differs_2 (zshl 1 u) fl V (fun l3x10 => Q 0) Q g i := by
    intro g
    induction g with
    | zero => intro i p q r; omega
    | succ g ih =>
      intro i p q r e
      rw [lp_X7_differs_2]
      refine br_c (fun c => ?_) (fun c => ?_)
      · have : dfB (V 160) u fl = false := by
          rw [Bool.eq_false_iff]; intro y
          obtain ⟨v, a, b, d⟩ := dfB_iff.mp y
          exact e v a (by omega) d
        rw [this] at k; exact k
      · have ob := or_b (v := i) (u := u) (by omega) hu
        have no : ¬ (zor i (zshl 1 u) ≠ i ∧ V 160 i ≠ V 160 (zor i (zshl 1 u)) ∧ (fl = 0 ∨ (V 160 i ≠ 0 ∧ V 160 (zor i (zshl 1 u)) ≠ 0))) → (zr (i + 1) ∧ lp_X7_differs_2 (zshl 1 u) fl V (fun l3x10 => Q 0) Q g (i + 1)) := fun h => by
          refine ⟨zr_i (by omega) (by omega), ih _ (by omega) (by omega) (by omega) (fun v a b => ?_)⟩
          by_cases hv : v = i
          · subst hv; exact h
          · exact e v a (by omega)
        have yes : (zor i (zshl 1 u) ≠ i ∧ V 160 i ≠ V 160 (zor i (zshl 1 u)) ∧ (fl = 0 ∨ (V 160 i ≠ 0 ∧ V 160 (zor i (zshl 1 u)) ≠ 0))) → Q 1 := fun h => by
          have : dfB (V 160) u fl = true := dfB_iff.mpr ⟨i, p, by omega, h⟩
          rw [this] at k; exact k
        refine br_c (fun y => no (fun h => h.1 y)) (fun y => br_f (by omega) ⟨by omega, ob, br_c (fun y2 => no (fun h => h.2.1 y2)) (fun y2 => br_c (fun y3 => yes ⟨y, y2, Or.inl y3⟩) (fun y3 => ⟨by omega, br_c (fun y4 => no (fun h => ?_)) (fun y4 => ⟨ob, br_c (fun y5 => no (fun h => ?_)) (fun y5 => yes ⟨y, y2, Or.inr ⟨y4, y5⟩⟩)⟩)⟩))⟩)
        · rcases h.2.2 with z | z
          · exact y3 z
          · exact z.1 y4
        · rcases h.2.2 with z | z
          · exact y3 z
          · exact z.2 y5
  exact main 100000 0 (by decide) (by decide) (by decide) (fun v a b => by omega)
theorem s_seekTelling {V : qV} {Q : qV → Prop} (hop : 0 ≤ V 159 3 ∧ V 159 3 < 1024) (k : ∀ V', (∀ o j, ¬ (o = 159 ∧ j = 6) → o ≠ 162 → V' o j = V o j) → tlR V' → Q V') : W_X7_seekTelling V Q := by
  have main : ∀ (g : Nat) (i : Int) (V1 : qV), 0 ≤ i → i ≤ 10 → 10 < i + g → (∀ o j, ¬ (o = 159 ∧ j = 6) → o ≠ 162 → V1 o j = V o j) → (0 ≤ V1 159 6 ∧ V1 159 6 ≤ i) → (∀ m, 0 ≤ m → m < V1 159 6 → (0 ≤ V1 162 m ∧ V1 162 m < i) ∧ telB (V 160) (V 159 3) (V1 162 m) = true) → (∀ m j, 0 ≤ m → m < j → j < V1 159 6 → V1 162 m < V1 162 j) → (∀ u, 0 ≤ u → u < i → telB (V 160) (V 159 3) u = true → ∃ m, 0 ≤ m ∧ m < V1 159 6 ∧ V1 162 m = u) → lp_X7_seekTelling_7 (fun l1x11 V11 => Q V11) g i V1 := by
    intro g
    induction g with
    | zero => intro i V1 p q r; omega
    | succ g ih =>
      intro i V1 p q r e1 e2 e3 e4 e5
      rw [lp_X7_seekTelling_7]
      have h3 : V1 159 3 = V 159 3 := e1 _ _ (by omega) (by omega)
      have h0 : V1 160 = V 160 := by funext j; exact e1 _ _ (by omega) (by omega)
      have no : ¬ 10 ≤ i → telB (V 160) (V 159 3) i = false → (zr (i + 1) ∧ lp_X7_seekTelling_7 (fun l1x11 V11 => Q V11) g (i + 1) V1) := fun hc hn => by
        refine ⟨zr_i (by omega) (by omega), ih _ _ (by omega) (by omega) (by omega) e1 (by omega) (fun m a b => ?_) e4 (fun u a b c => ?_)⟩
        · have := e3 m a b; exact ⟨by omega, this.2⟩
        · by_cases hu : u = i
          · subst hu; rw [hn] at c; exact absurd c (by decide)
          · exact e5 u a (by omega) c
      refine br_c (fun c => ?_) (fun c => br_f (by omega) ?_)
      · have : i = 10 := by omega
        subst this
        refine k V1 e1 ⟨e2, fun m a b => by rw [h0, h3]; exact e3 m a b, e4, fun u a b c => ?_⟩
        rw [h0, h3] at c
        obtain ⟨m, x, y, z⟩ := e5 u a b c
        exact ri_ex x y (decide_eq_true z)
      · rw [h3]
        have ts := tb_sh (x := V 159 3) (k := i) hop.1 (by omega) p (by omega)
        cases ht : tb (V 159 3) i with
        | false =>
          rw [ht, if_neg (by decide)] at ts
          exact br_f (by omega) (no c (by rw [telB_e, ht]; rfl))
        | true =>
          rw [ht, if_pos rfl] at ts
          refine br_t ts (s_differs (by omega) ?_)
          rw [h0]
          cases hd : dfB (V 160) i 0 with
          | false => exact br_t rfl (no c (by rw [telB_e, hd, Bool.and_false]))
          | true =>
            have hy : telB (V 160) (V 159 3) i = true := by rw [telB_e, ht, hd]; rfl
            rw [qu_e (by omega)]
            have g6 : (qu (qu V1 162 (V1 159 6) i) 159 6 (V1 159 6 + 1)) 159 6 = V1 159 6 + 1 := qu_s _ _ _ _
            refine br_f (by decide) ⟨by omega, zr_i (by omega) (by omega), zr_i (by omega) (by omega), ih _ _ (by omega) (by omega) (by omega) (fun o j x y => by rw [qu_e x, qu_o _ _ y]; exact e1 o j x y) (by rw [g6]; omega) (fun m a b => ?_) (fun m j a b c => ?_) (fun u a b c => ?_)⟩
            · rw [g6] at b
              rw [qu_e (by omega)]
              by_cases hm : m = V1 159 6
              · subst hm; rw [qu_s]; exact ⟨by omega, hy⟩
              · rw [qu_e (by omega)]
                have := e3 m a (by omega)
                exact ⟨by omega, this.2⟩
            · rw [g6] at c
              rw [qu_e (by omega), qu_e (by omega), qu_e (by omega)]
              by_cases hj : j = V1 159 6
              · subst hj; rw [qu_s]; have := e3 m a (by omega); omega
              · rw [qu_e (by omega)]; exact e4 m j a b (by omega)
            · rw [g6]
              by_cases hu : u = i
              · subst hu
                exact ⟨V1 159 6, by omega, by omega, by rw [qu_e (by omega), qu_s]⟩
              · obtain ⟨m, x, y, z⟩ := e5 u a (by omega) c
                exact ⟨m, x, by omega, by rw [qu_e (by omega), qu_e (by omega)]; exact z⟩
  have g6 : (qu V 159 6 0) 159 6 = 0 := qu_s _ _ _ _
  exact main 100000 0 (qu V 159 6 0) (by decide) (by decide) (by decide) (fun o j x y => qu_e x) (by omega) (fun m a b => by omega) (fun m j a b c => by omega) (fun u a b => by omega)
/-- whom the worlds name: 0 no such world, else WHO and 1 -/
def omW (V : qV) (f l : Int) (v : Int) : Int := if wB V v then whF (nmM (V 603) f) (LiM V l) (fun i => V 606 (12 * l + i)) (V 610 l) v + 1 else 0
def mkM (w : Int → Int) (x m : Int) : Prop := (0 ≤ m ∧ m < 1024) ∧ ∀ k, 0 ≤ k → k < 10 → tb m k = decide (w k = x)
/-- what pose leaves -/
def psP (n f l : Int) (V : qV) (J : qJ) (V' : qV) (J' : qJ) : Prop :=
  Rel n V' J' ∧ (∀ o j, o ≠ 151 → o ≠ 153 → o ≠ 155 → o ≠ 168 → ¬ (159 ≤ o ∧ o ≤ 165) → V' o j = V o j) ∧ (∀ v, 0 ≤ v → v < 1024 → V' 160 v = omW V f l v) ∧ mkM (V 603) 2 (V' 159 3) ∧ mkM (V 603) 1 (V' 159 4)
theorem s_pose7 {n f l a b : Int} {V V1 : qV} {J J1 : qJ} {Q : qV → Prop} (h : Rel n V J) (hl : 0 ≤ l ∧ l < V 0 2) (d : dF f l V J V1 J1) (hr : Rel n V1 J1) (ha : 0 ≤ a ∧ a < 1024) (hb' : 0 ≤ b ∧ b < 1024) (k : ∀ V', (∀ o j, ¬ (159 ≤ o ∧ o ≤ 165) → V' o j = V1 o j) → (∀ v, 0 ≤ v → v < 1024 → V' 160 v = omW V f l v) → V' 159 3 = a → V' 159 4 = b → rd n V' → V' 159 100 = V1 159 100 → Q V') : W_X7_pose a b V1 J1 Q := by
  have hlw := h.2.2.1
  have hlr := hlw.2 l hl.1 (by have := hlw.1; omega)
  have h7 := hr.2.2.2.2.2.2.1
  have wb : ∀ v, 0 ≤ whF (nmM (V 603) f) (LiM V l) (fun i => V 606 (12 * l + i)) (V 610 l) v ∧ whF (nmM (V 603) f) (LiM V l) (fun i => V 606 (12 * l + i)) (V 610 l) v ≤ 4 := fun v => whF_b hlr.1.2.1 (fun i a b => (hlr.2.1 i a b).1.2)
  have ob : ∀ v, 0 ≤ omW V f l v ∧ omW V f l v ≤ 5 := fun v => by
    unfold omW
    have := wb v
    split <;> omega
  have main : ∀ (fl : Int) (K : Int → Int → qV → Prop), (fl = 0 ∨ fl = 1) → (∀ fl' i V2, (fl' = 0 ∨ fl' = 1) → (∀ o j, ¬ (o = 159 ∧ (j = 3 ∨ j = 4)) → ¬ (o = 160 ∧ 0 ≤ j ∧ j < 1024) → V2 o j = V1 o j) → V2 159 3 = a → V2 159 4 = b → (∀ v, 0 ≤ v → v < 1024 → V2 160 v = omW V f l v) → (fl' = 0 → fl = 0 ∧ ∀ v, 0 ≤ v → v < 1024 → V1 160 v = omW V f l v) → K fl' i V2) → lp_X7_pose_36 J1 K 100000 fl 0 (qu (qu V1 159 3 a) 159 4 b) := by
    intro fl K hfl hK
    have lp : ∀ (g : Nat) (fl' i : Int) (V2 : qV), 0 ≤ i → i ≤ 1024 → 1024 < i + g → (fl' = 0 ∨ fl' = 1) → (∀ o j, ¬ (o = 159 ∧ (j = 3 ∨ j = 4)) → ¬ (o = 160 ∧ 0 ≤ j ∧ j < i) → V2 o j = V1 o j) → V2 159 3 = a → V2 159 4 = b → (∀ v, 0 ≤ v → v < i → V2 160 v = omW V f l v) → (fl' = 0 → fl = 0 ∧ ∀ v, 0 ≤ v → v < i → V1 160 v = omW V f l v) → lp_X7_pose_36 J1 K g fl' i V2 := by
      intro g
      induction g with
      | zero => intro fl' i V2 p q r; omega
      | succ g ih =>
        intro fl' i V2 p q r c1 c2 c3 c4 c5 c6
        rw [lp_X7_pose_36]
        refine br_c (fun y => ?_) (fun y => s_whoIn (W := wB V i) (x := whF (nmM (V 603) f) (LiM V l) (fun i => V 606 (12 * l + i)) (V 610 l) i) (Or.inl rfl) (by omega) (fun m u v => d.2.2.2.1 i p (by omega) m u v) (wb i) ?_)
        · have : i = 1024 := by omega
          subst this
          exact hK fl' 1024 V2 c1 c2 c3 c4 c5 c6
        · have e : (if wB V i then whF (nmM (V 603) f) (LiM V l) (fun i => V 606 (12 * l + i)) (V 610 l) i else -1) + 1 = omW V f l i := by
            unfold omW
            split <;> omega
          have o5 := ob i
          rw [e, show (omW V f l i).bmod 256 = omW V f l i from Int.bmod_eq_of_le (by omega) (by omega)]
          have e160 : V2 160 i = V1 160 i := c2 _ _ (by omega) (by omega)
          have st : ∀ fl2, (fl2 = 0 ∨ fl2 = 1) → (fl2 = 0 → fl = 0 ∧ ∀ v, 0 ≤ v → v < i + 1 → V1 160 v = omW V f l v) → ((0 ≤ i ∧ i < 1024) ∧ (zr (i + 1) ∧ lp_X7_pose_36 J1 K g fl2 (i + 1) (qu V2 160 i (omW V f l i)))) := fun fl2 u1 u2 => by
            refine ⟨by omega, zr_i (by omega) (by omega), ih _ _ _ (by omega) (by omega) (by omega) u1 (fun o j x y => by rw [qu_e (by omega)]; exact c2 o j x (by omega)) (by rw [qu_e (by omega)]; exact c3) (by rw [qu_e (by omega)]; exact c4) (fun v x y => ?_) u2⟩
            by_cases hv : v = i
            · subst hv; rw [qu_s]
            · rw [qu_e (by omega)]; exact c5 v x (by omega)
          refine ⟨zr_i (by omega) (by omega), by omega, br_c (fun y2 => st _ ?_ (fun z => ?_)) (fun y2 => st _ ?_ (fun z => ?_))⟩
          · rcases c1 with c | c <;> subst c <;> decide
          · have z0 : fl' = 0 := by
              rcases c1 with c | c
              · exact c
              · subst c; exact absurd z (by decide)
            refine ⟨(c6 z0).1, fun v x w => ?_⟩
            by_cases hv : v = i
            · subst hv; rw [← e160]; exact y2
            · exact (c6 z0).2 v x (by omega)
          · rcases c1 with c | c <;> subst c <;> decide
          · rcases c1 with c | c <;> subst c <;> exact absurd z (by decide)
    exact lp 100000 fl 0 _ (by decide) (by decide) (by decide) hfl (fun o j x y => by rw [qu_e (by omega), qu_e (by omega)]) (by rw [qu_e (by omega), qu_s]) (qu_s _ _ _ _) (fun v x y => by omega) (fun z => ⟨z, fun v x y => by omega⟩)
  have newr : ∀ V2 : qV, (∀ o j, ¬ (o = 159 ∧ (j = 3 ∨ j = 4)) → ¬ (o = 160 ∧ 0 ≤ j ∧ j < 1024) → V2 o j = V1 o j) → V2 159 3 = a → V2 159 4 = b → (∀ v, 0 ≤ v → v < 1024 → V2 160 v = omW V f l v) → W_X7_seekTelling (qu V2 159 8 0) Q := fun V2 c2 c3 c4 c5 => by
    refine s_seekTelling (by rw [qu_e (by omega), c3]; exact ha) (fun V3 x1 x2 => ?_)
    have x3 : ∀ o j, ¬ (o = 159 ∧ (j = 3 ∨ j = 4 ∨ j = 6 ∨ j = 8)) → ¬ (o = 160 ∧ 0 ≤ j ∧ j < 1024) → o ≠ 162 → V3 o j = V1 o j := fun o j u v w => by rw [x1 o j (by omega) w, qu_e (by omega), c2 o j (by omega) v]
    have x4 : ∀ v, 0 ≤ v → v < 1024 → V3 160 v = omW V f l v := fun v u w => by rw [x1 _ _ (by omega) (by omega), qu_e (by omega)]; exact c5 v u w
    have y3 : V3 159 3 = a := by rw [x1 _ _ (by omega) (by omega), qu_e (by omega)]; exact c3
    have y4 : V3 159 4 = b := by rw [x1 _ _ (by omega) (by omega), qu_e (by omega)]; exact c4
    have y8 : V3 159 8 = 0 := by rw [x1 _ _ (by omega) (by omega), qu_s]
    refine k V3 (fun o j u => x3 o j (by omega) (by omega) (by omega)) x4 y3 y4 ?_ (x3 _ _ (by omega) (by omega) (by omega))
    obtain ⟨r1, r2, r3, r4, r5, r6⟩ := h7
    refine ⟨⟨by rw [x3 159 2 (by omega) (by omega) (by omega), x3 159 100 (by omega) (by omega) (by omega)]; exact r1.1, fun m u w => ?_⟩, ⟨by rw [y3]; exact ha, by rw [y4]; exact hb'⟩, fun v u w => by rw [x4 v u w]; exact ob v, x2, ⟨by rw [x3 _ _ (by omega) (by omega) (by omega)]; exact r5.1, by rw [x3 _ _ (by omega) (by omega) (by omega)]; exact r5.2⟩, Or.inl y8⟩
    rw [x3 161 _ (by omega) (by omega) (by omega), x3 159 2 (by omega) (by omega) (by omega)]; exact r1.2 m u w
  have same : V1 159 3 = a → V1 159 4 = b → (∀ v, 0 ≤ v → v < 1024 → V1 160 v = omW V f l v) → ∀ V2 : qV, (∀ o j, ¬ (o = 159 ∧ (j = 3 ∨ j = 4)) → ¬ (o = 160 ∧ 0 ≤ j ∧ j < 1024) → V2 o j = V1 o j) → V2 159 3 = a → V2 159 4 = b → (∀ v, 0 ≤ v → v < 1024 → V2 160 v = omW V f l v) → Q V2 := fun u1 u2 u3 V2 c2 c3 c4 c5 => by
    have e : V2 = V1 := by
      funext o j
      by_cases x : o = 159 ∧ (j = 3 ∨ j = 4)
      · obtain ⟨x1, x2 | x2⟩ := x
        · subst x1; subst x2; rw [c3, u1]
        · subst x1; subst x2; rw [c4, u2]
      · by_cases y : o = 160 ∧ 0 ≤ j ∧ j < 1024
        · rw [y.1, c5 j y.2.1 y.2.2, u3 j y.2.1 y.2.2]
        · exact c2 o j x y
    rw [e]
    exact k V1 (fun _ _ _ => rfl) u3 u1 u2 h7 rfl
  refine br_c (fun y1 => br_c (fun y2 => ?_) (fun y2 => ?_)) (fun y1 => ?_)
  · exact main 0 _ (Or.inl rfl) (fun fl' i V2 c1 c2 c3 c4 c5 c6 => br_c (fun z => same y1 y2 (c6 z).2 V2 c2 c3 c4 c5) (fun z => newr V2 c2 c3 c4 c5))
  · exact main 1 _ (Or.inr rfl) (fun fl' i V2 c1 c2 c3 c4 c5 c6 => br_c (fun z => absurd (c6 z).1 (by decide)) (fun z => newr V2 c2 c3 c4 c5))
  · exact main 1 _ (Or.inr rfl) (fun fl' i V2 c1 c2 c3 c4 c5 c6 => br_c (fun z => absurd (c6 z).1 (by decide)) (fun z => newr V2 c2 c3 c4 c5))
