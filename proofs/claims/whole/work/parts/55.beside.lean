/-! two laws beside each other -/
theorem run_cg {nm nm' : Int → Int} {v u : Int} : ∀ (L : List (Int × Int)) (st : List Int), (∀ c, c ∈ L → (c.1 = 1 → nm c.2 = nm' c.2) ∧ (c.1 = 2 → tb v c.2 = tb u c.2)) → (∀ c, c ∈ L → 0 ≤ c.1) → run nm v L st = run nm' u L st
  | [], st, _, _ => rfl
  | c :: L, st, h, h0 => by
    have e : stp nm v st c = stp nm' u st c := by
      have h1 := h c (List.mem_cons_self ..)
      have h2 := h0 c (List.mem_cons_self ..)
      unfold stp
      by_cases x : c.1 ≤ 2
      · rw [if_pos x, if_pos x]
        by_cases x0 : c.1 = 0
        · rw [if_pos x0, if_pos x0]
        · rw [if_neg x0, if_neg x0]
          by_cases x1 : c.1 = 1
          · rw [if_pos x1, if_pos x1, h1.1 x1]
          · rw [if_neg x1, if_neg x1, h1.2 (by omega)]
      · rw [if_neg x, if_neg x]
    show run nm v L (stp nm v st c) = run nm' u L (stp nm' u st c)
    rw [e]
    exact run_cg L _ (fun c hc => h c (List.mem_cons_of_mem _ hc)) (fun c hc => h0 c (List.mem_cons_of_mem _ hc))
theorem seg_mem {V : qV} {c : Int × Int} : ∀ {n : Nat} {a : Int}, c ∈ seg V a n → ∃ k, a ≤ k ∧ k < a + n ∧ c = (V 604 k, V 605 k)
  | 0, a, h => by simp [seg] at h
  | n + 1, a, h => by
    rw [seg, List.mem_cons] at h
    rcases h with h | h
    · exact ⟨a, by omega, by omega, h⟩
    · obtain ⟨k, p, q, r⟩ := seg_mem h
      exact ⟨k, by omega, by omega, r⟩
theorem wst_b {t t' : List Bool} {c : Int × Int} (h : wst t c = some t') : 0 ≤ c.1 ∧ (c.1 = 1 → 0 ≤ c.2 ∧ c.2 ≤ 9) := by
  refine ⟨(opC_b h).1.1, fun x => ?_⟩
  have := (wst_zero (what := c.1) (n := c.2) h (by omega)).1
  omega
theorem wrun_b : ∀ {L : List (Int × Int)} {t t' : List Bool}, wrun L t = some t' → ∀ c, c ∈ L → 0 ≤ c.1 ∧ (c.1 = 1 → 0 ≤ c.2 ∧ c.2 ≤ 9)
  | [], _, _, _, c, hc => by simp at hc
  | d :: L, t, t', h, c, hc => by
    rw [wrun] at h
    cases hw : wst t d with
    | none => rw [hw] at h; simp at h
    | some t1 =>
      rw [hw] at h
      simp only at h
      split at h
      · rcases List.mem_cons.mp hc with e | e
        · rw [e]; exact wst_b hw
        · exact wrun_b h c e
      · simp at h
/-- a law sees of a world and of the names what its codes name -/
theorem ap_cg2 {V : qV} {l : Int} {nm nm' : Int → Int} {v u : Int} (h : lR V l) (hn : ∀ k, 0 ≤ k → k ≤ 9 → tb (V (173 + 5 * l) 6) k = true → nm k = nm' k) (hv : ∀ k, tb (V 612 l) k = true → tb v k = tb u k) {i : Int} (h0 : 0 ≤ i) (h1 : i < V 610 l) : ap nm (LiM V l) v i = ap nm' (LiM V l) u i := by
  obtain ⟨a1, a2, a3, a4, a5⟩ := h.2.1 i h0 h1
  unfold ap
  by_cases he : V 608 (12 * l + i) < V 609 (12 * l + i)
  · have hw := a4 he
    have e : run nm v (LiM V l i) [] = run nm' u (LiM V l i) [] := run_cg _ _ (fun c hc => by
      obtain ⟨k, p, q, r⟩ := seg_mem hc
      subst r
      have := a5 k p (by omega)
      refine ⟨fun x => ?_, fun x => hv _ (this.2.2 x)⟩
      have y := wrun_b hw _ hc
      exact hn _ (y.2 x).1 (y.2 x).2 (this.2.1 x)) (fun c hc => (wrun_b hw c hc).1)
    rw [e]
  · have : LiM V l i = [] := seg_nil (by omega)
    simp [this]
theorem ri_cg {p q : Int → Bool} : ∀ n : Nat, (∀ i : Int, 0 ≤ i → i < n → p i = q i) → ri p n = ri q n
  | 0, _ => rfl
  | n + 1, h => by
    have ih := ri_cg (p := p) (q := q) n (fun i a b => h i a (by omega))
    rw [show ((n + 1 : Nat) : Int) = (n : Int) + 1 by omega, ri_s (by omega), ri_s (by omega), ih, h n (by omega) (by omega)]
theorem whF_cg {V : qV} {l : Int} {nm nm' : Int → Int} {v u : Int} (h : lR V l) (hn : ∀ k, 0 ≤ k → k ≤ 9 → tb (V (173 + 5 * l) 6) k = true → nm k = nm' k) (hv : ∀ k, tb (V 612 l) k = true → tb v k = tb u k) (who : Int → Int) : whF nm (LiM V l) who (V 610 l) v = whF nm' (LiM V l) who (V 610 l) u := by
  have := ri_cg (p := ap nm (LiM V l) v) (q := ap nm' (LiM V l) u) (V 610 l).toNat (fun i a b => ap_cg2 h hn hv a (by have := h.1; omega))
  rw [Int.toNat_of_nonneg h.1.2.1] at this
  unfold whF
  rw [this]
def whV (V : qV) (l : Int) (nm : Int → Int) (v : Int) : Int := whF nm (LiM V l) (fun i => V 606 (12 * l + i)) (V 610 l) v
def ptB (nm : Int → Int) (V : qV) (l m : Int) : Bool := exB (fun v => wB V v && decide (whV V l nm v ≠ whV V m nm v)) 1024
theorem ptB_iff {nm : Int → Int} {V : qV} {l m : Int} : ptB nm V l m = true ↔ ∃ v, 0 ≤ v ∧ v < 1024 ∧ wB V v = true ∧ whV V l nm v ≠ whV V m nm v := by
  unfold ptB
  rw [exB_iff]
  constructor
  · rintro ⟨v, a, b, c⟩
    rw [Bool.and_eq_true, decide_eq_true_eq] at c
    exact ⟨v, a, by omega, c⟩
  · rintro ⟨v, a, b, c⟩
    refine ⟨v, a, by omega, ?_⟩
    rw [Bool.and_eq_true, decide_eq_true_eq]; exact c
theorem whV_b {V : qV} {l : Int} (h : lR V l) (nm : Int → Int) (v : Int) : 0 ≤ whV V l nm v ∧ whV V l nm v ≤ 4 := whF_b h.1.2.1 (fun i a b => (h.2.1 i a b).1.2)
/-- the class while it looks at several finds -/
def pI (V0 : qV) (J0 : qJ) (V : qV) (J : qJ) : Prop :=
  (∀ q j, q ≠ 151 → q ≠ 153 → q ≠ 155 → q ≠ 157 → q ≠ 168 → q ≠ 169 → V q j = V0 q j) ∧ (∀ q j, q ≠ 152 → q ≠ 154 → q ≠ 156 → q ≠ 158 → q ≠ 166 → J q j = J0 q j) ∧ jI V J ∧ ∀ v, 0 ≤ v → v < 1024 → s0 J 166 v = wB V0 v
theorem s_partAt {n o num l m : Int} {V0 V : qV} {J0 J : qJ} {Q : Int → qV → qJ → Prop} (h : Rel n V0 J0) (hp : pI V0 J0 V J) (ho : o ≠ 168) (h1 : 0 ≤ V o 1 ∧ V o 1 ≤ 3) (h3 : 0 ≤ V o 3 ∧ V o 3 ≤ 4095) (h5 : 0 ≤ V o 5 ∧ V o 5 ≤ 9999) (hl : 0 ≤ l ∧ l < 3) (hm : 0 ≤ m ∧ m < 3) (hlr : lR V0 l) (hmr : lR V0 m)
    (k : ∀ V' J', pI V0 J0 V' J' → Q (bit01 (ptB (nmG (V0 603) (V o 0) (V o 1) (V o 2) (V o 3) (V0 603 20 - V o 5) (V o 6) (clF (V0 603) num)) V0 l m)) V' J') : W_X10_partAt o num (173 + 5 * l) (173 + 5 * m) V J Q := by
  obtain ⟨hU, hP, hG, hF, hC, hS, hA⟩ := h.2.2.2.1
  obtain ⟨p1, p2, p3, p4⟩ := hp
  have fr : ∀ o j, 12 ≤ o → o < 12 + 138 → V o j = V0 o j := fun o j a b => p1 o j (by omega) (by omega) (by omega) (by omega) (by omega) (by omega)
  refine s_fillNames ho (hU.fr fr) (hP.fr fr) (hG.fr fr) (hC.fr fr) h1 h3 h5 ?_
  generalize (nmG (V0 603) (V o 0) (V o 1) (V o 2) (V o 3) (V0 603 20 - V o 5) (V o 6) (clF (V0 603) num)) = nm at k ⊢
  have e1 : ∀ q j, q ≠ 168 → (fl V 168 0 10 nm) q j = V q j := fun q j x => fl_o x _
  have e2 : ∀ m, 0 ≤ m → m ≤ 9 → nm m = (fl V 168 0 10 nm) 168 m := fun m x y => by rw [fl_in (by omega) (by omega)]
  generalize (fl V 168 0 10 nm) = V1 at e1 e2 ⊢
  refine s_decide (by omega) (Or.inl rfl) (hlr.L.fr (fun q j x y => by rw [e1 q j (by omega), p1 q j (by omega) (by omega) (by omega) (by omega) (by omega) (by omega)])) e2 ⟨by rw [e1 _ _ (by decide)]; exact p3.1, fun q v a b => p3.2 (by rw [e1 _ _ (by decide)] at q; exact q) v a b⟩ (fun V2 J2 d => ?_)
  obtain ⟨d1, d2, d3, d4, -, -⟩ := d
  refine s_decide (nm := nm) (by omega) (Or.inr rfl) (hmr.L.fr (fun q j x y => by rw [d1 q j (by omega) (by omega) (by omega), e1 q j (by omega), p1 q j (by omega) (by omega) (by omega) (by omega) (by omega) (by omega)])) (fun m a b => by rw [d1 _ _ (by decide) (by decide) (by decide)]; exact e2 m a b) d3 (fun V3 J3 d' => ?_)
  obtain ⟨c1, c2, c3, c4, -, -⟩ := d'
  have w2 : ∀ v, 0 ≤ v → v < 1024 → s0 J2 166 v = wB V0 v := fun v a b => by
    rw [← p4 v a b]; unfold s0; rw [d2 _ _ (by decide) (by decide) (by decide)]
  have hpI : pI V0 J0 V3 J3 := by
    refine ⟨fun q j a b c d e f => ?_, fun q j a b c d e => ?_, c3, fun v a b => ?_⟩
    · rw [c1 q j a b d, d1 q j a b c, e1 q j e, p1 q j a b c d e f]
    · rw [c2 q j a b d, d2 q j a b c, p2 q j a b c d e]
    · rw [← w2 v a b]; unfold s0; rw [c2 _ _ (by decide) (by decide) (by decide)]
  have x1 : ∀ v x, 0 ≤ v → v < 1024 → 0 ≤ x → x ≤ 4 → sv J3 156 x v = (wB V0 v && decide (whV V0 l nm v = x)) := fun v x a b c d => by
    have : sv J3 156 x v = sv J2 156 x v := by unfold sv; rw [c2 _ _ (by decide) (by decide) (by decide)]
    rw [this, ← p4 v a b]
    exact d4 v a b x c d
  have x2 : ∀ v x, 0 ≤ v → v < 1024 → 0 ≤ x → x ≤ 4 → sv J3 158 x v = (wB V0 v && decide (whV V0 m nm v = x)) := fun v x a b c d => by
    rw [← w2 v a b]
    exact c4 v a b x c d
  refine s_partsFrom (fun hx => ?_) (fun hx => ?_)
  · have : ptB nm V0 l m = true := by
      obtain ⟨v, x, a, b, c, d, e⟩ := hx
      rw [x1 v x a b c d, x2 v x a b c d] at e
      rw [ptB_iff]
      refine ⟨v, a, b, ?_, fun y => ?_⟩
      · cases hw : wB V0 v with
        | true => rfl
        | false => rw [hw] at e; simp at e
      · rw [y] at e; exact e rfl
    have kk := k V3 J3 hpI
    rw [this] at kk; exact kk
  · have : ptB nm V0 l m = false := by
      rw [Bool.eq_false_iff]
      intro y
      rw [ptB_iff] at y
      obtain ⟨v, a, b, c, d⟩ := y
      have g := whV_b hlr nm v
      have := hx v (whV V0 l nm v) a b g.1 g.2
      rw [x1 v _ a b g.1 g.2, x2 v _ a b g.1 g.2, c] at this
      simp at this
      exact d this.symm
    have kk := k V3 J3 hpI
    rw [this] at kk; exact kk
/-! the reference's views -/
def vwB (V : qV) (mk u : Int) : Bool := exB (fun v => wB V v && decide (zand v mk = u)) 1024
theorem m_findViews {n l m : Int} {V0 V : qV} {J0 : qJ} {Q : qV → Prop} (h : Rel n V0 J0) (hV : ∀ o j, 603 ≤ o → o ≤ 612 → V o j = V0 o j) (hl : 0 ≤ l ∧ l < 3) (hm : 0 ≤ m ∧ m < 3) (hlr : lR V0 l) (hmr : lR V0 m) (k : ∀ V', (∀ o j, o ≠ 614 → o ≠ 615 → o ≠ 616 → o ≠ 622 → ¬ (o = 602 ∧ j = 25) → V' o j = V o j) → (∀ u, 0 ≤ u → u < 1024 → V' 622 u = bit01 (vwB V0 (zor (V0 612 l) (V0 612 m)) u)) → Q V') : W_X11_findViews l m V Q := by
  have e3 : V 603 = V0 603 := by funext j; exact hV _ _ (by decide) (by decide)
  obtain ⟨hU, hP, hG, hF, hC, hS, hA⟩ := h.2.2.2.1
  have ew : wB V = wB V0 := by funext v; exact wB_fr hV v
  have hmk := zor_rn (n := 10) (a := V0 612 l) (b := V0 612 m) (by decide) hlr.2.2.2.1 hlr.2.2.2.2 hmr.2.2.2.1 hmr.2.2.2.2
  refine m_findWorlds (by rw [e3]; exact hA.1.2) (fun c a b => cW_fr (fun o j a b => hV o j (by omega) b) (h.2.2.2.2.2.1 c a (by rw [e3] at b; exact b))) (fun V1 w1 w2 w3 w4 => ?_)
  rw [ew] at w3
  have L1 : ∀ (g : Nat) (i : Int) (V2 : qV) (K : Int → qV → Prop), 0 ≤ i → i ≤ 1024 → 1024 < i + g → K 1024 (fl V2 622 i 1024 (fun _ => 0)) → lp_X11_findViews_6 l m K g i V2 := by
    intro g
    induction g with
    | zero => intro i V2 K p q r; omega
    | succ g ih =>
      intro i V2 K p q r kk
      rw [lp_X11_findViews_6]
      refine br_c (fun c => ?_) (fun c => ⟨by omega, zr_i (by omega) (by omega), ih _ _ _ (by omega) (by omega) (by omega) ?_⟩)
      · have : i = 1024 := by omega
        subst this
        rw [fl_e (by omega)] at kk; exact kk
      · rw [fl_s' (x := 0) (c := fun _ => 0) (by omega) rfl]; exact kk
  refine L1 100000 0 V1 _ (by decide) (by decide) (by decide) ?_
  have f1 : ∀ o j, o ≠ 622 → (fl V1 622 0 1024 (fun _ => (0 : Int))) o j = V1 o j := fun o j x => fl_o x _
  have f2 : ∀ u, 0 ≤ u → u < 1024 → (fl V1 622 0 1024 (fun _ => (0 : Int))) 622 u = 0 := fun u a b => fl_in a b
  generalize (fl V1 622 0 1024 (fun _ => (0 : Int))) = V2 at f1 f2 ⊢
  have m12 : ∀ V3 : qV, (∀ o j, o ≠ 622 → V3 o j = V2 o j) → zor (V3 612 l) (V3 612 m) = zor (V0 612 l) (V0 612 m) := fun V3 x => by
    rw [x _ _ (by decide), f1 _ _ (by decide), w1 _ _ (by decide) (by decide) (by decide) (by omega), hV _ _ (by decide) (by decide), x _ _ (by decide), f1 _ _ (by decide), w1 _ _ (by decide) (by decide) (by decide) (by omega), hV _ _ (by decide) (by decide)]
  generalize hmke : zor (V0 612 l) (V0 612 m) = mk at m12 hmk k
  have L2 : ∀ (g : Nat) (i : Int) (V3 : qV), 0 ≤ i → i ≤ 1024 → 1024 < i + g → (∀ o j, o ≠ 622 → V3 o j = V2 o j) → (∀ u, 0 ≤ u → u < 1024 → V3 622 u = bit01 (exB (fun v => wB V0 v && decide (zand v mk = u)) i.toNat)) → lp_X11_findViews_28 l m (fun l3x13 V13 => Q V13) g i V3 := by
    intro g
    induction g with
    | zero => intro i V3 p q r; omega
    | succ g ih =>
      intro i V3 p q r g1 g2
      rw [lp_X11_findViews_28]
      have es : ∀ u, exB (fun v => wB V0 v && decide (zand v mk = u)) (i + 1).toNat = (exB (fun v => wB V0 v && decide (zand v mk = u)) i.toNat || (wB V0 i && decide (zand i mk = u))) := fun u => by
        rw [show (i + 1).toNat = i.toNat + 1 by omega, exB, Int.toNat_of_nonneg p]
      refine br_c (fun c => ?_) (fun c => ⟨by omega, ?_⟩)
      · have : i = 1024 := by omega
        subst this
        exact k V3 (fun o j a b c d e => by rw [g1 o j d, f1 o j d, w1 o j a b c e]) (fun u a b => g2 u a b)
      · have e6 : V3 616 i = bit01 (wB V0 i) := by rw [g1 _ _ (by decide), f1 _ _ (by decide)]; exact w3 i p (by omega)
        rw [e6, m12 V3 g1]
        have hz := zand_rn (a := i) (b := mk) p (by omega) hmk.1 (by have := hmk.2; omega)
        refine br_c (fun y => ⟨zr_i (by omega) (by omega), ih _ _ (by omega) (by omega) (by omega) g1 (fun u a b => ?_)⟩) (fun y => ⟨hl, hm, by omega, zr_i (by omega) (by omega), ih _ _ (by omega) (by omega) (by omega) (fun o j x => by rw [qu_o _ _ x]; exact g1 o j x) (fun u a b => ?_)⟩)
        · rw [g2 u a b, es, bit01_0.mp y]; simp
        · have hw : wB V0 i = true := by
            cases hw : wB V0 i with
            | true => rfl
            | false => rw [hw] at y; exact absurd rfl y
          rw [es, hw]
          by_cases hu : zand i mk = u
          · subst hu
            rw [qu_s]; simp [bit01]
          · rw [qu_e (by omega), g2 u a b]; simp [hu]
  exact L2 100000 0 V2 (by decide) (by decide) (by decide) (fun _ _ _ => rfl) (fun u a b => by rw [f2 u a b]; rfl)
theorem m_parts {l m : Int} {nm : Int → Int} {V0 V : qV} {Q : Int → qV → Prop} (hV : ∀ o j, 604 ≤ o → o ≤ 612 → V o j = V0 o j) (hl : 0 ≤ l ∧ l < 3) (hm : 0 ≤ m ∧ m < 3) (hlr : lR V0 l) (hmr : lR V0 m) (hnm : ∀ n, 0 ≤ n → n ≤ 9 → nm n = V 614 n) (hvw : ∀ u, 0 ≤ u → u < 1024 → V 622 u = bit01 (vwB V0 (zor (V0 612 l) (V0 612 m)) u))
    (k : ∀ V', (∀ o j, o ≠ 615 → V' o j = V o j) → Q (bit01 (ptB nm V0 l m)) V') : W_X11_parts l m V Q := by
  have hmk := zor_rn (n := 10) (a := V0 612 l) (b := V0 612 m) (by decide) hlr.2.2.2.1 hlr.2.2.2.2 hmr.2.2.2.1 hmr.2.2.2.2
  have hl1 := hlr.2.2.2
  have hm1 := hmr.2.2.2
  have tbm : ∀ k, tb (zor (V0 612 l) (V0 612 m)) k = (tb (V0 612 l) k || tb (V0 612 m) k) := fun k => tb_or hl1.1 (by omega) hm1.1 (by omega) k
  generalize zor (V0 612 l) (V0 612 m) = mk at hmk tbm hvw
  have hz : ∀ v, 0 ≤ v → v < 1024 → (0 ≤ zand v mk ∧ zand v mk < 1024) ∧ ∀ k, tb (zand v mk) k = (tb v k && tb mk k) := fun v a b => by
    have := zand_rn (a := v) (b := mk) a (by omega) hmk.1 (by have := hmk.2; omega)
    exact ⟨by omega, fun k => tb_and a (by omega) hmk.1 (by have := hmk.2; omega) k⟩
  have el : ∀ v, 0 ≤ v → v < 1024 → whV V0 l nm (zand v mk) = whV V0 l nm v := fun v a b => whF_cg hlr (fun _ _ _ _ => rfl) (fun k hk => by rw [(hz v a b).2, tbm, hk]; simp) _
  have em : ∀ v, 0 ≤ v → v < 1024 → whV V0 m nm (zand v mk) = whV V0 m nm v := fun v a b => whF_cg hmr (fun _ _ _ _ => rfl) (fun k hk => by rw [(hz v a b).2, tbm, hk]; simp) _
  have hp : ptB nm V0 l m = true ↔ ∃ u, 0 ≤ u ∧ u < 1024 ∧ vwB V0 mk u = true ∧ whV V0 l nm u ≠ whV V0 m nm u := by
    rw [ptB_iff]
    constructor
    · rintro ⟨v, a, b, c, d⟩
      refine ⟨zand v mk, (hz v a b).1.1, (hz v a b).1.2, ?_, by rw [el v a b, em v a b]; exact d⟩
      unfold vwB; rw [exB_iff]
      exact ⟨v, a, by omega, by rw [c]; simp⟩
    · rintro ⟨u, a, b, c, d⟩
      unfold vwB at c; rw [exB_iff] at c
      obtain ⟨v, p, q, r⟩ := c
      rw [Bool.and_eq_true, decide_eq_true_eq] at r
      refine ⟨v, p, by omega, r.1, ?_⟩
      rw [← r.2, el v p (by omega), em v p (by omega)] at d
      exact d
  have main : ∀ (g : Nat) (i : Int) (V1 : qV), 0 ≤ i → i ≤ 1024 → 1024 < i + g → (∀ o j, o ≠ 615 → V1 o j = V o j) → (∀ u, 0 ≤ u → u < i → vwB V0 mk u = true → whV V0 l nm u = whV V0 m nm u) → lp_X11_parts_2 l m (fun l3x6 V6 => Q 0 V6) Q g i V1 := by
    intro g
    induction g with
    | zero => intro i V1 p q r; omega
    | succ g ih =>
      intro i V1 p q r e1 e2
      rw [lp_X11_parts_2]
      have hV1 : ∀ o j, 604 ≤ o → o ≤ 612 → V1 o j = V0 o j := fun o j a b => by rw [e1 o j (by omega), hV o j a b]
      refine br_c (fun c => ?_) (fun c => ⟨by omega, ?_⟩)
      · have : ptB nm V0 l m = false := by
          rw [Bool.eq_false_iff]; intro y
          obtain ⟨u, a, b, c', d⟩ := hp.mp y
          exact d (e2 u a (by omega) c')
        have kk := k V1 e1
        rw [this] at kk; exact kk
      · rw [e1 622 _ (by decide), hvw i p (by omega)]
        refine br_c (fun y => ⟨zr_i (by omega) (by omega), ih _ _ (by omega) (by omega) (by omega) e1 (fun u a b c' => ?_)⟩) (fun y => ?_)
        · by_cases hu : u = i
          · subst hu; rw [bit01_0.mp y] at c'; exact absurd c' (by decide)
          · exact e2 u a (by omega) c'
        · have hy : vwB V0 mk i = true := by
            cases hw : vwB V0 mk i with
            | true => rfl
            | false => rw [hw] at y; exact absurd rfl y
          refine m_whoIn (nm := nm) (n := V0 610 l) (by omega) ((hlr.M hl).fr hV1) (fun n a b => by rw [e1 _ _ (by decide)]; exact hnm n a b) (fun V2 x1 => ?_)
          have hV2 : ∀ o j, 604 ≤ o → o ≤ 612 → V2 o j = V0 o j := fun o j a b => by rw [x1 o j (by omega), hV1 o j a b]
          refine m_whoIn (nm := nm) (n := V0 610 m) (by omega) ((hmr.M hm).fr hV2) (fun n a b => by rw [x1 _ _ (by decide), e1 _ _ (by decide)]; exact hnm n a b) (fun V3 x2 => ?_)
          have y1 : whF nm (LiM V1 l) (fun i => V1 606 (12 * l + i)) (V0 610 l) i = whV V0 l nm i := by
            unfold whV
            rw [LiM_fr hV1 l, show (fun i => V1 606 (12 * l + i)) = (fun i => V0 606 (12 * l + i)) by funext i; exact hV1 _ _ (by decide) (by decide)]
          have y2 : whF nm (LiM V2 m) (fun i => V2 606 (12 * m + i)) (V0 610 m) i = whV V0 m nm i := by
            unfold whV
            rw [LiM_fr hV2 m, show (fun i => V2 606 (12 * m + i)) = (fun i => V0 606 (12 * m + i)) by funext i; exact hV2 _ _ (by decide) (by decide)]
          rw [y1, y2]
          have e3 : ∀ o j, o ≠ 615 → V3 o j = V o j := fun o j a => by rw [x2 o j a, x1 o j a, e1 o j a]
          refine br_c (fun z => ⟨zr_i (by omega) (by omega), ih _ _ (by omega) (by omega) (by omega) e3 (fun u a b c' => ?_)⟩) (fun z => ?_)
          · by_cases hu : u = i
            · subst hu; exact z
            · exact e2 u a (by omega) c'
          · have : ptB nm V0 l m = true := hp.mpr ⟨i, p, by omega, hy, z⟩
            have kk := k V3 e3
            rw [this] at kk; exact kk
  exact main 100000 0 V (by decide) (by decide) (by decide) (fun _ _ _ => rfl) (fun u a b => by omega)
theorem pI.rel {n : Int} {V0 V V2 : qV} {J0 J : qJ} (h : Rel n V0 J0) (hp : pI V0 J0 V J) (hV : ∀ o j, ¬ (602 ≤ o ∧ o ≤ 602 ∧ (j = 0 ∨ j = 25)) → o ≠ 614 → o ≠ 615 → o ≠ 616 → o ≠ 622 → V2 o j = V o j) : Rel (n + 1) V2 J := by
  obtain ⟨p1, p2, p3, p4⟩ := hp
  have e : ∀ o j, ¬ (o = 151 ∨ o = 153 ∨ o = 155 ∨ o = 157 ∨ o = 168 ∨ o = 169 ∨ (o = 602 ∧ (j = 0 ∨ j = 25)) ∨ o = 614 ∨ o = 615 ∨ o = 616 ∨ o = 622) → V2 o j = V0 o j := fun o j x => by
    rw [hV o j (by omega) (by omega) (by omega) (by omega) (by omega), p1 o j (by omega) (by omega) (by omega) (by omega) (by omega) (by omega)]
  refine h.sc (by omega) (fun o j p q r s => e o j (by unfold scrC at p; omega)) (fun o j p => p2 o j (by omega) (by omega) (by omega) (by omega) (by omega)) ?_ ?_
  · have h7 := h.2.2.2.2.2.2.1
    have h9 := h7.2.2.2.2.1.2
    exact h7.fr (by omega) (fun o j p q => e o j (by omega)) (fun j => e _ _ (by omega))
  · refine ⟨by rw [hV _ _ (by omega) (by omega) (by omega) (by omega) (by omega)]; exact p3.1, fun q => p3.2 (by rw [hV _ _ (by omega) (by omega) (by omega) (by omega) (by omega)] at q; exact q)⟩
theorem pI_0 {n : Int} {V : qV} {J : qJ} {Q : qJ → Prop} (h : Rel n V J) (k : ∀ J', pI V J V J' → Q J') : W_X10_fillWorldSet V J Q := by
  obtain ⟨hU, hP, hG, hF, hC, hS, hA⟩ := h.2.2.2.1
  refine s_fillWorldSet (fun j a b => ?_) (fun J4 j1 j2 => k J4 ⟨fun _ _ _ _ _ _ _ _ => rfl, fun q j _ _ _ _ e => j1 q j e, ?_, fun v a b => ?_⟩)
  · have := (hU.2 j a b).1
    rw [show (12 : Int) + 2 = 14 from rfl] at this
    omega
  · have h8 := h.2.2.2.2.2.2.2.1
    refine ⟨h8.1, fun q v p r => ?_⟩
    have := h8.2 q v p r
    unfold s0 at this ⊢
    rw [j1 _ _ (by decide)]; exact this
  · rw [j2 v a b, ← wB_e hU hA a b]
def bsC (V : qV) (l m : Int) : Nat → Int := cntB (fun i => ptB (nmM (V 603) i) V l m)
theorem t_beside {n : Int} {a b : Int} {V : qV} {J : qJ} {P : qV → qJ → Prop} (h : Rel n V J) (hP0 : ∀ V2 J2, Rel (n + 1) V2 J2 → P V2 J2) : W_X10_beside a b V J (fun r V1 J1 => W_X11_beside a b V1 (fun s V2 => V2 602 0 = 0 ∧ r = s ∧ P V2 J1)) (fun E V1 J1 => E = "java/lang/IllegalArgumentException" ∧ W_X11_beside a b V1 (fun s V2 => V2 602 0 = 1 ∧ P V2 J1)) := by
  obtain ⟨hU, hP, hG, hF, hC, hS, hA⟩ := h.2.2.2.1
  have hlw := h.2.2.1
  have h142 := hF.1
  have iL : ∀ (l : Int) (V1 : qV) (Q : Int → qV → Prop), (0 ≤ l ∧ l < V 0 2) → V1 602 11 = V 602 11 → Q 1 (qu V1 602 0 0) → W_X11_isLaw l 1 (qu V1 602 0 0) Q := fun l V1 Q hl e k => m_il1 (qs0 _) (by rw [q602' _ _ _ (by decide), e]; exact hlw.1.2) (by rw [q602' _ _ _ (by decide), e]; have := hlw.1; omega) k
  have nL : ∀ (l : Int) (Q : Int → qV → Prop), ¬ (0 ≤ l ∧ l < V 0 2) → Q 0 (qu (qu V 602 0 0) 602 0 1) → W_X11_isLaw l 1 (qu V 602 0 0) Q := fun l Q hl k => m_il0 (qs0 _) (by rw [q602' _ _ _ (by decide)]; exact hlw.1.2) (by decide) (by rw [q602' _ _ _ (by decide), ← hlw.1.1]; exact hl) k
  refine if ha : 0 ≤ a ∧ a < V 0 2 then ?_ else s_lO0 ha ⟨rfl, nL a _ ha (br_t rfl ⟨qu_s _ _ _ _, hP0 _ _ h.th⟩)⟩
  refine s_lO1 ha (by have := hlw.1; omega) ?_
  refine if hb' : 0 ≤ b ∧ b < V 0 2 then ?_ else s_lO0 hb' ⟨rfl, iL a V _ ha rfl (br_f (by decide) (nL b _ hb' (br_t rfl ⟨qu_s _ _ _ _, hP0 _ _ h.th⟩)))⟩
  refine s_lO1 hb' (by have := hlw.1; omega) ?_
  have ha3 : 0 ≤ a ∧ a < 3 := by have := hlw.1; omega
  have hb3 : 0 ≤ b ∧ b < 3 := by have := hlw.1; omega
  have har := hlw.2 a ha.1 (by have := hlw.1; omega)
  have hbr := hlw.2 b hb'.1 (by have := hlw.1; omega)
  refine pI_0 h (fun J3 hp => ?_)
  have fin : ∀ V1 J1, pI V J V1 J1 → W_X11_beside a b V1 (fun s V2 => V2 602 0 = 0 ∧ bsC V a b (V 603 142).toNat = s ∧ P V2 J1) := fun V1 J1 hp1 => by
    have g1 := hp1.1
    have g2 : ∀ o j, 602 ≤ o → V1 o j = V o j := fun o j x => g1 o j (by omega) (by omega) (by omega) (by omega) (by omega) (by omega)
    refine iL a V1 _ ha (g2 _ _ (by decide)) (br_f (by decide) (iL b V1 _ hb' (g2 _ _ (by decide)) (br_f (by decide) ?_)))
    refine m_findViews h (fun o j x y => by rw [qu_e (by omega), g2 o j (by omega)]) ha3 hb3 har hbr (fun V4 w1 w2 => ?_)
    have e4 : ∀ o j, 603 ≤ o → o ≤ 613 → V4 o j = V o j := fun o j x y => by rw [w1 o j (by omega) (by omega) (by omega) (by omega) (by omega), qu_e (by omega), g2 o j (by omega)]
    have e43 : V4 603 = V 603 := by funext j; exact e4 _ _ (by decide) (by decide)
    have main : ∀ (g : Nat) (i c : Int) (V5 : qV), 0 ≤ i → i ≤ V 603 142 → V 603 142 < i + g → c = bsC V a b i.toNat → (∀ o j, o ≠ 614 → o ≠ 615 → V5 o j = V4 o j) → lp_X11_beside_36 a b (fun l3x11 l4x11 V11 => V11 602 0 = 0 ∧ bsC V a b (V 603 142).toNat = l3x11 ∧ P V11 J1) g c i V5 := by
      intro g
      induction g with
      | zero => intro i c V5 p q r; omega
      | succ g ih =>
        intro i c V5 p q r hc e5
        have e53 : V5 603 = V 603 := by funext j; rw [e5 _ _ (by decide) (by decide), e43]
        have hb9 := (cntB_b (p := fun i => ptB (nmM (V 603) i) V a b) i.toNat)
        rw [lp_X11_beside_36, e53]
        refine br_c (fun y => ?_) (fun y => ?_)
        · have : i = V 603 142 := by omega
          subst this
          refine ⟨?_, hc.symm, hP0 _ _ (hp1.rel h (fun o j x1 x2 x3 x4 x5 => ?_))⟩
          · rw [e5 _ _ (by decide) (by decide), w1 _ _ (by decide) (by decide) (by decide) (by decide) (by omega)]; exact qs0 _
          · rw [e5 o j x2 x3, w1 o j x2 x3 x4 x5 (by omega), qu_e (by omega)]
        · refine m_nameFind (by rw [e53]; exact hP.m) (by rw [e53]; exact mF_of hU hF hC p (by omega)) (fun V6 x1 x2 => ?_)
          rw [e53] at x2
          refine m_parts (nm := nmM (V 603) i) (V0 := V) (fun o j x y => by rw [x1 o j (by omega), e5 o j (by omega) (by omega), e4 o j (by omega) (by omega)]) ha3 hb3 har hbr (fun n x y => (x2 n x y).symm) (fun u x y => by rw [x1 _ _ (by decide), e5 _ _ (by decide) (by decide)]; exact w2 u x y) (fun V7 x3 => ?_)
          have e7 : ∀ o j, o ≠ 614 → o ≠ 615 → V7 o j = V4 o j := fun o j x y => by rw [x3 o j y, x1 o j x, e5 o j x y]
          have es : bsC V a b (i + 1).toNat = bsC V a b i.toNat + bit01 (ptB (nmM (V 603) i) V a b) := cntB_s p
          unfold bsC at hc
          have hc1 : c = bsC V a b i.toNat := hc
          refine br_c (fun z => ⟨zr_i (by omega) (by omega), zr_i (by omega) (by omega), ih _ _ _ (by omega) (by omega) (by omega) ?_ e7⟩) (fun z => ⟨zr_i (by omega) (by omega), zr_i (by omega) (by omega), ih _ _ _ (by omega) (by omega) (by omega) ?_ e7⟩)
          · rw [es, z, ← hc1]
          · have : bit01 (ptB (nmM (V 603) i) V a b) = 1 := by
              cases hw : ptB (nmM (V 603) i) V a b with
              | true => rfl
              | false => rw [hw] at z; exact absurd rfl z
            rw [es, this, ← hc1]
    exact main 100000 0 0 V4 (by decide) h142.2.1 (by omega) rfl (fun _ _ _ _ => rfl)
  have main : ∀ (g : Nat) (i c : Int) (V5 : qV) (J5 : qJ), 0 ≤ i → i ≤ V 603 142 → V 603 142 < i + g → c = bsC V a b i.toNat → pI V J V5 J5 → lp_X10_beside_23 (173 + 5 * a) (173 + 5 * b) (fun l5x10 l6x10 V10 J10 => W_X11_beside a b V10 (fun s V2 => V2 602 0 = 0 ∧ l5x10 = s ∧ P V2 J10)) g c i V5 J5 := by
    intro g
    induction g with
    | zero => intro i c V5 J5 p q r; omega
    | succ g ih =>
      intro i c V5 J5 p q r hc e5
      have hb9 := (cntB_b (p := fun i => ptB (nmM (V 603) i) V a b) i.toNat)
      have g1 := e5.1
      have g2 : ∀ o j, o ≤ 150 → V5 o j = V o j := fun o j x => g1 o j (by omega) (by omega) (by omega) (by omega) (by omega) (by omega)
      rw [lp_X10_beside_23, g2 12 10 (by decide), h142.1]
      have dn : V 603 142 ≤ i → W_X11_beside a b V5 (fun s V2 => V2 602 0 = 0 ∧ c = s ∧ P V2 J5) := fun y => by
        have : i = V 603 142 := by omega
        subst this
        rw [hc]; exact fin V5 J5 e5
      refine br_c (fun y => dn y) (fun y => br_c (fun y2 => dn (by omega)) (fun y2 => ⟨by omega, ?_⟩))
      obtain ⟨hfr, hf8⟩ := hF.2 i p (by omega)
      rw [show (12 : Int) + 42 + 4 * i = 54 + 4 * i by omega] at hfr hf8
      have hfr5 : fR V5 (54 + 4 * i) (V 603) (143 + 27 * i) (V 603 21) (V 603 20) := hfr.fr (fun q j x y => g2 _ _ (by omega))
      have k1 := hfr5.2.1
      have k3 := hfr5.2.2.2.1
      have k5 := hfr5.2.2.2.2.2.1
      have h20 := hU.1
      refine s_partAt h e5 (by omega) (by omega) (by omega) (by omega) ha3 hb3 har hbr (fun V6 J6 e6 => ?_)
      rw [nmM_e hfr5]
      have es : bsC V a b (i + 1).toNat = bsC V a b i.toNat + bit01 (ptB (nmM (V 603) i) V a b) := cntB_s p
      unfold bsC at hc
      have hc1 : c = bsC V a b i.toNat := hc
      refine br_c (fun z => ⟨zr_i (by omega) (by omega), ih _ _ _ _ (by omega) (by omega) (by omega) ?_ e6⟩) (fun z => ⟨zr_i (by omega) (by omega), zr_i (by omega) (by omega), ih _ _ _ _ (by omega) (by omega) (by omega) ?_ e6⟩)
      · rw [es, z, ← hc1]; omega
      · have : bit01 (ptB (nmM (V 603) i) V a b) = 1 := by
          cases hw : ptB (nmM (V 603) i) V a b with
          | true => rfl
          | false => rw [hw] at z; exact absurd rfl z
        rw [es, this, ← hc1]
  exact main 100000 0 0 V J3 (by decide) h142.2.1 (by omega) rfl hp
