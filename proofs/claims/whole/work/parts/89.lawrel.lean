/-! laws: what stays, what is new -/
theorem seg_fr2 {V V' : qV} : ∀ (k : Nat) (a : Int), (∀ o j, (o = 604 ∨ o = 605) → a ≤ j → j < a + k → V' o j = V o j) → seg V' a k = seg V a k
  | 0, _, _ => rfl
  | k + 1, a, h => by
    show (V' 604 a, V' 605 a) :: seg V' (a + 1) k = (V 604 a, V 605 a) :: seg V (a + 1) k
    rw [h 604 a (Or.inl rfl) (by omega) (by omega), h 605 a (Or.inr rfl) (by omega) (by omega), seg_fr2 k (a + 1) (fun o j x y z => h o j x (by omega) (by omega))]
theorem cS_fr2 {V V' : qV} {c : Int} (hw : cW V c) (h : ∀ o j, (o = 604 ∨ o = 605) → 420 * (3 + c) ≤ j → j < 420 * (3 + c) + 400 → V' o j = V o j) (h11 : V' 611 c = V 611 c) (v : Int) : cS V' c v ↔ cS V c v := by
  unfold cS
  rw [h11, seg_fr2 _ _ (fun o j x y z => h o j x y (by have := hw.1; omega))]
theorem cW_fr2 {V V' : qV} {c : Int} (hw : cW V c) (h : ∀ o j, (o = 604 ∨ o = 605) → 420 * (3 + c) ≤ j → j < 420 * (3 + c) + 400 → V' o j = V o j) (h11 : V' 611 c = V 611 c) : cW V' c := by
  have hw' := hw
  unfold cW at hw ⊢
  rw [h11, seg_fr2 _ _ (fun o j x y z => h o j x y (by have := hw'.1; omega))]; exact hw
theorem tR_cg {V : qV} {J : qJ} {t : Int} {w : Int → Int} {cs cs' : Int → Int → Prop} (h : tR V J t w cs) (hc : ∀ c v, 0 ≤ c → c < w 593 → (cs' c v ↔ cs c v)) : tR V J t w cs' := by
  obtain ⟨h1, h2, h3, h4, h5, h6, h7⟩ := h
  refine ⟨h1, h2, h3, h4, h5, h6, h7.1, fun v a b => ?_⟩
  rw [h7.2 v a b]
  exact ⟨fun x c y z => (hc c v y z).mpr (x c y z), fun x c y z => (hc c v y z).mp (x c y z)⟩
theorem lR.fr2 {V V' : qV} {l : Int} (h : lR V l) (h1 : ∀ o j, 173 + 5 * l ≤ o → o ≤ 173 + 5 * l + 4 → V' o j = V o j) (h2 : ∀ o j, (o = 604 ∨ o = 605) → 420 * l ≤ j → j < 420 * l + 400 → V' o j = V o j) (h3 : ∀ o j, 606 ≤ o → o ≤ 609 → 12 * l ≤ j → j < 12 * l + 12 → V' o j = V o j) (h4 : V' 610 l = V 610 l) (h5 : V' 612 l = V 612 l) : lR V' l := by
  obtain ⟨a1, a2, a3, a4⟩ := h
  have lo : ∀ i, 0 ≤ i → i < V 610 l → 420 * l ≤ V 608 (12 * l + i) := by
    have key : ∀ q : Nat, (q : Int) < V 610 l → 420 * l ≤ V 608 (12 * l + q) ∧ V 608 (12 * l + q) ≤ V 609 (12 * l + q) := by
      intro q
      induction q with
      | zero =>
        intro hq
        have := (a2 0 (by omega) hq).2.2.1
        rw [if_pos rfl] at this
        exact ⟨by show _ ≤ V 608 (12 * l + 0); omega, this.2.1⟩
      | succ q ih =>
        intro hq
        have i1 := ih (by omega)
        have := (a2 ((q + 1 : Nat) : Int) (by omega) hq).2.2.1
        rw [if_neg (by omega), show ((q + 1 : Nat) : Int) - 1 = q by omega] at this
        exact ⟨by omega, this.2.1⟩
    intro i i0 i1
    have := (key i.toNat (by omega)).1
    rw [Int.toNat_of_nonneg i0] at this; exact this
  refine ⟨by rw [h1 _ _ (by omega) (by omega), h4]; exact a1, fun i i0 i1 => ?_, by rw [h1 _ _ (by omega) (by omega)]; exact a3, by rw [h5]; exact a4⟩
  rw [h4] at i1
  have hi := a2 i i0 i1
  have i12 : i < 12 := by have := a1; omega
  have l0 := lo i i0 i1
  have e6 := h3 606 (12 * l + i) (by decide) (by decide) (by omega) (by omega)
  have e7 := h3 607 (12 * l + i) (by decide) (by decide) (by omega) (by omega)
  have e8 := h3 608 (12 * l + i) (by decide) (by decide) (by omega) (by omega)
  have e9 := h3 609 (12 * l + i) (by decide) (by decide) (by omega) (by omega)
  rw [e6, e7, e8, e9, h1 _ _ (by omega) (by omega), h1 _ _ (by omega) (by omega), h1 _ _ (by omega) (by omega)]
  obtain ⟨b1, b2, b3, b4, b5⟩ := hi
  refine ⟨b1, b2, ⟨b3.1, b3.2.1, b3.2.2.1, ?_⟩, fun x => ?_, fun k k0 k1 => ?_⟩
  · by_cases z : i = 0
    · rw [if_pos z]; rw [if_pos z] at b3; exact b3.2.2.2
    · rw [if_neg z]; rw [if_neg z] at b3
      rw [h3 609 (12 * l + (i - 1)) (by decide) (by decide) (by omega) (by omega)]; exact b3.2.2.2
  · rw [seg_fr2 _ _ (fun o j y z w => h2 o j y (by omega) (by omega))]; exact b4 x
  · rw [h1 (173 + 5 * l + 4) (k - 420 * l) (by omega) (by omega), h1 (173 + 5 * l) 6 (by omega) (by omega), h2 604 k (Or.inl rfl) (by omega) (by omega), h2 605 k (Or.inr rfl) (by omega) (by omega), h5]
    exact b5 k k0 k1
theorem Rel.lw {n n' : Int} {V V' : qV} {J : qJ} (h : Rel n V J) (hn : n ≤ n') (hV : ∀ o j, (12 ≤ o ∧ o ≤ 165) ∨ (188 ≤ o ∧ o ≤ 601) ∨ o = 603 ∨ o = 2 ∨ o = 613 ∨ o = 621 ∨ o = 623 ∨ 625 ≤ o ∨ (o = 0 ∧ j = 5) ∨ (o = 602 ∧ j = 33) ∨ o = 611 → V' o j = V o j) (hc : ∀ o j, (o = 604 ∨ o = 605) → 1260 ≤ j → V' o j = V o j) (ht : V' 1 1 = 0 ∧ V' 602 12 = 0) (hf : V' 1 12 = V' 602 20) (hl : lwR V') : Rel n' V' J := by
  obtain ⟨h1, h2, h3, h4, h5, h6, h7, h8, h9⟩ := h
  have e603 : V' 603 = V 603 := by funext j; exact hV _ _ (by omega)
  have ewI : ∀ i, wI V' i = wI V i := fun i => by funext k; unfold wI; exact hV _ _ (by omega)
  have csE : ∀ c v, 0 ≤ c → c < V 603 593 → (cS V' c v ↔ cS V c v) := fun c v a b => cS_fr2 (h6 c a b) (fun o j x y z => hc o j x (by omega)) (hV _ _ (by omega)) v
  have h593 := h4.2.2.2.2.2.2.1
  refine ⟨⟨⟨by rw [ht.1, ht.2], by rw [ht.2]; omega, by rw [ht.2]; omega⟩, fun k p q => by rw [hV _ _ (by omega), hV _ _ (by omega)]; exact h1.2 k p q⟩, hf, hl, ?_, ⟨by rw [hV 0 5 (by omega), hV 602 33 (by omega)]; exact h5.1, fun i p q => ?_, fun i j p q r => ?_⟩, fun c p q => ?_, ?_, ?_, fun k p q => ?_⟩
  · rw [e603]
    exact tR_cg (h4.fr (V' := V') (J' := J) (fun o j p q => hV o j (by omega)) (fun j => rfl)) (fun c v a b => csE c v a b)
  · rw [hV 602 33 (by omega)] at q
    have hi : i = 0 ∨ i = 1 ∨ i = 2 := by have := h5.1; omega
    rw [ewI, e603]
    have g := h5.2.1 i p q
    exact ⟨tR_cg (g.1.fr (V' := V') (J' := J) (fun o j p q => hV o j (by omega)) (fun j => rfl)) (fun c v a b => csE c v a (by have := g.2; omega)), g.2⟩
  · rw [hV 602 33 (by omega)] at r
    rw [ewI, ewI]; exact h5.2.2 i j p q r
  · rw [e603] at q
    exact cW_fr2 (h6 c p q) (fun o j x y z => hc o j x (by omega)) (hV _ _ (by omega))
  · exact h7.fr hn (fun o j p q => hV o j (by omega)) (fun j => hV _ _ (by have := h7.2.2.2.2.1.2; omega))
  · refine ⟨by rw [hV _ _ (by omega)]; exact h8.1, fun q v p r => ?_⟩
    rw [hV _ _ (by omega)] at q
    exact h8.2 q v p r
  · rw [hV _ _ (by omega)]; exact h9 k p q
theorem cd_both {V : qV} {o : Int} : ∀ (L : List (Int × Int)) (x y : Int), cdC V o x L → cdM V y L → ∀ k : Int, 0 ≤ k → k < (L.length : Int) → V o (x + k) = enc (V 604 (y + k), V 605 (y + k)) ∧ (V 604 (y + k), V 605 (y + k)) ∈ L
  | [], _, _, _, _, k, a, b => by simp at b; omega
  | c :: L, x, y, h1, h2, k, a, b => by
    have e : ((c :: L).length : Int) = (L.length : Int) + 1 := by simp
    by_cases z : k = 0
    · subst z
      rw [Int.add_zero, Int.add_zero, h2.1.1, h2.1.2]
      exact ⟨h1.1, List.mem_cons_self ..⟩
    · have ih := cd_both L (x + 1) (y + 1) h1.2 h2.2 (k - 1) (by omega) (by omega)
      rw [show x + 1 + (k - 1) = x + k by omega, show y + 1 + (k - 1) = y + k by omega] at ih
      exact ⟨ih.1, List.mem_cons_of_mem _ ih.2⟩
theorem lR_new' {V : qV} {a b g u u2 : Int} : ∀ (R : List (Int × Int × List (Int × Int))) (q x : Int), 0 ≤ x → rOk R → x + (cds R).length ≤ 400 → rlC V a q x R → rlM V b g q x R → cdC V (a + 4) x (cds R) → cdM V (g + x) (cds R) → usL u (cds R) → (∀ c, c ∈ cds R → c.1 = 2 → tb u2 c.2 = true) → ∀ i, q ≤ i → i < q + R.length →
    (V (a + 1) i = V 606 (b + i) ∧ 0 ≤ V 606 (b + i) ∧ V 606 (b + i) ≤ 4) ∧ (V (a + 2) i = V 607 (b + i) ∧ 0 ≤ V 607 (b + i) ∧ V 607 (b + i) ≤ 9999) ∧
    (V (a + 3) i = V 609 (b + i) - g ∧ V 608 (b + i) ≤ V 609 (b + i) ∧ V 609 (b + i) ≤ g + 400 ∧ V 608 (b + i) = (if i = q then g + x else V 609 (b + (i - 1)))) ∧
    (V 608 (b + i) < V 609 (b + i) → wrun (seg V (V 608 (b + i)) (V 609 (b + i) - V 608 (b + i)).toNat) [] = some [true]) ∧
    (∀ k, V 608 (b + i) ≤ k → k < V 609 (b + i) → V (a + 4) (k - g) = enc (V 604 k, V 605 k) ∧ (V 604 k = 1 → tb u (V 605 k) = true) ∧ (V 604 k = 2 → tb u2 (V 605 k) = true))
  | [], q, x, _, _, _, _, _, _, _, _, _, i, a1, a2 => by simp at a2; omega
  | r :: R, q, x, hx, ok, tot, h1, h2, h3, h4, h5, h6, i, a1, a2 => by
    have el : ((r :: R).length : Int) = (R.length : Int) + 1 := by simp
    have ec : ((cds (r :: R)).length : Int) = r.2.2.length + (cds R).length := by simp [cds]
    have h3' : cdC V (a + 4) x (r.2.2 ++ cds R) := h3
    have h4' : cdM V (g + x) (r.2.2 ++ cds R) := h4
    rw [cdC_ap] at h3'
    rw [cdM_ap] at h4'
    have okr := ok r (List.mem_cons_self ..)
    by_cases z : i = q
    · subst z
      obtain ⟨⟨c1, c2, c3⟩, c4⟩ := h1
      obtain ⟨⟨m1, m2, m3, m4⟩, m5⟩ := h2
      rw [if_pos rfl, c1, c2, c3, m1, m2, m3, m4]
      refine ⟨⟨rfl, okr.1⟩, ⟨rfl, okr.2.1⟩, ⟨by omega, by omega, by omega, rfl⟩, fun y => ?_, fun k k0 k1 => ?_⟩
      · rw [show (g + x + (r.2.2.length : Int) - (g + x)).toNat = r.2.2.length by omega, cdM_seg _ _ h4'.1]
        rcases okr.2.2 with w | w
        · rw [w] at y; simp at y
        · exact w [] (by decide) (by decide)
      · have bo := cd_both r.2.2 x (g + x) h3'.1 h4'.1 (k - (g + x)) (by omega) (by omega)
        rw [show x + (k - (g + x)) = k - g by omega, show g + x + (k - (g + x)) = k by omega] at bo
        have mem : (V 604 k, V 605 k) ∈ cds (r :: R) := List.mem_append.mpr (Or.inl bo.2)
        exact ⟨bo.1, fun y => h5 _ mem y, fun y => h6 _ mem y⟩
    · have ih := lR_new' (V := V) (a := a) (b := b) (g := g) (u := u) (u2 := u2) R (q + 1) (x + r.2.2.length) (by omega) (fun r' hr' => ok r' (List.mem_cons_of_mem _ hr')) (by omega) h1.2 h2.2 h3'.2 (by rw [show g + (x + (r.2.2.length : Int)) = g + x + r.2.2.length by omega]; exact h4'.2) (fun c hc => h5 c (List.mem_append.mpr (Or.inr hc))) (fun c hc => h6 c (List.mem_append.mpr (Or.inr hc))) i (by omega) (by omega)
      obtain ⟨i1, i2, i3, i4, i5⟩ := ih
      refine ⟨i1, i2, ⟨i3.1, i3.2.1, i3.2.2.1, ?_⟩, i4, i5⟩
      rw [if_neg z]
      by_cases y : i = q + 1
      · have := i3.2.2.2
        rw [if_pos y] at this
        rw [this, show i - 1 = q by omega, h2.1.2.2.2]; omega
      · have := i3.2.2.2
        rw [if_neg y] at this; exact this
theorem lR_new {V : qV} {l : Int} {R : List (Int × Int × List (Int × Int))} (ok : rOk R) (hlen : (R.length : Int) ≤ 12) (tot : ((cds R).length : Int) ≤ 400) (h0 : V (173 + 5 * l) 0 = R.length) (h610 : V 610 l = R.length) (hC : rlC V (173 + 5 * l) 0 0 R) (hM : rlM V (12 * l) (420 * l) 0 0 R) (cC : cdC V (173 + 5 * l + 4) 0 (cds R)) (cM : cdM V (420 * l) (cds R)) (hu : usL (V (173 + 5 * l) 6) (cds R)) (h6 : 0 ≤ V (173 + 5 * l) 6 ∧ V (173 + 5 * l) 6 < 1024) (h612 : 0 ≤ V 612 l ∧ V 612 l < 1024) (hk : ∀ c, c ∈ cds R → c.1 = 2 → tb (V 612 l) c.2 = true) : lR V l := by
  refine ⟨by rw [h0, h610]; omega, fun i i0 i1 => ?_, h6, h612⟩
  rw [h610] at i1
  have := lR_new' (V := V) (a := 173 + 5 * l) (b := 12 * l) (g := 420 * l) (u := V (173 + 5 * l) 6) (u2 := V 612 l) R 0 0 (by decide) ok (by omega) hC hM cC (by rw [Int.add_zero]; exact cM) hu hk i i0 (by omega)
  rw [Int.add_zero] at this
  exact this
theorem wrun_2 : ∀ (L : List (Int × Int)) (tt t' : List Bool), wrun L tt = some t' → ∀ c, c ∈ L → c.1 = 2 → 0 ≤ c.2 ∧ c.2 ≤ 9
  | [], _, _, _, c, hc, _ => by simp at hc
  | d :: L, tt, t', h, c, hc, h2 => by
    have h' : (match wst tt d with | none => none | some t' => if wok t' then wrun L t' else none) = some t' := h
    cases w : wst tt d with
    | none => rw [w] at h'; exact absurd h' (by simp)
    | some x =>
      rw [w] at h'
      have h'' : (if wok x then wrun L x else none) = some t' := h'
      rcases List.mem_cons.mp hc with y | y
      · subst y
        unfold wst at w
        rw [if_neg (by omega), if_neg (by omega), if_pos h2] at w
        by_cases z : 0 ≤ c.2 ∧ c.2 ≤ 9
        · exact z
        · rw [if_neg z] at w; exact absurd w (by simp)
      · by_cases z : wok x
        · rw [if_pos z] at h''
          exact wrun_2 L x t' h'' c y h2
        · rw [if_neg z] at h''; exact absurd h'' (by simp)
theorem cds_2 {R : List (Int × Int × List (Int × Int))} (ok : rOk R) : ∀ c, c ∈ cds R → c.1 = 2 → 0 ≤ c.2 ∧ c.2 ≤ 9 := by
  induction R with
  | nil => intro c hc; simp [cds] at hc
  | cons r R ih =>
    intro c hc h2
    have hc' : c ∈ r.2.2 ++ cds R := hc
    rcases List.mem_append.mp hc' with x | x
    · rcases (ok r (List.mem_cons_self ..)).2.2 with y | y
      · rw [y] at x; simp at x
      · exact wrun_2 _ _ _ (y [] (by decide) (by decide)) c x h2
    · exact ih (fun r' hr' => ok r' (List.mem_cons_of_mem _ hr')) c x h2
/-- the unknowns that a law uses -/
theorem m_used {V : qV} {l b c : Int} {L : List (Int × Int)} {K : Int → qV → Prop} (h19 : V 602 19 = b) (h18 : V 602 18 = c) (h11 : V 602 11 = l) (hl : 0 ≤ l ∧ l < 3) (hb' : 0 ≤ b ∧ b ≤ 4200) (hc : c = L.length ∧ c ≤ 400) (cM : cdM V b L) (h2 : ∀ d, d ∈ L → d.1 = 2 → 0 ≤ d.2 ∧ d.2 ≤ 9) (hz : V 612 l = 0)
    (k : ∀ i u, (0 ≤ u ∧ u < 1024) → (∀ d, d ∈ L → d.1 = 2 → tb u d.2 = true) → K i (qu V 612 l u)) : lp_X11_law_132 K 100000 b V := by
  have main : ∀ (g : Nat) (M : List (Int × Int)) (i u : Int), i + M.length = b + c → b ≤ i → 500 < i - b + g → cdM V i M → (∀ d, d ∈ M → d.1 = 2 → 0 ≤ d.2 ∧ d.2 ≤ 9) → (0 ≤ u ∧ u < 1024) → (∀ d, d ∈ L → d.1 = 2 → tb u d.2 = true ∨ d ∈ M) → lp_X11_law_132 K g i (qu V 612 l u) := by
    intro g
    induction g with
    | zero => intro M i u a b' c'; omega
    | succ g ih =>
      intro M i u e1 e2 e3 e4 e5 e6 e7
      rw [lp_X11_law_132]
      have q602 : ∀ x, (qu V 612 l u) 602 x = V 602 x := fun x => qu_o _ _ (by decide) _
      rw [q602, q602, q602, h19, h18, h11]
      refine ⟨zr_i (by omega) (by omega), br_c (fun x => ?_) (fun x => ⟨by omega, ?_⟩)⟩
      · cases M with
        | nil => exact k i u e6 (fun d hd h => (e7 d hd h).resolve_right (by simp))
        | cons d M => simp at e1; omega
      · cases M with
        | nil => simp at e1; omega
        | cons d M =>
          have el : (((d :: M).length : Nat) : Int) = M.length + 1 := by simp
          have d1 : (qu V 612 l u) 604 i = d.1 := by rw [qu_o _ _ (by decide)]; exact e4.1.1
          have d2 : (qu V 612 l u) 605 i = d.2 := by rw [qu_o _ _ (by decide)]; exact e4.1.2
          have nx : ∀ u', (0 ≤ u' ∧ u' < 1024) → (∀ k, tb u k = true → tb u' k = true) → (d.1 = 2 → tb u' d.2 = true) → (zr (i + 1) ∧ lp_X11_law_132 K g (i + 1) (qu V 612 l u')) := fun u' h1 h3 h4 => by
            refine ⟨zr_i (by omega) (by omega), ih M (i + 1) u' (by omega) (by omega) (by omega) e4.2 (fun d' hd' => e5 d' (List.mem_cons_of_mem _ hd')) h1 (fun d' hd' h5 => ?_)⟩
            rcases e7 d' hd' h5 with y | y
            · exact Or.inl (h3 _ y)
            · rcases List.mem_cons.mp y with z | z
              · subst z; exact Or.inl (h4 h5)
              · exact Or.inr z
          rw [d1, d2, qu_s, qu_qu]
          refine br_c (fun y => ⟨hl, by omega, hl, ?_⟩) (fun y => nx u e6 (fun _ z => z) (fun z => absurd z y))
          have b9 := e5 d (List.mem_cons_self ..) y
          have mo := mk_or (m := u) (u := d.2) e6 (by omega)
          refine nx _ mo.1 (fun k z => ?_) (fun _ => ?_)
          · by_cases k0 : 0 ≤ k
            · rw [mo.2 k k0, z]; rfl
            · have zz := zshl_rn (k := d.2) (n := 10) (by decide) b9.1 (by omega)
              have z2 : zshl 1 d.2 < 1024 := zz.2
              rw [tb_or e6.1 (by omega) (by omega) (by omega), z]; rfl
          · rw [mo.2 d.2 b9.1]; simp
  have := main 100000 L b 0 (by omega) (by omega) (by omega) cM h2 (by decide) (fun d hd _ => Or.inr hd)
  rw [← hz, qu_id] at this
  exact this
