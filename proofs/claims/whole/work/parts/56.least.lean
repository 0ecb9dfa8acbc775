/-! the least find at which two laws part -/
theorem ri_none {p : Int → Bool} : ∀ n : Nat, (∀ i : Int, 0 ≤ i → i < n → p i = false) → ri p n = -1
  | 0, _ => rfl
  | n + 1, h => by
    rw [show ((n + 1 : Nat) : Int) = (n : Int) + 1 by omega, ri_s (by omega), ri_none n (fun i a b => h i a (by omega)), if_pos rfl, h n (by omega) (by omega)]; simp
theorem ri_first {p : Int → Bool} {j n : Int} (h0 : 0 ≤ j) (h1 : j < n) (hp : p j = true) (h : ∀ i, 0 ≤ i → i < j → p i = false) : ri p n = j := by
  have e1 := ri_none (p := p) j.toNat (fun i a b => h i a (by omega))
  rw [Int.toNat_of_nonneg h0] at e1
  have e2 : ri p (j + 1) = j := by rw [ri_s h0, e1, if_pos rfl, hp]; simp
  rw [ri_le (i := j + 1) (by omega) (by omega) (by omega), e2]
theorem ptB_cg {V : qV} {l m : Int} {nm nm' : Int → Int} (hl : lR V l) (hm : lR V m) (h : ∀ k, 0 ≤ k → k ≤ 9 → tb (zor (V (173 + 5 * l) 6) (V (173 + 5 * m) 6)) k = true → nm k = nm' k) : ptB nm V l m = ptB nm' V l m := by
  have t : ∀ k, tb (zor (V (173 + 5 * l) 6) (V (173 + 5 * m) 6)) k = (tb (V (173 + 5 * l) 6) k || tb (V (173 + 5 * m) 6) k) := fun k => tb_or hl.2.2.1.1 (by have := hl.2.2.1.2; omega) hm.2.2.1.1 (by have := hm.2.2.1.2; omega) k
  have e1 : ∀ v, whV V l nm v = whV V l nm' v := fun v => whF_cg hl (fun k a b c => h k a b (by rw [t, c]; simp)) (fun _ _ => rfl) _
  have e2 : ∀ v, whV V m nm v = whV V m nm' v := fun v => whF_cg hm (fun k a b c => h k a b (by rw [t, c]; simp)) (fun _ _ => rfl) _
  unfold ptB
  simp only [e1, e2]
def nL (w : Int → Int) (way place worth : Int) : Int → Int := nmG w way place worth 0 0 0 0
def pj (V : qV) (l m : Int) (way place worth : Int) : Bool := ptB (nL (V 603) way place worth) V l m
def pq (V : qV) (l m j : Int) : Bool := pj V l m (j / 4 % 6) (j % 4) (1 + j / 24)
def lsF (c j : Int) : Int := if j = -1 then -1 else if c = 0 then 1 + j / 24 else if c = 1 then j / 4 % 6 else j % 4
theorem us_z {u m k : Int} (h0 : 0 ≤ u) (h1 : u < 2147483648) (m0 : 0 ≤ m) (m1 : m < 2147483648) (h : zand u m = 0) (hk : tb m k = true) : tb u k = false := by
  have := tb_and h0 h1 m0 m1 k
  rw [h, tb_0, hk, Bool.and_true] at this
  exact this.symm
theorem pj_w {V : qV} {l m : Int} (hl : lR V l) (hm : lR V m) (hu : zand (zor (V (173 + 5 * l) 6) (V (173 + 5 * m) 6)) 4 = 0) (y p w w' : Int) : pj V l m y p w = pj V l m y p w' := by
  have hb := zor_rn (n := 10) (by decide) hl.2.2.1.1 hl.2.2.1.2 hm.2.2.1.1 hm.2.2.1.2
  refine ptB_cg hl hm (fun k a b c => ?_)
  have h2 := us_z (k := 2) hb.1 (by have := hb.2; omega) (by decide) (by decide) hu (by decide)
  have : k ≠ 2 := fun x => by rw [x, h2] at c; exact absurd c (by decide)
  unfold nL nmG
  simp only [if_neg this]
theorem pj_y {V : qV} {l m : Int} (hl : lR V l) (hm : lR V m) (hu : zand (zor (V (173 + 5 * l) 6) (V (173 + 5 * m) 6)) 1 = 0) (y y' p w : Int) : pj V l m y p w = pj V l m y' p w := by
  have hb := zor_rn (n := 10) (by decide) hl.2.2.1.1 hl.2.2.1.2 hm.2.2.1.1 hm.2.2.1.2
  refine ptB_cg hl hm (fun k a b c => ?_)
  have h2 := us_z (k := 0) hb.1 (by have := hb.2; omega) (by decide) (by decide) hu (by decide)
  have : k ≠ 0 := fun x => by rw [x, h2] at c; exact absurd c (by decide)
  unfold nL nmG
  simp only [if_neg this]
theorem pj_p {V : qV} {l m : Int} (hl : lR V l) (hm : lR V m) (hu : zand (zor (V (173 + 5 * l) 6) (V (173 + 5 * m) 6)) 74 = 0) (y p p' w : Int) : pj V l m y p w = pj V l m y p' w := by
  have hb := zor_rn (n := 10) (by decide) hl.2.2.1.1 hl.2.2.1.2 hm.2.2.1.1 hm.2.2.1.2
  refine ptB_cg hl hm (fun k a b c => ?_)
  have h1 := us_z (k := 1) hb.1 (by have := hb.2; omega) (by decide) (by decide) hu (by decide)
  have h3 := us_z (k := 3) hb.1 (by have := hb.2; omega) (by decide) (by decide) hu (by decide)
  have h6 := us_z (k := 6) hb.1 (by have := hb.2; omega) (by decide) (by decide) hu (by decide)
  have n1 : k ≠ 1 := fun x => by rw [x, h1] at c; exact absurd c (by decide)
  have n3 : k ≠ 3 := fun x => by rw [x, h3] at c; exact absurd c (by decide)
  have n6 : k ≠ 6 := fun x => by rw [x, h6] at c; exact absurd c (by decide)
  unfold nL nmG
  simp only [if_neg n1, if_neg n3, if_neg n6]
theorem pq_ix {V : qV} {l m w y p : Int} (hw : 1 ≤ w) (hy : 0 ≤ y ∧ y ≤ 5) (hp : 0 ≤ p ∧ p ≤ 3) : pq V l m (24 * (w - 1) + 4 * y + p) = pj V l m y p w := by
  unfold pq
  rw [show (24 * (w - 1) + 4 * y + p) / 4 % 6 = y by omega, show (24 * (w - 1) + 4 * y + p) % 4 = p by omega, show 1 + (24 * (w - 1) + 4 * y + p) / 24 = w by omega]
theorem s_least {n a b c lw ly lp : Int} {V : qV} {J J3 : qJ} {Q : Int → qV → qJ → Prop} (h : Rel n V J) (hp : pI V J V J3) (ha3 : 0 ≤ a ∧ a < 3) (hb3 : 0 ≤ b ∧ b < 3) (har : lR V a) (hbr : lR V b) (hc : 0 ≤ c ∧ c ≤ 2)
    (hw : lw = 60 ∨ (lw = 1 ∧ zand (zor (V (173 + 5 * a) 6) (V (173 + 5 * b) 6)) 4 = 0)) (hy : ly = 5 ∨ (ly = 0 ∧ zand (zor (V (173 + 5 * a) 6) (V (173 + 5 * b) 6)) 1 = 0)) (hpl : lp = 3 ∨ (lp = 0 ∧ zand (zor (V (173 + 5 * a) 6) (V (173 + 5 * b) 6)) 74 = 0))
    (k : ∀ V1 J1, pI V J V1 J1 → Q (lsF c (ri (pq V a b) 1440)) V1 J1) : lp_X10_least_84 c (173 + 5 * a) (173 + 5 * b) lw ly lp (fun l10x12 V12 J12 => Q (-1) V12 J12) Q 100000 1 V J3 := by
  have hU := h.2.2.2.1.1
  have hC := h.2.2.2.1.2.2.2.2.1
  have cl : clF (V 603) (-1) = 0 := by
    unfold clF
    rw [cntB_z]
    intro k p q
    rw [decide_eq_false_iff_not]
    have := (hC.2 k p (by omega)).1
    omega
  have L3 : ∀ (w y : Int) (K : Int → qV → qJ → Prop), 1 ≤ w → w ≤ lw → 0 ≤ y → y ≤ ly → (∀ q V1 J1, pI V J V1 J1 → (∀ j, 0 ≤ j → j < 24 * (w - 1) + 4 * (y + 1) → pq V a b j = false) → K q V1 J1) → ∀ (g : Nat) (p : Int) (V1 : qV) (J1 : qJ), 0 ≤ p → p ≤ lp + 1 → lp + 1 < p + g → pI V J V1 J1 → (∀ j, 0 ≤ j → j < 24 * (w - 1) + 4 * y + p → pq V a b j = false) → lp_X10_least_104 c (173 + 5 * a) (173 + 5 * b) lw ly lp w y K Q g p V1 J1 := by
    intro w y K w1 w2 y1 y2 hK g
    induction g with
    | zero => intro p V1 J1 a1 a2 a3; omega
    | succ g ih =>
      intro p V1 J1 a1 a2 a3 hp1 hf
      rw [lp_X10_least_104]
      refine br_c (fun z => hK p V1 J1 hp1 (fun j x1 x2 => ?_)) (fun z => ?_)
      · rcases hpl with e | ⟨e, eu⟩
        · exact hf j x1 (by omega)
        · by_cases x3 : j < 24 * (w - 1) + 4 * y
          · exact hf j x1 (by omega)
          · have x4 := hf (24 * (w - 1) + 4 * y + 0) (by omega) (by omega)
            rw [pq_ix w1 (by omega) (by omega)] at x4
            rw [show j = 24 * (w - 1) + 4 * y + (j - (24 * (w - 1) + 4 * y)) by omega, pq_ix w1 (by omega) (by omega), pj_p har hbr eu _ _ 0]
            exact x4
      · unfold W_X1_begin
        obtain ⟨p1, p2, p3, p4⟩ := hp1
        have hp5 : pI V J (qu (qu (qu (qu (qu (qu (qu (qu (qu (qu V1 169 0 y) 169 1 p) 169 2 w) 169 5 (V1 12 4)) 169 3 0) 169 4 0) 169 6 0) 169 7 (-1)) 169 8 (-1)) 169 9 0) J1 := by
          refine ⟨fun q j a b c d e f => ?_, p2, ⟨by simp (disch := omega) only [qu_e]; exact p3.1, fun q v x1 x2 => ?_⟩, p4⟩
          · simp (disch := omega) only [qu_e]
            exact p1 q j a b c d e f
          · simp (disch := omega) only [qu_e] at q
            exact p3.2 q v x1 x2
        have h20 : V1 12 4 = V 603 20 := by rw [p1 _ _ (by decide) (by decide) (by decide) (by decide) (by decide) (by decide)]; exact hU.1.1
        have h20' := hU.1.2
        refine s_partAt h hp5 (by decide) ?_ ?_ ?_ ha3 hb3 har hbr ?_
        · simp (disch := omega) only [qu_e, qu_s]; omega
        · simp (disch := omega) only [qu_e, qu_s]; omega
        · simp (disch := omega) only [qu_e, qu_s]; omega
        · simp (disch := omega) only [qu_e, qu_s]
          intro V6 J6 hp6
          have e : ptB (nmG (V 603) y p w 0 (V 603 20 - V1 12 4) 0 (clF (V 603) (-1))) V a b = pq V a b (24 * (w - 1) + 4 * y + p) := by
            rw [pq_ix w1 (by omega) (by omega), h20, cl, show V 603 20 - V 603 20 = 0 by omega]; rfl
          rw [e]
          cases hz : pq V a b (24 * (w - 1) + 4 * y + p) with
          | false =>
            refine br_t rfl ⟨zr_i (by omega) (by omega), ih _ _ _ (by omega) (by omega) (by omega) hp6 (fun j x1 x2 => ?_)⟩
            by_cases x3 : j = 24 * (w - 1) + 4 * y + p
            · rw [x3]; exact hz
            · exact hf j x1 (by omega)
          | true =>
            have kk := k V6 J6 hp6
            rw [ri_first (j := 24 * (w - 1) + 4 * y + p) (by omega) (by omega) hz hf] at kk
            unfold lsF at kk
            rw [if_neg (by omega), show (24 * (w - 1) + 4 * y + p) / 4 % 6 = y by omega, show (24 * (w - 1) + 4 * y + p) % 4 = p by omega, show 1 + (24 * (w - 1) + 4 * y + p) / 24 = w by omega] at kk
            refine br_f (by decide) (br_c (fun x => ?_) (fun x => br_c (fun x2 => ?_) (fun x2 => ?_)))
            · rw [if_pos x] at kk; exact kk
            · rw [if_neg x, if_pos x2] at kk; exact kk
            · rw [if_neg x, if_neg x2] at kk; exact kk
  have L2 : ∀ (w : Int) (K : Int → qV → qJ → Prop), 1 ≤ w → w ≤ lw → (∀ q V1 J1, pI V J V1 J1 → (∀ j, 0 ≤ j → j < 24 * w → pq V a b j = false) → K q V1 J1) → ∀ (g : Nat) (y : Int) (V1 : qV) (J1 : qJ), 0 ≤ y → y ≤ ly + 1 → ly + 1 < y + g → pI V J V1 J1 → (∀ j, 0 ≤ j → j < 24 * (w - 1) + 4 * y → pq V a b j = false) → lp_X10_least_94 c (173 + 5 * a) (173 + 5 * b) lw ly lp w K Q g y V1 J1 := by
    intro w K w1 w2 hK g
    induction g with
    | zero => intro p V1 J1 a1 a2 a3; omega
    | succ g ih =>
      intro y V1 J1 a1 a2 a3 hp1 hf
      rw [lp_X10_least_94]
      refine br_c (fun z => hK y V1 J1 hp1 (fun j x1 x2 => ?_)) (fun z => ?_)
      · rcases hy with e | ⟨e, eu⟩
        · exact hf j x1 (by omega)
        · by_cases x3 : j < 24 * (w - 1) + 4
          · exact hf j x1 (by omega)
          · have x4 := hf (24 * (w - 1) + 4 * 0 + j % 4) (by omega) (by omega)
            rw [pq_ix w1 (by omega) (by omega)] at x4
            rw [show j = 24 * (w - 1) + 4 * ((j - 24 * (w - 1)) / 4) + j % 4 by omega, pq_ix w1 (by omega) (by omega), pj_y har hbr eu _ 0]
            exact x4
      · refine L3 w y _ w1 w2 a1 (by omega) (fun q V2 J2 x1 x2 => ⟨zr_i (by omega) (by omega), ih _ _ _ (by omega) (by omega) (by omega) x1 x2⟩) 100000 0 V1 J1 (by decide) (by omega) (by omega) hp1 (fun j x1 x2 => hf j x1 (by omega))
  have L1 : ∀ (g : Nat) (w : Int) (V1 : qV) (J1 : qJ), 1 ≤ w → w ≤ lw + 1 → lw + 1 < w + g → pI V J V1 J1 → (∀ j, 0 ≤ j → j < 24 * (w - 1) → pq V a b j = false) → lp_X10_least_84 c (173 + 5 * a) (173 + 5 * b) lw ly lp (fun l10x12 V12 J12 => Q (-1) V12 J12) Q g w V1 J1 := by
    intro g
    induction g with
    | zero => intro p V1 J1 a1 a2 a3; omega
    | succ g ih =>
      intro w V1 J1 a1 a2 a3 hp1 hf
      rw [lp_X10_least_84]
      refine br_c (fun z => ?_) (fun z => ?_)
      · have hn : ri (pq V a b) 1440 = -1 := ri_none 1440 (fun j x1 x2 => by
          rcases hw with e | ⟨e, eu⟩
          · exact hf j x1 (by omega)
          · have x4 := hf (24 * (1 - 1) + 4 * (j / 4 % 6) + j % 4) (by omega) (by omega)
            rw [pq_ix (by decide) (by omega) (by omega)] at x4
            unfold pq
            rw [pj_w har hbr eu _ _ _ 1]
            exact x4)
        have kk := k V1 J1 hp1
        rw [hn] at kk; exact kk
      · refine L2 w _ a1 (by omega) (fun q V2 J2 x1 x2 => ⟨zr_i (by omega) (by omega), ih _ _ _ (by omega) (by omega) (by omega) x1 (fun j y1 y2 => x2 j y1 (by omega))⟩) 100000 0 V1 J1 (by decide) (by omega) (by omega) hp1 (fun j x1 x2 => hf j x1 (by omega))
  exact L1 100000 1 V J3 (by decide) (by omega) (by omega) hp (fun j x1 x2 => by omega)
theorem t_least {n : Int} {a b c : Int} {V : qV} {J : qJ} {P : qV → qJ → Prop} (h : Rel n V J) (hP0 : ∀ V2 J2, Rel (n + 1) V2 J2 → P V2 J2) : W_X10_least a b c V J (fun r V1 J1 => W_X11_least a b c V1 (fun s V2 => V2 602 0 = 0 ∧ r = s ∧ P V2 J1)) (fun E V1 J1 => E = "java/lang/IllegalArgumentException" ∧ W_X11_least a b c V1 (fun s V2 => V2 602 0 = 1 ∧ P V2 J1)) := by
  obtain ⟨hU, hP, hG, hF, hC, hS, hA⟩ := h.2.2.2.1
  have hlw := h.2.2.1
  have iL : ∀ (l : Int) (V1 : qV) (Q : Int → qV → Prop), (0 ≤ l ∧ l < V 0 2) → V1 602 11 = V 602 11 → Q 1 (qu V1 602 0 0) → W_X11_isLaw l 1 (qu V1 602 0 0) Q := fun l V1 Q hl e k => m_il1 (qs0 _) (by rw [q602' _ _ _ (by decide), e]; exact hlw.1.2) (by rw [q602' _ _ _ (by decide), e]; have := hlw.1; omega) k
  have nL' : ∀ (l : Int) (Q : Int → qV → Prop), ¬ (0 ≤ l ∧ l < V 0 2) → Q 0 (qu (qu V 602 0 0) 602 0 1) → W_X11_isLaw l 1 (qu V 602 0 0) Q := fun l Q hl k => m_il0 (qs0 _) (by rw [q602' _ _ _ (by decide)]; exact hlw.1.2) (by decide) (by rw [q602' _ _ _ (by decide), ← hlw.1.1]; exact hl) k
  refine if ha : 0 ≤ a ∧ a < V 0 2 then ?_ else s_lO0 ha ⟨rfl, nL' a _ ha (br_t rfl ⟨qu_s _ _ _ _, hP0 _ _ h.th⟩)⟩
  refine s_lO1 ha (by have := hlw.1; omega) ?_
  refine if hb' : 0 ≤ b ∧ b < V 0 2 then ?_ else s_lO0 hb' ⟨rfl, iL a V _ ha rfl (br_f (by decide) (nL' b _ hb' (br_t rfl ⟨qu_s _ _ _ _, hP0 _ _ h.th⟩)))⟩
  refine s_lO1 hb' (by have := hlw.1; omega) ?_
  refine if hc : 0 ≤ c ∧ c ≤ 2 then ?_ else s_tR0 hc ⟨rfl, iL a V _ ha rfl (br_f (by decide) (iL b V _ hb' rfl (br_f (by decide) (m_in0 hc (m_may0 (qs0 _) (by decide) (br_t rfl ⟨qu_s _ _ _ _, hP0 _ _ h.th⟩))))))⟩
  refine s_tR1 hc ?_
  have ha3 : 0 ≤ a ∧ a < 3 := by have := hlw.1; omega
  have hb3 : 0 ≤ b ∧ b < 3 := by have := hlw.1; omega
  have har := hlw.2 a ha.1 (by have := hlw.1; omega)
  have hbr := hlw.2 b hb'.1 (by have := hlw.1; omega)
  refine pI_0 h (fun J3 hp => ?_)
  have fin : ∀ V1 J1, pI V J V1 J1 → W_X11_least a b c V1 (fun s V2 => V2 602 0 = 0 ∧ lsF c (ri (pq V a b) 1440) = s ∧ P V2 J1) := fun V1 J1 hp1 => by
    have g1 := hp1.1
    have g2 : ∀ o j, 602 ≤ o → V1 o j = V o j := fun o j x => g1 o j (by omega) (by omega) (by omega) (by omega) (by omega) (by omega)
    refine iL a V1 _ ha (g2 _ _ (by decide)) (br_f (by decide) (iL b V1 _ hb' (g2 _ _ (by decide)) (br_f (by decide) (m_in1 hc (m_may1 (qs0 _) (br_f (by decide) ?_))))))
    refine m_findViews h (fun o j x y => by rw [qu_e (by omega), g2 o j (by omega)]) ha3 hb3 har hbr (fun V4 w1 w2 => ?_)
    have e4 : ∀ o j, 603 ≤ o → o ≤ 613 → V4 o j = V o j := fun o j x y => by rw [w1 o j (by omega) (by omega) (by omega) (by omega) (by omega), qu_e (by omega), g2 o j (by omega)]
    have L1 : ∀ (g : Nat) (i : Int) (V2 : qV) (K : Int → qV → Prop), 0 ≤ i → i ≤ 10 → 10 < i + g → K 10 (fl V2 614 i 10 (fun _ => 0)) → lp_X11_least_48 a b c K g i V2 := by
      intro g
      induction g with
      | zero => intro i V2 K p q r; omega
      | succ g ih =>
        intro i V2 K p q r kk
        rw [lp_X11_least_48]
        refine br_c (fun c => ?_) (fun c => ⟨by omega, zr_i (by omega) (by omega), ih _ _ _ (by omega) (by omega) (by omega) ?_⟩)
        · have : i = 10 := by omega
          subst this
          rw [fl_e (by omega)] at kk; exact kk
        · rw [fl_s' (x := 0) (c := fun _ => 0) (by omega) rfl]; exact kk
    refine L1 100000 0 V4 _ (by decide) (by decide) (by decide) ?_
    have f1 : ∀ o j, o ≠ 614 → (fl V4 614 0 10 (fun _ => (0 : Int))) o j = V4 o j := fun o j x => fl_o x _
    have f2 : ∀ u, 0 ≤ u → u < 10 → (fl V4 614 0 10 (fun _ => (0 : Int))) 614 u = 0 := fun u a b => fl_in a b
    generalize (fl V4 614 0 10 (fun _ => (0 : Int))) = V5 at f1 f2 ⊢
    have done : ∀ (V6 : qV), (∀ o j, o ≠ 614 → o ≠ 615 → V6 o j = V5 o j) → V6 602 0 = 0 ∧ Rel (n + 1) V6 J1 := fun V6 x => by
      refine ⟨?_, hp1.rel h (fun o j x1 x2 x3 x4 x5 => ?_)⟩
      · rw [x _ _ (by decide) (by decide), f1 _ _ (by decide), w1 _ _ (by decide) (by decide) (by decide) (by decide) (by omega)]; exact qs0 _
      · rw [x o j x2 x3, f1 o j x2, w1 o j x2 x3 x4 x5 (by omega), qu_e (by omega)]
    have main : ∀ (g : Nat) (i : Int) (V6 : qV), 0 ≤ i → i ≤ 1440 → 1440 < i + g → (∀ o j, o ≠ 614 → o ≠ 615 → V6 o j = V5 o j) → (∀ k, k = 4 ∨ k = 5 ∨ k = 7 ∨ k = 8 ∨ k = 9 → V6 614 k = 0) → (∀ j, 0 ≤ j → j < i → pq V a b j = false) → lp_X11_least_72 a b c (fun l4x22 V22 => V22 602 0 = 0 ∧ lsF c (ri (pq V a b) 1440) = (-1) ∧ P V22 J1) (fun s V2 => V2 602 0 = 0 ∧ lsF c (ri (pq V a b) 1440) = s ∧ P V2 J1) g i V6 := by
      intro g
      induction g with
      | zero => intro i V6 p q r; omega
      | succ g ih =>
        intro i V6 p q r e6 z6 hf
        have e63 : ∀ j, V6 603 j = V 603 j := fun j => by rw [e6 _ _ (by decide) (by decide), f1 _ _ (by decide), e4 _ _ (by decide) (by decide)]
        rw [lp_X11_least_72, Int.tdiv_eq_ediv_of_nonneg p, Int.tdiv_eq_ediv_of_nonneg p, Int.tmod_eq_emod_of_nonneg p, Int.tmod_eq_emod_of_nonneg (by omega)]
        refine br_c (fun z => ?_) (fun z => ⟨zr_i (by omega) (by omega), zr_i (by omega) (by omega), by omega, ?_⟩)
        · have hn : ri (pq V a b) 1440 = -1 := ri_none 1440 (fun j x1 x2 => hf j x1 (by omega))
          have := done V6 e6
          exact ⟨this.1, by rw [hn]; rfl, hP0 _ _ this.2⟩
        · have q7 : ∀ j, (qu (qu (qu V6 614 2 (1 + i / 24)) 614 0 (i / 4 % 6)) 614 1 (i % 4)) 603 j = V 603 j := fun j => by simp (disch := omega) only [qu_e]; exact e63 j
          rw [q7]
          have q8 : (qu (qu (qu (qu V6 614 2 (1 + i / 24)) 614 0 (i / 4 % 6)) 614 1 (i % 4)) 614 3 (V 603 (134 + i % 4))) 603 = V 603 := by funext j; rw [qu_e (by omega)]; exact q7 j
          refine m_ownOf (by rw [q8]; exact hP.m) (by omega) ?_
          rw [q8]
          have x1 : ∀ o j, o ≠ 614 → (qu (qu (qu (qu (qu V6 614 2 (1 + i / 24)) 614 0 (i / 4 % 6)) 614 1 (i % 4)) 614 3 (V 603 (134 + i % 4))) 614 6 (ohF (V 603) (i % 4))) o j = V6 o j := fun o j x => by simp (disch := omega) only [qu_e]
          have y0 : (qu (qu (qu (qu (qu V6 614 2 (1 + i / 24)) 614 0 (i / 4 % 6)) 614 1 (i % 4)) 614 3 (V 603 (134 + i % 4))) 614 6 (ohF (V 603) (i % 4))) 614 0 = i / 4 % 6 := by simp (disch := omega) only [qu_e, qu_s]
          have y1 : (qu (qu (qu (qu (qu V6 614 2 (1 + i / 24)) 614 0 (i / 4 % 6)) 614 1 (i % 4)) 614 3 (V 603 (134 + i % 4))) 614 6 (ohF (V 603) (i % 4))) 614 1 = i % 4 := by simp (disch := omega) only [qu_e, qu_s]
          have y2 : (qu (qu (qu (qu (qu V6 614 2 (1 + i / 24)) 614 0 (i / 4 % 6)) 614 1 (i % 4)) 614 3 (V 603 (134 + i % 4))) 614 6 (ohF (V 603) (i % 4))) 614 2 = 1 + i / 24 := by simp (disch := omega) only [qu_e, qu_s]
          have y3 : (qu (qu (qu (qu (qu V6 614 2 (1 + i / 24)) 614 0 (i / 4 % 6)) 614 1 (i % 4)) 614 3 (V 603 (134 + i % 4))) 614 6 (ohF (V 603) (i % 4))) 614 3 = V 603 (134 + i % 4) := by simp (disch := omega) only [qu_e, qu_s]
          have y6 : (qu (qu (qu (qu (qu V6 614 2 (1 + i / 24)) 614 0 (i / 4 % 6)) 614 1 (i % 4)) 614 3 (V 603 (134 + i % 4))) 614 6 (ohF (V 603) (i % 4))) 614 6 = ohF (V 603) (i % 4) := by simp (disch := omega) only [qu_s]
          have yz : ∀ k, k = 4 ∨ k = 5 ∨ k = 7 ∨ k = 8 ∨ k = 9 → (qu (qu (qu (qu (qu V6 614 2 (1 + i / 24)) 614 0 (i / 4 % 6)) 614 1 (i % 4)) 614 3 (V 603 (134 + i % 4))) 614 6 (ohF (V 603) (i % 4))) 614 k = 0 := fun k x => by simp (disch := omega) only [qu_e]; exact z6 k x
          generalize (qu (qu (qu (qu (qu V6 614 2 (1 + i / 24)) 614 0 (i / 4 % 6)) 614 1 (i % 4)) 614 3 (V 603 (134 + i % 4))) 614 6 (ohF (V 603) (i % 4))) = V7 at x1 y0 y1 y2 y3 y6 yz ⊢
          refine m_parts (nm := nL (V 603) (i / 4 % 6) (i % 4) (1 + i / 24)) (V0 := V) (fun o j x y => by rw [x1 o j (by omega), e6 o j (by omega) (by omega), f1 o j (by omega), e4 o j (by omega) (by omega)]) ha3 hb3 har hbr (fun k u1 u2 => ?_) (fun u x y => by rw [x1 _ _ (by decide), e6 _ _ (by decide) (by decide), f1 _ _ (by decide)]; exact w2 u x y) (fun V8 x3 => ?_)
          · have : k = 0 ∨ k = 1 ∨ k = 2 ∨ k = 3 ∨ k = 6 ∨ (k = 4 ∨ k = 5 ∨ k = 7 ∨ k = 8 ∨ k = 9) := by omega
            rcases this with e | e | e | e | e | e
            · subst e; rw [y0]; rfl
            · subst e; rw [y1]; rfl
            · subst e; rw [y2]; rfl
            · subst e; rw [y3]; rfl
            · subst e; rw [y6]; rfl
            · rw [yz k e]
              rcases e with e | e | e | e | e <;> subst e <;> rfl
          · have e8 : ∀ o j, o ≠ 614 → o ≠ 615 → V8 o j = V5 o j := fun o j x y => by rw [x3 o j y, x1 o j x, e6 o j x y]
            have dd := done V8 e8
            show ((bit01 (pq V a b i) = 0 → _) ∧ (¬ bit01 (pq V a b i) = 0 → _))
            cases hz : pq V a b i with
            | false =>
              refine br_t rfl ⟨zr_i (by omega) (by omega), ih _ _ (by omega) (by omega) (by omega) e8 (fun k x => by rw [x3 _ _ (by decide)]; exact yz k x) (fun j x1 x2 => ?_)⟩
              by_cases x4 : j = i
              · rw [x4]; exact hz
              · exact hf j x1 (by omega)
            | true =>
              have hr : ri (pq V a b) 1440 = i := ri_first p (by omega) hz hf
              rw [hr, x3 614 0 (by decide), x3 614 1 (by decide), x3 614 2 (by decide), y0, y1, y2]
              unfold lsF
              rw [if_neg (by omega)]
              refine br_f (by decide) (br_c (fun x => ⟨dd.1, by rw [if_pos x], hP0 _ _ dd.2⟩) (fun x => br_c (fun x2 => ⟨dd.1, by rw [if_neg x, if_pos x2], hP0 _ _ dd.2⟩) (fun x2 => ⟨dd.1, by rw [if_neg x, if_neg x2], hP0 _ _ dd.2⟩)))
    exact main 100000 0 V5 (by decide) (by decide) (by decide) (fun _ _ _ _ => rfl) (fun k x => f2 k (by omega) (by omega)) (fun j x1 x2 => by omega)
  refine br_c (fun z1 => br_c (fun z2 => br_c (fun z3 => ?_) (fun z3 => ?_)) (fun z2 => br_c (fun z3 => ?_) (fun z3 => ?_))) (fun z1 => br_c (fun z2 => br_c (fun z3 => ?_) (fun z3 => ?_)) (fun z2 => br_c (fun z3 => ?_) (fun z3 => ?_)))
  · exact s_least (Q := fun r V1 J1 => W_X11_least a b c V1 (fun s V2 => V2 602 0 = 0 ∧ r = s ∧ P V2 J1)) h hp ha3 hb3 har hbr hc (Or.inr ⟨rfl, z1⟩) (Or.inr ⟨rfl, z2⟩) (Or.inr ⟨rfl, z3⟩) fin
  · exact s_least (Q := fun r V1 J1 => W_X11_least a b c V1 (fun s V2 => V2 602 0 = 0 ∧ r = s ∧ P V2 J1)) h hp ha3 hb3 har hbr hc (Or.inr ⟨rfl, z1⟩) (Or.inr ⟨rfl, z2⟩) (Or.inl rfl) fin
  · exact s_least (Q := fun r V1 J1 => W_X11_least a b c V1 (fun s V2 => V2 602 0 = 0 ∧ r = s ∧ P V2 J1)) h hp ha3 hb3 har hbr hc (Or.inr ⟨rfl, z1⟩) (Or.inl rfl) (Or.inr ⟨rfl, z3⟩) fin
  · exact s_least (Q := fun r V1 J1 => W_X11_least a b c V1 (fun s V2 => V2 602 0 = 0 ∧ r = s ∧ P V2 J1)) h hp ha3 hb3 har hbr hc (Or.inr ⟨rfl, z1⟩) (Or.inl rfl) (Or.inl rfl) fin
  · exact s_least (Q := fun r V1 J1 => W_X11_least a b c V1 (fun s V2 => V2 602 0 = 0 ∧ r = s ∧ P V2 J1)) h hp ha3 hb3 har hbr hc (Or.inl rfl) (Or.inr ⟨rfl, z2⟩) (Or.inr ⟨rfl, z3⟩) fin
  · exact s_least (Q := fun r V1 J1 => W_X11_least a b c V1 (fun s V2 => V2 602 0 = 0 ∧ r = s ∧ P V2 J1)) h hp ha3 hb3 har hbr hc (Or.inl rfl) (Or.inr ⟨rfl, z2⟩) (Or.inl rfl) fin
  · exact s_least (Q := fun r V1 J1 => W_X11_least a b c V1 (fun s V2 => V2 602 0 = 0 ∧ r = s ∧ P V2 J1)) h hp ha3 hb3 har hbr hc (Or.inl rfl) (Or.inl rfl) (Or.inr ⟨rfl, z3⟩) fin
  · exact s_least (Q := fun r V1 J1 => W_X11_least a b c V1 (fun s V2 => V2 602 0 = 0 ∧ r = s ∧ P V2 J1)) h hp ha3 hb3 har hbr hc (Or.inl rfl) (Or.inl rfl) (Or.inl rfl) fin
