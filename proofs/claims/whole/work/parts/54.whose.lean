/-! one world by a law -/
theorem hb_shl0 : ∀ k : Nat, k < 64 → ∀ i : Nat, i < 64 → hb (1 <<< ((iI (k : Int)).toInt64 &&& 63)) (i : Int) = decide (i = k) := by decide +kernel
theorem hb_shl {k i : Int} (h0 : 0 ≤ k) (h1 : k < 64) (i0 : 0 ≤ i) (i1 : i < 64) : hb (1 <<< ((iI k).toInt64 &&& 63)) i = decide (i = k) := by
  have := hb_shl0 k.toNat (by omega) i.toNat (by omega)
  rw [Int.toNat_of_nonneg h0, Int.toNat_of_nonneg i0] at this
  rw [this, decide_eq_decide]; omega
theorem s_whoseL {w0 a4 r2 : Int} {V : qV} {K : Int → qJ → Prop} {J : qJ} (hw : 0 ≤ w0 ∧ w0 < 1024) (k : ∀ l J', (∀ o j, o ≠ 166 → J' o j = J o j) → (∀ v, 0 ≤ v → v < 1024 → s0 J' 166 v = decide (v = w0)) → K l J') : lp_X10_whose_39 w0 a4 r2 V K 100000 0 J := by
  have hd := fx_div64 hw.1 hw.2
  have main : ∀ (g : Nat) (i : Int) (J1 : qJ), 0 ≤ i → i ≤ 16 → 16 < i + g → (∀ o j, o ≠ 166 → J1 o j = J o j) → (∀ v, 0 ≤ v → v < 1024 → v / 64 < i → s0 J1 166 v = decide (v = w0)) → lp_X10_whose_39 w0 a4 r2 V K g i J1 := by
    intro g
    induction g with
    | zero => intro i J1 p q r; omega
    | succ g ih =>
      intro i J1 p q r e1 e2
      rw [lp_X10_whose_39, hd.1, hd.2]
      refine br_c (fun c => k i J1 e1 (fun v a b => e2 v a b (by omega))) (fun c => br_c (fun y => ⟨by omega, zr_i (by omega) (by omega), ih _ _ (by omega) (by omega) (by omega) (fun o j h => by rw [qu_o _ _ h]; exact e1 o j h) (fun v a b h => ?_)⟩) (fun y => ⟨by omega, zr_i (by omega) (by omega), ih _ _ (by omega) (by omega) (by omega) (fun o j h => by rw [qu_o _ _ h]; exact e1 o j h) (fun v a b h => ?_)⟩))
      · unfold s0
        by_cases hv : v / 64 = i
        · rw [hv, qu_s, hb_shl (by omega) (by omega) (by omega) (by omega), decide_eq_decide]; omega
        · rw [qu_e (by omega)]; exact e2 v a b (by omega)
      · unfold s0
        by_cases hv : v / 64 = i
        · rw [hv, qu_s, hb_0]
          symm; rw [decide_eq_false_iff_not]; omega
        · rw [qu_e (by omega)]; exact e2 v a b (by omega)
  exact main 100000 0 J (by decide) (by decide) (by decide) (fun _ _ _ => rfl) (fun v a b h => by omega)
theorem t_whose {n : Int} {a b c d : Int} {V : qV} {J : qJ} {P : qV → qJ → Prop} (h : Rel n V J) (hP0 : ∀ V2 J2, Rel (n + 1) V2 J2 → P V2 J2) : W_X10_whose a b c d V J (fun r V1 J1 => W_X11_whose a b c d V1 (fun s V2 => V2 602 0 = 0 ∧ r = s ∧ P V2 J1)) (fun E V1 J1 => (E = "java/lang/IndexOutOfBoundsException" ∧ W_X11_whose a b c d V1 (fun s V2 => V2 602 0 = 1 ∧ P V2 J1)) ∨ (E = "java/lang/IllegalArgumentException" ∧ W_X11_whose a b c d V1 (fun s V2 => V2 602 0 = 2 ∧ P V2 J1))) := by
  obtain ⟨hU, hP, hG, hF, hC, hS, hA⟩ := h.2.2.2.1
  have hlw := h.2.2.1
  have h142 := hF.1
  have q6 : (qu V 602 0 0) 603 = V 603 := q603 V
  have iF : (0 ≤ a ∧ a < V 12 10) → ∀ (V1 : qV) (Q : Int → qV → Prop), V1 603 142 = V 603 142 → Q 1 (qu V1 602 0 0) → W_X11_isFind a (qu V1 602 0 0) Q := fun ha V1 Q e k => m_if1 (qs0 _) (by rw [q603, e]; exact h142.2) (by rw [q603, e]; omega) k
  have iL : (0 ≤ b ∧ b < V 0 2) → ∀ (V1 : qV) (Q : Int → qV → Prop), V1 602 11 = V 602 11 → Q 1 (qu V1 602 0 0) → W_X11_isLaw b 2 (qu V1 602 0 0) Q := fun hl V1 Q e k => m_il1 (qs0 _) (by rw [q602' _ _ _ (by decide), e]; exact hlw.1.2) (by rw [q602' _ _ _ (by decide), e]; have := hlw.1; omega) k
  refine if ha : 0 ≤ a ∧ a < V 12 10 then ?_ else s_fO0 ha (Or.inl ⟨rfl, m_if0 (qs0 _) (by rw [q603]; exact h142.2) (by rw [q603, ← h142.1]; exact ha) (br_t rfl ⟨qu_s _ _ _ _, hP0 _ _ h.th⟩)⟩)
  refine s_fO1 ha (by omega) ?_
  refine if hl : 0 ≤ b ∧ b < V 0 2 then ?_ else s_lO0 hl (Or.inr ⟨rfl, iF ha V _ rfl (br_f (by decide) (m_il0 (qs0 _) (by rw [q602' _ _ _ (by decide)]; exact hlw.1.2) (by decide) (by rw [q602' _ _ _ (by decide), ← hlw.1.1]; exact hl) (br_t rfl ⟨qu_s _ _ _ _, hP0 _ _ h.th⟩)))⟩)
  refine s_lO1 hl (by have := hlw.1; omega) ?_
  refine if hc : 0 ≤ c ∧ c ≤ 1023 then ?_ else s_tR0 hc (Or.inr ⟨rfl, iF ha V _ rfl (br_f (by decide) (iL hl V _ rfl (br_f (by decide) (m_in0 hc (br_t rfl (m_may0 (qs0 _) (by decide) (br_t rfl ⟨qu_s _ _ _ _, hP0 _ _ h.th⟩)))))))⟩)
  refine s_tR1 hc ?_
  refine if hd : 0 ≤ d ∧ d ≤ 2 then ?_ else s_tR0 hd (Or.inr ⟨rfl, iF ha V _ rfl (br_f (by decide) (iL hl V _ rfl (br_f (by decide) (m_in1 hc (br_f (by decide) (m_in0 hd (br_t rfl (m_may0 (qs0 _) (by decide) (br_t rfl ⟨qu_s _ _ _ _, hP0 _ _ h.th⟩)))))))))⟩)
  refine s_tR1 hd ?_
  have hf1 : a < V 603 142 := by omega
  obtain ⟨hfr, hf8⟩ := hF.2 a ha.1 hf1
  rw [show (12 : Int) + 42 + 4 * a = 54 + 4 * a by omega] at hfr hf8
  have k1 := hfr.2.1
  have k3 := hfr.2.2.2.1
  have k5 := hfr.2.2.2.2.2.1
  have h20 := hU.1
  refine s_fillNames (by omega) hU hP hG hC (by omega) (by omega) (by omega) ?_
  rw [nmM_e hfr]
  have hl3 : 0 ≤ b ∧ b < 3 := by have := hlw.1; omega
  have hlr := hlw.2 b hl.1 (by have := hlw.1; omega)
  have e1 : ∀ q j, q ≠ 168 → (fl V 168 0 10 (nmM (V 603) a)) q j = V q j := fun q j x => fl_o x _
  have e2 : ∀ m, 0 ≤ m → m ≤ 9 → nmM (V 603) a m = (fl V 168 0 10 (nmM (V 603) a)) 168 m := fun m x y => by rw [fl_in (by omega) (by omega)]
  generalize (fl V 168 0 10 (nmM (V 603) a)) = V3 at e1 e2 ⊢
  refine s_whoseL (by omega) (fun l J4 j1 j2 => ?_)
  refine s_decide (by omega) (Or.inl rfl) (hlr.L.fr (fun q j x y => e1 q j (by omega))) e2 ?_ (fun V5 J5 dd => ?_)
  · have h8 := h.2.2.2.2.2.2.2.1
    refine ⟨by rw [e1 _ _ (by decide)]; exact h8.1, fun q v p r => ?_⟩
    rw [e1 _ _ (by decide)] at q
    have := h8.2 q v p r
    unfold s0 at this ⊢
    rw [j1 _ _ (by decide)]; exact this
  obtain ⟨d1, d2, d3, d4, d5, d6⟩ := dd
  have jc : s0 J4 166 c = true := by rw [j2 c hc.1 (by omega)]; simp
  have g1 : ∀ q j, q ≠ 151 → q ≠ 153 → q ≠ 155 → q ≠ 168 → V5 q j = V q j := fun q j p q' r s => by rw [d1 q j p q' r, e1 q j s]
  have g2 : V5 603 = V 603 := by funext j; exact g1 _ _ (by decide) (by decide) (by decide) (by decide)
  have r1 : V5 155 1 = ri (ap (nmM (V 603) a) (LiM V b) c) (V 610 b) := by
    have x1 := d5.2.1 c hc.1 (by omega) jc
    have x2 := ri_bd (p := ap (nmM (V 603) a) (LiM V b) c) (n := V 610 b) hlr.1.2.1
    rcases d5.2.2 with y | ⟨v, p, q, w, y⟩
    · omega
    · rw [j2 v p q, decide_eq_true_eq] at w
      subst w; exact y.symm
  have r2 : V5 155 2 = crF (nmM (V 603) a) (LiM V b) (fun i => V 607 (12 * b + i)) (V 610 b) c := by
    have x1 := d6.2.1 c hc.1 (by omega) jc
    have x2 : 0 ≤ crF (nmM (V 603) a) (LiM V b) (fun i => V 607 (12 * b + i)) (V 610 b) c := by
      unfold crF
      split
      · decide
      · rename_i y
        have := ri_bd (p := ap (nmM (V 603) a) (LiM V b) c) (n := V 610 b) hlr.1.2.1
        exact ((hlr.2.1 _ (by omega) this.2).2.1.2).1
    rcases d6.2.2 with y | ⟨v, p, q, w, y⟩
    · omega
    · rw [j2 v p q, decide_eq_true_eq] at w
      subst w; exact y.symm
  have rel : ∀ V2, (∀ o j, o ≠ 614 → o ≠ 615 → V2 o j = (qu V5 602 0 0) o j) → Rel (n + 1) V2 J5 := fun V2 w1 => by
    refine h.sc (by omega) (fun o j p q r s => ?_) (fun o j p => by rw [d2 o j (by omega) (by omega) (by omega), j1 o j (by omega)]) ?_ ?_
    · rw [w1 o j (by unfold scrC at p; omega) (by unfold scrC at p; omega), qu_e (by unfold scrC at p; omega), g1 o j (by omega) (by unfold scrC at p; omega) (by unfold scrC at p; omega) (by unfold scrC at p; omega)]
    · have h7 := h.2.2.2.2.2.2.1
      refine h7.fr (by omega) (fun o j p q => ?_) (fun j => ?_)
      · rw [w1 o j (by omega) (by omega), qu_e (by omega), g1 o j (by omega) (by omega) (by omega) (by omega)]
      · have h9 := h7.2.2.2.2.1.2
        rw [w1 _ j (by omega) (by omega), qu_e (by omega), g1 _ j (by omega) (by omega) (by omega) (by omega)]
    · refine ⟨by rw [w1 _ _ (by omega) (by omega), qu_e (by omega)]; exact d3.1, fun q => ?_⟩
      rw [w1 _ _ (by omega) (by omega), qu_e (by omega)] at q
      exact d3.2 q
  have mod : ∀ (x : Int) (Q : Int → qV → Prop), (∀ V2, (∀ o j, o ≠ 614 → o ≠ 615 → V2 o j = (qu V5 602 0 0) o j) → (∀ m, 0 ≤ m → m ≤ 9 → V2 614 m = nmM (V 603) a m) → ((d = 0 → Q (ri (ap (nmM (V 603) a) (LiM V b) c) (V 610 b)) V2) ∧ (¬ d = 0 → ((d = 1 → W_X11_whoIn b c V2 (fun r11 V11 => Q r11 V11)) ∧ (¬ d = 1 → Q (crF (nmM (V 603) a) (LiM V b) (fun i => V 607 (12 * b + i)) (V 610 b) c) V2))))) → W_X11_whose a b c d V5 Q := fun x Q k => by
    have eL : LiM (qu V5 602 0 0) b = LiM V b := LiM_fr (fun o j p q => by rw [qu_e (by omega), g1 _ _ (by omega) (by omega) (by omega) (by omega)]) b
    refine iF ha V5 _ (by rw [g2]) (br_f (by decide) (iL hl V5 _ (g1 _ _ (by decide) (by decide) (by decide) (by decide)) (br_f (by decide) (m_in1 hc (br_f (by decide) (m_in1 hd (br_f (by decide) (m_may1 (qs0 _) (br_f (by decide) ?_)))))))))
    refine m_nameFind (by rw [q603, g2]; exact hP.m) (by rw [q603, g2]; exact mF_of hU hF hC ha.1 hf1) (fun V6 w1 w2 => ?_)
    rw [q603, g2] at w2
    have e6 : ∀ o j, 604 ≤ o → o ≤ 612 → V6 o j = V o j := fun o j p q => by rw [w1 _ _ (by omega), qu_e (by omega), g1 _ _ (by omega) (by omega) (by omega) (by omega)]
    have hM : MV V6 b (V 610 b) := (hlr.M hl3).fr e6
    have eL6 : LiM V6 b = LiM V b := LiM_fr e6 b
    refine m_ruleOf (nm := nmM (V 603) a) (n := V 610 b) (by omega) hM (fun m p q => (w2 m p q).symm) (fun V7 x1 => ?_)
    rw [eL6]
    have kk := k V7 (fun o j p q => by rw [x1 o j q, w1 o j p]) (fun m p q => by rw [x1 _ _ (by decide)]; exact w2 m p q)
    refine ⟨kk.1, fun y => ⟨(kk.2 y).1, fun y2 => ?_⟩⟩
    have k2 := (kk.2 y).2 y2
    unfold crF at k2
    have x2 := ri_bd (p := ap (nmM (V 603) a) (LiM V b) c) (n := V 610 b) hlr.1.2.1
    refine br_c (fun z => ?_) (fun z => ⟨zr_i (by omega) (by omega), zr_i (by omega) (by omega), by have := hlr.1.2; omega, ?_⟩)
    · rw [if_pos z] at k2; exact k2
    · rw [if_neg z] at k2
      rw [x1 _ _ (by decide), e6 _ _ (by decide) (by decide)]; exact k2
  refine br_c (fun y => ?_) (fun y => br_c (fun y2 => ?_) (fun y2 => ?_))
  · exact mod 0 _ (fun V2 w1 w2 => br_t y ⟨by rw [w1 _ _ (by decide) (by decide)]; exact qs0 _, r1, hP0 _ _ (rel V2 w1)⟩)
  · refine s_whoIn (W := true) (x := whF (nmM (V 603) a) (LiM V b) (fun i => V 606 (12 * b + i)) (V 610 b) c) (Or.inl rfl) (by omega) (fun m p q => ?_) (whF_b hlr.1.2.1 (fun i p q => (hlr.2.1 i p q).1.2)) ?_
    · rw [d4 c hc.1 (by omega) m p q, jc]
    · refine mod 0 _ (fun V2 w1 w2 => br_f y (br_t y2 ?_))
      have e6 : ∀ o j, 604 ≤ o → o ≤ 612 → V2 o j = V o j := fun o j p q => by rw [w1 _ _ (by omega) (by omega), qu_e (by omega), g1 _ _ (by omega) (by omega) (by omega) (by omega)]
      refine m_whoIn (nm := nmM (V 603) a) (n := V 610 b) (by omega) ((hlr.M hl3).fr e6) (fun m p q => (w2 m p q).symm) (fun V8 x1 => ⟨?_, ?_, hP0 _ _ (rel V8 (fun o j p q => by rw [x1 o j q, w1 o j p q]))⟩)
      · rw [x1 _ _ (by decide), w1 _ _ (by decide) (by decide)]; exact qs0 _
      · rw [if_pos rfl, LiM_fr e6 b, show (fun i => V2 606 (12 * b + i)) = (fun i => V 606 (12 * b + i)) by funext i; exact e6 _ _ (by decide) (by decide)]
  · exact mod 0 _ (fun V2 w1 w2 => br_f y (br_f y2 ⟨by rw [w1 _ _ (by decide) (by decide)]; exact qs0 _, r2, hP0 _ _ (rel V2 w1)⟩))
