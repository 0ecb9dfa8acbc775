/-! more calls that look -/
def bsL (w : Int → Int) (f : Int) : Nat → Int
  | 0 => 99
  | n + 1 => if (decide (w (360 + 3 * n) = f) && fiF w n) = true then (if hvF w (w (360 + 3 * n + 2)) < bsL w f n then hvF w (w (360 + 3 * n + 2)) else bsL w f n) else bsL w f n
def bsP (w : Int → Int) (f : Int) : Nat → Int
  | 0 => -1
  | n + 1 => if (decide (w (360 + 3 * n) = f) && fiF w n) = true then (if hvF w (w (360 + 3 * n + 2)) < bsL w f n then w (360 + 3 * n + 1) else if hvF w (w (360 + 3 * n + 2)) = bsL w f n ∧ bsP w f n ≠ w (360 + 3 * n + 1) then -2 else bsP w f n) else bsP w f n
theorem bsL_s {w : Int → Int} {f i : Int} (h : 0 ≤ i) : bsL w f (i + 1).toNat = if (decide (w (360 + 3 * i) = f) && fiF w i) = true then (if hvF w (w (360 + 3 * i + 2)) < bsL w f i.toNat then hvF w (w (360 + 3 * i + 2)) else bsL w f i.toNat) else bsL w f i.toNat := by
  rw [show (i + 1).toNat = i.toNat + 1 by omega, bsL, Int.toNat_of_nonneg h]
theorem bsP_s {w : Int → Int} {f i : Int} (h : 0 ≤ i) : bsP w f (i + 1).toNat = if (decide (w (360 + 3 * i) = f) && fiF w i) = true then (if hvF w (w (360 + 3 * i + 2)) < bsL w f i.toNat then w (360 + 3 * i + 1) else if hvF w (w (360 + 3 * i + 2)) = bsL w f i.toNat ∧ bsP w f i.toNat ≠ w (360 + 3 * i + 1) then -2 else bsP w f i.toNat) else bsP w f i.toNat := by
  rw [show (i + 1).toNat = i.toNat + 1 by omega, bsP, Int.toNat_of_nonneg h]
theorem bsL_b {w : Int → Int} {f : Int} (hw : w 21 ≤ 16) : ∀ n : Nat, bsL w f n = 99 ∨ (0 ≤ bsL w f n ∧ bsL w f n ≤ 16)
  | 0 => Or.inl rfl
  | n + 1 => by
    have h1 := bsL_b (f := f) hw n
    have h2 := hvF_b w (w (360 + 3 * n + 2)) hw
    rw [bsL]
    split
    · split
      · right; exact h2
      · exact h1
    · exact h1
theorem t_best {n : Int} {a : Int} {V : qV} {J : qJ} {P : qV → Prop} (h : Rel n V J) (hP0 : ∀ V2, Rel (n + 1) V2 J → P V2) : W_X10_best a V (fun r => W_X11_best a V (fun s V2 => V2 602 0 = 0 ∧ r = s ∧ P V2)) (fun E => (E = "java/lang/IndexOutOfBoundsException" ∧ W_X11_best a V (fun s V2 => V2 602 0 = 1 ∧ P V2))) := by
  have ht := h.2.2.2.1
  obtain ⟨hU, hP, hG, hF, hC, hS, hA⟩ := ht
  have q6 : (qu V 602 0 0) 603 = V 603 := q603 V
  have h142 := hF.1
  have nF : ¬ (0 ≤ a ∧ a < V 12 10) → ∀ Q : Int → qV → Prop, Q 0 (qu (qu V 602 0 0) 602 0 1) → W_X11_isFind a (qu V 602 0 0) Q := fun ha Q k => m_if0 (qs0 _) (by rw [q6]; exact h142.2) (by rw [q6, ← h142.1]; exact ha) k
  have iF : (0 ≤ a ∧ a < V 12 10) → ∀ Q : Int → qV → Prop, Q 1 (qu V 602 0 0) → W_X11_isFind a (qu V 602 0 0) Q := fun ha Q k => m_if1 (qs0 _) (by rw [q6]; exact h142.2) (by rw [q6]; omega) k
  refine if ha : 0 ≤ a ∧ a < V 12 10 then ?_ else s_fO0 ha (⟨rfl, nF ha _ (br_t rfl ⟨qu_s _ _ _ _, hP0 _ h.th⟩)⟩)
  refine s_fO1 ha (by omega) ?_
  have hf1 : a < V 603 142 := by omega
  obtain ⟨hfr, hf8⟩ := hF.2 a ha.1 hf1
  rw [show (12 : Int) + 42 + 4 * a = 54 + 4 * a by omega] at hfr hf8
  have h359 := hC.1
  have h21 := hP.1
  have mod : W_X11_best a V (fun s V2 => V2 602 0 = 0 ∧ bsP (V 603) a (V 603 359).toNat = s ∧ P V2) := by
    refine iF ha _ (br_f (by decide) ?_)
    have main : ∀ (g : Nat) (i fo le : Int), 0 ≤ i → i ≤ V 603 359 → V 603 359 < i + g → le = bsL (V 603) a i.toNat → fo = bsP (V 603) a i.toNat → lp_X11_best_23 a (qu V 602 0 0) (fun l2x22 l3x22 l4x22 => (qu V 602 0 0) 602 0 = 0 ∧ bsP (V 603) a (V 603 359).toNat = l2x22 ∧ P (qu V 602 0 0)) g fo le i := by
      intro g
      induction g with
      | zero => intro i fo le p q s; omega
      | succ g ih =>
        intro i fo le h0 h1 hg hL hp
        rw [lp_X11_best_23, q6]
        refine br_c (fun c => ?_) (fun c => ?_)
        · have e : i = V 603 359 := by omega
          subst e
          exact ⟨qs0 _, hp.symm, hP0 _ h.th0⟩
        · obtain ⟨c0, c1, c2⟩ := hC.2 i h0 (by omega)
          have sL := bsL_s (w := V 603) (f := a) h0
          have sP := bsP_s (w := V 603) (f := a) h0
          have go : ∀ x y, x = bsP (V 603) a (i + 1).toNat → y = bsL (V 603) a (i + 1).toNat → (zr (i + 1) ∧ lp_X11_best_23 a (qu V 602 0 0) (fun l2x22 l3x22 l4x22 => (qu V 602 0 0) 602 0 = 0 ∧ bsP (V 603) a (V 603 359).toNat = l2x22 ∧ P (qu V 602 0 0)) g x y (i + 1)) := fun x y hx hy => ⟨zr_i (by omega) (by omega), ih (i + 1) x y (by omega) (by omega) (by omega) hy hx⟩
          refine ⟨zr_i (by omega) (by omega), zr_i (by omega) (by omega), by omega, br_c (fun d => m_fits (by omega) (by rw [q6]; omega) (by rw [q6]; omega) ?_) (fun d => go _ _ ?_ ?_)⟩
          · rw [q6]
            cases hz : fiF (V 603) i with
            | false =>
              rw [hz, Bool.and_false, if_neg (by decide)] at sL sP
              exact br_t rfl (go _ _ (by rw [sP, hp]) (by rw [sL, hL]))
            | true =>
              have hd : (decide (V 603 (360 + 3 * i) = a) && true) = true := by simp [d]
              rw [hz, if_pos hd] at sL sP
              refine br_f (by decide) ⟨zr_i (by omega) (by omega), zr_i (by omega) (by omega), zr_i (by omega) (by omega), by omega, zr_i (by omega) (by omega), zr_i (by omega) (by omega), zr_i (by omega) (by omega), by omega, m_have (by rw [q6]; exact h21.2) ?_⟩
              rw [q6]
              refine br_c (fun y => br_c (fun y2 => br_c (fun y3 => go _ _ ?_ ?_) (fun y3 => go _ _ ?_ ?_)) (fun y2 => go _ _ ?_ ?_)) (fun y => go _ _ ?_ ?_)
              · rw [sP, if_neg (by omega), if_neg (fun h => h.2 (by rw [← hp]; exact y3)), hp]
              · rw [sL, if_neg (by omega), hL]
              · rw [sP, if_neg (by omega), if_pos ⟨by omega, fun h => y3 (by rw [hp]; exact h)⟩]
              · rw [sL, if_neg (by omega), hL]
              · rw [sP, if_neg (by omega), if_neg (fun h => y2 (by omega)), hp]
              · rw [sL, if_neg (by omega), hL]
              · rw [sP, if_pos (by omega)]
              · rw [sL, if_pos (by omega)]
          · rw [sP]; simp [d, hp]
          · rw [sL]; simp [d, hL]
    exact main 100000 0 (-1) 99 (by decide) h359.2.1 (by omega) rfl rfl
  have main : ∀ (g : Nat) (i fw pe : Int), 0 ≤ i → i ≤ V 603 359 → V 603 359 < i + g → fw = (if bsL (V 603) a i.toNat = 99 then 17 else bsL (V 603) a i.toNat) → pe = bsP (V 603) a i.toNat → lp_X10_best_14 a V (fun l2x12 l3x12 l4x12 => W_X11_best a V (fun s V2 => V2 602 0 = 0 ∧ l3x12 = s ∧ P V2)) g fw pe i := by
    intro g
    induction g with
    | zero => intro i fw pe p q s; omega
    | succ g ih =>
      intro i fw pe h0 h1 hg hL hp
      rw [lp_X10_best_14, h359.1]
      refine br_c (fun c => ?_) (fun c => br_f (by omega) ⟨by omega, ?_⟩)
      · have e : i = V 603 359 := by omega
        subst e
        rw [hp]; exact mod
      · obtain ⟨c0, c1, c2⟩ := hC.2 i h0 (by omega)
        rw [show (12 : Int) + 74 + 1 * i = 86 + 1 * i by omega] at c0 c1 c2
        rw [c0.1, c1.1, c2.1]
        have sL := bsL_s (w := V 603) (f := a) h0
        have sP := bsP_s (w := V 603) (f := a) h0
        have bL := bsL_b (f := a) h21.2.2 i.toNat
        have hv := hvF_b (V 603) (V 603 (360 + 3 * i + 2)) h21.2.2
        have go : ∀ x y, x = bsP (V 603) a (i + 1).toNat → y = (if bsL (V 603) a (i + 1).toNat = 99 then 17 else bsL (V 603) a (i + 1).toNat) → (zr (i + 1) ∧ lp_X10_best_14 a V (fun l2x12 l3x12 l4x12 => W_X11_best a V (fun s V2 => V2 602 0 = 0 ∧ l3x12 = s ∧ P V2)) g y x (i + 1)) := fun x y hx hy => ⟨zr_i (by omega) (by omega), ih (i + 1) y x (by omega) (by omega) (by omega) hy hx⟩
        refine br_c (fun d => s_fits hP hF hC h0 (by omega) ?_) (fun d => go _ _ ?_ ?_)
        · cases hz : fiF (V 603) i with
          | false =>
            rw [hz, Bool.and_false, if_neg (by decide)] at sL sP
            exact br_t rfl (go _ _ (by rw [sP, hp]) (by rw [sL, hL]))
          | true =>
            have hd : (decide (V 603 (360 + 3 * i) = a) && true) = true := by simp [d]
            rw [hz, if_pos hd] at sL sP
            refine br_f (by decide) (s_havers hP ?_)
            have hcmp : fw ≤ hvF (V 603) (V 603 (360 + 3 * i + 2)) ↔ ¬ hvF (V 603) (V 603 (360 + 3 * i + 2)) < bsL (V 603) a i.toNat := by rw [hL]; split <;> omega
            have heq : hvF (V 603) (V 603 (360 + 3 * i + 2)) = fw ↔ hvF (V 603) (V 603 (360 + 3 * i + 2)) = bsL (V 603) a i.toNat := by rw [hL]; split <;> omega
            refine br_c (fun y => br_c (fun y2 => br_c (fun y3 => go _ _ ?_ ?_) (fun y3 => go _ _ ?_ ?_)) (fun y2 => go _ _ ?_ ?_)) (fun y => go _ _ ?_ ?_)
            · rw [sP, if_neg (hcmp.mp y), if_neg (fun h => h.2 (by rw [← hp]; exact y3)), hp]
            · rw [sL, if_neg (hcmp.mp y), hL]
            · rw [sP, if_neg (hcmp.mp y), if_pos ⟨heq.mp y2, fun h => y3 (by rw [hp]; exact h)⟩]
            · rw [sL, if_neg (hcmp.mp y), hL]
            · rw [sP, if_neg (hcmp.mp y), if_neg (fun h => y2 (heq.mpr h.1)), hp]
            · rw [sL, if_neg (hcmp.mp y), hL]
            · have y1 : hvF (V 603) (V 603 (360 + 3 * i + 2)) < bsL (V 603) a i.toNat := Decidable.byContradiction (fun h => y (hcmp.mpr h))
              rw [sP, if_pos y1]
            · have y1 : hvF (V 603) (V 603 (360 + 3 * i + 2)) < bsL (V 603) a i.toNat := Decidable.byContradiction (fun h => y (hcmp.mpr h))
              rw [sL, if_pos y1, if_neg (by omega)]
        · rw [sP]; simp [d, hp]
        · rw [sL]; simp [d, hL]
  exact main 100000 0 17 (-1) (by decide) h359.2.1 (by omega) rfl rfl
theorem andn {x m : Int} (hx : 0 ≤ x ∧ x ≤ 4095) (hm : 0 ≤ m ∧ m ≤ 4095) : (0 ≤ zand x (zxor m (-1)) ∧ zand x (zxor m (-1)) ≤ 4095) ∧ ∀ k, 0 ≤ k → k < 32 → tb (zand x (zxor m (-1))) k = (tb x k && !tb m k) := by
  have e0 : iI (zxor m (-1)) = iI m ^^^ iI (-1) := (iI_of _).symm
  have e1 : (iI x &&& (iI m ^^^ iI (-1))).toBitVec.toNat ≤ x.toNat := by
    rw [Int32.toBitVec_and, BitVec.toNat_and, fx_tn hx.1 (by omega)]
    exact Nat.and_le_left
  have e2 : zand x (zxor m (-1)) = ((iI x &&& (iI m ^^^ iI (-1))).toBitVec.toNat : Int) := by
    unfold zand
    rw [e0, fx_ti (by omega)]
  refine ⟨by rw [e2]; omega, fun k h0 h1 => ?_⟩
  have hn : (iI (-1)).toBitVec = BitVec.allOnes 32 := by decide
  unfold tb
  rw [e2, Int.toNat_natCast, BitVec.testBit_toNat, Int32.toBitVec_and, Int32.toBitVec_xor, BitVec.getLsbD_and, BitVec.getLsbD_xor, hn, BitVec.getLsbD_allOnes]
  have f1 : (iI x).toBitVec.getLsbD k.toNat = x.toNat.testBit k.toNat := by rw [← BitVec.testBit_toNat, fx_tn hx.1 (by omega)]
  have f2 : (iI m).toBitVec.getLsbD k.toNat = m.toNat.testBit k.toNat := by rw [← BitVec.testBit_toNat, fx_tn hm.1 (by omega)]
  rw [f1, f2]
  have : k.toNat < 32 := by omega
  simp [this]
theorem and_p {y k : Int} (h0 : 0 ≤ y) (h1 : y < 2147483648) (hk : 0 ≤ k ∧ k < 31) : zand y (zshl 1 k) = 0 ↔ tb y k = false := by
  have hp := zshl_rn (k := k) (n := 31) (by decide) hk.1 (by omega)
  have hr := zand_rn (a := y) (b := zshl 1 k) h0 h1 (by omega) (by omega)
  constructor
  · intro h
    have := congrArg (fun z => tb z k) h
    rw [tb_and h0 h1 (by omega) (by omega), tb_p hk.1 hk.2 hk.1, tb_0] at this
    simpa using this
  · intro h
    apply tb_ext hr.1 (by decide)
    intro j hj
    rw [tb_and h0 h1 (by omega) (by omega), tb_p hk.1 hk.2 hj, tb_0]
    by_cases hkj : k = j
    · subst hkj; rw [h]; rfl
    · simp [hkj]
/-- the mark that leaves the fewest: least one first; 17 before any -/
def adL (w : Int → Int) (its marks : Int) : Nat → Int
  | 0 => 17
  | n + 1 => if (tb its n && !tb marks n) = true ∧ hvF w (zor marks (zshl 1 n)) < adL w its marks n then hvF w (zor marks (zshl 1 n)) else adL w its marks n
def adB (w : Int → Int) (its marks : Int) : Nat → Int
  | 0 => -1
  | n + 1 => if (tb its n && !tb marks n) = true ∧ hvF w (zor marks (zshl 1 n)) < adL w its marks n then (n : Int) else adB w its marks n
theorem adL_s {w : Int → Int} {its marks i : Int} (h : 0 ≤ i) : adL w its marks (i + 1).toNat = if (tb its i && !tb marks i) = true ∧ hvF w (zor marks (zshl 1 i)) < adL w its marks i.toNat then hvF w (zor marks (zshl 1 i)) else adL w its marks i.toNat := by
  rw [show (i + 1).toNat = i.toNat + 1 by omega, adL, Int.toNat_of_nonneg h]
theorem adB_s {w : Int → Int} {its marks i : Int} (h : 0 ≤ i) : adB w its marks (i + 1).toNat = if (tb its i && !tb marks i) = true ∧ hvF w (zor marks (zshl 1 i)) < adL w its marks i.toNat then i else adB w its marks i.toNat := by
  rw [show (i + 1).toNat = i.toNat + 1 by omega, adB, Int.toNat_of_nonneg h]
theorem ad_b {w : Int → Int} {its marks : Int} (hw : w 21 ≤ 16) : ∀ n : Nat, (adL w its marks n = 17 ∧ adB w its marks n = -1) ∨ (adL w its marks n ≤ 16 ∧ 0 ≤ adB w its marks n)
  | 0 => Or.inl ⟨rfl, rfl⟩
  | n + 1 => by
    have h1 := ad_b (its := its) (marks := marks) hw n
    have h2 := hvF_b w (zor marks (zshl 1 n)) hw
    rw [adL, adB]
    by_cases c : (tb its n && !tb marks n) = true ∧ hvF w (zor marks (zshl 1 n)) < adL w its marks n
    · rw [if_pos c, if_pos c]; right; omega
    · rw [if_neg c, if_neg c]; exact h1
theorem t_added {n : Int} {a : Int} {b : Int} {V : qV} {J : qJ} {P : qV → Prop} (h : Rel n V J) (hP0 : ∀ V2, Rel (n + 1) V2 J → P V2) : W_X10_added a b V (fun r => W_X11_added a b V (fun s V2 => V2 602 0 = 0 ∧ r = s ∧ P V2)) (fun E => (E = "java/lang/IndexOutOfBoundsException" ∧ W_X11_added a b V (fun s V2 => V2 602 0 = 1 ∧ P V2)) ∨ (E = "java/lang/IllegalArgumentException" ∧ W_X11_added a b V (fun s V2 => V2 602 0 = 2 ∧ P V2))) := by
  have ht := h.2.2.2.1
  obtain ⟨hU, hP, hG, hF, hC, hS, hA⟩ := ht
  have q6 : (qu V 602 0 0) 603 = V 603 := q603 V
  have h142 := hF.1
  have nF : ¬ (0 ≤ a ∧ a < V 12 10) → ∀ Q : Int → qV → Prop, Q 0 (qu (qu V 602 0 0) 602 0 1) → W_X11_isFind a (qu V 602 0 0) Q := fun ha Q k => m_if0 (qs0 _) (by rw [q6]; exact h142.2) (by rw [q6, ← h142.1]; exact ha) k
  have iF : (0 ≤ a ∧ a < V 12 10) → ∀ Q : Int → qV → Prop, Q 1 (qu V 602 0 0) → W_X11_isFind a (qu V 602 0 0) Q := fun ha Q k => m_if1 (qs0 _) (by rw [q6]; exact h142.2) (by rw [q6]; omega) k
  refine if ha : 0 ≤ a ∧ a < V 12 10 then ?_ else s_fO0 ha (Or.inl ⟨rfl, nF ha _ (br_t rfl ⟨qu_s _ _ _ _, hP0 _ h.th⟩)⟩)
  refine s_fO1 ha (by omega) ?_
  have hf1 : a < V 603 142 := by omega
  obtain ⟨hfr, hf8⟩ := hF.2 a ha.1 hf1
  rw [show (12 : Int) + 42 + 4 * a = 54 + 4 * a by omega] at hfr hf8
  have h21 := hP.1
  have k3 := hfr.2.2.2.1
  refine if hb : 0 ≤ b ∧ b ≤ 4095 then ?_ else s_tR0 hb (Or.inr ⟨rfl, iF ha _ (br_f (by decide) (m_in0 (V := V) hb (m_may0 (qs0 _) (by decide) (br_t rfl ⟨qu_s _ _ _ _, hP0 _ h.th⟩))))⟩)
  refine s_tR1 hb ?_
  have mod : W_X11_added a b V (fun s V2 => V2 602 0 = 0 ∧ adB (V 603) (V 603 (143 + 27 * a + 3)) b 12 = s ∧ P V2) := by
    refine iF ha _ (br_f (by decide) (m_in1 (V := V) hb (m_may1 (qs0 _) (br_f (by decide) ?_))))
    have main : ∀ (g : Nat) (i be le : Int), 0 ≤ i → i ≤ 12 → 12 < i + g → be = adB (V 603) (V 603 (143 + 27 * a + 3)) b i.toNat → (be ≠ -1 → le = adL (V 603) (V 603 (143 + 27 * a + 3)) b i.toNat) → lp_X11_added_35 a b (qu V 602 0 0) (fun l3x14 l4x14 l5x14 => (qu V 602 0 0) 602 0 = 0 ∧ adB (V 603) (V 603 (143 + 27 * a + 3)) b 12 = l3x14 ∧ P (qu V 602 0 0)) g be le i := by
      intro g
      induction g with
      | zero => intro i be le p q s; omega
      | succ g ih =>
        intro i be le h0 h1 hg hB hL
        rw [lp_X11_added_35, q6]
        refine br_c (fun c => ?_) (fun c => ?_)
        · have e : i = 12 := by omega
          subst e
          exact ⟨qs0 _, hB.symm, hP0 _ h.th0⟩
        · have sL := adL_s (w := V 603) (its := V 603 (143 + 27 * a + 3)) (marks := b) h0
          have sB := adB_s (w := V 603) (its := V 603 (143 + 27 * a + 3)) (marks := b) h0
          have bd := ad_b (its := V 603 (143 + 27 * a + 3)) (marks := b) h21.2.2 i.toNat
          have hv := hvF_b (V 603) (zor b (zshl 1 i)) h21.2.2
          refine ⟨zr_i (by omega) (by omega), zr_i (by omega) (by omega), zr_i (by omega) (by omega), by omega, ?_⟩
          rw [tb_sh k3.2.1 (by omega) h0 (by omega), tb_sh hb.1 (by omega) h0 (by omega)]
          have skip : ¬ ((tb (V 603 (143 + 27 * a + 3)) i && !tb b i) = true ∧ hvF (V 603) (zor b (zshl 1 i)) < adL (V 603) (V 603 (143 + 27 * a + 3)) b i.toNat) → (zr (i + 1) ∧ lp_X11_added_35 a b (qu V 602 0 0) (fun l3x14 l4x14 l5x14 => (qu V 602 0 0) 602 0 = 0 ∧ adB (V 603) (V 603 (143 + 27 * a + 3)) b 12 = l3x14 ∧ P (qu V 602 0 0)) g be le (i + 1)) := fun hn => by
            rw [if_neg hn] at sL sB
            exact ⟨zr_i (by omega) (by omega), ih (i + 1) be le (by omega) (by omega) (by omega) (by rw [sB, hB]) (fun hne => by rw [sL]; exact hL hne)⟩
          cases t1 : tb (V 603 (143 + 27 * a + 3)) i with
          | false => exact br_t rfl (skip (by rw [t1]; simp))
          | true =>
            refine br_f (by decide) ?_
            cases t2 : tb b i with
            | true => exact br_t rfl (skip (by rw [t1, t2]; simp))
            | false =>
              refine br_f (by decide) (m_have (by rw [q6]; exact h21.2) ?_)
              rw [q6]
              have take : hvF (V 603) (zor b (zshl 1 i)) < adL (V 603) (V 603 (143 + 27 * a + 3)) b i.toNat → (zr (i + 1) ∧ lp_X11_added_35 a b (qu V 602 0 0) (fun l3x14 l4x14 l5x14 => (qu V 602 0 0) 602 0 = 0 ∧ adB (V 603) (V 603 (143 + 27 * a + 3)) b 12 = l3x14 ∧ P (qu V 602 0 0)) g i (hvF (V 603) (zor b (zshl 1 i))) (i + 1)) := fun hlt => by
                rw [if_pos ⟨by rw [t1, t2]; rfl, hlt⟩] at sL sB
                exact ⟨zr_i (by omega) (by omega), ih (i + 1) i _ (by omega) (by omega) (by omega) sB.symm (fun _ => sL.symm)⟩
              refine br_c (fun z => take ?_) (fun z => br_c (fun y => take ?_) (fun y => skip ?_))
              · rw [hB] at z; omega
              · have := hL z; omega
              · have := hL z
                exact fun h9 => y (by omega)
    exact main 100000 0 (-1) 0 (by decide) (by decide) (by decide) rfl (fun h => absurd rfl h)
  have main : ∀ (g : Nat) (i fw be : Int), 0 ≤ i → i ≤ 12 → 12 < i + g → fw = adL (V 603) (V 603 (143 + 27 * a + 3)) b i.toNat → be = adB (V 603) (V 603 (143 + 27 * a + 3)) b i.toNat → lp_X10_added_24 b (54 + 4 * a) V (fun l4x8 l5x8 l6x8 => W_X11_added a b V (fun s V2 => V2 602 0 = 0 ∧ l5x8 = s ∧ P V2)) g fw be i := by
    intro g
    induction g with
    | zero => intro i fw be p q s; omega
    | succ g ih =>
      intro i fw be h0 h1 hg hL hB
      rw [lp_X10_added_24, k3.1]
      have sL := adL_s (w := V 603) (its := V 603 (143 + 27 * a + 3)) (marks := b) h0
      have sB := adB_s (w := V 603) (its := V 603 (143 + 27 * a + 3)) (marks := b) h0
      have an := andn (x := V 603 (143 + 27 * a + 3)) (m := b) k3.2 hb
      have skip : ¬ ((tb (V 603 (143 + 27 * a + 3)) i && !tb b i) = true ∧ hvF (V 603) (zor b (zshl 1 i)) < adL (V 603) (V 603 (143 + 27 * a + 3)) b i.toNat) → ¬ 12 ≤ i → (zr (i + 1) ∧ lp_X10_added_24 b (54 + 4 * a) V (fun l4x8 l5x8 l6x8 => W_X11_added a b V (fun s V2 => V2 602 0 = 0 ∧ l5x8 = s ∧ P V2)) g fw be (i + 1)) := fun hn h12 => by
        rw [if_neg hn] at sL sB
        exact ⟨zr_i (by omega) (by omega), ih (i + 1) fw be (by omega) (by omega) (by omega) (by rw [sL, hL]) (by rw [sB, hB])⟩
      refine br_c (fun c => ?_) (fun c => br_c (fun d => skip ?_ c) (fun d => s_havers hP (br_c (fun y => skip ?_ c) (fun y => s_havers hP ?_))))
      · have e : i = 12 := by omega
        subst e
        rw [hB]; exact mod
      · rw [and_p an.1.1 (by omega) (by omega), an.2 i h0 (by omega)] at d
        rw [d]; simp
      · exact fun h9 => by omega
      · rw [and_p an.1.1 (by omega) (by omega), an.2 i h0 (by omega)] at d
        have d2 : (tb (V 603 (143 + 27 * a + 3)) i && !tb b i) = true := by
          cases hz : (tb (V 603 (143 + 27 * a + 3)) i && !tb b i) with
          | true => rfl
          | false => exact absurd hz d
        rw [if_pos ⟨d2, by omega⟩] at sL sB
        exact ⟨zr_i (by omega) (by omega), ih (i + 1) _ _ (by omega) (by omega) (by omega) sL.symm sB.symm⟩
  exact main 100000 0 17 (-1) (by decide) (by decide) (by decide) rfl rfl
theorem m_openBits {V : qV} {Q : Int → Prop} (k : ∀ b, 0 ≤ b → b < 1024 → (∀ x, 0 ≤ x → x < 10 → tb b x = decide (V 603 x = 2)) → Q b) : W_X11_openBits V Q := by
  have main : ∀ (g : Nat) (i b : Int), 0 ≤ i → i ≤ 10 → 10 < i + g → 0 ≤ b → b < 1024 → (∀ x, 0 ≤ x → x < 10 → tb b x = (decide (x < i) && decide (V 603 x = 2))) → lp_X11_openBits_4 V (fun l1x5 l2x5 => Q l1x5) g b i := by
    intro g
    induction g with
    | zero => intro i b p q s; omega
    | succ g ih =>
      intro i b h0 h1 hg b0 b1 hx
      rw [lp_X11_openBits_4]
      refine br_c (fun c => k b b0 b1 (fun x p q => ?_)) (fun c => ⟨zr_i (by omega) (by omega), by omega, ?_⟩)
      · rw [hx x p q, decide_eq_true (show x < i by omega), Bool.true_and]
      · rw [show 0 + i = i by omega]
        refine br_c (fun d => ⟨zr_i (by omega) (by omega), ?_⟩) (fun d => ⟨zr_i (by omega) (by omega), ?_⟩)
        · have hsh := zshl_rn (k := i) (n := 10) (by decide) h0 (by omega)
          have hor := zor_rn (a := b) (b := zshl 1 i) (n := 10) (by decide) b0 (by omega) (by omega) hsh.2
          refine ih (i + 1) _ (by omega) (by omega) (by omega) hor.1 (by omega) (fun x p q => ?_)
          rw [tb_or b0 (by omega) (by omega) (by omega), tb_p h0 (by omega) p, hx x p q]
          by_cases hxi : i = x
          · subst hxi; simp [d]; omega
          · have : (x < i + 1) ↔ x < i := by omega
            simp [hxi, this]
        · have e0 : zor b 0 = b := by rw [fx_or b0 (by omega) (by decide) (by decide)]; simp; omega
          rw [e0]
          refine ih (i + 1) b (by omega) (by omega) (by omega) b0 b1 (fun x p q => ?_)
          rw [hx x p q]
          by_cases hxi : x = i
          · subst hxi; simp [d]
          · have : (x < i + 1) ↔ x < i := by omega
            simp [this]
  exact main 100000 0 0 (by decide) (by decide) (by decide) (by decide) (by decide) (fun x p q => by rw [tb_0, decide_eq_false (show ¬ x < 0 by omega)]; rfl)
theorem cntB_e {p q : Int → Bool} : ∀ n : Nat, (∀ k : Int, 0 ≤ k → k < n → p k = q k) → cntB p n = cntB q n
  | 0, _ => rfl
  | n + 1, h => by rw [cntB, cntB, cntB_e n (fun k a b => h k a (by omega)), h n (by omega) (by omega)]
theorem s_openUnknowns {V : qV} {Q : Int → Prop} (k : Q (cntB (fun x => decide (V 14 x = 2)) 10)) : W_X8_openUnknowns V Q := by
  have main : ∀ (g : Nat) (i r : Int), 0 ≤ i → i ≤ 10 → 10 < i + g → r = cntB (fun x => decide (V 14 x = 2)) i.toNat → lp_X8_openUnknowns_4 V (fun l1x5 l2x5 => Q l1x5) g r i := by
    intro g
    induction g with
    | zero => intro i r p q s; omega
    | succ g ih =>
      intro i r h0 h1 hg hr
      have hb := cntB_b (p := fun x => decide (V 14 x = 2)) i.toNat
      rw [lp_X8_openUnknowns_4]
      refine br_c (fun c => ?_) (fun c => ⟨by omega, br_c (fun d => ⟨zr_i (by omega) (by omega), zr_i (by omega) (by omega), ih (i + 1) _ (by omega) (by omega) (by omega) ?_⟩) (fun d => ⟨zr_i (by omega) (by omega), ih (i + 1) _ (by omega) (by omega) (by omega) ?_⟩)⟩)
      · have e : i = 10 := by omega
        subst e
        rw [hr]; exact k
      · rw [cntB_s h0, hr]; simp [d, bit01]
      · rw [cntB_s h0, hr]; simp [d, bit01]
  exact main 100000 0 0 (by decide) (by decide) (by decide) rfl
theorem t_count {n : Int} {a : Int} {V : qV} {J : qJ} {P : qV → Prop} (h : Rel n V J) (hP0 : ∀ V2, Rel (n + 1) V2 J → P V2) : W_X10_count a V (fun r => W_X11_count a V (fun s V2 => r = s ∧ P V2)) := by
  have ht := h.2.2.2.1
  obtain ⟨hU, hP, hG, hF, hC, hS, hA⟩ := ht
  have q6 : (qu V 602 0 0) 603 = V 603 := q603 V
  have e2 : ∀ j, j ≠ 0 → (qu V 602 0 0) 602 j = V 602 j := fun j hj => qu_j _ _ hj
  unfold W_X10_count W_X11_count
  rw [q6, e2 11 (by decide), e2 33 (by decide), e2 12 (by decide)]
  have fin : ∀ r s : Int, r = s → r = s ∧ P (qu V 602 0 0) := fun r s e => ⟨e, hP0 _ h.th0⟩
  refine ⟨fun e => ⟨fun _ => fin _ _ h.2.2.1.1.1, fun h => absurd h (by omega), fun h => absurd h (by omega), fun h => absurd h (by omega), fun h => absurd h (by omega), fun h => absurd h (by omega), fun h => absurd h (by omega), fun h => absurd h (by omega), fun h => absurd h (by omega), fun h => absurd h (by omega), fun h => absurd h (by omega)⟩, fun e => ⟨fun h => absurd h (by omega), fun _ => fin _ _ hA.1.1, fun h => absurd h (by omega), fun h => absurd h (by omega), fun h => absurd h (by omega), fun h => absurd h (by omega), fun h => absurd h (by omega), fun h => absurd h (by omega), fun h => absurd h (by omega), fun h => absurd h (by omega), fun h => absurd h (by omega)⟩, fun e => ?_, fun e => ⟨fun h => absurd h (by omega), fun h => absurd h (by omega), fun h => absurd h (by omega), fun _ => fin _ _ hP.1.1, fun h => absurd h (by omega), fun h => absurd h (by omega), fun h => absurd h (by omega), fun h => absurd h (by omega), fun h => absurd h (by omega), fun h => absurd h (by omega), fun h => absurd h (by omega)⟩, fun e => ⟨fun h => absurd h (by omega), fun h => absurd h (by omega), fun h => absurd h (by omega), fun h => absurd h (by omega), fun _ => fin _ _ hU.1.1, fun h => absurd h (by omega), fun h => absurd h (by omega), fun h => absurd h (by omega), fun h => absurd h (by omega), fun h => absurd h (by omega), fun h => absurd h (by omega)⟩, fun e => ⟨fun h => absurd h (by omega), fun h => absurd h (by omega), fun h => absurd h (by omega), fun h => absurd h (by omega), fun h => absurd h (by omega), fun _ => fin _ _ hF.1.1, fun h => absurd h (by omega), fun h => absurd h (by omega), fun h => absurd h (by omega), fun h => absurd h (by omega), fun h => absurd h (by omega)⟩, fun e => ⟨fun h => absurd h (by omega), fun h => absurd h (by omega), fun h => absurd h (by omega), fun h => absurd h (by omega), fun h => absurd h (by omega), fun h => absurd h (by omega), fun _ => fin _ _ hC.1.1, fun h => absurd h (by omega), fun h => absurd h (by omega), fun h => absurd h (by omega), fun h => absurd h (by omega)⟩, fun e => ⟨fun h => absurd h (by omega), fun h => absurd h (by omega), fun h => absurd h (by omega), fun h => absurd h (by omega), fun h => absurd h (by omega), fun h => absurd h (by omega), fun h => absurd h (by omega), fun _ => fin _ _ hS.1.1, fun h => absurd h (by omega), fun h => absurd h (by omega), fun h => absurd h (by omega)⟩, fun e => ⟨fun h => absurd h (by omega), fun h => absurd h (by omega), fun h => absurd h (by omega), fun h => absurd h (by omega), fun h => absurd h (by omega), fun h => absurd h (by omega), fun h => absurd h (by omega), fun h => absurd h (by omega), fun _ => fin _ _ h.2.2.2.2.1.1.1, fun h => absurd h (by omega), fun h => absurd h (by omega)⟩, fun e => ⟨fun h => absurd h (by omega), fun h => absurd h (by omega), fun h => absurd h (by omega), fun h => absurd h (by omega), fun h => absurd h (by omega), fun h => absurd h (by omega), fun h => absurd h (by omega), fun h => absurd h (by omega), fun h => absurd h (by omega), fun _ => fin _ _ h.1.1.1, fun h => absurd h (by omega)⟩, fun e => ⟨fun h => absurd h (by omega), fun h => absurd h (by omega), fun h => absurd h (by omega), fun h => absurd h (by omega), fun h => absurd h (by omega), fun h => absurd h (by omega), fun h => absurd h (by omega), fun h => absurd h (by omega), fun h => absurd h (by omega), fun h => absurd h (by omega), fun _ => fin _ _ rfl⟩⟩
  refine s_openUnknowns ⟨fun h => absurd h (by omega), fun h => absurd h (by omega), fun _ => m_openBits (fun b b0 b1 hb => m_bitsOf (by omega) (fin _ _ ?_)), fun h => absurd h (by omega), fun h => absurd h (by omega), fun h => absurd h (by omega), fun h => absurd h (by omega), fun h => absurd h (by omega), fun h => absurd h (by omega), fun h => absurd h (by omega), fun h => absurd h (by omega)⟩
  unfold bcF
  have e12 : cntB (fun k => tb b k) 12 = cntB (fun k => tb b k) 10 := by
    show cntB (fun k => tb b k) 10 + bit01 (tb b 10) + bit01 (tb b 11) = _
    rw [tb_lt (n := 10) (by omega) (by decide), tb_lt (n := 10) (by omega) (by decide)]
    simp [bit01]
  rw [e12]
  refine cntB_e 10 (fun k p q => ?_)
  have h14 : V 14 k = V 603 k := (hU.2 k p q).1.1
  rw [hb k p q, q6, h14]
theorem t_fault {n : Int} {V : qV} {J : qJ} {P : qV → Prop} (h : Rel n V J) (hP0 : ∀ V2, Rel (n + 1) V2 J → P V2) : W_X10_fault V (fun r => W_X11_fault V (fun s V2 => r = s ∧ P V2)) :=
  ⟨by rw [qu_j _ _ (by decide)]; exact h.2.1, hP0 _ h.th0⟩
