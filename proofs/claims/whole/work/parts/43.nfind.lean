/-! the reference fills the names of a find -/
theorem first_iff {marks m : Int} (h0 : 0 ≤ marks) (h1 : marks < 4096) (m0 : 0 ≤ m) (m1 : m ≤ 11) (ht : tb marks m = true) : zshr marks m = 1 ↔ ∀ i, m < i → i ≤ 11 → tb marks i = false := by
  rw [fx_shr h0 (by omega) m0 (by omega)]
  unfold tb at ht
  rw [Nat.testBit_eq_decide_div_mod_eq, decide_eq_true_eq] at ht
  constructor
  · intro h i a b
    unfold tb
    rw [Nat.testBit_eq_decide_div_mod_eq, decide_eq_false_iff_not]
    have e : marks.toNat / 2 ^ i.toNat = marks.toNat / 2 ^ m.toNat / 2 ^ (i.toNat - m.toNat) := by
      rw [Nat.div_div_eq_div_mul, ← Nat.pow_add, show m.toNat + (i.toNat - m.toNat) = i.toNat by omega]
    have e2 : 2 ≤ 2 ^ (i.toNat - m.toNat) := by
      have := Nat.pow_le_pow_right (n := 2) (by decide) (show 1 ≤ i.toNat - m.toNat by omega)
      omega
    rw [e, show marks.toNat / 2 ^ m.toNat = 1 by omega, Nat.div_eq_of_lt (by omega)]
    decide
  · intro h
    have hz : marks.toNat / 2 ^ (m.toNat + 1) = 0 := by
      apply Nat.eq_of_testBit_eq
      intro j
      rw [Nat.testBit_div_two_pow, Nat.zero_testBit]
      by_cases hj : j + (m.toNat + 1) ≤ 11
      · have := h ((j + (m.toNat + 1) : Nat) : Int) (by omega) (by omega)
        unfold tb at this
        rwa [Int.toNat_natCast] at this
      · apply Nat.testBit_lt_two_pow
        have := Nat.pow_le_pow_right (n := 2) (by decide) (show 12 ≤ j + (m.toNat + 1) by omega)
        omega
    rw [Nat.pow_succ, ← Nat.div_div_eq_div_mul] at hz
    omega
theorem tb_nz {x : Int} (h0 : 0 ≤ x) (h1 : x < 4096) (h : x ≠ 0) : ∃ i, 0 ≤ i ∧ i ≤ 11 ∧ tb x i = true := by
  by_cases hx : ∃ i, 0 ≤ i ∧ i ≤ 11 ∧ tb x i = true
  · exact hx
  · exfalso
    apply h
    apply tb_ext h0 (by decide)
    intro k hk
    rw [tb_0]
    by_cases hk2 : k ≤ 11
    · cases h7 : tb x k with
      | false => rfl
      | true => exact absurd ⟨k, hk, hk2, h7⟩ hx
    · exact tb_lt (n := 12) (by omega) (by omega)
theorem rmF_c {w : Int → Int} {marks : Int} (hw : w 21 ≤ 16) : ∀ n : Nat, rmF w marks n ≤ 16 ∧ (∀ i : Int, 0 ≤ i → i < n → tb marks i = true → rmF w marks n ≤ hvF w (zshl 1 i)) ∧ (rmF w marks n = 16 ∨ ∃ i : Int, 0 ≤ i ∧ i < n ∧ tb marks i = true ∧ rmF w marks n = hvF w (zshl 1 i))
  | 0 => ⟨Int.le_refl _, fun i a b => by omega, Or.inl rfl⟩
  | n + 1 => by
    obtain ⟨h1, h2, h3⟩ := rmF_c (w := w) (marks := marks) hw n
    rw [rmF]
    have hb := hvF_b w (zshl 1 n) hw
    by_cases ht : tb marks n = true
    · rw [if_pos ht]
      refine ⟨by omega, fun i a b c => ?_, ?_⟩
      · by_cases hi : i = n
        · subst hi; omega
        · have := h2 i a (by omega) c; omega
      · by_cases hc : hvF w (zshl 1 n) ≤ rmF w marks n
        · exact Or.inr ⟨n, by omega, by omega, ht, by omega⟩
        · rcases h3 with h3 | ⟨i, a, b, c, d⟩
          · exfalso; omega
          · exact Or.inr ⟨i, a, by omega, c, by omega⟩
    · rw [if_neg ht]
      refine ⟨h1, fun i a b c => ?_, ?_⟩
      · by_cases hi : i = n
        · subst hi; exact absurd c ht
        · exact h2 i a (by omega) c
      · rcases h3 with h3 | ⟨i, a, b, c, d⟩
        · exact Or.inl h3
        · exact Or.inr ⟨i, a, by omega, c, d⟩
/-- how names[5] stands when the marks above m are looked through -/
def raI (w : Int → Int) (marks m r : Int) : Prop :=
  ((∀ i, m < i → i ≤ 11 → tb marks i = false) ∧ r = 0) ∨ ((∃ i, m < i ∧ i ≤ 11 ∧ tb marks i = true ∧ r = hvF w (zshl 1 i)) ∧ ∀ i, m < i → i ≤ 11 → tb marks i = true → r ≤ hvF w (zshl 1 i))
theorem raI_end {w : Int → Int} {marks r : Int} (hw : w 21 ≤ 16) (h0 : 0 ≤ marks) (h1 : marks < 4096) (h : raI w marks (-1) r) : r = raF w marks := by
  unfold raF
  by_cases hz : marks = 0
  · rw [if_pos hz]
    rcases h with h | ⟨⟨i, a, b, c, d⟩, _⟩
    · exact h.2
    · rw [hz, tb_0] at c; cases c
  · rw [if_neg hz]
    obtain ⟨i, a, b, c⟩ := tb_nz h0 h1 hz
    obtain ⟨q1, q2, q3⟩ := rmF_c (w := w) (marks := marks) hw 12
    rcases h with h | ⟨⟨j, p1, p2, p3, p4⟩, p5⟩
    · have := h.1 i (by omega) b; rw [c] at this; cases this
    · have e1 := q2 j (by omega) (by omega) p3
      have e2 := hvF_b w (zshl 1 j) hw
      rcases q3 with q3 | ⟨x, x1, x2, x3, x4⟩
      · omega
      · have := p5 x (by omega) (by omega) x3
        omega
theorem m_rare {f p : Int} {V0 : qV} {K : Int → qV → Prop} (hp : 0 ≤ p ∧ p + 3 < 594) (hw : 0 ≤ V0 603 21 ∧ V0 603 21 ≤ 16) (hm : 0 ≤ V0 603 (p + 3) ∧ V0 603 (p + 3) < 4096) (hK : ∀ V, (∀ o j, ¬ (o = 614 ∧ j = 5) → V o j = V0 o j) → V 614 5 = raF (V0 603) (V0 603 (p + 3)) → K (-1) V) : ∀ (g : Nat) (m : Int) (V : qV), -1 ≤ m → m ≤ 11 → m + 1 < g → (∀ o j, ¬ (o = 614 ∧ j = 5) → V o j = V0 o j) → raI (V0 603) (V0 603 (p + 3)) m (V 614 5) → lp_X11_nameFind_97 f p K g m V := by
  intro g
  induction g with
  | zero => intro m V a b c; omega
  | succ g ih =>
    intro m V h0 h1 hf hV hr
    rw [lp_X11_nameFind_97]
    have e3 : ∀ j, V 603 j = V0 603 j := fun j => hV _ _ (by omega)
    have e603 : V 603 = V0 603 := by funext j; exact e3 j
    have hw2 : 0 ≤ V 603 21 ∧ V 603 21 ≤ 16 := by rw [e3]; exact hw
    refine br_c (fun c => ?_) (fun c => ⟨zr_i (by omega) (by omega), by omega, ?_⟩)
    · have e : m = -1 := by omega
      subst e
      exact hK V hV (raI_end hw.2 hm.1 hm.2 hr)
    · rw [e3, tb_sh hm.1 (by omega) (by omega) (by omega)]
      have hs : ∀ x, (∀ o j, ¬ (o = 614 ∧ j = 5) → (qu V 614 5 x) o j = V0 o j) := fun x o j h => by rw [qu_e h]; exact hV o j h
      by_cases ht : tb (V0 603 (p + 3)) m = true
      · rw [if_pos ht]
        refine br_t rfl ⟨zr_i (by omega) (by omega), by omega, ?_⟩
        have hfi := first_iff hm.1 hm.2 (by omega) h1 ht
        refine br_c (fun d => ?_) (fun d => ?_)
        · refine br_f (by decide) (m_have hw2 ⟨zr_i (by omega) (by omega), ih (m + (-1)) _ (by omega) (by omega) (by omega) (hs _) ?_⟩)
          rw [qu_s, e603]
          right
          refine ⟨⟨m, by omega, h1, ht, rfl⟩, fun i a b c => ?_⟩
          by_cases hi : i = m
          · subst hi; exact Int.le_refl _
          · have := hfi.mp d i (by omega) b; rw [c] at this; cases this
        · have hr2 : (∃ i, m < i ∧ i ≤ 11 ∧ tb (V0 603 (p + 3)) i = true ∧ V 614 5 = hvF (V0 603) (zshl 1 i)) ∧ ∀ i, m < i → i ≤ 11 → tb (V0 603 (p + 3)) i = true → V 614 5 ≤ hvF (V0 603) (zshl 1 i) := by
            rcases hr with hr | hr
            · exact absurd (hfi.mpr hr.1) d
            · exact hr
          refine br_t rfl (m_have hw2 (br_c (fun y => ⟨zr_i (by omega) (by omega), ih (m + (-1)) V (by omega) (by omega) (by omega) hV ?_⟩) (fun y => m_have hw2 ⟨zr_i (by omega) (by omega), ih (m + (-1)) _ (by omega) (by omega) (by omega) (hs _) ?_⟩)))
          · rw [e603] at y
            right
            obtain ⟨⟨i, a, b, c1, c2⟩, c3⟩ := hr2
            refine ⟨⟨i, by omega, b, c1, c2⟩, fun i a b c => ?_⟩
            by_cases hi : i = m
            · subst hi; exact y
            · exact c3 i (by omega) b c
          · rw [e603] at y
            rw [qu_s, e603]
            right
            refine ⟨⟨m, by omega, h1, ht, rfl⟩, fun i a b c => ?_⟩
            by_cases hi : i = m
            · subst hi; exact Int.le_refl _
            · have := hr2.2 i (by omega) b c; omega
      · rw [if_neg ht]
        refine br_f (by decide) ⟨zr_i (by omega) (by omega), ih (m + (-1)) V (by omega) (by omega) (by omega) hV ?_⟩
        rcases hr with ⟨q1, q2⟩ | ⟨⟨i, a, b, c1, c2⟩, c3⟩
        · left
          refine ⟨fun i a b => ?_, q2⟩
          by_cases hi : i = m
          · subst hi; exact Bool.eq_false_iff.mpr ht
          · exact q1 i (by omega) b
        · right
          refine ⟨⟨i, by omega, b, c1, c2⟩, fun i a b c9 => ?_⟩
          by_cases hi : i = m
          · subst hi; exact absurd c9 ht
          · exact c3 i (by omega) b c9
theorem q614 (V : qV) (k v j : Int) : qu V 614 k v 603 j = V 603 j := qu_o _ _ (by decide) _
/-- a find of the reference in its ranges -/
def mF (w : Int → Int) (f : Int) : Prop := (0 ≤ f ∧ f < 8) ∧ (0 ≤ w (143 + 27 * f + 1) ∧ w (143 + 27 * f + 1) ≤ 3) ∧ (0 ≤ w (143 + 27 * f + 3) ∧ w (143 + 27 * f + 3) ≤ 4095) ∧ (0 ≤ w (143 + 27 * f + 5) ∧ w (143 + 27 * f + 5) ≤ 9999) ∧ (0 ≤ w 20 ∧ w 20 ≤ 9999) ∧ (0 ≤ w 359 ∧ w 359 ≤ 24)
def nmM (w : Int → Int) (f : Int) : Int → Int := nmG w (w (143 + 27 * f + 0)) (w (143 + 27 * f + 1)) (w (143 + 27 * f + 2)) (w (143 + 27 * f + 3)) (w 20 - w (143 + 27 * f + 5)) (w (143 + 27 * f + 6)) (clF w f)
theorem m_claims {f : Int} {V0 : qV} {K : Int → qV → Prop} (hw : 0 ≤ V0 603 359 ∧ V0 603 359 ≤ 24) (hK : ∀ V i, (∀ o j, ¬ (o = 614 ∧ j = 9) → V o j = V0 o j) → V 614 9 = clF (V0 603) f → K i V) : ∀ (g : Nat) (i : Int) (V : qV), 0 ≤ i → i ≤ V0 603 359 → V0 603 359 < i + g → (∀ o j, ¬ (o = 614 ∧ j = 9) → V o j = V0 o j) → V 614 9 = cntB (fun c => decide (V0 603 (360 + 3 * c) = f)) i.toNat → lp_X11_nameFind_235 f K g i V := by
  intro g
  induction g with
  | zero => intro i V a b c; omega
  | succ g ih =>
    intro i V h0 h1 hf hV hr
    have hb := cntB_b (p := fun c => decide (V0 603 (360 + 3 * c) = f)) i.toNat
    rw [lp_X11_nameFind_235]
    have e3 : ∀ j, V 603 j = V0 603 j := fun j => hV _ _ (by omega)
    have hs : ∀ x, (∀ o j, ¬ (o = 614 ∧ j = 9) → (qu V 614 9 x) o j = V0 o j) := fun x o j h => by rw [qu_e h]; exact hV o j h
    rw [e3, e3]
    refine br_c (fun c => ?_) (fun c => ⟨zr_i (by omega) (by omega), zr_i (by omega) (by omega), by omega, br_c (fun d => ⟨zr_i (by omega) (by omega), zr_i (by omega) (by omega), ih (i + 1) _ (by omega) (by omega) (by omega) (hs _) ?_⟩) (fun d => ⟨zr_i (by omega) (by omega), zr_i (by omega) (by omega), ih (i + 1) _ (by omega) (by omega) (by omega) (hs _) ?_⟩)⟩)
    · have e : i = V0 603 359 := by omega
      subst e
      exact hK V _ hV hr
    · rw [qu_s, cntB_s h0, hr]; simp [d, bit01]
    · rw [qu_s, cntB_s h0, hr]; simp [d, bit01]
set_option maxHeartbeats 2000000 in
theorem m_nameFind {f : Int} {V : qV} {Q : qV → Prop} (hP : mP (V 603)) (hF : mF (V 603) f) (k : ∀ V', (∀ o j, o ≠ 614 → V' o j = V o j) → (∀ n, 0 ≤ n → n ≤ 9 → V' 614 n = nmM (V 603) f n) → Q V') : W_X11_nameFind f V Q := by
  obtain ⟨hf, h1, h3, h5, h20, h359⟩ := hF
  unfold W_X11_nameFind
  simp only [q614]
  refine ⟨zr_i (by omega) (by omega), zr_i (by omega) (by omega), ?_⟩
  refine ⟨zr_i (by omega) (by omega), by omega, zr_i (by omega) (by omega), by omega, zr_i (by omega) (by omega), by omega, zr_i (by omega) (by omega), by omega, zr_i (by omega) (by omega), by omega, zr_i (by omega) (by omega), by omega, m_bitsOf (by omega) ?_⟩
  generalize hV5 : (qu (qu (qu (qu (qu (qu V 614 0 (V 603 (143 + 27 * f + 0))) 614 1 (V 603 (143 + 27 * f + 1))) 614 2 (V 603 (143 + 27 * f + 2))) 614 3 (V 603 (134 + V 603 (143 + 27 * f + 1)))) 614 4 (bcF (V 603 (143 + 27 * f + 3)))) 614 5 0) = V5
  have o5 : ∀ o j, o ≠ 614 → V5 o j = V o j := fun o j h => by rw [← hV5]; simp only [qu, if_neg h]
  have e5 : ∀ j, V5 603 j = V 603 j := fun j => o5 _ _ (by decide)
  have e603 : V5 603 = V 603 := by funext j; exact e5 j
  refine m_rare (V0 := V5) (by omega) (by rw [e5]; exact hP.1) (by rw [e5]; omega) (fun V6 hV6 h65 => ?_) 100000 11 V5 (by decide) (by decide) (by decide) (fun _ _ _ => rfl) (Or.inl ⟨fun i a b => by omega, by rw [← hV5, qu_s]⟩)
  have e6 : ∀ j, V6 603 j = V 603 j := fun j => by rw [hV6 _ _ (by omega)]; exact e5 j
  have e603b : V6 603 = V 603 := by funext j; exact e6 j
  rw [e6]
  refine ⟨zr_i (by omega) (by omega), by omega, m_ownOf (by rw [e603b]; exact hP) h1 ?_⟩
  rw [e603b]
  refine ⟨zr_i (by omega) (by omega), by omega, zr_i (by omega) (by omega), zr_i (by omega) (by omega), by omega, ?_⟩
  generalize hV9 : (qu (qu (qu (qu V6 614 6 (ohF (V 603) (V 603 (143 + 27 * f + 1)))) 614 7 (V 603 20 - V 603 (143 + 27 * f + 5))) 614 8 (V 603 (143 + 27 * f + 6))) 614 9 0) = V9
  have o9 : ∀ o j, o ≠ 614 → V9 o j = V o j := fun o j h => by
    rw [← hV9]
    simp only [qu, if_neg h]
    rw [hV6 _ _ (by omega)]; exact o5 o j h
  have e9 : V9 603 = V 603 := by funext j; exact o9 _ _ (by decide)
  refine m_claims (V0 := V9) (by rw [e9]; exact h359) (fun V10 i hV10 h10 => ?_) 100000 0 V9 (by decide) (by rw [e9]; exact h359.1) (by rw [e9]; omega) (fun _ _ _ => rfl) (by rw [← hV9, qu_s]; rfl)
  refine k V10 (fun o j h => by rw [hV10 _ _ (by omega)]; exact o9 o j h) (fun n a b => ?_)
  have h : n = 0 ∨ n = 1 ∨ n = 2 ∨ n = 3 ∨ n = 4 ∨ n = 5 ∨ n = 6 ∨ n = 7 ∨ n = 8 ∨ n = 9 := by omega
  rw [e9] at h10
  rw [e603] at h65
  rcases h with rfl | rfl | rfl | rfl | rfl | rfl | rfl | rfl | rfl | rfl
  · rw [hV10 _ _ (by decide), ← hV9]; simp [qu]; rw [hV6 _ _ (by decide), ← hV5]; simp [qu, nmM, nmG]
  · rw [hV10 _ _ (by decide), ← hV9]; simp [qu]; rw [hV6 _ _ (by decide), ← hV5]; simp [qu, nmM, nmG]
  · rw [hV10 _ _ (by decide), ← hV9]; simp [qu]; rw [hV6 _ _ (by decide), ← hV5]; simp [qu, nmM, nmG]
  · rw [hV10 _ _ (by decide), ← hV9]; simp [qu]; rw [hV6 _ _ (by decide), ← hV5]; simp [qu, nmM, nmG]
  · rw [hV10 _ _ (by decide), ← hV9]; simp [qu]; rw [hV6 _ _ (by decide), ← hV5]; simp [qu, nmM, nmG]
  · rw [hV10 _ _ (by decide), ← hV9]; simp [qu]; rw [h65]; simp [nmM, nmG]
  · rw [hV10 _ _ (by decide), ← hV9]; simp [qu, nmM, nmG]
  · rw [hV10 _ _ (by decide), ← hV9]; simp [qu, nmM, nmG]
  · rw [hV10 _ _ (by decide), ← hV9]; simp [qu, nmM, nmG]
  · rw [h10]; simp [nmM, nmG]
