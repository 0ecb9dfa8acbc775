/-! a whole rule -/
def cRs (kd vl pl : Int → Int) (m : Int) (V : qV) (i rl : Int) : Prop :=
  (V 3 = kd ∧ V 4 = vl ∧ V 5 = pl ∧ V 1 6 = m + 1) ∧ (V 1 7 = i ∧ V 1 8 = kd i ∧ V 1 9 = vl i ∧ V 1 10 = 0) ∧ 6 ≤ V 1 14 ∧ (0 ≤ V (V 1 14) 5 ∧ V (V 1 14) 5 ≤ i) ∧ (V (V 1 14) 0 = rl ∧ 0 ≤ rl ∧ rl ≤ 12) ∧ (0 ≤ V (V 1 14) 6 ∧ V (V 1 14) 6 < 1024)
def cRp (kd vl pl : Int → Int) (m : Int) (V V' : qV) (rl j w c : Int) (L : List (Int × Int)) : Prop :=
  (∀ o k, ¬ (o = 1 ∧ 7 ≤ k ∧ k ≤ 10) → ¬ (o = V 1 14 ∧ (k = 0 ∨ k = 5 ∨ k = 6)) → ¬ ((o = V 1 14 + 1 ∨ o = V 1 14 + 2 ∨ o = V 1 14 + 3) ∧ k = rl) → ¬ (o = V 1 14 + 4 ∧ V (V 1 14) 5 ≤ k) → V' o k = V o k) ∧ cRs kd vl pl m V' j (rl + 1) ∧ (V' (V 1 14 + 1) rl = w ∧ V' (V 1 14 + 2) rl = c ∧ V' (V 1 14 + 3) rl = V (V 1 14) 5 + L.length) ∧ V' (V 1 14) 5 = V (V 1 14) 5 + L.length ∧ cdC V' (V 1 14 + 4) (V (V 1 14) 5) L ∧ (∀ k, tb (V (V 1 14) 6) k = true → tb (V' (V 1 14) 6) k = true) ∧ usL (V' (V 1 14) 6) L
def cRb (V V' : qV) (r p : Int) : Prop := (∀ o k, ¬ (o = 1 ∧ 7 ≤ k ∧ k ≤ 12) → ¬ (V 1 14 ≤ o ∧ o ≤ V 1 14 + 4) → V' o k = V o k) ∧ V' 1 11 = r ∧ V' 1 12 = p
def rRs (t : Int → Int) (n : Int) (pl : Int → Int) (V : qV) (i l rl : Int) : Prop := rSt t n pl V i 0 ∧ V 602 11 = l ∧ (0 ≤ l ∧ l < 3) ∧ V 610 l = rl ∧ V 602 18 ≤ i
def rRp (t : Int → Int) (n : Int) (pl : Int → Int) (V V' : qV) (l rl j w c : Int) (L : List (Int × Int)) : Prop := mFr (V 602 19 + V 602 18) (V 602 19 + 400) (12 * l + rl) l V V' ∧ rRs t n pl V' j l (rl + 1) ∧ (V' 606 (12 * l + rl) = w ∧ V' 607 (12 * l + rl) = c ∧ V' 608 (12 * l + rl) = V 602 19 + V 602 18 ∧ V' 609 (12 * l + rl) = V 602 19 + V 602 18 + L.length) ∧ V' 602 18 = V 602 18 + L.length ∧ cdM V' (V 602 19 + V 602 18) L
def rRb (V V' : qV) (l rl r p : Int) : Prop := mFr (V 602 19 + V 602 18) (V 602 19 + 400) (12 * l + rl) l V V' ∧ V' 602 15 = p ∧ V' 602 16 = r
section
variable {t : Int → Int} {n : Int} {kd vl pl : Int → Int} {m i rl : Int} {V : qV}
theorem w_goOn {Q : qV → Prop} (h : cRs kd vl pl m V i rl) (hi : 0 ≤ i ∧ i < m) (hm : m ≤ 400) (k : ∀ V', (∀ o j, ¬ (o = 1 ∧ 7 ≤ j ∧ j ≤ 9) → V' o j = V o j) → cRs kd vl pl m V' (i + 1) rl → Q V') : W_X6_goOn V Q := by
  obtain ⟨h1, h2, h3, h4, h5, h6⟩ := h
  unfold W_X6_goOn
  have e : max 0 (min ((V 1 7) + 1) (min ((V 1 6) - 1) 400)) = i + 1 := by rw [h2.1, h1.2.2.2]; omega
  rw [e]
  have e2 : (qu V 1 7 (i + 1)) 1 7 = i + 1 := qu_s _ _ _ _
  have e3 : (qu V 1 7 (i + 1)) 3 (i + 1) = kd (i + 1) := by rw [qu_o _ _ (by decide), h1.1]
  rw [e2, e3]
  have e4 : (qu (qu V 1 7 (i + 1)) 1 8 (kd (i + 1))) 1 7 = i + 1 := by rw [qu_e (by decide)]; exact e2
  have e5 : (qu (qu V 1 7 (i + 1)) 1 8 (kd (i + 1))) 4 (i + 1) = vl (i + 1) := by rw [qu_o _ _ (by decide), qu_o _ _ (by decide), h1.2.1]
  rw [e4, e5]
  have fr : ∀ a j, ¬ (a = 1 ∧ 7 ≤ j ∧ j ≤ 9) → (qu (qu (qu V 1 7 (i + 1)) 1 8 (kd (i + 1))) 1 9 (vl (i + 1))) a j = V a j := fun a j x => by rw [qu_e (by omega), qu_e (by omega), qu_e (by omega)]
  have e14 := fr 1 14 (by omega)
  refine ⟨by rw [h2.1]; exact zr_i (by omega) (by omega), by rw [h1.2.2.2]; exact zr_i (by omega) (by omega), by omega, by omega, k _ fr ⟨⟨?_, ?_, ?_, ?_⟩, ⟨?_, ?_, qu_s _ _ _ _, ?_⟩, ?_, ?_, ?_, ?_⟩⟩
  · funext x; rw [fr _ _ (by omega), h1.1]
  · funext x; rw [fr _ _ (by omega), h1.2.1]
  · funext x; rw [fr _ _ (by omega), h1.2.2.1]
  · rw [fr _ _ (by omega)]; exact h1.2.2.2
  · rw [qu_e (by decide)]; exact e4
  · rw [qu_e (by decide), qu_s]
  · rw [fr _ _ (by omega)]; exact h2.2.2.2
  · rw [e14]; exact h3
  · rw [e14, fr _ _ (by omega)]; omega
  · rw [e14, fr _ _ (by omega)]; exact h5
  · rw [e14, fr _ _ (by omega)]; exact h6
theorem w_refuse {r : Int} {Q : Int → qV → Prop} (h : cRs kd vl pl m V i rl) (hi : 0 ≤ i ∧ i ≤ 400) (k : ∀ V', cRb V V' r (pl i) → Q 0 V') : W_X6_refuse r V Q := by
  obtain ⟨h1, h2, h3, h4, h5, h6⟩ := h
  unfold W_X6_refuse
  have e : (qu V 1 11 r) 1 7 = i := by rw [qu_e (by decide)]; exact h2.1
  have e2 : (qu V 1 11 r) 5 i = pl i := by rw [qu_o _ _ (by decide), h1.2.2.1]
  rw [e, e2]
  exact ⟨by omega, k _ ⟨fun a j x _ => by rw [qu_e (by omega), qu_e (by omega)], by rw [qu_e (by decide), qu_s], qu_s _ _ _ _⟩⟩
theorem w_isWord {w : Int} {Q : Int → Prop} (h : cRs kd vl pl m V i rl) (k : Q (bit01 (decide (kd i = 1 ∧ vl i = w)))) : W_X6_isWord w V Q := by
  unfold W_X6_isWord
  rw [h.2.1.2.1, h.2.1.2.2.1]
  refine br_c (fun a => br_c (fun b => ?_) (fun b => ?_)) (fun a => ?_)
  · rw [decide_eq_true ⟨a, b⟩] at k; exact k
  · rw [decide_eq_false (fun x => b x.2)] at k; exact k
  · rw [decide_eq_false (fun x => a x.1)] at k; exact k
theorem cRb.fr {V V1 V2 : qV} {r p : Int} (h : cRs kd vl pl m V i rl) (f : ∀ o j, ¬ (o = 1 ∧ 7 ≤ j ∧ j ≤ 9) → V1 o j = V o j) (b : cRb V1 V2 r p) : cRb V V2 r p := by
  have e14 := f 1 14 (by omega)
  exact ⟨fun o k x y => by rw [b.1 o k x (by rw [e14]; exact y)]; exact f o k (by omega), b.2⟩
/-- a rule is noted -/
def arV (V : qV) (a rl w c cl : Int) : qV := qu (qu (qu (qu V (a + 1) rl w) (a + 2) rl c) (a + 3) rl cl) a 0 (rl + 1)
theorem s_addRule {w c : Int} {Q : qV → Prop} (h : cRs kd vl pl m V i rl) (hr : rl < 12) (k : Q (arV V (V 1 14) rl w c (V (V 1 14) 5))) : W_X3_addRule (V 1 14) w c V Q := by
  obtain ⟨h1, h2, h3, h4, h5, h6⟩ := h
  unfold W_X3_addRule
  rw [h5.1]
  have e1 : (qu V (V 1 14 + 1) rl w) (V 1 14) 0 = rl := by rw [qu_e (by omega)]; exact h5.1
  rw [e1]
  have e2 : (qu (qu V (V 1 14 + 1) rl w) (V 1 14 + 2) rl c) (V 1 14) 0 = rl := by rw [qu_e (by omega)]; exact e1
  have e3 : (qu (qu V (V 1 14 + 1) rl w) (V 1 14 + 2) rl c) (V 1 14) 5 = V (V 1 14) 5 := by rw [qu_e (by omega), qu_e (by omega)]
  rw [e2, e3]
  have e4 : (qu (qu (qu V (V 1 14 + 1) rl w) (V 1 14 + 2) rl c) (V 1 14 + 3) rl (V (V 1 14) 5)) (V 1 14) 0 = rl := by rw [qu_e (by omega)]; exact e2
  rw [e4]
  exact br_f (by omega) ⟨by omega, by omega, by omega, zr_i (by omega) (by omega), k⟩
theorem arV_o {V : qV} {a w c cl o k : Int} (h : ¬ (o = a ∧ k = 0)) (h2 : ¬ ((o = a + 1 ∨ o = a + 2 ∨ o = a + 3) ∧ k = rl)) : arV V a rl w c cl o k = V o k := by
  unfold arV
  rw [qu_e (by omega), qu_e (by omega), qu_e (by omega), qu_e (by omega)]
theorem arV_st {w c : Int} (h : cRs kd vl pl m V i rl) (hr : rl < 12) (hi : i ≤ 400) : cSt kd vl pl m (arV V (V 1 14) rl w c (V (V 1 14) 5)) i 0 := by
  obtain ⟨h1, h2, h3, h4, h5, h6⟩ := h
  have e14 : (arV V (V 1 14) rl w c (V (V 1 14) 5)) 1 14 = V 1 14 := arV_o (by omega) (by omega)
  have e5 : (arV V (V 1 14) rl w c (V (V 1 14) 5)) (V 1 14) 5 = V (V 1 14) 5 := arV_o (by omega) (by omega)
  have e0 : (arV V (V 1 14) rl w c (V (V 1 14) 5)) (V 1 14) 0 = rl + 1 := qu_s _ _ _ _
  refine ⟨⟨?_, ?_, ?_, ?_⟩, ⟨?_, ?_, ?_, ?_⟩, ?_, ?_, ?_, ?_, ?_⟩
  · rw [← h1.1]; funext x; exact arV_o (by omega) (by omega)
  · rw [← h1.2.1]; funext x; exact arV_o (by omega) (by omega)
  · rw [← h1.2.2.1]; funext x; exact arV_o (by omega) (by omega)
  · rw [arV_o (by omega) (by omega)]; exact h1.2.2.2
  · rw [arV_o (by omega) (by omega)]; exact h2.1
  · rw [arV_o (by omega) (by omega)]; exact h2.2.1
  · rw [arV_o (by omega) (by omega)]; exact h2.2.2.1
  · rw [arV_o (by omega) (by omega)]; exact h2.2.2.2
  · rw [e14]; exact h3
  · rw [e14, e5]; omega
  · rw [e14, e0]; omega
  · rw [e14, arV_o (by omega) (by omega)]; exact h6
  · rw [e14, e0, e5, show rl + 1 - 1 = rl by omega]
    unfold arV
    rw [qu_e (by omega), qu_s]
/-- class, from the piece behind a rule's days on -/
theorem s_ruleT {w c r j ic : Int} {L : List (Int × Int)} {V0 : qV} {Q : Int → qV → Prop} (hm : m ≤ 400) (h0 : cRs kd vl pl m V0 i rl) (f0 : ∀ o k, ¬ (o = 1 ∧ 7 ≤ k ∧ k ≤ 9) → V o k = V0 o k) (h : cRs kd vl pl m V ic rl) (hr : rl < 12) (hic : 0 ≤ ic ∧ ic ≤ m) (hj : r = 0 → (L.length : Int) ≤ j - ic ∧ j ≤ m)
    (cs : ∀ (V : qV) (Q : Int → qV → Prop), cSt kd vl pl m V ic 0 → V (V 1 14) 5 ≤ ic → (r = 0 → ∀ V', cPo kd vl V V' 0 j L → Q 1 V') → (r ≠ 0 → ∀ V', cBd V V' r (pl j) → Q 0 V') → tlC V Q)
    (k1 : r = 0 → ∀ V', cRp kd vl pl m V0 V' rl j w c L → Q 1 V') (k2 : r ≠ 0 → ∀ V', cRb V0 V' r (pl j) → Q 0 V') : W_X3_addRule (V 1 14) w c V (fun V5 => tlC V5 Q) := by
  have e14 : V 1 14 = V0 1 14 := f0 _ _ (by omega)
  have e5 : V (V 1 14) 5 = V0 (V0 1 14) 5 := by rw [e14]; exact f0 _ _ (by have := h0.2.2.1; omega)
  have e6 : V (V 1 14) 6 = V0 (V0 1 14) 6 := by rw [e14]; exact f0 _ _ (by have := h0.2.2.1; omega)
  have b6 := h.2.2.1
  refine s_addRule h hr ?_
  have st := arV_st (w := w) (c := c) h hr (by omega)
  have a14 : (arV V (V 1 14) rl w c (V (V 1 14) 5)) 1 14 = V 1 14 := arV_o (by omega) (by omega)
  have a5 : (arV V (V 1 14) rl w c (V (V 1 14) 5)) (V 1 14) 5 = V (V 1 14) 5 := arV_o (by omega) (by omega)
  have a6 : (arV V (V 1 14) rl w c (V (V 1 14) 5)) (V 1 14) 6 = V (V 1 14) 6 := arV_o (by omega) (by omega)
  have a0 : (arV V (V 1 14) rl w c (V (V 1 14) 5)) (V 1 14) 0 = rl + 1 := qu_s _ _ _ _
  refine cs _ Q st (by rw [a14, a5]; exact h.2.2.2.1.2) (fun hr' V' p => k1 hr' V' ?_) (fun hr' V' b => k2 hr' V' ?_)
  · have hj' := hj hr'
    have pe := p.e st
    have st' := p.st st (by rw [a14, a5]; have := h.2.2.2.1; omega)
    obtain ⟨p1, p2, p3, p4, p5, p6⟩ := p
    rw [a14] at p3 p4 p5 p6
    rw [a5] at p3 p4 p5
    rw [a0, show rl + 1 - 1 = rl by omega] at p5
    rw [a6] at p6
    have fr : ∀ o k, ¬ (o = 1 ∧ 7 ≤ k ∧ k ≤ 10) → ¬ (o = V 1 14 ∧ (k = 5 ∨ k = 6)) → ¬ (o = V 1 14 + 3 ∧ k = rl) → ¬ (o = V 1 14 + 4 ∧ V (V 1 14) 5 ≤ k) → V' o k = (arV V (V 1 14) rl w c (V (V 1 14) 5)) o k := fun o k x y z u => p1 o k x (by rw [a14]; exact y) (by rw [a14, a0]; omega) (by rw [a14, a5]; exact u)
    have g14 : V' 1 14 = V 1 14 := by rw [fr _ _ (by omega) (by omega) (by omega) (by omega)]; exact a14
    rw [e5] at p3 p4 p5
    rw [e14] at p3 p4 p5 p6
    refine ⟨fun o k x y z u => ?_, ⟨st'.1, st'.2.1, st'.2.2.1, ?_, ?_, st'.2.2.2.2.2.1⟩, ⟨?_, ?_, p5⟩, p3, p4, fun k x => p6.2.1 k (by rw [← e14, e6]; exact x), p6.2.2⟩
    · rw [← e14] at y z u
      rw [fr o k x (by omega) (by omega) (by rw [e5, ← e14]; exact u), arV_o (by omega) (by omega)]
      exact f0 o k (by omega)
    · rw [g14, e14, p3]
      have := h.2.2.2.1
      rw [e5] at this
      omega
    · rw [g14, fr _ _ (by omega) (by omega) (by omega) (by omega), a0]
      have := h.2.2.2.2.1
      exact ⟨rfl, by omega, by omega⟩
    · rw [← e14, fr _ _ (by omega) (by omega) (by omega) (by omega)]
      unfold arV; rw [qu_e (by omega), qu_e (by omega), qu_e (by omega), qu_s]
    · rw [← e14, fr _ _ (by omega) (by omega) (by omega) (by omega)]
      unfold arV; rw [qu_e (by omega), qu_e (by omega), qu_s]
  · refine ⟨fun o k x y => ?_, b.2⟩
    rw [← e14] at y
    rw [b.1 o k x (by rw [a14]; omega) (by rw [a14]; omega) (by rw [a14]; omega), arV_o (by omega) (by omega)]
    exact f0 o k (by omega)
end
