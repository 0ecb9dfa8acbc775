/-! frames of what was told; names filled -/
section
variable {V V' : qV} {t : Int} {w : Int → Int}
theorem tU.fr (h : tU V t w) (hV : ∀ o j, t ≤ o → o < t + 138 → V' o j = V o j) : tU V' t w :=
  ⟨by rw [hV _ _ (by omega) (by omega)]; exact h.1, fun k a b => by rw [hV _ _ (by omega) (by omega), hV _ _ (by omega) (by omega)]; exact h.2 k a b⟩
theorem pR.fr {o p : Int} (h : pR V o w p) (hV : ∀ q j, o ≤ q → q ≤ o + 1 → V' q j = V q j) : pR V' o w p :=
  ⟨by rw [hV _ _ (by omega) (by omega)]; exact h.1, by rw [hV _ _ (by omega) (by omega)]; exact h.2.1, by rw [hV _ _ (by omega) (by omega)]; exact h.2.2.1, fun k a b => by rw [hV _ _ (by omega) (by omega)]; exact h.2.2.2 k a b⟩
theorem fR.fr {o b many today : Int} (h : fR V o w b many today) (hV : ∀ q j, o ≤ q → q ≤ o + 3 → V' q j = V q j) : fR V' o w b many today := by
  obtain ⟨h0, h1, h2, h3, h4, h5, h6, h7, h9, hh⟩ := h
  refine ⟨by rw [hV _ _ (by omega) (by omega)]; exact h0, by rw [hV _ _ (by omega) (by omega)]; exact h1, by rw [hV _ _ (by omega) (by omega)]; exact h2, by rw [hV _ _ (by omega) (by omega)]; exact h3, by rw [hV _ _ (by omega) (by omega)]; exact h4, by rw [hV _ _ (by omega) (by omega)]; exact h5, by rw [hV _ _ (by omega) (by omega)]; exact h6, by rw [hV _ _ (by omega) (by omega)]; exact h7, by rw [hV _ _ (by omega) (by omega)]; exact h9, fun i a c => ?_⟩
  rw [hV _ _ (by omega) (by omega), hV _ _ (by omega) (by omega), hV _ _ (by omega) (by omega)]
  exact hh i a c
theorem tP.fr (h : tP V t w) (hV : ∀ o j, t ≤ o → o < t + 138 → V' o j = V o j) : tP V' t w :=
  ⟨by rw [hV _ _ (by omega) (by omega)]; exact h.1, fun p a b => (h.2 p a b).fr (fun q j c d => hV q j (by omega) (by have := h.1; omega))⟩
theorem tG.fr (h : tG V t w) (hV : ∀ o j, t ≤ o → o < t + 138 → V' o j = V o j) : tG V' t w :=
  fun k a b => by rw [hV _ _ (by omega) (by omega), hV _ _ (by omega) (by omega)]; exact h k a b
theorem tF.fr (h : tF V t w) (hV : ∀ o j, t ≤ o → o < t + 138 → V' o j = V o j) : tF V' t w :=
  ⟨by rw [hV _ _ (by omega) (by omega)]; exact h.1, fun f a b => ⟨(h.2 f a b).1.fr (fun q j c d => hV q j (by omega) (by have := h.1; omega)), by rw [hV _ _ (by omega) (by have := h.1; omega)]; exact (h.2 f a b).2⟩⟩
theorem tC.fr (h : tC V t w) (hV : ∀ o j, t ≤ o → o < t + 138 → V' o j = V o j) : tC V' t w :=
  ⟨by rw [hV _ _ (by omega) (by omega)]; exact h.1, fun c a b => by
    have h1 := h.1
    rw [hV _ _ (by omega) (by omega), hV _ _ (by omega) (by omega), hV _ _ (by omega) (by omega)]; exact h.2 c a b⟩
theorem tS.fr (h : tS V t w) (hV : ∀ o j, t ≤ o → o < t + 138 → V' o j = V o j) : tS V' t w :=
  ⟨by rw [hV _ _ (by omega) (by omega)]; exact h.1, fun c a b => by
    have h1 := h.1
    rw [hV _ _ (by omega) (by omega), hV _ _ (by omega) (by omega), hV _ _ (by omega) (by omega), hV _ _ (by omega) (by omega)]; exact h.2 c a b⟩
theorem tA.fr {J J' : qJ} {cs : Int → Int → Prop} (h : tA V J t w cs) (hV : ∀ o j, t ≤ o → o < t + 138 → V' o j = V o j) (hJ : ∀ j, J' (t + 1) j = J (t + 1) j) : tA V' J' t w cs :=
  ⟨by rw [hV _ _ (by omega) (by omega)]; exact h.1, fun v a b => by rw [hJ]; exact h.2 v a b⟩
theorem tR.fr {J J' : qJ} {cs : Int → Int → Prop} (h : tR V J t w cs) (hV : ∀ o j, t ≤ o → o < t + 138 → V' o j = V o j) (hJ : ∀ j, J' (t + 1) j = J (t + 1) j) : tR V' J' t w cs :=
  ⟨h.1.fr hV, h.2.1.fr hV, h.2.2.1.fr hV, h.2.2.2.1.fr hV, h.2.2.2.2.1.fr hV, h.2.2.2.2.2.1.fr hV, h.2.2.2.2.2.2.fr hV hJ⟩
end
theorem s_fillNames {w : Int → Int} {o num : Int} {V : qV} {Q : qV → Prop} (ho : o ≠ 168) (hU : tU V 12 w) (hP : tP V 12 w) (hG : tG V 12 w) (hC : tC V 12 w) (h1 : 0 ≤ V o 1 ∧ V o 1 ≤ 3) (h3 : 0 ≤ V o 3 ∧ V o 3 ≤ 4095) (h5 : 0 ≤ V o 5 ∧ V o 5 ≤ 9999) (k : Q (fl V 168 0 10 (nmG w (V o 0) (V o 1) (V o 2) (V o 3) (w 20 - V o 5) (V o 6) (clF w num)))) : W_X10_fillNames o num V Q := by
  have main : ∀ (f : Nat) (i : Int) (V1 : qV), 0 ≤ i → i ≤ 10 → 10 < i + f → (∀ q j, q ≠ 168 → V1 q j = V q j) → Q (fl V1 168 i 10 (nmG w (V o 0) (V o 1) (V o 2) (V o 3) (w 20 - V o 5) (V o 6) (clF w num))) → lp_X10_fillNames_2 o num (fun l3x5 V5 => Q V5) f i V1 := by
    intro f
    induction f with
    | zero => intro i V1 a b c; omega
    | succ f ih =>
      intro i V1 h0 hi hf hV kk
      rw [lp_X10_fillNames_2]
      refine br_c (fun c => ?_) (fun c => ?_)
      · have e : i = 10 := by omega
        subst e
        rwa [fl_e (by omega)] at kk
      · have hV2 : ∀ q j, 12 ≤ q → q < 12 + 138 → V1 q j = V q j := fun q j a b => hV q j (by omega)
        have e : ∀ j, V1 o j = V o j := fun j => hV o j ho
        refine s_nameOf (w := w) (hU.fr hV2) (hP.fr hV2) (hG.fr hV2) (hC.fr hV2) (by rw [e]; exact h1) (by rw [e]; exact h3) (by rw [e]; exact h5) (by omega) ⟨by omega, zr_i (by omega) (by omega), ih (i + 1) _ (by omega) (by omega) (by omega) (fun q j h => by rw [qu_o _ _ h]; exact hV q j h) ?_⟩
        rw [e, e, e, e, e, e, fl_s (by omega)]
        exact kk
  exact main 100000 0 V (by decide) (by decide) (by decide) (fun _ _ _ => rfl) k
/-! the reference -/
theorem m_have {marks : Int} {V : qV} {Q : Int → Prop} (h : 0 ≤ V 603 21 ∧ V 603 21 ≤ 16) (k : Q (hvF (V 603) marks)) : W_X11_have marks V Q := by
  have main : ∀ (f : Nat) (i r : Int), 0 ≤ i → i ≤ V 603 21 → V 603 21 < i + f → r = cntB (fun p => decide (zand (V 603 (38 + p)) marks = marks)) i.toNat → lp_X11_have_4 marks V (fun l2x7 l3x7 => Q l2x7) f r i := by
    intro f
    induction f with
    | zero => intro i r a b c; omega
    | succ f ih =>
      intro i r h0 h1 hf hr
      rw [lp_X11_have_4]
      have hb := cntB_b (p := fun p => decide (zand (V 603 (38 + p)) marks = marks)) i.toNat
      refine br_c (fun c => ?_) (fun c => ⟨zr_i (by omega) (by omega), by omega, br_c (fun d => ⟨zr_i (by omega) (by omega), zr_i (by omega) (by omega), ih (i + 1) _ (by omega) (by omega) (by omega) ?_⟩) (fun d => ⟨zr_i (by omega) (by omega), zr_i (by omega) (by omega), ih (i + 1) _ (by omega) (by omega) (by omega) ?_⟩)⟩)
      · have e : i = V 603 21 := by omega
        subst e
        rw [hr]; exact k
      · rw [cntB_s h0, hr]; simp [d, bit01]
      · rw [cntB_s h0, hr]; simp [d, bit01]
  exact main 100000 0 0 (by decide) h.1 (by omega) rfl
theorem m_bitsOf {x : Int} {V : qV} {Q : Int → Prop} (h : 0 ≤ x ∧ x < 2147483648) (k : Q (bcF x)) : W_X11_bitsOf x V Q := by
  have main : ∀ (f : Nat) (i r : Int), 0 ≤ i → i ≤ 12 → 12 < i + f → r = cntB (fun k => tb x k) i.toNat → lp_X11_bitsOf_4 x V (fun l1x3 l2x3 => Q l1x3) f r i := by
    intro f
    induction f with
    | zero => intro i r a b c; omega
    | succ f ih =>
      intro i r h0 h1 hf hr
      rw [lp_X11_bitsOf_4]
      have hb := cntB_b (p := fun k => tb x k) i.toNat
      refine br_c (fun c => ?_) (fun c => ?_)
      · have e : i = 12 := by omega
        subst e
        rw [hr]; exact k
      · have e : zand (zshr x i) 1 = bit01 (tb x i) := by rw [tb_sh h.1 h.2 h0 (by omega)]; rfl
        have e2 := bit01_b (tb x i)
        rw [e]
        refine ⟨zr_i (by omega) (by omega), zr_i (by omega) (by omega), ih (i + 1) _ (by omega) (by omega) (by omega) ?_⟩
        rw [cntB_s h0, hr]
  exact main 100000 0 0 (by decide) (by decide) (by decide) rfl
/-- persons of the reference in their ranges -/
def mP (w : Int → Int) : Prop := (0 ≤ w 21 ∧ w 21 ≤ 16) ∧ ∀ p, 0 ≤ p → p < w 21 → ∀ k, 0 ≤ k → k < 4 → 0 ≤ w (70 + 4 * p + k) ∧ w (70 + 4 * p + k) ≤ 99
theorem m_ownOf {pl : Int} {V : qV} {Q : Int → Prop} (h : mP (V 603)) (hpl : 0 ≤ pl ∧ pl ≤ 3) (k : Q (ohF (V 603) pl)) : W_X11_ownOf pl V Q := by
  have hp := h.1
  have hA : ∀ n : Nat, (n : Int) ≤ V 603 21 → 0 ≤ sumI (fun p => V 603 (70 + 4 * p + pl)) n ∧ sumI (fun p => V 603 (70 + 4 * p + pl)) n ≤ 99 * n := fun n hn => sumI_b (by decide) n (fun q a b => h.2 q a (by omega) pl hpl.1 (by omega))
  have hO : ∀ n : Nat, (n : Int) ≤ V 603 21 → 0 ≤ sumI (fun p => if V 603 (22 + p) = 0 then V 603 (70 + 4 * p + pl) else 0) n ∧ sumI (fun p => if V 603 (22 + p) = 0 then V 603 (70 + 4 * p + pl) else 0) n ≤ 99 * n := fun n hn => sumI_b (by decide) n (fun q a b => by
    have := h.2 q a (by omega) pl hpl.1 (by omega)
    split
    · exact this
    · omega)
  have main : ∀ (f : Nat) (i a o : Int), 0 ≤ i → i ≤ V 603 21 → V 603 21 < i + f → a = sumI (fun p => V 603 (70 + 4 * p + pl)) i.toNat → o = sumI (fun p => if V 603 (22 + p) = 0 then V 603 (70 + 4 * p + pl) else 0) i.toNat → lp_X11_ownOf_7 pl V (fun l2x16 l3x16 l4x16 => ((l2x16 = 0 → Q 0) ∧ (¬ l2x16 = 0 → (zr (100 * l3x16) ∧ (0 < l2x16 ∧ Q ((100 * l3x16).tdiv l2x16)))))) f a o i := by
    intro f
    induction f with
    | zero => intro i a o x y z; omega
    | succ f ih =>
      intro i a o h0 h1 hf ha ho
      have bA := hA i.toNat (by omega)
      have bO := hO i.toNat (by omega)
      rw [lp_X11_ownOf_7]
      refine br_c (fun c => ?_) (fun c => ?_)
      · have e : i = V 603 21 := by omega
        subst e
        unfold ohF allF ownF at k
        rw [← ha, ← ho] at k
        refine br_c (fun d => ?_) (fun d => ⟨zr_i (by omega) (by omega), by omega, ?_⟩)
        · rwa [if_pos d] at k
        · rwa [if_neg d] at k
      · have e2 := h.2 i h0 (by omega) pl hpl.1 (by omega)
        refine ⟨zr_i (by omega) (by omega), zr_i (by omega) (by omega), zr_i (by omega) (by omega), by omega, zr_i (by omega) (by omega), zr_i (by omega) (by omega), by omega, br_c (fun d => ⟨zr_i (by omega) (by omega), zr_i (by omega) (by omega), zr_i (by omega) (by omega), by omega, zr_i (by omega) (by omega), zr_i (by omega) (by omega), ih (i + 1) _ _ (by omega) (by omega) (by omega) ?_ ?_⟩) (fun d => ⟨zr_i (by omega) (by omega), zr_i (by omega) (by omega), ih (i + 1) _ _ (by omega) (by omega) (by omega) ?_ ?_⟩)⟩
        · rw [sumI_s h0, ha]
        · rw [sumI_s h0, ho, if_pos d]
        · rw [sumI_s h0, ha]
        · rw [sumI_s h0, ho, if_neg d]
  exact main 100000 0 0 0 (by decide) hp.1 (by omega) rfl rfl
