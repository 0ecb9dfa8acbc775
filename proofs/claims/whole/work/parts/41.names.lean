/-! names of a find -/
def sumI (f : Int → Int) : Nat → Int
  | 0 => 0
  | n + 1 => sumI f n + f n
theorem sumI_s {f : Int → Int} {n : Int} (h : 0 ≤ n) : sumI f (n + 1).toNat = sumI f n.toNat + f n := by
  rw [show (n + 1).toNat = n.toNat + 1 by omega, sumI, Int.toNat_of_nonneg h]
theorem sumI_b {f : Int → Int} {m : Int} (hm : 0 ≤ m) : ∀ n : Nat, (∀ k : Int, 0 ≤ k → k < n → 0 ≤ f k ∧ f k ≤ m) → 0 ≤ sumI f n ∧ sumI f n ≤ m * n
  | 0, _ => by simp [sumI]
  | n + 1, h => by
    have h1 := sumI_b hm n (fun k a b => h k a (by omega))
    have h2 := h n (by omega) (by omega)
    rw [sumI, show m * ((n + 1 : Nat) : Int) = m * n + m by rw [Int.natCast_add, Int.mul_add]; simp]
    omega
def hvF (w : Int → Int) (marks : Int) : Int := cntB (fun p => decide (zand (w (38 + p)) marks = marks)) (w 21).toNat
def allF (w : Int → Int) (pl : Int) : Int := sumI (fun p => w (70 + 4 * p + pl)) (w 21).toNat
def ownF (w : Int → Int) (pl : Int) : Int := sumI (fun p => if w (22 + p) = 0 then w (70 + 4 * p + pl) else 0) (w 21).toNat
def ohF (w : Int → Int) (pl : Int) : Int := if allF w pl = 0 then 0 else (100 * ownF w pl).tdiv (allF w pl)
def clF (w : Int → Int) (f : Int) : Int := cntB (fun c => decide (w (360 + 3 * c) = f)) (w 359).toNat
def bcF (x : Int) : Int := cntB (fun k => tb x k) 12
/-- the fewest that have one of the marks below n: 16 without -/
def rmF (w : Int → Int) (marks : Int) : Nat → Int
  | 0 => 16
  | n + 1 => if tb marks n then min (rmF w marks n) (hvF w (zshl 1 n)) else rmF w marks n
def raF (w : Int → Int) (marks : Int) : Int := if marks = 0 then 0 else rmF w marks 12
def nmG (w : Int → Int) (way place worth marks age cried claims : Int) (k : Int) : Int :=
  if k = 0 then way else if k = 1 then place else if k = 2 then worth else if k = 3 then w (134 + place) else if k = 4 then bcF marks else if k = 5 then raF w marks else if k = 6 then ohF w place else if k = 7 then age else if k = 8 then cried else claims
theorem hvF_b (w : Int → Int) (marks : Int) (h : w 21 ≤ 16) : 0 ≤ hvF w marks ∧ hvF w marks ≤ 16 := by
  have := cntB_b (p := fun p => decide (zand (w (38 + p)) marks = marks)) (w 21).toNat
  unfold hvF
  omega
/-! the class -/
theorem s_havers {w : Int → Int} {marks : Int} {V : qV} {Q : Int → Prop} (h : tP V 12 w) (k : Q (hvF w marks)) : W_X8_havers marks V Q := by
  have hp := h.1
  have main : ∀ (f : Nat) (i r : Int), 0 ≤ i → i ≤ w 21 → w 21 < i + f → r = cntB (fun p => decide (zand (w (38 + p)) marks = marks)) i.toNat → lp_X8_havers_4 marks V (fun l2x6 l3x6 => Q l2x6) f r i := by
    intro f
    induction f with
    | zero => intro i r a b c; omega
    | succ f ih =>
      intro i r h0 h1 hf hr
      rw [lp_X8_havers_4, hp.1]
      have hb := cntB_b (p := fun p => decide (zand (w (38 + p)) marks = marks)) i.toNat
      refine br_c (fun c => ?_) (fun c => br_f (by omega) ⟨by omega, ?_⟩)
      · have e : i = w 21 := by omega
        subst e
        rw [hr]; exact k
      · have e : V (22 + 2 * i) 1 = w (38 + i) := (h.2 i h0 (by omega)).2.1.1
        rw [e]
        refine br_c (fun d => ⟨zr_i (by omega) (by omega), zr_i (by omega) (by omega), ih (i + 1) _ (by omega) (by omega) (by omega) ?_⟩) (fun d => ⟨zr_i (by omega) (by omega), ih (i + 1) _ (by omega) (by omega) (by omega) ?_⟩)
        · rw [cntB_s h0, hr]; simp [d, bit01]
        · rw [cntB_s h0, hr]; simp [d, bit01]
  exact main 100000 0 0 (by decide) hp.2.1 (by omega) rfl
theorem s_claimsOf {w : Int → Int} {num : Int} {V : qV} {Q : Int → Prop} (h : tC V 12 w) (k : Q (clF w num)) : W_X8_claimsOf num V Q := by
  have hp := h.1
  have main : ∀ (f : Nat) (i r : Int), 0 ≤ i → i ≤ w 359 → w 359 < i + f → r = cntB (fun c => decide (w (360 + 3 * c) = num)) i.toNat → lp_X8_claimsOf_4 num V (fun l2x6 l3x6 => Q l2x6) f r i := by
    intro f
    induction f with
    | zero => intro i r a b c; omega
    | succ f ih =>
      intro i r h0 h1 hf hr
      rw [lp_X8_claimsOf_4, hp.1]
      have hb := cntB_b (p := fun c => decide (w (360 + 3 * c) = num)) i.toNat
      refine br_c (fun c => ?_) (fun c => br_f (by omega) ⟨by omega, ?_⟩)
      · have e : i = w 359 := by omega
        subst e
        rw [hr]; exact k
      · have e : V (86 + 1 * i) 0 = w (360 + 3 * i) := (h.2 i h0 (by omega)).1.1
        rw [e]
        refine br_c (fun d => ⟨zr_i (by omega) (by omega), zr_i (by omega) (by omega), ih (i + 1) _ (by omega) (by omega) (by omega) ?_⟩) (fun d => ⟨zr_i (by omega) (by omega), ih (i + 1) _ (by omega) (by omega) (by omega) ?_⟩)
        · rw [cntB_s h0, hr]; simp [d, bit01]
        · rw [cntB_s h0, hr]; simp [d, bit01]
  exact main 100000 0 0 (by decide) hp.2.1 (by omega) rfl
theorem s_rareness {w : Int → Int} {marks : Int} {V : qV} {Q : Int → Prop} (h : tP V 12 w) (hm : 0 ≤ marks ∧ marks ≤ 4095) (k : Q (raF w marks)) : W_X8_rareness marks V Q := by
  unfold raF at k
  refine br_c (fun c => by rwa [if_pos c] at k) (fun c => ?_)
  rw [if_neg c] at k
  have main : ∀ (f : Nat) (i r : Int), 0 ≤ i → i ≤ 12 → 12 < i + f → r = rmF w marks i.toNat → lp_X8_rareness_11 marks V (fun l2x4 l3x4 => Q l2x4) f r i := by
    intro f
    induction f with
    | zero => intro i r a b c; omega
    | succ f ih =>
      intro i r h0 h1 hf hr
      rw [lp_X8_rareness_11, tb_sh hm.1 (by omega) h0]
      · have es : rmF w marks (i + 1).toNat = if tb marks i then min (rmF w marks i.toNat) (hvF w (zshl 1 i)) else rmF w marks i.toNat := by
          rw [show (i + 1).toNat = i.toNat + 1 by omega, rmF, Int.toNat_of_nonneg h0]
        refine br_c (fun c => ?_) (fun c => ?_)
        · have e : i = 12 := by omega
          subst e
          rw [hr]; exact k
        · by_cases ht : tb marks i = true
          · rw [if_pos ht]
            refine br_t rfl (s_havers h ⟨zr_i (by omega) (by omega), ih (i + 1) _ (by omega) (by omega) (by omega) ?_⟩)
            rw [es, if_pos ht, hr]
          · rw [if_neg ht]
            refine br_f (by decide) ⟨zr_i (by omega) (by omega), ih (i + 1) _ (by omega) (by omega) (by omega) ?_⟩
            rw [es, if_neg ht, hr]
      · omega
  exact main 100000 0 16 (by decide) (by decide) (by decide) rfl
theorem s_own {w : Int → Int} {pl : Int} {V : qV} {Q : Int → Prop} (h : tP V 12 w) (hpl : 0 ≤ pl ∧ pl ≤ 3) (k : Q (ohF w pl)) : W_X8_ownHundredths pl V Q := by
  have hp := h.1
  have hA : ∀ n : Nat, (n : Int) ≤ w 21 → 0 ≤ sumI (fun p => w (70 + 4 * p + pl)) n ∧ sumI (fun p => w (70 + 4 * p + pl)) n ≤ 99 * n := fun n hn => sumI_b (by decide) n (fun q a b => ((h.2 q a (by omega)).2.2.2 pl hpl.1 (by omega)).2)
  have hO : ∀ n : Nat, (n : Int) ≤ w 21 → 0 ≤ sumI (fun p => if w (22 + p) = 0 then w (70 + 4 * p + pl) else 0) n ∧ sumI (fun p => if w (22 + p) = 0 then w (70 + 4 * p + pl) else 0) n ≤ 99 * n := fun n hn => sumI_b (by decide) n (fun q a b => by
    have := ((h.2 q a (by omega)).2.2.2 pl hpl.1 (by omega)).2
    split
    · exact this
    · omega)
  have main : ∀ (f : Nat) (i a o : Int), 0 ≤ i → i ≤ w 21 → w 21 < i + f → a = sumI (fun p => w (70 + 4 * p + pl)) i.toNat → o = sumI (fun p => if w (22 + p) = 0 then w (70 + 4 * p + pl) else 0) i.toNat → lp_X8_ownHundredths_7 pl V (fun l2x25 l3x25 l4x25 => ((l2x25 ≤ 0 → Q 0) ∧ (¬ l2x25 ≤ 0 → (zr (l3x25 * 100) ∧ (0 < l2x25 ∧ Q ((l3x25 * 100).tdiv l2x25)))))) f a o i := by
    intro f
    induction f with
    | zero => intro i a o x y z; omega
    | succ f ih =>
      intro i a o h0 h1 hf ha ho
      have bA := hA i.toNat (by omega)
      have bO := hO i.toNat (by omega)
      rw [lp_X8_ownHundredths_7, hp.1]
      refine br_c (fun c => ?_) (fun c => br_f (by omega) (br_f (by omega) (br_f (by omega) ⟨by omega, by omega, ?_⟩)))
      · have e : i = w 21 := by omega
        subst e
        unfold ohF allF ownF at k
        rw [← ha, ← ho] at k
        refine br_c (fun d => ?_) (fun d => ⟨zr_i (by omega) (by omega), by omega, ?_⟩)
        · rwa [if_pos (by omega)] at k
        · rw [if_neg (by omega)] at k
          rw [Int.mul_comm]; exact k
      · have hq := h.2 i h0 (by omega)
        have e0 : V (22 + 2 * i) 0 = w (22 + i) := hq.1.1
        have e1 : V ((22 + 2 * i) + 1) pl = w (70 + 4 * i + pl) := (hq.2.2.2 pl hpl.1 (by omega)).1
        have e2 := (hq.2.2.2 pl hpl.1 (by omega)).2
        rw [e0, e1]
        refine ⟨zr_i (by omega) (by omega), by omega, br_c (fun d => ⟨zr_i (by omega) (by omega), zr_i (by omega) (by omega), ih (i + 1) _ _ (by omega) (by omega) (by omega) ?_ ?_⟩) (fun d => ⟨zr_i (by omega) (by omega), zr_i (by omega) (by omega), ih (i + 1) _ _ (by omega) (by omega) (by omega) ?_ ?_⟩)⟩
        · rw [sumI_s h0, ha]
        · rw [sumI_s h0, ho, if_pos d]
        · rw [sumI_s h0, ha]
        · rw [sumI_s h0, ho, if_neg d]
  exact main 100000 0 0 0 (by decide) hp.2.1 (by omega) rfl rfl
def bcE (a0 : Int) : Int := zand (qw ((qw ((zand (qw ((qw ((zand (qw (a0 - (zand (zushr a0 1) 1431655765))) 858993459) + (zand (zushr (qw (a0 - (zand (zushr a0 1) 1431655765))) 2) 858993459))) + (zushr (qw ((zand (qw (a0 - (zand (zushr a0 1) 1431655765))) 858993459) + (zand (zushr (qw (a0 - (zand (zushr a0 1) 1431655765))) 2) 858993459))) 4))) 252645135) + (zushr (zand (qw ((qw ((zand (qw (a0 - (zand (zushr a0 1) 1431655765))) 858993459) + (zand (zushr (qw (a0 - (zand (zushr a0 1) 1431655765))) 2) 858993459))) + (zushr (qw ((zand (qw (a0 - (zand (zushr a0 1) 1431655765))) 858993459) + (zand (zushr (qw (a0 - (zand (zushr a0 1) 1431655765))) 2) 858993459))) 4))) 252645135) 8))) + (zushr (qw ((zand (qw ((qw ((zand (qw (a0 - (zand (zushr a0 1) 1431655765))) 858993459) + (zand (zushr (qw (a0 - (zand (zushr a0 1) 1431655765))) 2) 858993459))) + (zushr (qw ((zand (qw (a0 - (zand (zushr a0 1) 1431655765))) 858993459) + (zand (zushr (qw (a0 - (zand (zushr a0 1) 1431655765))) 2) 858993459))) 4))) 252645135) + (zushr (zand (qw ((qw ((zand (qw (a0 - (zand (zushr a0 1) 1431655765))) 858993459) + (zand (zushr (qw (a0 - (zand (zushr a0 1) 1431655765))) 2) 858993459))) + (zushr (qw ((zand (qw (a0 - (zand (zushr a0 1) 1431655765))) 858993459) + (zand (zushr (qw (a0 - (zand (zushr a0 1) 1431655765))) 2) 858993459))) 4))) 252645135) 8))) 16))) 63
theorem bc_all : ∀ a, a < 64 → ∀ b, b < 64 → bcE ((64 * a + b : Nat) : Int) = bcF ((64 * a + b : Nat) : Int) := by decide +kernel
theorem s_bitCount {x : Int} {V : qV} {Q : Int → Prop} (h : 0 ≤ x ∧ x < 4096) (k : Q (bcF x)) : W_J6_bitCount_0f7a4 x V Q := by
  have := bc_all (x / 64).toNat (by omega) (x % 64).toNat (by omega)
  rw [show ((64 * (x / 64).toNat + (x % 64).toNat : Nat) : Int) = x by omega] at this
  show Q (bcE x)
  rw [this]
  exact k
theorem s_nameOf {w : Int → Int} {o num which : Int} {V : qV} {Q : Int → Prop} (hU : tU V 12 w) (hP : tP V 12 w) (hG : tG V 12 w) (hC : tC V 12 w) (h1 : 0 ≤ V o 1 ∧ V o 1 ≤ 3) (h3 : 0 ≤ V o 3 ∧ V o 3 ≤ 4095) (h5 : 0 ≤ V o 5 ∧ V o 5 ≤ 9999) (hw : 0 ≤ which ∧ which ≤ 9) (k : Q (nmG w (V o 0) (V o 1) (V o 2) (V o 3) (w 20 - V o 5) (V o 6) (clF w num) which)) : W_X8_nameOf o num which V Q := by
  have h20 := hU.1
  have h : which = 0 ∨ which = 1 ∨ which = 2 ∨ which = 3 ∨ which = 4 ∨ which = 5 ∨ which = 6 ∨ which = 7 ∨ which = 8 ∨ which = 9 := by omega
  unfold W_X8_nameOf
  rcases h with rfl | rfl | rfl | rfl | rfl | rfl | rfl | rfl | rfl | rfl
  · exact ⟨fun _ => k, fun h => absurd h (by decide), fun h => absurd h (by decide), fun h => absurd h (by decide), fun h => absurd h (by decide), fun h => absurd h (by decide), fun h => absurd h (by decide), fun h => absurd h (by decide), fun h => absurd h (by decide), fun h => absurd h (by decide)⟩
  · exact ⟨fun h => absurd h (by decide), fun _ => k, fun h => absurd h (by decide), fun h => absurd h (by decide), fun h => absurd h (by decide), fun h => absurd h (by decide), fun h => absurd h (by decide), fun h => absurd h (by decide), fun h => absurd h (by decide), fun h => absurd h (by decide)⟩
  · exact ⟨fun h => absurd h (by decide), fun h => absurd h (by decide), fun _ => k, fun h => absurd h (by decide), fun h => absurd h (by decide), fun h => absurd h (by decide), fun h => absurd h (by decide), fun h => absurd h (by decide), fun h => absurd h (by decide), fun h => absurd h (by decide)⟩
  · refine ⟨fun h => absurd h (by decide), fun h => absurd h (by decide), fun h => absurd h (by decide), fun _ => br_f (by omega) (br_f (by omega) ⟨by omega, ?_⟩), fun h => absurd h (by decide), fun h => absurd h (by decide), fun h => absurd h (by decide), fun h => absurd h (by decide), fun h => absurd h (by decide), fun h => absurd h (by decide)⟩
    have e : V 16 (V o 1) = w (134 + V o 1) := (hG (V o 1) h1.1 (by omega)).1.1
    rw [e]; exact k
  · exact ⟨fun h => absurd h (by decide), fun h => absurd h (by decide), fun h => absurd h (by decide), fun h => absurd h (by decide), fun _ => s_bitCount (by omega) k, fun h => absurd h (by decide), fun h => absurd h (by decide), fun h => absurd h (by decide), fun h => absurd h (by decide), fun h => absurd h (by decide)⟩
  · exact ⟨fun h => absurd h (by decide), fun h => absurd h (by decide), fun h => absurd h (by decide), fun h => absurd h (by decide), fun h => absurd h (by decide), fun _ => s_rareness hP h3 k, fun h => absurd h (by decide), fun h => absurd h (by decide), fun h => absurd h (by decide), fun h => absurd h (by decide)⟩
  · exact ⟨fun h => absurd h (by decide), fun h => absurd h (by decide), fun h => absurd h (by decide), fun h => absurd h (by decide), fun h => absurd h (by decide), fun h => absurd h (by decide), fun _ => s_own hP h1 k, fun h => absurd h (by decide), fun h => absurd h (by decide), fun h => absurd h (by decide)⟩
  · refine ⟨fun h => absurd h (by decide), fun h => absurd h (by decide), fun h => absurd h (by decide), fun h => absurd h (by decide), fun h => absurd h (by decide), fun h => absurd h (by decide), fun h => absurd h (by decide), fun _ => ⟨zr_i (by omega) (by omega), ?_⟩, fun h => absurd h (by decide), fun h => absurd h (by decide)⟩
    rw [h20.1]; exact k
  · exact ⟨fun h => absurd h (by decide), fun h => absurd h (by decide), fun h => absurd h (by decide), fun h => absurd h (by decide), fun h => absurd h (by decide), fun h => absurd h (by decide), fun h => absurd h (by decide), fun h => absurd h (by decide), fun _ => k, fun h => absurd h (by decide)⟩
  · exact ⟨fun h => absurd h (by decide), fun h => absurd h (by decide), fun h => absurd h (by decide), fun h => absurd h (by decide), fun h => absurd h (by decide), fun h => absurd h (by decide), fun h => absurd h (by decide), fun h => absurd h (by decide), fun h => absurd h (by decide), fun _ => s_claimsOf hC k⟩
