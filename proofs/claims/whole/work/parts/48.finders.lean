/-! who found it, who has it -/
def rkF (w : Int → Int) (b i : Int) : Int := 1000 * w (b + 9 + 3 * i + 1) + 999 - w (b + 9 + 3 * i + 2)
def fdA (w : Int → Int) (b : Int) : Nat → Int
  | 0 => -1
  | n + 1 => if fdA w b n < rkF w b n then rkF w b n else fdA w b n
def fdB (w : Int → Int) (b : Int) : Nat → Int
  | 0 => 0
  | n + 1 => if fdA w b n < rkF w b n then zor 0 (zshl 1 (w (b + 9 + 3 * n))) else if rkF w b n = fdA w b n then zor (fdB w b n) (zshl 1 (w (b + 9 + 3 * n))) else fdB w b n
theorem fdA_s {w : Int → Int} {b i : Int} (h : 0 ≤ i) : fdA w b (i + 1).toNat = if fdA w b i.toNat < rkF w b i then rkF w b i else fdA w b i.toNat := by
  rw [show (i + 1).toNat = i.toNat + 1 by omega, fdA, Int.toNat_of_nonneg h]
theorem fdB_s {w : Int → Int} {b i : Int} (h : 0 ≤ i) : fdB w b (i + 1).toNat = if fdA w b i.toNat < rkF w b i then zor 0 (zshl 1 (w (b + 9 + 3 * i))) else if rkF w b i = fdA w b i.toNat then zor (fdB w b i.toNat) (zshl 1 (w (b + 9 + 3 * i))) else fdB w b i.toNat := by
  rw [show (i + 1).toNat = i.toNat + 1 by omega, fdB, Int.toNat_of_nonneg h]
def fdF (w : Int → Int) (b : Int) : Int := fdB w b (w (b + 8)).toNat
theorem fdB_b {w : Int → Int} {b : Int} (hw : ∀ i, 0 ≤ i → i < w (b + 8) → 0 ≤ w (b + 9 + 3 * i) ∧ w (b + 9 + 3 * i) < 16) : ∀ n : Nat, (n : Int) ≤ w (b + 8) → 0 ≤ fdB w b n ∧ fdB w b n < 65536
  | 0, _ => by simp [fdB]
  | n + 1, hn => by
    have h1 := fdB_b hw n (by omega)
    have h2 := hw n (by omega) (by omega)
    have h3 := zshl_rn (k := w (b + 9 + 3 * n)) (n := 16) (by decide) h2.1 (by omega)
    have h4 := zor_rn (a := fdB w b n) (b := zshl 1 (w (b + 9 + 3 * n))) (n := 16) (by decide) h1.1 (by omega) (by omega) h3.2
    have h5 := zor_rn (a := 0) (b := zshl 1 (w (b + 9 + 3 * n))) (n := 16) (by decide) (by decide) (by decide) (by omega) h3.2
    rw [fdB]
    split
    · omega
    · split <;> omega
theorem s_finderBits {w : Int → Int} {o b many today : Int} {V : qV} {Q : Int → Prop} (h : fR V o w b many today) (k : Q (fdF w b)) : W_X1_finderBits o V Q := by
  obtain ⟨-, -, -, -, -, -, -, -, h9, hh⟩ := h
  have main : ∀ (f : Nat) (i bi ho ti : Int), 0 ≤ i → i ≤ w (b + 8) → w (b + 8) < i + f → (-1 ≤ ho ∧ 0 ≤ ti ∧ ti ≤ 999) → 1000 * ho + 999 - ti = fdA w b i.toNat → bi = fdB w b i.toNat → lp_X1_finderBits_9 o V (fun l1x32 l2x32 l3x32 l4x32 => Q l1x32) f bi ho ti i := by
    intro f
    induction f with
    | zero => intro i bi ho ti a b c; omega
    | succ f ih =>
      intro i bi ho ti h0 h1 hf hr hA hB
      rw [lp_X1_finderBits_9, h9.1]
      refine br_c (fun c => ?_) (fun c => ?_)
      · have e : i = w (b + 8) := by omega
        subst e
        rw [hB]; exact k
      · obtain ⟨p1, p2, p3⟩ := hh i h0 (by omega)
        rw [p1.1, p2.1, p3.1]
        have sA := fdA_s (w := w) (b := b) h0
        have sB := fdB_s (w := w) (b := b) h0
        have hrk : rkF w b i = 1000 * w (b + 9 + 3 * i + 1) + 999 - w (b + 9 + 3 * i + 2) := rfl
        by_cases c1 : fdA w b i.toNat < rkF w b i
        · rw [if_pos c1] at sA sB
          have go := ih (i + 1) (zor 0 (zshl 1 (w (b + 9 + 3 * i)))) (w (b + 9 + 3 * i + 1)) (w (b + 9 + 3 * i + 2)) (by omega) (by omega) (by omega) (by omega) (by omega) sB.symm
          by_cases c2 : ho < w (b + 9 + 3 * i + 1)
          · repeat' (first | exact go | refine br_f (by omega) ?_ | refine br_t (by omega) ?_ | refine ⟨by omega, ?_⟩ | refine ⟨zr_i (by omega) (by omega), ?_⟩)
          · repeat' (first | exact go | refine br_f (by omega) ?_ | refine br_t (by omega) ?_ | refine ⟨by omega, ?_⟩ | refine ⟨zr_i (by omega) (by omega), ?_⟩)
        · rw [if_neg c1] at sA sB
          by_cases c3 : rkF w b i = fdA w b i.toNat
          · rw [if_pos c3] at sB
            have go := ih (i + 1) (zor bi (zshl 1 (w (b + 9 + 3 * i)))) ho ti (by omega) (by omega) (by omega) hr (by omega) (by rw [sB, hB])
            repeat' (first | exact go | refine br_f (by omega) ?_ | refine br_t (by omega) ?_ | refine ⟨by omega, ?_⟩ | refine ⟨zr_i (by omega) (by omega), ?_⟩)
          · rw [if_neg c3] at sB
            have go := ih (i + 1) bi ho ti (by omega) (by omega) (by omega) hr (by omega) (by rw [sB, hB])
            by_cases c4 : w (b + 9 + 3 * i + 1) = ho
            · repeat' (first | exact go | refine br_f (by omega) ?_ | refine br_t (by omega) ?_ | refine ⟨by omega, ?_⟩ | refine ⟨zr_i (by omega) (by omega), ?_⟩)
            · repeat' (first | exact go | refine br_f (by omega) ?_ | refine br_t (by omega) ?_ | refine ⟨by omega, ?_⟩ | refine ⟨zr_i (by omega) (by omega), ?_⟩)
  exact main 100000 0 0 (-1) 0 (by decide) h9.2.1 (by omega) (by decide) rfl rfl
/-- a find of the reference: its holds in their ranges -/
def mH (w : Int → Int) (b : Int) : Prop := (0 ≤ w (b + 8) ∧ w (b + 8) ≤ 6) ∧ ∀ i, 0 ≤ i → i < w (b + 8) → (0 ≤ w (b + 9 + 3 * i) ∧ w (b + 9 + 3 * i) < 16) ∧ (0 ≤ w (b + 9 + 3 * i + 1) ∧ w (b + 9 + 3 * i + 1) ≤ 2) ∧ (0 ≤ w (b + 9 + 3 * i + 2) ∧ w (b + 9 + 3 * i + 2) ≤ 999)
theorem m_findersOf {f : Int} {V : qV} {Q : Int → Prop} (hf : 0 ≤ f ∧ f < 8) (h : mH (V 603) (143 + 27 * f)) (k : Q (fdF (V 603) (143 + 27 * f))) : W_X11_findersOf f V Q := by
  refine ⟨zr_i (by omega) (by omega), zr_i (by omega) (by omega), ?_⟩
  obtain ⟨h9, hh⟩ := h
  have main : ∀ (g : Nat) (i r bi : Int), 0 ≤ i → i ≤ V 603 (143 + 27 * f + 8) → V 603 (143 + 27 * f + 8) < i + g → r = fdA (V 603) (143 + 27 * f) i.toNat → bi = fdB (V 603) (143 + 27 * f) i.toNat → lp_X11_findersOf_13 (143 + 27 * f) V (fun l3x20 l4x20 l5x20 => Q l4x20) g r bi i := by
    intro g
    induction g with
    | zero => intro i r bi a b c; omega
    | succ g ih =>
      intro i r bi h0 h1 hg hA hB
      rw [lp_X11_findersOf_13]
      refine ⟨zr_i (by omega) (by omega), by omega, br_c (fun c => ?_) (fun c => ?_)⟩
      · have e : i = V 603 (143 + 27 * f + 8) := by omega
        subst e
        rw [hB]; exact k
      · obtain ⟨p1, p2, p3⟩ := hh i h0 (by omega)
        have sA := fdA_s (w := V 603) (b := 143 + 27 * f) h0
        have sB := fdB_s (w := V 603) (b := 143 + 27 * f) h0
        have hrk : rkF (V 603) (143 + 27 * f) i = 1000 * V 603 (143 + 27 * f + 9 + 3 * i + 1) + 999 - V 603 (143 + 27 * f + 9 + 3 * i + 2) := rfl
        rw [← hrk]
        refine ⟨zr_i (by omega) (by omega), zr_i (by omega) (by omega), zr_i (by omega) (by omega), zr_i (by omega) (by omega), by omega, zr_i (by omega) (by omega), zr_i (by omega) (by omega), zr_i (by omega) (by omega), by omega, zr_i (by omega) (by omega), ?_⟩
        by_cases c1 : r < rkF (V 603) (143 + 27 * f) i
        · rw [if_pos (by omega)] at sA sB
          exact br_f (by omega) (br_t rfl ⟨by omega, zr_i (by omega) (by omega), ih (i + 1) _ _ (by omega) (by omega) (by omega) sA.symm sB.symm⟩)
        · rw [if_neg (by omega)] at sA sB
          refine br_t (by omega) (br_c (fun d => ⟨by omega, zr_i (by omega) (by omega), ih (i + 1) _ _ (by omega) (by omega) (by omega) (by omega) ?_⟩) (fun d => ⟨zr_i (by omega) (by omega), ih (i + 1) _ _ (by omega) (by omega) (by omega) (by omega) ?_⟩))
          · rw [if_pos (by omega)] at sB; rw [sB, hB]
          · rw [if_neg (by omega)] at sB; rw [sB, hB]
  exact main 100000 0 (-1) 0 (by decide) h9.1 (by omega) rfl rfl
/-- who has it: the one to whom it was passed on last, or those who found it -/
def haF (w : Int → Int) (f : Int) : Int := if lastTo w f (w 432).toNat = -1 then fdF w (143 + 27 * f) else zshl 1 (lastTo w f (w 432).toNat)
theorem s_hadBy {w : Int → Int} {f o many today : Int} {V : qV} {Q : Int → Prop} (h : fR V o w (143 + 27 * f) many today) (h8 : V o 8 = lastTo w f (w 432).toNat) (k : Q (haF w f)) : W_X1_hadBy o V Q := by
  unfold haF at k
  rw [← h8] at k
  refine br_c (fun c => s_finderBits h ?_) (fun c => ?_)
  · rwa [if_pos c] at k
  · rwa [if_neg c] at k
def mS (w : Int → Int) : Prop := (0 ≤ w 432 ∧ w 432 ≤ 40) ∧ ∀ c, 0 ≤ c → c < w 432 → (0 ≤ w (433 + 4 * c + 1) ∧ w (433 + 4 * c + 1) < w 21) ∧ (0 ≤ w (433 + 4 * c + 2) ∧ w (433 + 4 * c + 2) < w 21) ∧ (0 ≤ w (433 + 4 * c + 3) ∧ w (433 + 4 * c + 3) ≤ 9999)
theorem lastTo_s {w : Int → Int} {f i : Int} (h : 0 ≤ i) : lastTo w f (i + 1).toNat = if w (433 + 4 * i) = f then w (433 + 4 * i + 2) else lastTo w f i.toNat := by
  rw [show (i + 1).toNat = i.toNat + 1 by omega, lastTo, Int.toNat_of_nonneg h]
theorem m_hasNow {f : Int} {V : qV} {Q : Int → Prop} (hf : 0 ≤ f ∧ f < 8) (h : mH (V 603) (143 + 27 * f)) (hs : mS (V 603)) (k : Q (haF (V 603) f)) : W_X11_hasNow f V Q := by
  refine m_findersOf hf h ?_
  have main : ∀ (g : Nat) (i r : Int), 0 ≤ i → i ≤ V 603 432 → V 603 432 < i + g → r = (if lastTo (V 603) f i.toNat = -1 then fdF (V 603) (143 + 27 * f) else zshl 1 (lastTo (V 603) f i.toNat)) → lp_X11_hasNow_8 f V (fun l2x11 l3x11 => Q l2x11) g r i := by
    intro g
    induction g with
    | zero => intro i r a b c; omega
    | succ g ih =>
      intro i r h0 h1 hg hr
      have hs1 := hs.1
      rw [lp_X11_hasNow_8]
      refine br_c (fun c => ?_) (fun c => ⟨zr_i (by omega) (by omega), zr_i (by omega) (by omega), by omega, br_c (fun d => ⟨zr_i (by omega) (by omega), zr_i (by omega) (by omega), zr_i (by omega) (by omega), by omega, zr_i (by omega) (by omega), ih (i + 1) _ (by omega) (by omega) (by omega) ?_⟩) (fun d => ⟨zr_i (by omega) (by omega), ih (i + 1) _ (by omega) (by omega) (by omega) ?_⟩)⟩)
      · have e : i = V 603 432 := by omega
        subst e
        rw [hr]; exact k
      · have := (hs.2 i h0 (by omega)).2.1
        rw [lastTo_s h0, if_pos d, if_neg (by omega)]
      · rw [lastTo_s h0, if_neg d]; exact hr
  exact main 100000 0 _ (by decide) hs.1.1 (by have := hs.1; omega) (by simp [lastTo])
theorem haF_b {w : Int → Int} {f : Int} (h : mH w (143 + 27 * f)) (hs : mS w) (h21 : w 21 ≤ 16) : 0 ≤ haF w f ∧ haF w f < 65536 := by
  have hl : ∀ n : Nat, (n : Int) ≤ w 432 → -1 ≤ lastTo w f n ∧ lastTo w f n < 16 := by
    intro n
    induction n with
    | zero => intro _; simp [lastTo]
    | succ n ih =>
      intro hn
      have h1 := ih (by omega)
      have h2 := (hs.2 n (by omega) (by omega)).2.1
      rw [lastTo]
      split
      · omega
      · exact h1
  have h1 := hl (w 432).toNat (by have := hs.1; omega)
  have h2 := fdB_b (w := w) (b := 143 + 27 * f) (fun i a b => (h.2 i a b).1) (w (143 + 27 * f + 8)).toNat (by have := h.1; omega)
  unfold haF
  split
  · exact h2
  · have := zshl_rn (k := lastTo w f (w 432).toNat) (n := 16) (by decide) (by omega) (by omega)
    omega
/-! ranges of the reference's row, out of the relation -/
theorem fR_mH {V : qV} {o b many today : Int} {w : Int → Int} (h : fR V o w b many today) (hm : many ≤ 16) : mH w b := by
  obtain ⟨-, -, -, -, -, -, -, -, h9, hh⟩ := h
  refine ⟨h9.2, fun i a c => ?_⟩
  have := hh i a c
  omega
