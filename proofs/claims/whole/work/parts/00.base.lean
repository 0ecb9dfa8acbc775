/-! whole numbers, bit work, memory: words without the machine -/
def zByt : List Int32 := [102, 105, 110, 100, 101, 114, 32, 111, 119, 110, 101, 114, 32, 103, 114, 111, 117, 110, 100, 32, 104, 97, 108, 118, 101, 115, 32, 99, 114, 111, 119, 110, 32, 119, 97, 121, 32, 112, 108, 97, 99, 101, 32, 119, 111, 114, 116, 104, 32, 119, 97, 108, 108, 101, 100, 32, 109, 97, 114, 107, 115, 32, 114, 97, 114, 101, 32, 111, 119, 110, 32, 97, 103, 101, 32, 99, 114, 105, 101, 100, 32, 99, 108, 97, 105, 109, 115, 32, 99, 114, 121, 32, 105, 102, 32, 111, 114, 32, 97, 110, 100, 32, 110, 111, 116]
def iI (z : Int) : Int32 := Int32.ofInt z
def zr (z : Int) : Prop := -2147483648 ≤ z ∧ z < 2147483648
theorem iI_add (a b : Int) : iI a + iI b = iI (a + b) := (Int32.ofInt_add a b).symm
theorem iI_sub (a b : Int) : iI a - iI b = iI (a - b) := (Int32.ofInt_sub a b).symm
theorem iI_mul (a b : Int) : iI a * iI b = iI (a * b) := (Int32.ofInt_mul a b).symm
theorem iI_neg (a : Int) : -iI a = iI (-a) := (Int32.ofInt_neg a).symm
theorem iI_toInt {a : Int} (h : zr a) : (iI a).toInt = a := by
  obtain ⟨h1, h2⟩ := h
  rw [iI, Int32.toInt_ofInt, show Int32.size = 4294967296 from rfl]
  exact Int.bmod_eq_of_le (by omega) (by omega)
theorem iI_lt {a b : Int} (ha : zr a) (hb : zr b) : iI a < iI b ↔ a < b := by rw [Int32.lt_iff_toInt_lt, iI_toInt ha, iI_toInt hb]
theorem iI_le {a b : Int} (ha : zr a) (hb : zr b) : iI a ≤ iI b ↔ a ≤ b := by rw [Int32.le_iff_toInt_le, iI_toInt ha, iI_toInt hb]
theorem iI_eq {a b : Int} (ha : zr a) (hb : zr b) : iI a = iI b ↔ a = b := ⟨fun h => by have := congrArg Int32.toInt h; rwa [iI_toInt ha, iI_toInt hb] at this, fun h => by rw [h]⟩
theorem iI_nat (n : Nat) : iI (n : Int) = nI n := by
  apply Int32.toInt_inj.mp
  rw [iI, nI, Int32.toInt_ofInt, Int32.toInt_ofNat']
theorem iI_of (x : Int32) : x = iI x.toInt := by
  apply Int32.toInt_inj.mp
  rw [iI_toInt]
  exact ⟨x.le_toInt, x.toInt_lt⟩
theorem zr_of (x : Int32) : zr x.toInt := ⟨x.le_toInt, x.toInt_lt⟩
theorem iI_idx {z : Int} (h : 0 ≤ z) : iI z = nI z.toNat := by rw [← iI_nat, Int.toNat_of_nonneg h]
theorem iI_div {a b : Int} (ha : zr a) (hb : 0 < b) (hb2 : zr b) : iI a / iI b = iI (a.tdiv b) := by
  apply Int32.toInt_inj.mp
  have h0 : b ≠ 0 := by omega
  have h1 : zr (a.tdiv b) := by
    obtain ⟨h1, h2⟩ := ha
    have h3 := Int.natAbs_tdiv a b
    have h4 : (a.tdiv b).natAbs ≤ a.natAbs := by rw [h3]; exact Nat.div_le_self _ _
    rcases Int.le_total 0 a with q | q
    · have := Int.tdiv_nonneg q (Int.le_of_lt hb)
      constructor <;> omega
    · have h5 : a.tdiv b ≤ 0 := by
        have h6 := Int.tdiv_nonneg (a := -a) (b := b) (by omega) (by omega)
        rw [Int.neg_tdiv] at h6
        omega
      constructor <;> omega
  rw [Int32.toInt_div, iI_toInt ha, iI_toInt hb2, iI_toInt h1]
  obtain ⟨h3, h4⟩ := h1
  exact Int.bmod_eq_of_le (by omega) (by omega)
theorem z0 : zr 0 := ⟨by decide, by decide⟩
def zand (a b : Int) : Int := (iI a &&& iI b).toInt
def zor (a b : Int) : Int := (iI a ||| iI b).toInt
def zxor (a b : Int) : Int := (iI a ^^^ iI b).toInt
def zshl (a b : Int) : Int := (iI a <<< (iI b &&& 31)).toInt
def zshr (a b : Int) : Int := (iI a >>> (iI b &&& 31)).toInt
def zlc (x y : Int64) : Int := (lg_cmp x y).toInt
theorem zand_r (a b : Int) : zr (zand a b) := zr_of _
theorem zor_r (a b : Int) : zr (zor a b) := zr_of _
theorem zxor_r (a b : Int) : zr (zxor a b) := zr_of _
theorem zshl_r (a b : Int) : zr (zshl a b) := zr_of _
theorem zshr_r (a b : Int) : zr (zshr a b) := zr_of _
theorem zlc_r (x y : Int64) : zr (zlc x y) := zr_of _
/-- the chars of all words, one behind the other -/
def qtx (z : Int) : Int := (zByt.getD z.toNat 0).toInt
theorem qtx_r (z : Int) : zr (qtx z) := zr_of _
/-- a shift without sign, of ints and longs -/
def zushr (a b : Int) : Int := ((iI a).toUInt32 >>> ((iI b).toUInt32 &&& Int32.toUInt32 31)).toInt32.toInt
theorem zushr_r (a b : Int) : zr (zushr a b) := zr_of _
abbrev qV : Type := Int → Int → Int
abbrev qJ : Type := Int → Int → Int64
def qu {α : Type} (f : Int → Int → α) (a k : Int) (v : α) : Int → Int → α := fun i j => if i = a then (if j = k then v else f i j) else f i j
theorem qu_s {α : Type} (f : Int → Int → α) (a k : Int) (v : α) : qu f a k v a k = v := by simp [qu]
theorem qu_o {α : Type} (f : Int → Int → α) {a k i : Int} (v : α) (h : i ≠ a) (j : Int) : qu f a k v i j = f i j := by simp [qu, h]
theorem qu_j {α : Type} (f : Int → Int → α) {a k i j : Int} (v : α) (h : j ≠ k) : qu f a k v i j = f i j := by simp [qu, h]
def qcp {α : Type} (f : Int → Int → α) (b a : Int) (n : Int) : Int → Int → α := fun i j => if i = a ∧ j < n then f b j else f i j
/-- TRUE_BITS -/
def qTB (z : Int) : Int64 := if z = 0 then -6148914691236517206 else if z = 1 then -3689348814741910324 else if z = 2 then -1085102592571150096 else if z = 3 then -71777214294589696 else if z = 4 then -281470681808896 else -4294967296
def qLn (o : Int) : Int := if o = 166 then 16 else 80
theorem qLn_r (o : Int) : zr (qLn o) := by unfold qLn zr; split <;> omega
/-- a new row for the cubes -/
def qz (V : qV) (o : Int) : qV := fun i j => if i = o then 0 else V i j
def qcub (V : qV) (o n : Int) : qV := qu (qu (qz V o) 159 7 o) 159 100 n
theorem qcub_o {V : qV} {o n i j : Int} (h1 : i ≠ o) (h2 : i ≠ 159) : qcub V o n i j = V i j := by
  unfold qcub; rw [qu_o _ _ h2, qu_o _ _ h2]; simp [qz, h1]
theorem qcub_r {V : qV} {o n j : Int} (h0 : (159 : Int) ≠ o) (h1 : j ≠ 7) (h2 : j ≠ 100) : qcub V o n 159 j = V 159 j := by
  unfold qcub; rw [qu_j _ _ h2, qu_j _ _ h1]; simp [qz, h0]
theorem qcub_7 {V : qV} {o n : Int} : qcub V o n 159 7 = o := by unfold qcub; rw [qu_j _ _ (by decide), qu_s]
theorem qcub_l {V : qV} {o n : Int} : qcub V o n 159 100 = n := by unfold qcub; rw [qu_s]
theorem qcub_n {V : qV} {o n j : Int} (h : o ≠ 159) : qcub V o n o j = 0 := by unfold qcub; rw [qu_o _ _ h, qu_o _ _ h]; simp [qz]
theorem q_tdiv {x y : Int} (hx : zr x) (hy : 0 < y) : zr (x.tdiv y) := by
  have h1 : (x.tdiv y).natAbs ≤ x.natAbs := by
    rw [Int.natAbs_tdiv]; exact Nat.div_le_self _ _
  have h3 : 0 ≤ x → 0 ≤ x.tdiv y := fun h => Int.tdiv_nonneg h (by omega)
  have h4 : x ≤ 0 → x.tdiv y ≤ 0 := fun h => by have h5 := Int.tdiv_nonneg (a := -x) (b := y) (by omega) (by omega); rw [Int.neg_tdiv] at h5; omega
  unfold zr at *
  omega
theorem q_tmod {x y : Int} (hx : zr x) : zr (x.tmod y) := by
  have h1 : (x.tmod y).natAbs ≤ x.natAbs := by
    rw [Int.natAbs_tmod]; exact Nat.mod_le _ _
  have h3 : 0 ≤ x → 0 ≤ x.tmod y := fun h => Int.tmod_nonneg _ h
  have h4 : x ≤ 0 → x.tmod y ≤ 0 := fun h => by have h5 := Int.tmod_nonneg (a := -x) y (by omega); rw [Int.neg_tmod] at h5; omega
  unfold zr at *
  omega
theorem q_bm {x : Int} : zr (x.bmod 256) := by
  have h1 := Int.le_bmod (x := x) (m := 256) (by decide)
  have h2 := Int.bmod_lt (x := x) (m := 256) (by decide)
  unfold zr
  omega
theorem q_bm2 {x : Int} : -128 ≤ x.bmod 256 ∧ x.bmod 256 < 128 := by
  have h1 := Int.le_bmod (x := x) (m := 256) (by decide)
  have h2 := Int.bmod_lt (x := x) (m := 256) (by decide)
  omega
theorem q_mx {x y : Int} (hx : zr x) (hy : zr y) : zr (max x y) := by unfold zr at *; omega
theorem q_mn {x y : Int} (hx : zr x) (hy : zr y) : zr (min x y) := by unfold zr at *; omega
/-- a whole number as the machine keeps it -/
def qw (x : Int) : Int := (iI x).toInt
theorem qw_r (x : Int) : zr (qw x) := zr_of _
theorem qw_e {x : Int} (h : zr x) : qw x = x := iI_toInt h
