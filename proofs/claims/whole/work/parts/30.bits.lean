/-! bits of whole numbers -/
theorem fx_tn {a : Int} (h0 : 0 ≤ a) (h : a < 2147483648) : (iI a).toBitVec.toNat = a.toNat := by
  obtain ⟨n, rfl⟩ := Int.eq_ofNat_of_zero_le h0
  rw [iI_nat, pk_tn (by omega), Int.toNat_natCast]
theorem fx_ti {x : Int32} (h : x.toBitVec.toNat < 2147483648) : x.toInt = (x.toBitVec.toNat : Int) := by
  rw [Int32.toInt, BitVec.toInt_eq_toNat_of_lt (by omega)]
theorem fx_and {a b : Int} (ha : 0 ≤ a) (ha2 : a < 2147483648) (hb : 0 ≤ b) (hb2 : b < 2147483648) : zand a b = ((a.toNat &&& b.toNat : Nat) : Int) := by
  have h : (iI a &&& iI b).toBitVec.toNat = a.toNat &&& b.toNat := by
    rw [Int32.toBitVec_and, BitVec.toNat_and, fx_tn ha ha2, fx_tn hb hb2]
  have h2 : a.toNat &&& b.toNat ≤ a.toNat := Nat.and_le_left
  unfold zand
  rw [fx_ti (by rw [h]; omega), h]
theorem fx_or {a b : Int} (ha : 0 ≤ a) (ha2 : a < 2147483648) (hb : 0 ≤ b) (hb2 : b < 2147483648) : zor a b = ((a.toNat ||| b.toNat : Nat) : Int) := by
  have h : (iI a ||| iI b).toBitVec.toNat = a.toNat ||| b.toNat := by
    rw [Int32.toBitVec_or, BitVec.toNat_or, fx_tn ha ha2, fx_tn hb hb2]
  have h2 : a.toNat ||| b.toNat < 2 ^ 31 := Nat.or_lt_two_pow (by omega) (by omega)
  unfold zor
  rw [fx_ti (by rw [h]; omega), h]
theorem fx_xor {a b : Int} (ha : 0 ≤ a) (ha2 : a < 2147483648) (hb : 0 ≤ b) (hb2 : b < 2147483648) : zxor a b = ((a.toNat ^^^ b.toNat : Nat) : Int) := by
  have h : (iI a ^^^ iI b).toBitVec.toNat = a.toNat ^^^ b.toNat := by
    rw [Int32.toBitVec_xor, BitVec.toNat_xor, fx_tn ha ha2, fx_tn hb hb2]
  have h2 : a.toNat ^^^ b.toNat < 2 ^ 31 := Nat.xor_lt_two_pow (by omega) (by omega)
  unfold zxor
  rw [fx_ti (by rw [h]; omega), h]
theorem fx_sm : ∀ k, k < 32 → ((iI ((k : Nat) : Int) &&& 31).toBitVec.smod 32).toNat = k := by decide +kernel
theorem fx_shr {x k : Int} (hx : 0 ≤ x) (hx2 : x < 2147483648) (hk : 0 ≤ k) (hk2 : k < 32) : zshr x k = ((x.toNat / 2 ^ k.toNat : Nat) : Int) := by
  obtain ⟨n, rfl⟩ := Int.eq_ofNat_of_zero_le hx
  obtain ⟨j, rfl⟩ := Int.eq_ofNat_of_zero_le hk
  have h1 : n / 2 ^ j ≤ n := Nat.div_le_self _ _
  unfold zshr
  rw [iI_nat n, pk_shrN (by omega) _ j (fx_sm j (by omega)), nI_toInt (by omega), Int.toNat_natCast, Int.toNat_natCast]
theorem zshl_1 : ∀ k, k < 31 → zshl 1 ((k : Nat) : Int) = ((2 ^ k : Nat) : Int) := by decide +kernel
theorem fx_shl {k : Int} (h0 : 0 ≤ k) (h : k < 31) : zshl 1 k = ((2 ^ k.toNat : Nat) : Int) := by
  obtain ⟨j, rfl⟩ := Int.eq_ofNat_of_zero_le h0
  rw [zshl_1 j (by omega), Int.toNat_natCast]
/-- bit k of a number that isn't below 0 -/
def tb (x : Int) (k : Int) : Bool := x.toNat.testBit k.toNat
theorem tb_sh {x k : Int} (hx : 0 ≤ x) (hx2 : x < 2147483648) (hk : 0 ≤ k) (hk2 : k < 32) : zand (zshr x k) 1 = if tb x k then 1 else 0 := by
  have h1 : x.toNat / 2 ^ k.toNat ≤ x.toNat := Nat.div_le_self _ _
  have h2 : 0 ≤ ((x.toNat / 2 ^ k.toNat : Nat) : Int) := Int.natCast_nonneg _
  rw [fx_shr hx hx2 hk hk2, fx_and h2 (by omega) (by decide) (by decide)]
  simp only [tb, Int.toNat_natCast, Nat.testBit_eq_decide_div_mod_eq, decide_eq_true_eq]
  rw [show (1 : Int).toNat = 1 from rfl, Nat.and_one_is_mod]
  split <;> omega
theorem tb_and {a b : Int} (ha : 0 ≤ a) (ha2 : a < 2147483648) (hb : 0 ≤ b) (hb2 : b < 2147483648) (k : Int) : tb (zand a b) k = (tb a k && tb b k) := by
  rw [fx_and ha ha2 hb hb2, tb, Int.toNat_natCast, Nat.testBit_and]; rfl
theorem tb_or {a b : Int} (ha : 0 ≤ a) (ha2 : a < 2147483648) (hb : 0 ≤ b) (hb2 : b < 2147483648) (k : Int) : tb (zor a b) k = (tb a k || tb b k) := by
  rw [fx_or ha ha2 hb hb2, tb, Int.toNat_natCast, Nat.testBit_or]; rfl
theorem tb_xor {a b : Int} (ha : 0 ≤ a) (ha2 : a < 2147483648) (hb : 0 ≤ b) (hb2 : b < 2147483648) (k : Int) : tb (zxor a b) k = (tb a k ^^ tb b k) := by
  rw [fx_xor ha ha2 hb hb2, tb, Int.toNat_natCast, Nat.testBit_xor]; rfl
theorem tb_p {j k : Int} (hj : 0 ≤ j) (hj2 : j < 31) (hk : 0 ≤ k) : tb (zshl 1 j) k = decide (j = k) := by
  rw [fx_shl hj hj2, tb, Int.toNat_natCast, Nat.testBit_two_pow]
  by_cases h : j = k
  · simp [h]
  · have : j.toNat ≠ k.toNat := by omega
    simp [h, this]
theorem tb_0 (k : Int) : tb 0 k = false := by simp [tb]
theorem tb_ext {a b : Int} (ha : 0 ≤ a) (hb : 0 ≤ b) (h : ∀ k, 0 ≤ k → tb a k = tb b k) : a = b := by
  have : a.toNat = b.toNat := Nat.eq_of_testBit_eq fun i => by have := h (i : Int) (by omega); simpa [tb] using this
  omega
theorem tb_lt {a : Int} {n : Nat} (h : a < 2 ^ n) {k : Int} (hk : (n : Int) ≤ k) : tb a k = false := by
  unfold tb
  apply Nat.testBit_lt_two_pow
  have h1 : 2 ^ n ≤ 2 ^ k.toNat := Nat.pow_le_pow_right (by decide) (by omega)
  have h2 : ((2 ^ n : Nat) : Int) = 2 ^ n := by simp
  have h3 := Nat.two_pow_pos n
  omega
theorem lt_tb {a : Int} {n : Nat} (h : ∀ k : Int, (n : Int) ≤ k → tb a k = false) : a < 2 ^ n := by
  have h1 : a.toNat < 2 ^ n := Nat.lt_pow_two_of_testBit _ fun i hi => by have := h (i : Int) (by omega); simpa [tb] using this
  have h2 : ((2 ^ n : Nat) : Int) = 2 ^ n := by simp
  omega
theorem zor_r0 {a b : Int} (ha : 0 ≤ a) (ha2 : a < 2147483648) (hb : 0 ≤ b) (hb2 : b < 2147483648) : 0 ≤ zor a b := by rw [fx_or ha ha2 hb hb2]; omega
theorem zor_rn {a b : Int} {n : Nat} (hn : n ≤ 31) (ha : 0 ≤ a) (ha2 : a < 2 ^ n) (hb : 0 ≤ b) (hb2 : b < 2 ^ n) : 0 ≤ zor a b ∧ zor a b < 2 ^ n := by
  have h1 : 2 ^ n ≤ 2 ^ 31 := Nat.pow_le_pow_right (by decide) hn
  have h2 : ((2 ^ n : Nat) : Int) = 2 ^ n := by simp
  rw [fx_or ha (by omega) hb (by omega)]
  have : a.toNat ||| b.toNat < 2 ^ n := Nat.or_lt_two_pow (by omega) (by omega)
  omega
theorem zand_rn {a b : Int} (ha : 0 ≤ a) (ha2 : a < 2147483648) (hb : 0 ≤ b) (hb2 : b < 2147483648) : 0 ≤ zand a b ∧ zand a b ≤ a ∧ zand a b ≤ b := by
  rw [fx_and ha ha2 hb hb2]
  have h2 : a.toNat &&& b.toNat ≤ a.toNat := Nat.and_le_left
  have h3 : a.toNat &&& b.toNat ≤ b.toNat := Nat.and_le_right
  omega
theorem zxor_rn {a b : Int} {n : Nat} (hn : n ≤ 31) (ha : 0 ≤ a) (ha2 : a < 2 ^ n) (hb : 0 ≤ b) (hb2 : b < 2 ^ n) : 0 ≤ zxor a b ∧ zxor a b < 2 ^ n := by
  have h1 : 2 ^ n ≤ 2 ^ 31 := Nat.pow_le_pow_right (by decide) hn
  have h2 : ((2 ^ n : Nat) : Int) = 2 ^ n := by simp
  rw [fx_xor ha (by omega) hb (by omega)]
  have : a.toNat ^^^ b.toNat < 2 ^ n := Nat.xor_lt_two_pow (by omega) (by omega)
  omega
theorem zshl_rn {k : Int} {n : Nat} (hn : n ≤ 31) (h0 : 0 ≤ k) (h : k < n) : 0 < zshl 1 k ∧ zshl 1 k < 2 ^ n := by
  rw [fx_shl h0 (by omega)]
  have h1 : 2 ^ k.toNat < 2 ^ n := Nat.pow_lt_pow_right (by decide) (by omega)
  have h2 : ((2 ^ n : Nat) : Int) = 2 ^ n := by simp
  have h3 := Nat.two_pow_pos k.toNat
  omega
theorem fx_and255 {x : Int} : zand x 255 = x % 256 := by
  have h1 : iI 255 = 255 := by decide
  have h2 := pk_and (iI x) (m := 255) 8 (by decide)
  unfold zand
  rw [h1, h2, nI_toInt (by omega)]
  have h3 : ((iI x).toBitVec.toNat : Int) = x % 4294967296 := by
    show ((BitVec.ofInt 32 x).toNat : Int) = _
    rw [BitVec.toNat_ofInt]
    omega
  omega
theorem fx_bm (x : Int) : x.bmod 256 = (x % 256).bmod 256 := (Int.emod_bmod (x := x) (n := 256)).symm
/-- longs as sets of 64 -/
def hb (x : Int64) (k : Int) : Bool := x.toBitVec.getLsbD k.toNat
theorem hb_and (x y : Int64) (k : Int) : hb (x &&& y) k = (hb x k && hb y k) := by simp [hb, Int64.toBitVec_and]
theorem hb_or (x y : Int64) (k : Int) : hb (x ||| y) k = (hb x k || hb y k) := by simp [hb, Int64.toBitVec_or]
theorem hb_xor (x y : Int64) (k : Int) : hb (x ^^^ y) k = (hb x k ^^ hb y k) := by simp [hb, Int64.toBitVec_xor]
theorem hb_0 (k : Int) : hb 0 k = false := by simp [hb]
theorem fx_m1 : ∀ k, k < 64 → (-1 : Int64).toBitVec.getLsbD k = true := by decide +kernel
theorem hb_m1 {k : Int} (h : k < 64) : hb (-1) k = true := fx_m1 k.toNat (by omega)
theorem hb_not (x : Int64) {k : Int} (h : k < 64) : hb (x ^^^ (-1)) k = !hb x k := by rw [hb_xor, hb_m1 h]; simp
theorem hb_ext {x y : Int64} (h : ∀ k : Int, 0 ≤ k → k < 64 → hb x k = hb y k) : x = y := by
  apply Int64.toBitVec_inj.mp
  apply BitVec.eq_of_getLsbD_eq
  intro i hi
  have := h (i : Int) (by omega) (by omega)
  simpa [hb] using this
theorem hb_z {x : Int64} : x = 0 ↔ ∀ k : Int, 0 ≤ k → k < 64 → hb x k = false :=
  ⟨fun h k _ _ => by rw [h, hb_0], fun h => hb_ext fun k a b => by rw [h k a b, hb_0]⟩
theorem fx_s63 : ∀ k, k < 64 → ((iI ((k : Nat) : Int)).toInt64 &&& 63).toBitVec.smod 64 = BitVec.ofNat 64 k := by decide +kernel
