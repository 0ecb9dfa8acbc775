/-! Long.bitCount counts bits -/
def tn (x : Int64) : Nat := x.toBitVec.toNat
theorem tn_lt (x : Int64) : tn x < 18446744073709551616 := x.toBitVec.isLt
theorem tn_and (x y : Int64) : tn (x &&& y) = tn x &&& tn y := by unfold tn; rw [Int64.toBitVec_and, BitVec.toNat_and]
theorem tn_add {x y : Int64} (h : tn x + tn y < 18446744073709551616) : tn (x + y) = tn x + tn y := by
  unfold tn at h ⊢
  rw [Int64.toBitVec_add, BitVec.toNat_add, Nat.mod_eq_of_lt h]
theorem tn_sub {x y : Int64} (h : tn y ≤ tn x) : tn (x - y) = tn x - tn y := by
  have := tn_lt x
  unfold tn at h this ⊢
  rw [Int64.toBitVec_sub, BitVec.toNat_sub]
  omega
theorem tn_shr (x : Int64) (k : UInt64) : tn ((x.toUInt64 >>> k).toInt64) = tn x / 2 ^ (k.toNat % 64) := by
  show (x.toUInt64 >>> k).toNat = _
  rw [UInt64.toNat_shiftRight, Nat.shiftRight_eq_div_pow]; rfl
def aU (k : Int) : UInt64 := (iI k).toInt64.toUInt64 &&& Int64.toUInt64 63
theorem tn_s1 (x : Int64) : tn ((x.toUInt64 >>> aU 1).toInt64) = tn x / 2 := tn_shr x _
theorem tn_s2 (x : Int64) : tn ((x.toUInt64 >>> aU 2).toInt64) = tn x / 4 := tn_shr x _
theorem tn_s4 (x : Int64) : tn ((x.toUInt64 >>> aU 4).toInt64) = tn x / 16 := tn_shr x _
theorem tn_s8 (x : Int64) : tn ((x.toUInt64 >>> aU 8).toInt64) = tn x / 256 := tn_shr x _
theorem tn_s16 (x : Int64) : tn ((x.toUInt64 >>> aU 16).toInt64) = tn x / 65536 := tn_shr x _
theorem tn_s32 (x : Int64) : tn ((x.toUInt64 >>> aU 32).toInt64) = tn x / 4294967296 := tn_shr x _
/-! the same among natural numbers, byte by byte -/
theorem and_sp {a b m n : Nat} (ha : a < 256) (hm : m < 256) : (a + 256 * b) &&& (m + 256 * n) = (a &&& m) + 256 * (b &&& n) := by
  have h1 := Nat.and_mod_two_pow (a := a + 256 * b) (b := m + 256 * n) (n := 8)
  have h2 := Nat.and_div_two_pow (a := a + 256 * b) (b := m + 256 * n) (n := 8)
  rw [show (2 : Nat) ^ 8 = 256 from rfl] at h1 h2
  rw [show (a + 256 * b) % 256 = a by omega, show (m + 256 * n) % 256 = m by omega] at h1
  rw [show (a + 256 * b) / 256 = b by omega, show (m + 256 * n) / 256 = n by omega] at h2
  omega
def msk (c : Nat) : Nat → Nat
  | 0 => 0
  | n + 1 => c + 256 * msk c n
def n1 (m x : Nat) : Nat := x - (x / 2 &&& m)
def n2 (m x : Nat) : Nat := (x &&& m) + (x / 4 &&& m)
def n3 (m x : Nat) : Nat := (x + x / 16) &&& m
def cB : Nat → Nat → Nat
  | _, 0 => 0
  | x, n + 1 => x % 2 + cB (x / 2) n
theorem fb1 : ∀ i, i < 16 → ∀ j, j < 16 → ∀ c, c < 2 → ((16 * i + j) / 2 + 128 * c) &&& 85 = (16 * i + j) / 2 &&& 85 := by decide +kernel
theorem fb2 : ∀ i, i < 16 → ∀ j, j < 16 → ∀ c, c < 4 → ((16 * i + j) / 4 + 64 * c) &&& 51 = (16 * i + j) / 4 &&& 51 := by decide +kernel
theorem fb3 : ∀ i, i < 16 → ∀ j, j < 16 → ∀ e, e < 5 → n1 85 (16 * i + j) < 256 ∧ n2 51 (n1 85 (16 * i + j)) ≤ 68 ∧ n2 51 (n1 85 (16 * i + j)) % 16 ≤ 4 ∧ (n2 51 (n1 85 (16 * i + j)) + n2 51 (n1 85 (16 * i + j)) / 16 + 16 * e) &&& 15 = cB (16 * i + j) 8 := by decide +kernel
theorem n1_sp {b y m : Nat} (hb : b < 256) : n1 (85 + 256 * m) (b + 256 * y) = n1 85 b + 256 * n1 m y := by
  have h := fb1 (b / 16) (by omega) (b % 16) (by omega) (y % 2) (by omega)
  rw [show 16 * (b / 16) + b % 16 = b by omega] at h
  unfold n1
  rw [show (b + 256 * y) / 2 = (b / 2 + 128 * (y % 2)) + 256 * (y / 2) by omega, and_sp (by omega) (by decide), h]
  have h1 : b / 2 &&& 85 ≤ b / 2 := Nat.and_le_left
  have h2 : y / 2 &&& m ≤ y / 2 := Nat.and_le_left
  omega
theorem n2_sp {c z m : Nat} (hc : c < 256) : n2 (51 + 256 * m) (c + 256 * z) = n2 51 c + 256 * n2 m z := by
  have h := fb2 (c / 16) (by omega) (c % 16) (by omega) (z % 4) (by omega)
  rw [show 16 * (c / 16) + c % 16 = c by omega] at h
  unfold n2
  rw [show (c + 256 * z) / 4 = (c / 4 + 64 * (z % 4)) + 256 * (z / 4) by omega, and_sp (a := c) (b := z) hc (by decide), and_sp (a := c / 4 + 64 * (z % 4)) (b := z / 4) (by omega) (by decide), h]
  omega
/-- counts of the bits of each byte -/
def pcs : Nat → Nat → Nat
  | 0, _ => 0
  | n + 1, x => cB (x % 256) 8 + 256 * pcs n (x / 256)
theorem n_all : ∀ (n x : Nat), x < 256 ^ n → n2 (msk 51 n) (n1 (msk 85 n) x) % 16 ≤ 4 ∧ n3 (msk 15 n) (n2 (msk 51 n) (n1 (msk 85 n) x)) = pcs n x
  | 0, x, h => by
    have : x = 0 := by simpa using h
    subst this; decide
  | n + 1, x, h => by
    have hx : x / 256 < 256 ^ n := by
      rw [Nat.pow_succ] at h; omega
    obtain ⟨i1, i2⟩ := n_all n (x / 256) hx
    have hb : x % 256 < 256 := by omega
    have e : x = x % 256 + 256 * (x / 256) := by omega
    generalize hB : x % 256 = b at hb e
    generalize x / 256 = y at hx i1 i2 e
    have f : ∀ e, e < 5 → n1 85 b < 256 ∧ n2 51 (n1 85 b) ≤ 68 ∧ n2 51 (n1 85 b) % 16 ≤ 4 ∧ (n2 51 (n1 85 b) + n2 51 (n1 85 b) / 16 + 16 * e) &&& 15 = cB b 8 := fun e he => by
      have := fb3 (b / 16) (by omega) (b % 16) (by omega) e he
      rw [show 16 * (b / 16) + b % 16 = b by omega] at this; exact this
    have f0 := f 0 (by decide)
    have g2 : n2 (msk 51 (n + 1)) (n1 (msk 85 (n + 1)) x) = n2 51 (n1 85 b) + 256 * n2 (msk 51 n) (n1 (msk 85 n) y) := by
      rw [e]
      show n2 (51 + 256 * msk 51 n) (n1 (85 + 256 * msk 85 n) (b + 256 * y)) = _
      rw [n1_sp hb, n2_sp f0.1]
    have hw := f (n2 (msk 51 n) (n1 (msk 85 n) y) % 16) (by omega)
    have hp : pcs (n + 1) x = cB b 8 + 256 * pcs n y := by
      show cB (x % 256) 8 + 256 * pcs n (x / 256) = _
      rw [hB, show x / 256 = y by omega]
    rw [g2, hp, ← i2]
    generalize n2 (msk 51 n) (n1 (msk 85 n) y) = w at i1 hw ⊢
    generalize n2 51 (n1 85 b) = d at f0 hw ⊢
    refine ⟨by omega, ?_⟩
    unfold n3
    show (d + 256 * w + (d + 256 * w) / 16) &&& (15 + 256 * msk 15 n) = _
    rw [show d + 256 * w + (d + 256 * w) / 16 = (d + d / 16 + 16 * (w % 16)) + 256 * (w + w / 16) by omega, and_sp (by omega) (by decide), hw.2.2.2]
theorem cB_le : ∀ (n x : Nat), cB x n ≤ n
  | 0, _ => Nat.le_refl _
  | n + 1, x => by have := cB_le n (x / 2); rw [cB]; omega
theorem cB_8 (x m : Nat) : cB x (m + 8) = cB (x % 256) 8 + cB (x / 256) m := by
  simp only [cB, Nat.zero_add, Nat.add_zero]
  rw [show x / 2 / 2 / 2 / 2 / 2 / 2 / 2 / 2 = x / 256 by omega]
  omega
theorem cB_t : ∀ (n x : Nat), cB x (n + 1) = cB x n + x / 2 ^ n % 2
  | 0, x => by simp [cB]
  | n + 1, x => by
    rw [cB, cB_t n (x / 2), cB, Nat.div_div_eq_div_mul, Nat.pow_succ, Nat.mul_comm 2]
    omega
theorem cB_cnt (x : Int64) : ∀ n : Nat, cntB (fun k => hb x k) n = (cB (tn x) n : Int)
  | 0 => rfl
  | n + 1 => by
    have e : cntB (fun k => hb x k) (n + 1) = cntB (fun k => hb x k) n + bit01 (hb x n) := rfl
    have h : hb x n = decide (tn x / 2 ^ n % 2 = 1) := by
      unfold hb tn
      rw [Int.toNat_natCast, ← BitVec.testBit_toNat, Nat.testBit_eq_decide_div_mod_eq]
    rw [e, cB_cnt x n, cB_t, h]
    by_cases hz : tn x / 2 ^ n % 2 = 1
    · simp [bit01, hz]
    · have : tn x / 2 ^ n % 2 = 0 := by omega
      simp [bit01, this]
theorem cB_64 (x : Nat) : ∃ a b c d e f g h : Nat, (a ≤ 8 ∧ b ≤ 8 ∧ c ≤ 8 ∧ d ≤ 8 ∧ e ≤ 8 ∧ f ≤ 8 ∧ g ≤ 8 ∧ h ≤ 8) ∧ pcs 8 x = a + 256 * (b + 256 * (c + 256 * (d + 256 * (e + 256 * (f + 256 * (g + 256 * h)))))) ∧ cB x 64 = a + (b + (c + (d + (e + (f + (g + h)))))) := by
  refine ⟨cB (x % 256) 8, cB (x / 256 % 256) 8, cB (x / 256 / 256 % 256) 8, cB (x / 256 / 256 / 256 % 256) 8, cB (x / 256 / 256 / 256 / 256 % 256) 8, cB (x / 256 / 256 / 256 / 256 / 256 % 256) 8, cB (x / 256 / 256 / 256 / 256 / 256 / 256 % 256) 8, cB (x / 256 / 256 / 256 / 256 / 256 / 256 / 256 % 256) 8, ⟨cB_le 8 _, cB_le 8 _, cB_le 8 _, cB_le 8 _, cB_le 8 _, cB_le 8 _, cB_le 8 _, cB_le 8 _⟩, ?_, ?_⟩
  · simp only [pcs, Nat.mul_zero, Nat.add_zero]
  · rw [cB_8 x 56, cB_8 (x / 256) 48, cB_8 (x / 256 / 256) 40, cB_8 (x / 256 / 256 / 256) 32, cB_8 (x / 256 / 256 / 256 / 256) 24, cB_8 (x / 256 / 256 / 256 / 256 / 256) 16, cB_8 (x / 256 / 256 / 256 / 256 / 256 / 256) 8, cB_8 (x / 256 / 256 / 256 / 256 / 256 / 256 / 256) 0]
    show _ + (_ + (_ + (_ + (_ + (_ + (_ + (_ + 0)))))) ) = _
    rfl
theorem sum8 {z : Nat} {a b c d e f g h : Nat} (hh : a ≤ 8 ∧ b ≤ 8 ∧ c ≤ 8 ∧ d ≤ 8 ∧ e ≤ 8 ∧ f ≤ 8 ∧ g ≤ 8 ∧ h ≤ 8) (hz : z = a + 256 * (b + 256 * (c + 256 * (d + 256 * (e + 256 * (f + 256 * (g + 256 * h))))))) : z + z / 256 < 2305843009213693952 ∧ (z + z / 256) + (z + z / 256) / 65536 < 4611686018427387904 ∧ ((z + z / 256) + (z + z / 256) / 65536) + ((z + z / 256) + (z + z / 256) / 65536) / 4294967296 < 9223372036854775808 ∧ (((z + z / 256) + (z + z / 256) / 65536) + ((z + z / 256) + (z + z / 256) / 65536) / 4294967296) % 128 = a + (b + (c + (d + (e + (f + (g + h)))))) := by
  obtain ⟨R7, h7⟩ : ∃ R, R = h := ⟨_, rfl⟩
  obtain ⟨R6, h6⟩ : ∃ R, R = g + 256 * R7 := ⟨_, rfl⟩
  obtain ⟨R5, h5⟩ : ∃ R, R = f + 256 * R6 := ⟨_, rfl⟩
  obtain ⟨R4, h4⟩ : ∃ R, R = e + 256 * R5 := ⟨_, rfl⟩
  obtain ⟨R3, h3⟩ : ∃ R, R = d + 256 * R4 := ⟨_, rfl⟩
  obtain ⟨R2, h2⟩ : ∃ R, R = c + 256 * R3 := ⟨_, rfl⟩
  obtain ⟨R1, h1⟩ : ∃ R, R = b + 256 * R2 := ⟨_, rfl⟩
  rw [← h7, ← h6, ← h5, ← h4, ← h3, ← h2, ← h1] at hz
  have b7 : R7 ≤ 8 := by omega
  have b6 : R6 ≤ 8 + 256 * 8 := by omega
  have b5 : R5 ≤ 8 + 256 * (8 + 256 * 8) := by omega
  have b4 : R4 ≤ 134744072 := by omega
  have b3 : R3 ≤ 34494482440 := by omega
  have b2 : R2 ≤ 8830587504648 := by omega
  have b1 : R1 ≤ 2260630401189896 := by omega
  have e0 : z / 256 = R1 := by clear h1 h2 h3 h4 h5 h6 h7; omega
  rw [e0]
  have e1 : (z + R1) / 65536 = R2 + R3 := by
    have x1 : z = a + 256 * b + 65536 * R2 := by rw [hz, h1]; clear hz h1 h2 h3 h4 h5 h6 h7; omega
    have x2 : R1 = b + 256 * c + 65536 * R3 := by rw [h1, h2]; clear hz h1 h2 h3 h4 h5 h6 h7; omega
    rw [x1, x2]; clear hz h1 h2 h3 h4 h5 h6 h7 x1 x2; omega
  rw [e1]
  have e2 : (z + R1 + (R2 + R3)) / 4294967296 = R4 + R5 + R6 + R7 := by
    have x1 : z = a + 256 * b + 65536 * c + 16777216 * d + 4294967296 * R4 := by rw [hz, h1, h2, h3]; clear hz h1 h2 h3 h4 h5 h6 h7; omega
    have x2 : R1 = b + 256 * c + 65536 * d + 16777216 * e + 4294967296 * R5 := by rw [h1, h2, h3, h4]; clear hz h1 h2 h3 h4 h5 h6 h7; omega
    have x3 : R2 = c + 256 * d + 65536 * e + 16777216 * f + 4294967296 * R6 := by rw [h2, h3, h4, h5]; clear hz h1 h2 h3 h4 h5 h6 h7; omega
    have x4 : R3 = d + 256 * e + 65536 * f + 16777216 * g + 4294967296 * R7 := by rw [h3, h4, h5, h6]; clear hz h1 h2 h3 h4 h5 h6 h7; omega
    rw [x1, x2, x3, x4]; clear hz h1 h2 h3 h4 h5 h6 h7 x1 x2 x3 x4; omega
  rw [e2]
  refine ⟨by omega, by omega, by omega, ?_⟩
  obtain ⟨S, hS⟩ : ∃ S, z + R1 + (R2 + R3) + (R4 + R5 + R6 + R7) = (a + (b + (c + (d + (e + (f + (g + h))))))) + 256 * S := ⟨R1 + R2 + R3 + R4 + R5 + R6 + R7, by omega⟩
  rw [hS]; clear hS hz h1 h2 h3 h4 h5 h6 e0 e1 e2 b1 b2 b3 b4 b5 b6; omega
def L1 (x : Int64) : Int64 := x - (((x.toUInt64 >>> aU 1).toInt64) &&& (6148914691236517205))
def L2 (x : Int64) : Int64 := (x &&& (3689348814741910323)) + (((x.toUInt64 >>> aU 2).toInt64) &&& (3689348814741910323))
def L3 (x : Int64) : Int64 := (x + ((x.toUInt64 >>> aU 4).toInt64)) &&& (1085102592571150095)
def L8 (x : Int64) : Int64 := x + ((x.toUInt64 >>> aU 8).toInt64)
def L16 (x : Int64) : Int64 := x + ((x.toUInt64 >>> aU 16).toInt64)
def L32 (x : Int64) : Int64 := x + ((x.toUInt64 >>> aU 32).toInt64)
theorem tn_L1 (x : Int64) : tn (L1 x) = n1 (msk 85 8) (tn x) := by
  unfold L1 n1
  have e : tn ((((x.toUInt64 >>> aU 1).toInt64) &&& (6148914691236517205))) = tn x / 2 &&& msk 85 8 := by rw [tn_and, tn_s1]; rfl
  have h : tn x / 2 &&& msk 85 8 ≤ tn x / 2 := Nat.and_le_left
  rw [tn_sub (by rw [e]; omega), e]
theorem tn_L2 (x : Int64) : tn (L2 x) = n2 (msk 51 8) (tn x) := by
  unfold L2 n2
  have e1 : tn (x &&& (3689348814741910323)) = tn x &&& msk 51 8 := by rw [tn_and]; rfl
  have e2 : tn ((((x.toUInt64 >>> aU 2).toInt64) &&& (3689348814741910323))) = tn x / 4 &&& msk 51 8 := by rw [tn_and, tn_s2]; rfl
  have h1 : tn x &&& msk 51 8 ≤ msk 51 8 := Nat.and_le_right
  have h2 : tn x / 4 &&& msk 51 8 ≤ msk 51 8 := Nat.and_le_right
  have h3 : msk 51 8 = 3689348814741910323 := by decide
  rw [tn_add (by rw [e1, e2]; omega), e1, e2]
theorem tn_L3 {x : Int64} (h : tn x ≤ 7378697629483820646) : tn (L3 x) = n3 (msk 15 8) (tn x) := by
  unfold L3 n3
  rw [tn_and, tn_add (by rw [tn_s4]; omega), tn_s4]; rfl
theorem tn_127 (y : Int64) : zand (y.toInt32.toInt) 127 = ((tn y % 128 : Nat) : Int) := by
  unfold zand
  rw [← iI_of]
  have e : (y.toInt32 &&& iI 127).toBitVec.toNat = tn y % 128 := by
    rw [Int32.toBitVec_and, BitVec.toNat_and]
    have : y.toInt32.toBitVec.toNat = tn y % 4294967296 := by
      show (y.toBitVec.signExtend 32).toNat = _
      rw [BitVec.signExtend_eq_setWidth_of_le _ (by decide), BitVec.toNat_setWidth]; rfl
    rw [this, show (iI 127).toBitVec.toNat = 2 ^ 7 - 1 by decide, Nat.and_two_pow_sub_one_eq_mod]
    omega
  rw [fx_ti (by rw [e]; omega), e]
theorem s_bc64 {x : Int64} {V : qV} {Q : Int → Prop} (k : Q (cntB (fun k => hb x k) 64)) : W_J13_bitCount_95d88 x V Q := by
  show Q (zand (L32 (L16 (L8 (L3 (L2 (L1 x)))))).toInt32.toInt 127)
  rw [cB_cnt] at k
  have h1 := tn_L1 x
  have h2 := tn_L2 (L1 x)
  have h2b : tn (L2 (L1 x)) ≤ 7378697629483820646 := by
    rw [h2]
    unfold n2
    have h1 : tn (L1 x) &&& msk 51 8 ≤ msk 51 8 := Nat.and_le_right
    have h2 : tn (L1 x) / 4 &&& msk 51 8 ≤ msk 51 8 := Nat.and_le_right
    have h3 : msk 51 8 = 3689348814741910323 := by decide
    omega
  have h3 := tn_L3 h2b
  rw [h2, h1, (n_all 8 (tn x) (tn_lt x)).2] at h3
  obtain ⟨a, b, c, d, e, f, g, h, hh, hp, hc⟩ := cB_64 (tn x)
  rw [hp] at h3
  obtain ⟨s1, s2, s3, s4⟩ := sum8 hh h3
  have h4 : tn (L8 (L3 (L2 (L1 x)))) = tn (L3 (L2 (L1 x))) + tn (L3 (L2 (L1 x))) / 256 := by
    unfold L8
    rw [tn_add (by rw [tn_s8]; omega), tn_s8]
  rw [← h4] at s1 s2 s3 s4
  have h5 : tn (L16 (L8 (L3 (L2 (L1 x))))) = tn (L8 (L3 (L2 (L1 x)))) + tn (L8 (L3 (L2 (L1 x)))) / 65536 := by
    generalize L8 (L3 (L2 (L1 x))) = y at s1 s2 s3 s4 ⊢
    unfold L16
    rw [tn_add (by rw [tn_s16]; omega), tn_s16]
  rw [← h5] at s2 s3 s4
  have h6 : tn (L32 (L16 (L8 (L3 (L2 (L1 x)))))) = tn (L16 (L8 (L3 (L2 (L1 x))))) + tn (L16 (L8 (L3 (L2 (L1 x))))) / 4294967296 := by
    generalize L16 (L8 (L3 (L2 (L1 x)))) = y at s2 s3 s4 ⊢
    unfold L32
    rw [tn_add (by rw [tn_s32]; omega), tn_s32]
  rw [tn_127, h6, s4, ← hc]
  exact k
