/-! the class's worlds and verdicts -/
theorem s_fillWorldSet {V : qV} {J : qJ} {Q : qJ → Prop} (hk : ∀ k, 0 ≤ k → k < 10 → 0 ≤ V 14 k ∧ V 14 k ≤ 2) (k : ∀ J', (∀ o j, o ≠ 166 → J' o j = J o j) → (∀ v, 0 ≤ v → v < 1024 → s0 J' 166 v = (s0 J 13 v && allB (knB (V 14) v) 10)) → Q J') : W_X10_fillWorldSet V J Q := by
  have inner : ∀ (J1 : qJ) (i : Int) (K : Int64 → Int → Prop) (x : Int64), 0 ≤ i → i < 16 → (∀ y, (∀ b, 0 ≤ b → b < 64 → hb y b = (hb x b && allB (knB (V 14) (i * 64 + b)) 10)) → K y 10) → ∀ (f : Nat) (u : Int) (y : Int64), 0 ≤ u → u ≤ 10 → 10 < u + f → (∀ b, 0 ≤ b → b < 64 → hb y b = (hb x b && allB (knB (V 14) (i * 64 + b)) u.toNat)) → lp_X10_fillWorldSet_21 i V J1 K f y u := by
    intro J1 i K x hi0 hi1 hK f
    induction f with
    | zero => intro u y a b c; omega
    | succ f ih =>
      intro u y h0 h1 hf hy
      rw [lp_X10_fillWorldSet_21]
      have hu := hk u
      refine br_c (fun c => ?_) (fun c => ⟨by omega, br_c (fun d => ⟨zr_i (by omega) (by omega), ih (u + 1) y (by omega) (by omega) (by omega) (fun b p q => ?_)⟩) (fun d => s_trueBits (by omega) (by omega) ⟨by omega, br_c (fun e => ⟨zr_i (by omega) (by omega), ih (u + 1) _ (by omega) (by omega) (by omega) (fun b p q => ?_)⟩) (fun e => ⟨zr_i (by omega) (by omega), ih (u + 1) _ (by omega) (by omega) (by omega) (fun b p q => ?_)⟩)⟩)⟩)
      · have e : u = 10 := by omega
        subst e
        exact hK y hy
      · rw [hy b p q, allB_s h0]
        have : knB (V 14) (i * 64 + b) u = true := by simp [knB, d]
        rw [this, Bool.and_true]
      · have hm := tB_m (u := u) (v := i * 64 + b) (by omega) (by omega)
        rw [show (i * 64 + b) / 64 = i by omega, show (i * 64 + b) % 64 = b by omega] at hm
        rw [hb_and, hy b p q, allB_s h0, hm]
        have : knB (V 14) (i * 64 + b) u = tb (i * 64 + b) u := by
          unfold knB
          cases hx : tb (i * 64 + b) u <;> simp [e, bit01]
        rw [this, Bool.and_assoc]
      · have hm := tB_m (u := u) (v := i * 64 + b) (by omega) (by omega)
        rw [show (i * 64 + b) / 64 = i by omega, show (i * 64 + b) % 64 = b by omega] at hm
        rw [hb_and, hy b p q, allB_s h0, hb_not _ q, hm]
        have e0 : V 14 u = 0 := by omega
        have : knB (V 14) (i * 64 + b) u = !tb (i * 64 + b) u := by
          unfold knB
          cases hx : tb (i * 64 + b) u <;> simp [e0, bit01]
        rw [this, Bool.and_assoc]
  have main : ∀ (f : Nat) (i : Int) (J1 : qJ), 0 ≤ i → i ≤ 16 → 16 < i + f → (∀ o j, o ≠ 166 → J1 o j = J o j) → (∀ v, 0 ≤ v → v < 64 * i → s0 J1 166 v = (s0 J 13 v && allB (knB (V 14) v) 10)) → lp_X10_fillWorldSet_2 V (fun l1x11 J11 => Q J11) f i J1 := by
    intro f
    induction f with
    | zero => intro i J1 a b c; omega
    | succ f ih =>
      intro i J1 h0 h1 hf hJ hs
      rw [lp_X10_fillWorldSet_2]
      refine br_c (fun c => ?_) (fun c => ⟨by omega, inner J1 i _ (J1 13 i) h0 (by omega) (fun y hy => ⟨by omega, zr_i (by omega) (by omega), ih (i + 1) _ (by omega) (by omega) (by omega) (fun o j h => by rw [qu_o _ _ h]; exact hJ o j h) (fun v p q => ?_)⟩) 100000 0 _ (by decide) (by decide) (by decide) (fun b p q => by simp [allB])⟩)
      · have e : i = 16 := by omega
        subst e
        exact k J1 hJ hs
      · by_cases hv : v < 64 * i
        · have := hs v p hv
          unfold s0 at this ⊢
          rw [qu_j _ _ (by omega)]; exact this
        · have e : v / 64 = i := by omega
          have := hy (v % 64) (by omega) (by omega)
          unfold s0
          rw [e, qu_s, this, hJ _ _ (by decide), show i * 64 + v % 64 = v by omega]
  exact main 100000 0 J (by decide) (by decide) (by decide) (fun _ _ _ => rfl) (fun v a b => by omega)
theorem hb_1 : ∀ k, k < 64 → hb 1 ((k : Nat) : Int) = decide (k = 0) := by decide +kernel
theorem hb_sh (x : Int64) {k : Int} (h0 : 0 ≤ k) (h1 : k < 64) : hb (x >>> ((iI k).toInt64 &&& 63)) 0 = hb x k := by
  have h := fx_s63 k.toNat (by omega)
  rw [Int.toNat_of_nonneg h0] at h
  show (BitVec.sshiftRight' x.toBitVec (((iI k).toInt64 &&& 63).toBitVec.smod 64)).getLsbD 0 = x.toBitVec.getLsbD k.toNat
  rw [h, BitVec.sshiftRight_eq', BitVec.getLsbD_sshiftRight, BitVec.toNat_ofNat]
  have e : k.toNat % 2 ^ 64 = k.toNat := Nat.mod_eq_of_lt (by omega)
  rw [e]
  have e2 : k.toNat + 0 < 64 := by omega
  rw [if_pos e2]
  simp
theorem hb_test (x : Int64) {k : Int} (h0 : 0 ≤ k) (h1 : k < 64) : ((x >>> ((iI k).toInt64 &&& 63)) &&& 1 = 1) ↔ hb x k = true := by
  constructor
  · intro h
    have h2 : hb ((x >>> ((iI k).toInt64 &&& 63)) &&& 1) 0 = hb 1 0 := by rw [h]
    rw [hb_and, hb_sh x h0 h1] at h2
    have h3 := hb_1 0 (by decide)
    have h4 : hb 1 0 = true := h3
    rw [h4, Bool.and_true] at h2
    exact h2
  · intro h
    apply hb_ext
    intro j a b
    have h3 := hb_1 j.toNat (by omega)
    rw [Int.toNat_of_nonneg a] at h3
    rw [hb_and, h3]
    by_cases hj : j = 0
    · subst hj
      rw [hb_sh x h0 h1, h]; rfl
    · have : ¬ j.toNat = 0 := by omega
      simp [this]
theorem fx_div64 {v : Int} (h0 : 0 ≤ v) (h1 : v < 1024) : zshr v 6 = v / 64 ∧ zand v 63 = v % 64 := by
  constructor
  · rw [fx_shr h0 (by omega) (by decide) (by decide), show (6 : Int).toNat = 6 from rfl]; omega
  · rw [fx_and h0 (by omega) (by decide) (by decide), show (63 : Int).toNat = 2 ^ 6 - 1 from rfl, Nat.and_two_pow_sub_one_eq_mod]; omega
theorem s_hasWorld {o r v : Int} {V : qV} {J : qJ} {Q : Int → Prop} (ho : (o = 166 ∧ r = 0) ∨ ((o = 156 ∨ o = 158) ∧ 0 ≤ r ∧ r ≤ 4)) (hv : 0 ≤ v ∧ v < 1024) (k : Q (bit01 (sv J o r v))) : W_X10_hasWorld o r v V J Q := by
  obtain ⟨e1, e2⟩ := fx_div64 hv.1 hv.2
  unfold W_X10_hasWorld
  rw [e1, e2]
  have hr : 0 ≤ r ∧ r ≤ 4 := by omega
  have hL : r * 16 + v / 64 < qLn o := by
    unfold qLn
    split <;> omega
  refine ⟨zr_i (by omega) (by omega), zr_i (by omega) (by omega), br_f (by omega) (br_f (by omega) ⟨⟨by omega, hL⟩, br_c (fun c => ?_) (fun c => ?_)⟩)⟩
  · rw [zlc_0, hb_test _ (by omega) (by omega)] at c
    unfold sv at k
    rw [c] at k; exact k
  · rw [zlc_0, hb_test _ (by omega) (by omega)] at c
    unfold sv at k
    rw [Bool.eq_false_iff.mpr c] at k; exact k
theorem sv_0 (J : qJ) (o v : Int) : sv J o 0 v = s0 J o v := by unfold sv s0; rw [show 0 * 16 + v / 64 = v / 64 by omega]
/-- whom a verdict names in a world -/
theorem s_whoIn {vo v x : Int} {V : qV} {J : qJ} {Q : Int → Prop} {W : Bool} (hvo : vo = 155 ∨ vo = 157) (hv : 0 ≤ v ∧ v < 1024) (hs : ∀ k, 0 ≤ k → k ≤ 4 → sv J (vo + 1) k v = (W && decide (x = k))) (hx : 0 ≤ x ∧ x ≤ 4) (k : Q (if W then x else -1)) : W_X9_whoIn vo v V J Q := by
  have main : ∀ (f : Nat) (i : Int), 0 ≤ i → i ≤ 5 → 5 < i + f → (W = true → i ≤ x) → lp_X9_whoIn_2 vo v V J (fun l2x3 => Q (-1)) Q f i := by
    intro f
    induction f with
    | zero => intro i a b c; omega
    | succ f ih =>
      intro i h0 h1 hf hi
      rw [lp_X9_whoIn_2]
      refine br_c (fun c => ?_) (fun c => s_hasWorld (Or.inr ⟨by omega, by omega⟩) hv ?_)
      · cases W with
        | true => have := hi rfl; omega
        | false => exact k
      · rw [hs i h0 (by omega)]
        refine br_c (fun d => ⟨zr_i (by omega) (by omega), ih (i + 1) (by omega) (by omega) (by omega) (fun hw => ?_)⟩) (fun d => ?_)
        · have h9 := bit01_0.mp d
          rw [hw, Bool.true_and, decide_eq_false_iff_not] at h9
          have := hi hw; omega
        · have h9 : (W && decide (x = i)) = true := by
            cases hz : (W && decide (x = i)) with
            | true => rfl
            | false => rw [hz] at d; exact absurd rfl d
          rw [Bool.and_eq_true, decide_eq_true_eq] at h9
          rw [h9.1, h9.2] at k; exact k
  exact main 100000 0 (by decide) (by decide) (by decide) (fun _ => hx.1)
theorem sv_z {J : qJ} {o i : Int} (hi : 0 ≤ i) : (J o i = 0) ↔ ∀ v, 0 ≤ v → v < 1024 → v / 64 = i % 16 → sv J o (i / 16) v = false := by
  rw [hb_z]
  constructor
  · intro h v h0 h1 hv
    unfold sv
    rw [hv, show i / 16 * 16 + i % 16 = i by omega]
    exact h _ (by omega) (by omega)
  · intro h k h0 h1
    have := h (i % 16 * 64 + k) (by omega) (by omega) (by omega)
    unfold sv at this
    rw [show i / 16 * 16 + (i % 16 * 64 + k) / 64 = i by omega, show (i % 16 * 64 + k) % 64 = k by omega] at this
    exact this
theorem s_whoBits {vo : Int} {V : qV} {J : qJ} {Q : Int → Prop} (k : ∀ b, 0 ≤ b → b < 32 → (∀ x, 0 ≤ x → x ≤ 4 → (tb b x = true ↔ sw fun v => sv J (vo + 1) x v = true)) → Q b) : W_X9_whoBits vo V J Q := by
  have main : ∀ (f : Nat) (i b : Int), 0 ≤ i → i ≤ 80 → 80 < i + f → 0 ≤ b → b < 32 → (∀ x, 0 ≤ x → x ≤ 4 → (tb b x = true ↔ sw fun v => sv J (vo + 1) x v = true ∧ x * 16 + v / 64 < i)) → lp_X9_whoBits_4 vo V J (fun l1x4 l2x4 => Q l1x4) f b i := by
    intro f
    induction f with
    | zero => intro i b a b c; omega
    | succ f ih =>
      intro i b h0 h1 hf b0 b1 hb2
      rw [lp_X9_whoBits_4]
      refine br_c (fun c => k b b0 b1 (fun x p q => ?_)) (fun c => ⟨by omega, br_c (fun d => ⟨zr_i (by omega) (by omega), ih (i + 1) b (by omega) (by omega) (by omega) b0 b1 (fun x p q => ?_)⟩) (fun d => ⟨zr_i (by omega) (by omega), ?_⟩)⟩)
      · rw [hb2 x p q]
        constructor
        · rintro ⟨v, a, b, h, _⟩; exact ⟨v, a, b, h⟩
        · rintro ⟨v, a, b, h⟩; exact ⟨v, a, b, h, by omega⟩
      · rw [hb2 x p q]
        rw [zlc_0, sv_z h0] at d
        constructor
        · rintro ⟨v, a, b, h, g⟩; exact ⟨v, a, b, h, by omega⟩
        · rintro ⟨v, a, b, h, g⟩
          refine ⟨v, a, b, h, ?_⟩
          by_cases hz : x * 16 + v / 64 < i
          · exact hz
          · exfalso
            have := d v a b (by omega)
            rw [show i / 16 = x by omega, h] at this
            cases this
      · have e : i.tdiv 16 = i / 16 := Int.tdiv_eq_ediv_of_nonneg h0
        rw [e]
        have hsh := zshl_rn (k := i / 16) (n := 5) (by decide) (by omega) (by omega)
        have hor := zor_rn (a := b) (b := zshl 1 (i / 16)) (n := 5) (by decide) b0 (by omega) (by omega) hsh.2
        refine ih (i + 1) _ (by omega) (by omega) (by omega) hor.1 (by omega) (fun x p q => ?_)
        rw [tb_or b0 (by omega) (by omega) (by omega), tb_p (by omega) (by omega) p, Bool.or_eq_true, hb2 x p q, decide_eq_true_eq]
        rw [zlc_0, sv_z h0] at d
        constructor
        · rintro (⟨v, a, b, h, g⟩ | h)
          · exact ⟨v, a, b, h, by omega⟩
          · subst h
            by_cases hx : sw fun v => sv J (vo + 1) (i / 16) v = true ∧ i / 16 * 16 + v / 64 < i + 1
            · exact hx
            · exfalso
              apply d
              intro v a b h
              cases h7 : sv J (vo + 1) (i / 16) v with
              | false => rfl
              | true => exact absurd ⟨v, a, b, h7, by omega⟩ hx
        · rintro ⟨v, a, b, h, g⟩
          by_cases hz : x * 16 + v / 64 < i
          · exact Or.inl ⟨v, a, b, h, hz⟩
          · right; omega
  exact main 100000 0 0 (by decide) (by decide) (by decide) (by decide) (by decide) (fun x p q => by
    rw [tb_0]
    exact ⟨fun h => Bool.noConfusion h, fun ⟨v, a, b, _, g⟩ => by omega⟩)
theorem s_partsFrom {V : qV} {J : qJ} {Q : Int → Prop} (k1 : (∃ v x, 0 ≤ v ∧ v < 1024 ∧ 0 ≤ x ∧ x ≤ 4 ∧ sv J 156 x v ≠ sv J 158 x v) → Q 1) (k0 : (∀ v x, 0 ≤ v → v < 1024 → 0 ≤ x → x ≤ 4 → sv J 156 x v = sv J 158 x v) → Q 0) : W_X9_partsFrom 155 157 V J Q := by
  have main : ∀ (f : Nat) (i : Int), 0 ≤ i → i ≤ 80 → 80 < i + f → (∀ v x, 0 ≤ v → v < 1024 → 0 ≤ x → x ≤ 4 → x * 16 + v / 64 < i → sv J 156 x v = sv J 158 x v) → lp_X9_partsFrom_2 155 157 V J (fun l2x4 => Q 0) Q f i := by
    intro f
    induction f with
    | zero => intro i a b c; omega
    | succ f ih =>
      intro i h0 h1 hf hi
      rw [lp_X9_partsFrom_2]
      refine br_c (fun c => k0 (fun v x a b p q => hi v x a b p q (by omega))) (fun c => br_f c ⟨by omega, by omega, br_c (fun d => ⟨zr_i (by omega) (by omega), ih (i + 1) (by omega) (by omega) (by omega) (fun v x a b p q g => ?_)⟩) (fun d => k1 ?_)⟩)
      · by_cases hz : x * 16 + v / 64 < i
        · exact hi v x a b p q hz
        · rw [zlc_0] at d
          unfold sv
          rw [show x * 16 + v / 64 = i by omega]
          exact congrArg (fun y => hb y (v % 64)) d
      · rw [zlc_0] at d
        by_cases hx : ∃ v x, 0 ≤ v ∧ v < 1024 ∧ 0 ≤ x ∧ x ≤ 4 ∧ sv J 156 x v ≠ sv J 158 x v
        · exact hx
        · exfalso
          apply d
          apply hb_ext
          intro b p q
          by_cases hy : hb (J 156 i) b = hb (J 158 i) b
          · exact hy
          · exfalso
            apply hx
            refine ⟨i % 16 * 64 + b, i / 16, by omega, by omega, by omega, by omega, ?_⟩
            unfold sv
            rw [show i / 16 * 16 + (i % 16 * 64 + b) / 64 = i by omega, show (i % 16 * 64 + b) % 64 = b by omega]
            exact hy
  exact main 100000 0 (by decide) (by decide) (by decide) (fun v x a b p q g => by omega)
