/-! values of cubes -/
def n5 (b0 b1 b2 b3 b4 : Bool) : Int := 0 + bit01 b0 + bit01 b1 + bit01 b2 + bit01 b3 + bit01 b4
def s5 (b0 b1 b2 b3 b4 : Bool) : Int := 0 + (if b0 then 1 else 0) + (if b1 then 2 else 0) + (if b2 then 3 else 0) + (if b3 then 4 else 0) + (if b4 then 5 else 0)
def sY (om a : Int → Int) : Int := sumI (fun i => if hasY om a (i + 1) then i + 1 else 0) 5
theorem nB_5 (om a : Int → Int) : nB om a = n5 (hasY om a 1) (hasY om a 2) (hasY om a 3) (hasY om a 4) (hasY om a 5) := rfl
theorem sY_5 (om a : Int → Int) : sY om a = s5 (hasY om a 1) (hasY om a 2) (hasY om a 3) (hasY om a 4) (hasY om a 5) := rfl
theorem d5_0 : ∀ b0 b1 b2 b3 b4 : Bool, n5 b0 b1 b2 b3 b4 ≤ 1 → (s5 b0 b1 b2 b3 b4 = 0 ↔ n5 b0 b1 b2 b3 b4 = 0) ∧ 0 ≤ s5 b0 b1 b2 b3 b4 ∧ s5 b0 b1 b2 b3 b4 ≤ 5 := by decide +kernel
theorem d5_1 : ∀ q0 q1 q2 q3 q4 r0 r1 r2 r3 r4 : Bool, n5 q0 q1 q2 q3 q4 = 1 → n5 r0 r1 r2 r3 r4 = 1 → (s5 q0 q1 q2 q3 q4 = s5 r0 r1 r2 r3 r4 → n5 (q0 || r0) (q1 || r1) (q2 || r2) (q3 || r3) (q4 || r4) = 1 ∧ s5 (q0 || r0) (q1 || r1) (q2 || r2) (q3 || r3) (q4 || r4) = s5 q0 q1 q2 q3 q4) ∧ (s5 q0 q1 q2 q3 q4 ≠ s5 r0 r1 r2 r3 r4 → ¬ n5 (q0 || r0) (q1 || r1) (q2 || r2) (q3 || r3) (q4 || r4) ≤ 1) := by decide +kernel
theorem vl_e (om a : Int → Int) : vlA om a = if nB om a ≤ 1 then sY om a else 5 + aA om 10 a := rfl
theorem nB_b (om a : Int → Int) : 0 ≤ nB om a ∧ nB om a ≤ 5 := cntB_b 5
theorem sY_b {om a : Int → Int} (h : nB om a ≤ 1) : (sY om a = 0 ↔ nB om a = 0) ∧ 0 ≤ sY om a ∧ sY om a ≤ 5 := by
  have := d5_0 (hasY om a 1) (hasY om a 2) (hasY om a 3) (hasY om a 4) (hasY om a 5)
  rw [← nB_5, ← sY_5] at this
  exact this h
theorem aA_1 {om a : Int → Int} (h : ¬ nB om a ≤ 1) : 1 ≤ aA om 10 a := by
  rw [aA_e h]; exact (mnA_b (fun b => (aA_b om 10 b).1) 10).1
theorem vl_0 {om a : Int → Int} : vlA om a = 0 ↔ nB om a = 0 := by
  rw [vl_e]
  have hb' := nB_b om a
  by_cases h : nB om a ≤ 1
  · rw [if_pos h]; exact (sY_b h).1
  · rw [if_neg h]
    have := (aA_b om 10 a).1
    omega
theorem vl_5 {om a : Int → Int} : vlA om a ≤ 5 ↔ nB om a ≤ 1 := by
  rw [vl_e]
  by_cases h : nB om a ≤ 1
  · rw [if_pos h]; have := sY_b h; omega
  · rw [if_neg h]
    have := aA_1 h
    omega
theorem vl_b (om a : Int → Int) : 0 ≤ vlA om a ∧ vlA om a ≤ 15 := by
  rw [vl_e]
  by_cases h : nB om a ≤ 1
  · rw [if_pos h]; have := sY_b h; omega
  · rw [if_neg h]
    have := aA_b om 10 a
    omega
theorem vl_q (om a : Int → Int) : max 0 (vlA om a - 5) = aA om 10 a := by
  rw [vl_e]
  by_cases h : nB om a ≤ 1
  · rw [if_pos h, aA_0 h]; have := sY_b h; omega
  · rw [if_neg h]
    have := aA_b om 10 a
    omega
theorem sY_cg {om a b : Int → Int} (h : ∀ y, 1 ≤ y → y ≤ 5 → hasY om a y = hasY om b y) : sY om a = sY om b := sum_cg 5 (fun k p q => by rw [h _ (by omega) (by omega)])
theorem vl_cg {om a b : Int → Int} (h : ∀ y, 1 ≤ y → y ≤ 5 → hasY om a y = hasY om b y) (h2 : aA om 10 a = aA om 10 b) : vlA om a = vlA om b := by
  rw [vl_e, vl_e, nB_cg h, sY_cg h, h2]
theorem nB_z {om a : Int → Int} (h : nB om a = 0) {y : Int} (h1 : 1 ≤ y) (h5 : y ≤ 5) : hasY om a y = false := by
  cases e : hasY om a y with
  | false => rfl
  | true =>
    have : cntB (fun _ => false) 5 + 1 ≤ nB om a := cnt_lt (m := y - 1) 5 (fun k _ _ x => absurd x (by decide)) (by omega) (by omega) rfl (by rw [show y - 1 + 1 = y by omega]; exact e)
    have h0 : cntB (fun _ => false) 5 = 0 := rfl
    omega
theorem stb_id {v u b : Int} (hv : 0 ≤ v ∧ v < 1024) (hu : 0 ≤ u ∧ u < 10) (h : bit01 (tb v u) = b) : stb v u b = v := by
  have hb' : b = 0 ∨ b = 1 := by rw [← h]; exact b01 _
  have e := stb_e hv hu hb'
  refine tb_e10 e.1 hv (fun k p q => ?_)
  have := e.2 k p q
  have h3 : bit01 (tb (stb v u b) k) = bit01 (tb v k) := by
    rw [this]
    by_cases x : k = u
    · rw [if_pos x, x, h]
    · rw [if_neg x]
  cases t1 : tb (stb v u b) k <;> cases t2 : tb v k <;> rw [t1, t2] at h3 <;> first | rfl | exact absurd h3 (by decide)
theorem idl_no {om a : Int → Int} {u b : Int} (ho : ∀ v, 0 ≤ v → v < 1024 → 0 ≤ om v ∧ om v ≤ 5) (hu : 0 ≤ u ∧ u < 10) (h2 : a u = 2) (hb' : b = 0 ∨ b = 1) (h : nB om (up a u (1 - b)) = 0) : idl om a u b := by
  intro v p q r s
  by_cases e : bit01 (tb v u) = b
  · rw [stb_id ⟨p, q⟩ hu e]
  · exfalso
    have o := ho v p q
    have h1 := nB_z h (y := om v) (by omega) (by omega)
    have h2 : hasY om (up a u (1 - b)) (om v) = true := hasY_iff.mpr ⟨v, p, q, (agr_up hu h2 (by omega)).mpr ⟨r, by have := b01 (tb v u); omega⟩, rfl⟩
    rw [h1] at h2; exact absurd h2 (by decide)
theorem vl_idl {om a : Int → Int} {u b : Int} (hu : 0 ≤ u ∧ u < 10) (h2 : a u = 2) (hb' : b = 0 ∨ b = 1) (h : idl om a u b) : vlA om (up a u b) = vlA om a :=
  vl_cg (fun y p q => idl_hasY hu h2 hb' h (by omega)) (idl_A hu hb' 10 a (c2_b a).2 h2 h)
theorem vl_z0 {om a : Int → Int} {u : Int} (ho : ∀ v, 0 ≤ v → v < 1024 → 0 ≤ om v ∧ om v ≤ 5) (hu : 0 ≤ u ∧ u < 10) (h2 : a u = 2) (h : vlA om (up a u 0) = 0) : vlA om (up a u 1) = vlA om a :=
  vl_idl hu h2 (Or.inr rfl) (idl_no ho hu h2 (Or.inr rfl) (vl_0.mp h))
theorem vl_z1 {om a : Int → Int} {u : Int} (ho : ∀ v, 0 ≤ v → v < 1024 → 0 ≤ om v ∧ om v ≤ 5) (hu : 0 ≤ u ∧ u < 10) (h2 : a u = 2) (h : vlA om (up a u 1) = 0) : vlA om (up a u 0) = vlA om a :=
  vl_idl hu h2 (Or.inl rfl) (idl_no ho hu h2 (Or.inl rfl) (vl_0.mp h))
theorem vl_two {om a : Int → Int} {u : Int} (hu : 0 ≤ u ∧ u < 10) (h2 : a u = 2) (hF : vlA om (up a u 0) ≠ 0) (hT : vlA om (up a u 1) ≠ 0) : (vlA om (up a u 0) = vlA om (up a u 1) → vlA om (up a u 1) ≤ 5 → vlA om a = vlA om (up a u 1)) ∧ (¬ (vlA om (up a u 0) = vlA om (up a u 1) ∧ vlA om (up a u 1) ≤ 5) → ¬ nB om a ≤ 1) := by
  have n0 := nB_b om (up a u 0)
  have n1 := nB_b om (up a u 1)
  have f0 : nB om (up a u 0) ≠ 0 := fun x => hF (vl_0.mpr x)
  have f1 : nB om (up a u 1) ≠ 0 := fun x => hT (vl_0.mpr x)
  have le0 : nB om (up a u 0) ≤ nB om a := cnt_le 5 (fun k p q r => by rw [hasY_up hu h2, r]; rfl)
  have le1 : nB om (up a u 1) ≤ nB om a := cnt_le 5 (fun k p q r => by rw [hasY_up hu h2, r, Bool.or_true])
  have D := d5_1 (hasY om (up a u 0) 1) (hasY om (up a u 0) 2) (hasY om (up a u 0) 3) (hasY om (up a u 0) 4) (hasY om (up a u 0) 5) (hasY om (up a u 1) 1) (hasY om (up a u 1) 2) (hasY om (up a u 1) 3) (hasY om (up a u 1) 4) (hasY om (up a u 1) 5)
  rw [← hasY_up hu h2, ← hasY_up hu h2, ← hasY_up hu h2, ← hasY_up hu h2, ← hasY_up hu h2, ← nB_5, ← nB_5, ← nB_5, ← sY_5, ← sY_5, ← sY_5] at D
  constructor
  · intro e l
    have g1 := vl_5.mp l
    have g0 : nB om (up a u 0) ≤ 1 := vl_5.mp (by omega)
    have D' := D (by omega) (by omega)
    rw [vl_e, vl_e, if_pos g0, if_pos g1] at e
    have D2 := D'.1 e
    rw [vl_e, vl_e, if_pos g1, if_pos (by omega), D2.2, e]
  · intro e
    by_cases g0 : nB om (up a u 0) ≤ 1
    · by_cases g1 : nB om (up a u 1) ≤ 1
      · refine (D (by omega) (by omega)).2 (fun x => e ⟨?_, vl_5.mpr g1⟩)
        rw [vl_e, vl_e, if_pos g0, if_pos g1]; exact x
      · omega
    · omega
theorem vl_one {om a : Int → Int} {w : Int} (hw : 0 ≤ w ∧ w < 1024) (h1 : agr a w) (h2 : ∀ v, 0 ≤ v → v < 1024 → agr a v → om v = om w) (ho : 0 ≤ om w ∧ om w ≤ 5) : vlA om a = om w := by
  have hh : ∀ y, hasY om a y = decide (om w = y) := fun y => by
    rw [Bool.eq_iff_iff, hasY_iff, decide_eq_true_eq]
    exact ⟨fun ⟨v, p, q, r, s⟩ => by rw [← h2 v p q r]; exact s, fun e => ⟨w, hw.1, hw.2, h1, e⟩⟩
  rw [vl_e, nB_5, sY_5, hh, hh, hh, hh, hh]
  have : om w = 0 ∨ om w = 1 ∨ om w = 2 ∨ om w = 3 ∨ om w = 4 ∨ om w = 5 := by omega
  rcases this with e | e | e | e | e | e <;> rw [e] <;> rfl
/-- what one may leave out of the questions -/
theorem A_min {om a : Int → Int} {S : Int → Prop} {m : Int} (hn : ¬ nB om a ≤ 1) (hS : ∀ u, 0 ≤ u → u < 10 → a u = 2 → S u ∨ idl om a u 1) (h1 : m ≤ 10) (h2 : ∀ u, 0 ≤ u → u < 10 → a u = 2 → S u → m ≤ qst (aA om 10) a u) (h3 : m = 10 ∨ mnW (aA om 10) a 10 m) : aA om 10 a = m := by
  have e := aA_e hn
  have b := mnA_b (g := aA om 10) (a := a) (fun b => (aA_b om 10 b).1) 10
  have le : aA om 10 a ≤ m := by
    rcases h3 with h3 | ⟨j, p, q, r, s⟩
    · omega
    · have := mnA_le (g := aA om 10) (a := a) 10 p (by omega) r
      omega
  have ge : m ≤ aA om 10 a := by
    rcases mnA_at (aA om 10) a 10 with x | ⟨j, p, q, r, s⟩
    · omega
    · rcases hS j p (by omega) r with y | y
      · have := h2 j p (by omega) r y
        omega
      · have h4 := idl_A (om := om) (u := j) (b := 1) ⟨p, by omega⟩ (Or.inr rfl) 10 a (c2_b a).2 r y
        unfold qst at s
        omega
  omega
/-- what tells nothing -/
theorem idl_tel {om a : Int → Int} {u : Int} (hd : dfB om u 0 = false) : idl om a u 1 := by
  intro v p q _ _
  unfold stb
  rw [if_pos rfl]
  by_cases e : zor v (zshl 1 u) = v
  · rw [e]
  · by_cases e2 : om v = om (zor v (zshl 1 u))
    · exact e2.symm
    · rw [dfB_iff.mpr ⟨v, p, q, e, e2, Or.inl rfl⟩] at hd
      exact absurd hd (by decide)
def flD (D : Int → Bool) (v : Int) : Nat → Int
  | 0 => v
  | n + 1 => if D n then zor (flD D v n) (zshl 1 n) else flD D v n
theorem flD_e {om : Int → Int} {D : Int → Bool} {v : Int} (hv : 0 ≤ v ∧ v < 1024) (hD : ∀ u, 0 ≤ u → u < 10 → D u = true → dfB om u 0 = false) : ∀ n : Nat, n ≤ 10 → (0 ≤ flD D v n ∧ flD D v n < 1024) ∧ (∀ k, 0 ≤ k → tb (flD D v n) k = (tb v k || (decide (k < n) && D k))) ∧ om (flD D v n) = om v
  | 0, _ => ⟨hv, fun k p => by rw [decide_eq_false (by omega)]; simp [flD], rfl⟩
  | n + 1, h => by
    have ih := flD_e (om := om) (D := D) hv hD n (by omega)
    rw [flD]
    cases hd : D n with
    | false =>
      rw [if_neg (by decide)]
      refine ⟨ih.1, fun k p => ?_, ih.2.2⟩
      rw [ih.2.1 k p]
      by_cases e : k = n
      · subst e; rw [hd]; simp
      · have : decide (k < ((n + 1 : Nat) : Int)) = decide (k < (n : Int)) := by rw [decide_eq_decide]; omega
        rw [this]
    | true =>
      rw [if_pos rfl]
      have hu : 0 ≤ (n : Int) ∧ (n : Int) < 10 := by omega
      have m := mk_or ih.1 hu
      refine ⟨m.1, fun k p => ?_, ?_⟩
      · rw [m.2 k p, ih.2.1 k p]
        by_cases e : k = n
        · subst e; rw [hd]; simp; omega
        · have : decide (k < ((n + 1 : Nat) : Int)) = decide (k < (n : Int)) := by rw [decide_eq_decide]; omega
          rw [this]; simp [show ¬ (n : Int) = k from fun x => e x.symm]
      · have := idl_tel (om := om) (a := fun _ => 2) (hD n hu.1 hu.2 hd) (flD D v n) ih.1.1 ih.1.2 (fun _ _ _ => Or.inl rfl)
        unfold stb at this
        rw [if_pos rfl] at this
        by_cases z : om (flD D v n) = 0
        · have h0 : om (zor (flD D v n) (zshl 1 n)) = om (flD D v n) := by
            by_cases e : zor (flD D v n) (zshl 1 n) = flD D v n
            · rw [e]
            · by_cases e2 : om (flD D v n) = om (zor (flD D v n) (zshl 1 n))
              · exact e2.symm
              · have hd' := hD n hu.1 hu.2 hd
                rw [dfB_iff.mpr ⟨flD D v n, ih.1.1, ih.1.2, e, e2, Or.inl rfl⟩] at hd'
                exact absurd hd' (by decide)
          rw [h0]; exact ih.2.2
        · rw [this z]; exact ih.2.2
/-- worlds that differ in what tells nothing alone -/
theorem om_same {om : Int → Int} {D : Int → Bool} {v w : Int} (hv : 0 ≤ v ∧ v < 1024) (hw : 0 ≤ w ∧ w < 1024) (hD : ∀ u, 0 ≤ u → u < 10 → D u = true → dfB om u 0 = false) (h : ∀ k, 0 ≤ k → k < 10 → D k = false → tb v k = tb w k) : om v = om w := by
  have a := flD_e (om := om) (D := D) hv hD 10 (by decide)
  have b := flD_e (om := om) (D := D) hw hD 10 (by decide)
  have : flD D v 10 = flD D w 10 := tb_e10 a.1 b.1 (fun k p q => by
    rw [a.2.1 k p, b.2.1 k p, decide_eq_true (show k < ((10 : Nat) : Int) by omega)]
    cases d : D k with
    | true => simp
    | false => rw [h k p q d])
  rw [← a.2.2, ← b.2.2, this]
theorem aA_cg {om : Int → Int} : ∀ (n : Nat) (a b : Int → Int), (∀ k, 0 ≤ k → k < 10 → a k = b k) → nB om a = nB om b ∧ aA om n a = aA om n b := by
  have hN : ∀ (a b : Int → Int), (∀ k, 0 ≤ k → k < 10 → a k = b k) → ∀ y, hasY om a y = hasY om b y := fun a b h y => by
    rw [Bool.eq_iff_iff, hasY_iff, hasY_iff]
    exact ⟨fun ⟨v, p, q, r, s⟩ => ⟨v, p, q, fun k k0 k1 => by rw [← h k k0 k1]; exact r k k0 k1, s⟩, fun ⟨v, p, q, r, s⟩ => ⟨v, p, q, fun k k0 k1 => by rw [h k k0 k1]; exact r k k0 k1, s⟩⟩
  intro n
  induction n with
  | zero => intro a b h; exact ⟨nB_cg (fun y _ _ => hN a b h y), rfl⟩
  | succ n ih =>
    intro a b h
    have e := nB_cg (om := om) (a := a) (b := b) (fun y _ _ => hN a b h y)
    refine ⟨e, ?_⟩
    rw [aA, aA, e]
    have hup : ∀ (j c : Int), ∀ k, 0 ≤ k → k < 10 → up a j c k = up b j c k := fun j c k p q => by
      unfold up
      split
      · rfl
      · exact h k p q
    have key : ∀ m : Nat, m ≤ 10 → mnA (aA om n) a m = mnA (aA om n) b m := by
      intro m
      induction m with
      | zero => intro _; rfl
      | succ m im =>
        intro hm
        rw [mnA_s, mnA_s, im (by omega), h m (by omega) (by omega)]
        have : qst (aA om n) a m = qst (aA om n) b m := by
          unfold qst
          rw [(ih _ _ (hup m 0)).2, (ih _ _ (hup m 1)).2]
        rw [this]
    rw [key 10 (by decide)]
