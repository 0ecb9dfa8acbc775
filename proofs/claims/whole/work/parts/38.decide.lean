/-! a law decided in all worlds of a set -/
def rlf (p : Int → Bool) : Nat → Int → Int
  | 0, _ => -1
  | n + 1, i => if p i then i else rlf p n (i + 1)
def ri (p : Int → Bool) (n : Int) : Int := rlf p n.toNat 0
theorem rlf_snoc (p : Int → Bool) : ∀ (n : Nat) (i : Int), 0 ≤ i → rlf p (n + 1) i = if rlf p n i = -1 then (if p (i + n) then i + n else -1) else rlf p n i
  | 0, i, _ => by simp [rlf]
  | n + 1, i, h => by
    have e1 : rlf p (n + 1 + 1) i = if p i then i else rlf p (n + 1) (i + 1) := rfl
    have e2 : rlf p (n + 1) i = if p i then i else rlf p n (i + 1) := rfl
    rw [e1, e2]
    by_cases hp : p i = true
    · rw [if_pos hp, if_pos hp, if_neg (by omega)]
    · rw [if_neg hp, if_neg hp, rlf_snoc p n (i + 1) (by omega), show i + 1 + (n : Int) = i + ((n + 1 : Nat) : Int) by omega]
theorem ri_0 (p : Int → Bool) : ri p 0 = -1 := rfl
theorem ri_s {p : Int → Bool} {n : Int} (h : 0 ≤ n) : ri p (n + 1) = if ri p n = -1 then (if p n then n else -1) else ri p n := by
  unfold ri
  rw [show (n + 1).toNat = n.toNat + 1 by omega, rlf_snoc p n.toNat 0 (by decide), show (0 : Int) + (n.toNat : Int) = n by omega]
theorem ri_b {p : Int → Bool} : ∀ n : Nat, -1 ≤ ri p (n : Int) ∧ ri p (n : Int) < n
  | 0 => by rw [show ((0 : Nat) : Int) = 0 from rfl, ri_0]; omega
  | n + 1 => by
    have := ri_b (p := p) n
    rw [show ((n + 1 : Nat) : Int) = (n : Int) + 1 by omega, ri_s (by omega)]
    split
    · split <;> omega
    · omega
theorem ri_bd {p : Int → Bool} {n : Int} (h : 0 ≤ n) : -1 ≤ ri p n ∧ ri p n < n := by
  have := ri_b (p := p) n.toNat
  rwa [Int.toNat_of_nonneg h] at this
theorem ri_st {p : Int → Bool} {i : Int} (h0 : 0 ≤ i) (h : ri p i ≠ -1) : ∀ k : Nat, ri p (i + k) = ri p i
  | 0 => by rw [show i + ((0 : Nat) : Int) = i by omega]
  | k + 1 => by rw [show i + ((k + 1 : Nat) : Int) = i + k + 1 by omega, ri_s (by omega), ri_st h0 h k, if_neg h]
theorem ri_le {p : Int → Bool} {i n : Int} (h0 : 0 ≤ i) (hn : i ≤ n) (h : ri p i ≠ -1) : ri p n = ri p i := by
  have := ri_st h0 h (n - i).toNat
  rwa [show i + ((n - i).toNat : Int) = n by omega] at this
/-- law o as the class holds it: n rules, codes Li, whom, days to cry -/
def LV (V : qV) (o n : Int) (Li : Int → List (Int × Int)) (who cr : Int → Int) : Prop :=
  (V o 0 = n ∧ 0 ≤ n ∧ n ≤ 12) ∧ ∀ i, 0 ≤ i → i < n → (∃ a, (if i = 0 then 0 else V (o + 3) (i - 1)) = a ∧ 0 ≤ a ∧ V (o + 3) i = a + ((Li i).length : Int) ∧ V (o + 3) i ≤ 400 ∧ cod V (o + 4) a (Li i)) ∧ (Li i = [] ∨ wrun (Li i) [] = some [true]) ∧
    (V (o + 1) i = who i ∧ 0 ≤ who i ∧ who i ≤ 4) ∧ (V (o + 2) i = cr i ∧ 0 ≤ cr i ∧ cr i ≤ 9999)
theorem LV.fr {V V' : qV} {o n : Int} {Li : Int → List (Int × Int)} {who cr : Int → Int} (h : LV V o n Li who cr) (hV : ∀ q j, o ≤ q → q ≤ o + 4 → V' q j = V q j) : LV V' o n Li who cr := by
  refine ⟨⟨by rw [hV _ _ (by omega) (by omega)]; exact h.1.1, h.1.2⟩, fun i h0 h1 => ?_⟩
  obtain ⟨⟨a, a1, a2, a3, a4, a5⟩, b, c, d⟩ := h.2 i h0 h1
  refine ⟨⟨a, by rw [hV _ _ (by omega) (by omega)]; exact a1, a2, by rw [hV _ _ (by omega) (by omega)]; exact a3, by rw [hV _ _ (by omega) (by omega)]; exact a4, a5.fr (fun j => hV _ _ (by omega) (by omega))⟩, b, ⟨by rw [hV _ _ (by omega) (by omega)]; exact c.1, c.2⟩, ⟨by rw [hV _ _ (by omega) (by omega)]; exact d.1, d.2⟩⟩
def ap (nm : Int → Int) (Li : Int → List (Int × Int)) (v : Int) (i : Int) : Bool := decide (Li i = [] ∨ run nm v (Li i) [] = [1])
/-- the judge between two calls -/
def jI (V : qV) (J : qJ) : Prop := (0 ≤ V 151 3 ∧ V 151 3 ≤ 16) ∧ (1 ≤ V 151 3 → ∀ v, 0 ≤ v → v < 1024 → s0 J 152 v = true)
theorem s_dec1 {o vo : Int} {V : qV} {K : Int → Int → qJ → Prop} : ∀ (f : Nat) (i r : Int) (J : qJ), 0 ≤ i → i ≤ 16 → 16 < i + f → (r = 0 ∨ r = 1) → (r = 1 ↔ ∃ v, 0 ≤ v ∧ v < 64 * i ∧ s0 J 166 v = true) → (∀ r', (r' = 0 ∨ r' = 1) → (r' = 1 ↔ ∃ v, 0 ≤ v ∧ v < 1024 ∧ s0 J 166 v = true) → K r' 16 (fl J 154 i 16 (fun j => J 166 j))) → lp_X2_decide_11 o vo V K f r i J := by
  intro f
  induction f with
  | zero => intro i r J a b c; omega
  | succ f ih =>
    intro i r J h0 h1 hf hr hr2 hK
    rw [lp_X2_decide_11]
    refine br_c (fun c => ?_) (fun c => br_f c ⟨by omega, by omega, by omega, ?_⟩)
    · have e : i = 16 := by omega
      subst e
      have := hK r hr hr2
      rwa [fl_e (by omega)] at this
    · have e0 : ∀ v, s0 (qu J 154 i (J 166 i)) 166 v = s0 J 166 v := fun v => by unfold s0; rw [qu_o _ _ (by decide)]
      have e1 : fl (qu J 154 i (J 166 i)) 154 (i + 1) 16 (fun j => (qu J 154 i (J 166 i)) 166 j) = fl J 154 i 16 (fun j => J 166 j) := by
        rw [← fl_s (c := fun j => J 166 j) (by omega)]
        congr 1
      have hK' : ∀ r', (r' = 0 ∨ r' = 1) → (r' = 1 ↔ ∃ v, 0 ≤ v ∧ v < 1024 ∧ s0 (qu J 154 i (J 166 i)) 166 v = true) → K r' 16 (fl (qu J 154 i (J 166 i)) 154 (i + 1) 16 (fun j => (qu J 154 i (J 166 i)) 166 j)) := by
        intro r' a b
        rw [e1]
        simp only [e0] at b
        exact hK r' a b
      rw [qu_o _ _ (by decide)]
      refine br_c (fun d => ?_) (fun d => ?_)
      · rw [zlc_0, s0_z h0] at d
        have z : zor r 0 = r := by rcases hr with rfl | rfl <;> decide
        rw [z]
        refine ⟨zr_i (by omega) (by omega), ih (i + 1) r _ (by omega) (by omega) (by omega) hr ?_ hK'⟩
        rw [hr2]
        simp only [e0]
        constructor
        · rintro ⟨v, a, b, c1⟩; exact ⟨v, a, by omega, c1⟩
        · rintro ⟨v, a, b, c1⟩
          by_cases hv : v < 64 * i
          · exact ⟨v, a, hv, c1⟩
          · have := d v (by omega) a; rw [c1] at this; cases this
      · rw [zlc_0, s0_z h0] at d
        have z : zor r 1 = 1 := by rcases hr with rfl | rfl <;> decide
        rw [z]
        refine ⟨zr_i (by omega) (by omega), ih (i + 1) 1 _ (by omega) (by omega) (by omega) (Or.inr rfl) ⟨fun _ => ?_, fun _ => rfl⟩ hK'⟩
        by_cases hx : ∃ v, 0 ≤ v ∧ v < 64 * (i + 1) ∧ s0 J 166 v = true
        · simp only [e0]; exact hx
        · exfalso
          apply d
          intro v hv h9
          cases h7 : s0 J 166 v with
          | false => rfl
          | true => exact absurd ⟨v, h9, by omega, h7⟩ hx
/-- some world has it -/
def sw (P : Int → Prop) : Prop := ∃ v, 0 ≤ v ∧ v < 1024 ∧ P v
/-- how it stands behind i rules -/
def dI (nm : Int → Int) (Li : Int → List (Int × Int)) (who cr : Int → Int) (W : Int → Bool) (vo i : Int) (V0 : qV) (J0 : qJ) (V : qV) (J : qJ) : Prop :=
  (∀ q j, q ≠ 151 → q ≠ 153 → q ≠ vo → V q j = V0 q j) ∧ (∀ q j, q ≠ 152 → q ≠ 154 → q ≠ vo + 1 → J q j = J0 q j) ∧
  (∀ v, 0 ≤ v → v < 1024 → s0 J 154 v = (W v && decide (ri (ap nm Li v) i = -1)) ∧ ∀ k, 0 ≤ k → k ≤ 4 → sv J (vo + 1) k v = (W v && decide (ri (ap nm Li v) i ≠ -1 ∧ who (ri (ap nm Li v) i) = k))) ∧
  ((-1 ≤ V vo 1 ∧ V vo 1 ≤ 11) ∧ (∀ v, 0 ≤ v → v < 1024 → W v = true → ri (ap nm Li v) i ≤ V vo 1) ∧ (V vo 1 = -1 ∨ sw fun v => W v = true ∧ ri (ap nm Li v) i = V vo 1)) ∧
  ((0 ≤ V vo 2 ∧ V vo 2 ≤ 9999) ∧ (∀ v, 0 ≤ v → v < 1024 → W v = true → ri (ap nm Li v) i ≠ -1 → cr (ri (ap nm Li v) i) ≤ V vo 2) ∧ (V vo 2 = 0 ∨ sw fun v => W v = true ∧ ri (ap nm Li v) i ≠ -1 ∧ cr (ri (ap nm Li v) i) = V vo 2))
theorem s_dec2 {nm : Int → Int} {Li : Int → List (Int × Int)} {who cr : Int → Int} {W : Int → Bool} {o vo n : Int} {V0 : qV} {J0 : qJ} {K : Int → Int → qV → qJ → Prop} (ho : 173 ≤ o ∧ o < 188) (hvo : vo = 155 ∨ vo = 157) (hL : LV V0 o n Li who cr) (hnm : ∀ n, 0 ≤ n → n ≤ 9 → nm n = V0 168 n)
    (hK : ∀ r i V J, 0 ≤ i → i ≤ n → (i = n ∨ r = 0) → (r = 0 ∨ r = 1) → (r = 1 ↔ sw fun v => W v = true ∧ ri (ap nm Li v) i = -1) → jI V J → dI nm Li who cr W vo i V0 J0 V J → K r i V J) :
    ∀ (f : Nat) (r i : Int) (V : qV) (J : qJ), 0 ≤ i → i ≤ n → n < i + f → (r = 0 ∨ r = 1) → (r = 1 ↔ sw fun v => W v = true ∧ ri (ap nm Li v) i = -1) → jI V J → dI nm Li who cr W vo i V0 J0 V J → lp_X2_decide_64 o vo K f r i V J := by
  intro f
  induction f with
  | zero => intro r i V J a b c; omega
  | succ f ih =>
    intro r i V J h0 h1 hf hr hr2 hj hd
    rw [lp_X2_decide_64]
    have hd' := hd
    obtain ⟨d1, d2, d3, d4, d5⟩ := hd
    have hn : V o 0 = n := by rw [d1 _ _ (by omega) (by omega) (by omega)]; exact hL.1.1
    rw [hn]
    refine br_c (fun c => hK r i V J h0 h1 (Or.inl (by omega)) hr hr2 hj hd') (fun c => br_f (by have := hL.1.2; omega) (br_c (fun c2 => hK r i V J h0 h1 (Or.inr c2) hr hr2 hj hd') (fun c2 => ?_)))
    obtain ⟨⟨a, a1, a2, a3, a4, a5⟩, b1, b2, b3⟩ := hL.2 i h0 (by omega)
    have hVo : ∀ q j, o ≤ q → q ≤ o + 4 → V q j = V0 q j := fun q j p1 p2 => d1 q j (by omega) (by omega) (by omega)
    refine s_work (nm := nm) (L := Li i) (a := a) (b := V0 (o + 3) i) (Or.inr ho) (by have := hL.1.2; omega) (by decide) a2 a3.symm a4 (by rw [hVo _ _ (by omega) (by omega)]; exact a1) (hVo _ _ (by omega) (by omega)) b1 (a5.fr (fun j => hVo _ _ (by omega) (by omega))) (fun m p q => by rw [hnm m p q, d1 _ _ (by decide) (by decide) (by omega)]) (fun V1 J1 w0 w1 w2 w3 => ⟨by have := hL.1.2; omega, ?_⟩)
    have hVV : ∀ q j, q ≠ 151 → q ≠ 153 → q ≠ vo → V1 q j = V0 q j := fun q j p1 p2 p3 => by rw [w1 q j p1 p2, d1 q j p1 p2 p3]
    have hwho : V1 (o + 1) i = who i := by rw [hVV _ _ (by omega) (by omega) (by omega)]; exact b2.1
    have hcry : V1 (o + 2) i = cr i := by rw [hVV _ _ (by omega) (by omega) (by omega)]; exact b3.1
    rw [hwho]
    have hU : ∀ v, 0 ≤ v → v < 1024 → s0 J1 154 v = (W v && decide (ri (ap nm Li v) i = -1)) := fun v p q => by
      have := (d3 v p q).1
      unfold s0 at this ⊢
      rw [w2 _ _ (by decide)]; exact this
    have hC : ∀ v, 0 ≤ v → v < 1024 → s0 J1 152 v = ap nm Li v i := fun v p q => by
      have := w3 v p q
      unfold s0 ap
      by_cases hx : hb (J1 152 (v / 64)) (v % 64) = true
      · rw [hx]; exact (decide_eq_true (this.mp hx)).symm
      · rw [Bool.eq_false_iff.mpr hx]; exact (decide_eq_false (fun h => hx (this.mpr h))).symm
    refine s_give hvo b2.2 (fun r1 J2 g gr gr2 => ?_)
    obtain ⟨g1, g2, g3, g4⟩ := g
    have hS : ∀ v, 0 ≤ v → v < 1024 → s0 J2 154 v = (W v && decide (ri (ap nm Li v) (i + 1) = -1)) := fun v p q => by
      rw [(g4 v p (by omega)).2, hU v p q, hC v p q, ri_s h0]
      cases W v <;> by_cases h7 : ri (ap nm Li v) i = -1 <;> cases h8 : ap nm Li v i <;> simp [h7]
      omega
    have hT : ∀ v, 0 ≤ v → v < 1024 → ∀ k, 0 ≤ k → k ≤ 4 → sv J2 (vo + 1) k v = (W v && decide (ri (ap nm Li v) (i + 1) ≠ -1 ∧ who (ri (ap nm Li v) (i + 1)) = k)) := fun v p q k k0 k1 => by
      have e9 : sv J1 (vo + 1) k v = (W v && decide (ri (ap nm Li v) i ≠ -1 ∧ who (ri (ap nm Li v) i) = k)) := by
        have := (d3 v p q).2 k k0 k1
        unfold sv at this ⊢
        rw [w2 _ _ (by omega)]; exact this
      have h3 : ¬ i = -1 := by omega
      by_cases hk : k = who i
      · subst hk
        rw [(g4 v p (by omega)).1, e9, hU v p q, hC v p q, ri_s h0]
        cases W v <;> by_cases h7 : ri (ap nm Li v) i = -1 <;> cases h8 : ap nm Li v i <;> simp [h7, h3]
      · have e8 : sv J2 (vo + 1) k v = sv J1 (vo + 1) k v := by
          unfold sv
          rw [g2 _ (by omega)]
        rw [e8, e9, ri_s h0]
        cases W v <;> by_cases h7 : ri (ap nm Li v) i = -1 <;> cases h8 : ap nm Li v i <;> simp [h7, h3]
        exact fun h => absurd h.symm hk
    have hJ2 : ∀ q j, q ≠ 152 → q ≠ 154 → q ≠ vo + 1 → J2 q j = J0 q j := fun q j p1 p2 p3 => by rw [g1 q j p2 p3, w2 q j p1, d2 q j p1 p2 p3]
    have hjI : ∀ V2 : qV, V2 151 3 = 0 → jI V2 J2 := fun V2 h => ⟨by omega, fun h9 => by omega⟩
    have hv1 : V1 vo 1 = V vo 1 := w1 _ _ (by omega) (by omega)
    have hv2 : V1 vo 2 = V vo 2 := w1 _ _ (by omega) (by omega)
    refine br_c (fun z => ?_) (fun z => ?_)
    · have hno : ∀ v, 0 ≤ v → v < 1024 → W v = true → ri (ap nm Li v) (i + 1) = ri (ap nm Li v) i := fun v p q hw => by
        rw [ri_s h0]
        by_cases h7 : ri (ap nm Li v) i = -1
        · rw [if_pos h7]
          cases h8 : ap nm Li v i with
          | false => rw [if_neg (by decide), h7]
          | true =>
            exfalso
            have : r1 = 1 := gr2.mpr ⟨v, p, q, by rw [hU v p q, hw, h7]; rfl, by rw [hC v p q]; exact h8⟩
            omega
        · rw [if_neg h7]
      refine ⟨zr_i (by have := hL.1.2; omega) (by have := hL.1.2; omega), ih r (i + 1) V1 J2 (by omega) (by omega) (by omega) hr ?_ (hjI V1 w0) ⟨hVV, hJ2, fun v p q => ⟨hS v p q, hT v p q⟩, ⟨by rw [hv1]; exact d4.1, fun v p q hw => by rw [hno v p q hw, hv1]; exact d4.2.1 v p q hw, ?_⟩, ⟨by rw [hv2]; exact d5.1, fun v p q hw => by rw [hno v p q hw, hv2]; exact d5.2.1 v p q hw, ?_⟩⟩⟩
      · rw [hr2]
        constructor
        · rintro ⟨v, p, q, hw, h9⟩; exact ⟨v, p, q, hw, by rw [hno v p q hw]; exact h9⟩
        · rintro ⟨v, p, q, hw, h9⟩; exact ⟨v, p, q, hw, by rw [← hno v p q hw]; exact h9⟩
      · rw [hv1]
        rcases d4.2.2 with h9 | ⟨v, p, q, hw, h9⟩
        · exact Or.inl h9
        · exact Or.inr ⟨v, p, q, hw, by rw [hno v p q hw]; exact h9⟩
      · rw [hv2]
        rcases d5.2.2 with h9 | ⟨v, p, q, hw, h9⟩
        · exact Or.inl h9
        · exact Or.inr ⟨v, p, q, hw, by rw [hno v p q hw]; exact h9⟩
    · refine ⟨by have := hL.1.2; omega, ?_⟩
      have e1 : (qu V1 vo 1 i) vo 2 = V vo 2 := by rw [qu_j _ _ (by decide)]; exact hv2
      have e2 : (qu V1 vo 1 i) (o + 2) i = cr i := by rw [qu_o _ _ (by omega)]; exact hcry
      rw [e1, e2]
      have hV2 : ∀ q j, q ≠ 151 → q ≠ 153 → q ≠ vo → (qu (qu V1 vo 1 i) vo 2 (max (V vo 2) (cr i))) q j = V0 q j := fun q j p1 p2 p3 => by rw [qu_o _ _ p3, qu_o _ _ p3]; exact hVV q j p1 p2 p3
      have f1 : (qu (qu V1 vo 1 i) vo 2 (max (V vo 2) (cr i))) vo 1 = i := by rw [qu_j _ _ (by decide), qu_s]
      have f2 : (qu (qu V1 vo 1 i) vo 2 (max (V vo 2) (cr i))) vo 2 = max (V vo 2) (cr i) := by rw [qu_s]
      have f3 : (qu (qu V1 vo 1 i) vo 2 (max (V vo 2) (cr i))) 151 3 = 0 := by
        have n1 : (151 : Int) ≠ vo := by rcases hvo with rfl | rfl <;> decide
        rw [qu_o _ _ n1, qu_o _ _ n1]; exact w0
      generalize (qu (qu V1 vo 1 i) vo 2 (max (V vo 2) (cr i))) = V2 at hV2 f1 f2 f3 ⊢
      obtain ⟨v0, p0, q0, u0, c0⟩ := gr2.mp (by omega)
      rw [hU v0 p0 q0, Bool.and_eq_true, decide_eq_true_eq] at u0
      rw [hC v0 p0 q0] at c0
      have r0 : ri (ap nm Li v0) (i + 1) = i := by rw [ri_s h0, if_pos u0.2, if_pos c0]
      have hup : ∀ v, ri (ap nm Li v) i ≠ -1 → ri (ap nm Li v) (i + 1) = ri (ap nm Li v) i := fun v h => by rw [ri_s h0, if_neg h]
      have hdI : dI nm Li who cr W vo (i + 1) V0 J0 V2 J2 := by
        refine ⟨hV2, hJ2, fun v p q => ⟨hS v p q, hT v p q⟩, ⟨by have := hL.1.2; omega, fun v p q hw => ?_, Or.inr ⟨v0, p0, q0, u0.1, by rw [r0, f1]⟩⟩, ⟨by have := b3.2; have := d5.1; omega, fun v p q hw h9 => ?_, ?_⟩⟩
        · have := ri_bd (p := ap nm Li v) (n := i + 1) (by omega); omega
        · rw [f2]
          by_cases h7 : ri (ap nm Li v) i = -1
          · rw [ri_s h0, if_pos h7] at h9 ⊢
            cases h8 : ap nm Li v i with
            | false => rw [h8] at h9; exact absurd rfl h9
            | true => rw [if_pos rfl]; omega
          · rw [hup v h7]
            have := d5.2.1 v p q hw h7; omega
        · rw [f2]
          by_cases h7 : cr i ≥ V vo 2
          · exact Or.inr ⟨v0, p0, q0, u0.1, by omega, by rw [r0]; omega⟩
          · rcases d5.2.2 with h9 | ⟨v, p, q, hw, h9, h10⟩
            · exfalso; have := b3.2; omega
            · exact Or.inr ⟨v, p, q, hw, by rw [hup v h9]; exact h9, by rw [hup v h9]; omega⟩
      refine s_any (fun hx => ⟨zr_i (by have := hL.1.2; omega) (by have := hL.1.2; omega), ih 1 (i + 1) V2 J2 (by omega) (by omega) (by omega) (Or.inr rfl) ⟨fun _ => ?_, fun _ => rfl⟩ (hjI V2 f3) hdI⟩) (fun hx => ⟨zr_i (by have := hL.1.2; omega) (by have := hL.1.2; omega), ih 0 (i + 1) V2 J2 (by omega) (by omega) (by omega) (Or.inl rfl) ⟨fun h => absurd h (by decide), fun ⟨v, p, q, hw, h9⟩ => ?_⟩ (hjI V2 f3) hdI⟩)
      · obtain ⟨v, p, q, h9⟩ := hx
        rw [hS v p q, Bool.and_eq_true, decide_eq_true_eq] at h9
        exact ⟨v, p, q, h9.1, h9.2⟩
      · have := hx v p q
        rw [hS v p q, hw, h9] at this
        cases this
/-- what a law says: whom in each world; the greatest rule and cry -/
def whF (nm : Int → Int) (Li : Int → List (Int × Int)) (who : Int → Int) (n v : Int) : Int := if ri (ap nm Li v) n = -1 then 1 else who (ri (ap nm Li v) n)
def crF (nm : Int → Int) (Li : Int → List (Int × Int)) (cr : Int → Int) (n v : Int) : Int := if ri (ap nm Li v) n = -1 then 0 else cr (ri (ap nm Li v) n)
def dV (nm : Int → Int) (Li : Int → List (Int × Int)) (who cr : Int → Int) (W : Int → Bool) (vo n : Int) (V0 : qV) (J0 : qJ) (V : qV) (J : qJ) : Prop :=
  (∀ q j, q ≠ 151 → q ≠ 153 → q ≠ vo → V q j = V0 q j) ∧ (∀ q j, q ≠ 152 → q ≠ 154 → q ≠ vo + 1 → J q j = J0 q j) ∧ jI V J ∧
  (∀ v, 0 ≤ v → v < 1024 → ∀ k, 0 ≤ k → k ≤ 4 → sv J (vo + 1) k v = (W v && decide (whF nm Li who n v = k))) ∧
  ((-1 ≤ V vo 1 ∧ V vo 1 ≤ 11) ∧ (∀ v, 0 ≤ v → v < 1024 → W v = true → ri (ap nm Li v) n ≤ V vo 1) ∧ (V vo 1 = -1 ∨ sw fun v => W v = true ∧ ri (ap nm Li v) n = V vo 1)) ∧
  ((0 ≤ V vo 2 ∧ V vo 2 ≤ 9999) ∧ (∀ v, 0 ≤ v → v < 1024 → W v = true → crF nm Li cr n v ≤ V vo 2) ∧ (V vo 2 = 0 ∨ sw fun v => W v = true ∧ crF nm Li cr n v = V vo 2))
theorem s_decide {nm : Int → Int} {Li : Int → List (Int × Int)} {who cr : Int → Int} {o vo n : Int} {V : qV} {J : qJ} {Q : qV → qJ → Prop} (ho : 173 ≤ o ∧ o < 188) (hvo : vo = 155 ∨ vo = 157) (hL : LV V o n Li who cr) (hnm : ∀ n, 0 ≤ n → n ≤ 9 → nm n = V 168 n) (hj : jI V J)
    (hK : ∀ V' J', dV nm Li who cr (s0 J 166) vo n V J V' J' → Q V' J') : W_X2_decide o vo V J Q := by
  have n1 : (151 : Int) ≠ vo ∧ (153 : Int) ≠ vo ∧ (168 : Int) ≠ vo := by rcases hvo with rfl | rfl <;> decide
  have n2 : (152 : Int) ≠ vo + 1 ∧ (154 : Int) ≠ vo + 1 ∧ (166 : Int) ≠ vo + 1 := by rcases hvo with rfl | rfl <;> decide
  unfold W_X2_decide
  refine s_clear ?_
  have v1 : ∀ q j, q ≠ vo → (qu (qu V vo 1 (-1)) vo 2 0) q j = V q j := fun q j h => by rw [qu_o _ _ h, qu_o _ _ h]
  have v2 : (qu (qu V vo 1 (-1)) vo 2 0) vo 1 = -1 := by rw [qu_j _ _ (by decide), qu_s]
  have v3 : (qu (qu V vo 1 (-1)) vo 2 0) vo 2 = 0 := by rw [qu_s]
  generalize (qu (qu V vo 1 (-1)) vo 2 0) = V1 at v1 v2 v3 ⊢
  have j1 : ∀ q j, q ≠ vo + 1 → (fl J (vo + 1) 0 80 (fun _ => (0 : Int64))) q j = J q j := fun q j h => fl_o h _
  have j2 : ∀ v k, 0 ≤ v → v < 1024 → 0 ≤ k → k ≤ 4 → sv (fl J (vo + 1) 0 80 (fun _ => (0 : Int64))) (vo + 1) k v = false := fun v k a b c d => by
    unfold sv; rw [fl_in (by omega) (by omega), hb_0]
  generalize (fl J (vo + 1) 0 80 (fun _ => (0 : Int64))) = J1 at j1 j2 ⊢
  have e66 : ∀ v, s0 J1 166 v = s0 J 166 v := fun v => by unfold s0; rw [j1 _ _ n2.2.2]
  refine s_dec1 100000 0 0 J1 (by decide) (by decide) (by decide) (Or.inl rfl) ⟨fun h => absurd h (by decide), fun ⟨v, a, b, _⟩ => by omega⟩ (fun r hr hr2 => ?_)
  have hL1 : LV V1 o n Li who cr := hL.fr (fun q j a b => v1 q j (by rcases hvo with rfl | rfl <;> omega))
  have J2o : ∀ q j, q ≠ 154 → (fl J1 154 0 16 (fun j => J1 166 j)) q j = J1 q j := fun q j h => fl_o h _
  have J2u : ∀ v, 0 ≤ v → v < 1024 → s0 (fl J1 154 0 16 (fun j => J1 166 j)) 154 v = s0 J 166 v := fun v a b => by
    rw [← e66]; unfold s0; rw [fl_in (by omega) (by omega)]
  generalize (fl J1 154 0 16 (fun j => J1 166 j)) = J2 at J2o J2u ⊢
  refine s_dec2 (nm := nm) (Li := Li) (who := who) (cr := cr) (W := s0 J 166) (n := n) (V0 := V1) (J0 := J2) ho hvo hL1 (fun m a b => by rw [hnm m a b, v1 _ _ n1.2.2]) (fun r' i V3 J3 i0 i1 hex hr' hr2' hj3 hd => ?_) 100000 r 0 V1 J2 (by decide) hL.1.2.1 (by have := hL.1.2; omega) hr ?_ ?_ ?_
  · obtain ⟨d1, d2, d3, d4, d5⟩ := hd
    have hn : ∀ v, 0 ≤ v → v < 1024 → s0 J 166 v = true → ri (ap nm Li v) n = ri (ap nm Li v) i := fun v a b hw => by
      rcases hex with rfl | rfl
      · rfl
      · apply ri_le i0 i1
        intro h
        have : (0 : Int) = 1 := hr2'.mpr ⟨v, a, b, hw, h⟩
        exact absurd this (by decide)
    have f1 : ∀ q j, q ≠ 151 → q ≠ 153 → q ≠ vo → V3 q j = V q j := fun q j a b c => by rw [d1 q j a b c, v1 q j c]
    have f2 : ∀ q j, q ≠ 152 → q ≠ 154 → q ≠ vo + 1 → J3 q j = J q j := fun q j a b c => by rw [d2 q j a b c, J2o q j b, j1 q j c]
    have f4 : (-1 ≤ V3 vo 1 ∧ V3 vo 1 ≤ 11) ∧ (∀ v, 0 ≤ v → v < 1024 → s0 J 166 v = true → ri (ap nm Li v) n ≤ V3 vo 1) ∧ (V3 vo 1 = -1 ∨ sw fun v => s0 J 166 v = true ∧ ri (ap nm Li v) n = V3 vo 1) := by
      refine ⟨d4.1, fun v a b hw => by rw [hn v a b hw]; exact d4.2.1 v a b hw, ?_⟩
      rcases d4.2.2 with h | ⟨v, a, b, hw, h⟩
      · exact Or.inl h
      · exact Or.inr ⟨v, a, b, hw, by rw [hn v a b hw]; exact h⟩
    have f5 : (0 ≤ V3 vo 2 ∧ V3 vo 2 ≤ 9999) ∧ (∀ v, 0 ≤ v → v < 1024 → s0 J 166 v = true → crF nm Li cr n v ≤ V3 vo 2) ∧ (V3 vo 2 = 0 ∨ sw fun v => s0 J 166 v = true ∧ crF nm Li cr n v = V3 vo 2) := by
      refine ⟨d5.1, fun v a b hw => ?_, ?_⟩
      · unfold crF
        rw [hn v a b hw]
        split
        · exact d5.1.1
        · rename_i h; exact d5.2.1 v a b hw h
      · rcases d5.2.2 with h | ⟨v, a, b, hw, h, h2⟩
        · exact Or.inl h
        · refine Or.inr ⟨v, a, b, hw, ?_⟩
          unfold crF
          rw [hn v a b hw, if_neg h]; exact h2
    refine br_c (fun z => hK V3 J3 ⟨f1, f2, hj3, fun v a b k c d => ?_, f4, f5⟩) (fun z => ?_)
    · rw [(d3 v a b).2 k c d]
      cases hw : s0 J 166 v with
      | false => rfl
      | true =>
        have h9 : ri (ap nm Li v) i ≠ -1 := fun h => by
          have : r' = 1 := hr2'.mpr ⟨v, a, b, hw, h⟩
          omega
        unfold whF
        rw [hn v a b hw, if_neg h9]
        simp [h9]
    · have hpush : ∀ P : qV → qJ → Prop, (∀ V4 J4, (∀ q j, q ≠ 151 → V4 q j = V3 q j) → (∀ q j, q ≠ 152 → J4 q j = J3 q j) → (1 ≤ V4 151 3 ∧ V4 151 3 ≤ 16) → (∀ v, 0 ≤ v → v < 1024 → s0 J4 152 v = true) → P V4 J4) → W_X2_pushAll 1 V3 J3 P := by
        intro P hP
        by_cases h16 : 16 ≤ V3 151 3
        · exact br_t h16 (hP V3 J3 (fun _ _ _ => rfl) (fun _ _ _ => rfl) (by have := hj3.1; omega) (hj3.2 (by omega)))
        · refine s_pushAll (by have := hj3.1; omega) (hP _ _ (fun q j h => qu_o _ _ h _) (fun q j h => fl_o h _) (by rw [qu_s]; have := hj3.1; omega) (fun v a b => ?_))
          unfold s0
          by_cases h0 : V3 151 3 = 0
          · rw [h0, fl_in (by omega) (by omega), if_neg (by decide)]; exact hb_m1 (by omega)
          · rw [fl_out _ (by have := hj3.1; omega)]; exact hj3.2 (by have := hj3.1; omega) v a b
      refine hpush _ (fun V4 J4 p1 p2 p3 p4 => s_give hvo (by decide) (fun r5 J5 g _ _ => hK V4 J5 ?_))
      obtain ⟨g1, g2, g3, g4⟩ := g
      have hv4 : ∀ j, V4 vo j = V3 vo j := fun j => p1 _ _ (Ne.symm n1.1)
      refine ⟨fun q j a b c => by rw [p1 q j a]; exact f1 q j a b c, fun q j a b c => by rw [g1 q j b c, p2 q j a]; exact f2 q j a b c, ⟨by omega, fun _ v a b => ?_⟩, fun v a b k c d => ?_, by rw [hv4]; exact f4, by rw [hv4]; exact f5⟩
      · have := p4 v a b
        unfold s0 at this ⊢
        rw [g1 _ _ (by decide) n2.1]; exact this
      · have e1 : sv J4 (vo + 1) k v = (s0 J 166 v && decide (ri (ap nm Li v) i ≠ -1 ∧ who (ri (ap nm Li v) i) = k)) := by
          have := (d3 v a b).2 k c d
          unfold sv at this ⊢
          rw [p2 _ _ (Ne.symm n2.1)]; exact this
        have e2 : s0 J4 154 v = (s0 J 166 v && decide (ri (ap nm Li v) i = -1)) := by
          have := (d3 v a b).1
          unfold s0 at this ⊢
          rw [p2 _ _ (by decide)]; exact this
        have hwF : s0 J 166 v = true → whF nm Li who n v = if ri (ap nm Li v) i = -1 then 1 else who (ri (ap nm Li v) i) := fun hw => by unfold whF; rw [hn v a b hw]
        by_cases hk : k = 1
        · subst hk
          rw [(g4 v a (by omega)).1, e1, e2, p4 v a b]
          cases hw : s0 J 166 v with
          | false => rfl
          | true =>
            rw [hwF hw]
            by_cases h7 : ri (ap nm Li v) i = -1 <;> simp [h7]
        · have e8 : sv J5 (vo + 1) k v = sv J4 (vo + 1) k v := by
            unfold sv
            rw [g2 _ (by omega)]
          rw [e8, e1]
          cases hw : s0 J 166 v with
          | false => rfl
          | true =>
            rw [hwF hw]
            by_cases h7 : ri (ap nm Li v) i = -1 <;> simp [h7]
            exact fun h => absurd h.symm hk
  · rw [hr2]
    constructor
    · rintro ⟨v, a, b, c⟩; exact ⟨v, a, b, by rw [← e66]; exact c, ri_0 _⟩
    · rintro ⟨v, a, b, c, _⟩; exact ⟨v, a, b, by rw [e66]; exact c⟩
  · refine ⟨by rw [v1 _ _ n1.1]; exact hj.1, fun h v a b => ?_⟩
    have := hj.2 (by rw [← v1 _ _ n1.1]; exact h) v a b
    unfold s0 at this ⊢
    rw [J2o _ _ (by decide), j1 _ _ n2.1]; exact this
  · refine ⟨fun _ _ _ _ _ => rfl, fun _ _ _ _ _ => rfl, fun v a b => ⟨?_, fun k c d => ?_⟩, ⟨by omega, fun v a b _ => by rw [ri_0]; omega, Or.inl v2⟩, ⟨by omega, fun v a b _ h => absurd (ri_0 _) h, Or.inl v3⟩⟩
    · rw [J2u v a b, ri_0]; simp
    · have : sv J2 (vo + 1) k v = false := by
        have := j2 v k a b c d
        unfold sv at this ⊢
        rw [J2o _ _ (Ne.symm n2.2.1)]; exact this
      rw [this, ri_0]; simp
