/-! questions: digits of cubes, worlds that agree with answers -/
theorem p3 (k : Nat) : (0 : Int) < 3 ^ k := by
  induction k with
  | zero => decide
  | succ k ih => rw [Int.pow_succ']; omega
theorem dg_s (T : Int) (k : Nat) : T / 3 ^ (k + 1) = T / 3 / 3 ^ k := by rw [Int.pow_succ', Int.ediv_ediv_of_nonneg (by decide)]
theorem dg_t (T : Int) (k : Nat) : T / 3 ^ (k + 1) = T / 3 ^ k / 3 := by rw [Int.pow_succ, Int.ediv_ediv_of_nonneg (by have := p3 k; omega)]
/-- digit k of T, base 3 -/
def dg (T : Int) (k : Nat) : Int := T / 3 ^ k % 3
theorem dg_b (T : Int) (k : Nat) : 0 ≤ dg T k ∧ dg T k ≤ 2 := by unfold dg; omega
theorem dg_sub (c : Int) (h0 : 0 ≤ c) (h2 : c ≤ 2) : ∀ (k j : Nat) (T : Int), dg T k = 2 → dg (T - c * 3 ^ k) j = if j = k then 2 - c else dg T j
  | 0, 0, T, h => by
    unfold dg at *
    simp only [Int.pow_zero, Int.ediv_one, Int.mul_one] at *
    rw [if_pos trivial]; omega
  | 0, j + 1, T, h => by
    unfold dg at *
    rw [dg_s, dg_s, if_neg (by omega)]
    simp only [Int.pow_zero, Int.ediv_one, Int.mul_one] at *
    rw [show (T - c) / 3 = T / 3 by omega]
  | k + 1, 0, T, h => by
    unfold dg at *
    rw [if_neg (by omega), Int.pow_succ, ← Int.mul_assoc]
    simp only [Int.pow_zero, Int.ediv_one]
    omega
  | k + 1, j + 1, T, h => by
    have ih := dg_sub c h0 h2 k j (T / 3) (by unfold dg at *; rw [← dg_s]; exact h)
    unfold dg at *
    rw [dg_s, dg_s, Int.pow_succ, ← Int.mul_assoc, show (T - c * 3 ^ k * 3) / 3 = T / 3 - c * 3 ^ k by omega, ih]
    by_cases e : j = k
    · rw [if_pos e, if_pos (by omega)]
    · rw [if_neg e, if_neg (by omega)]
theorem dg_ge {T : Int} {k : Nat} (h : dg T k = 2) (hT : 0 ≤ T) : 2 * 3 ^ k ≤ T := by
  unfold dg at h
  have h1 := Int.mul_ediv_add_emod T (3 ^ k)
  have h2 := Int.emod_nonneg T (b := 3 ^ k) (by have := p3 k; omega)
  have h3 := p3 k
  have h4 : 0 ≤ T / 3 ^ k := Int.ediv_nonneg hT (by omega)
  have h5 : 2 ≤ T / 3 ^ k := by omega
  have h6 : 3 ^ k * 2 ≤ 3 ^ k * (T / 3 ^ k) := Int.mul_le_mul_of_nonneg_left h5 (by omega)
  omega
/-- counting on -/
theorem dg_inc {c : Int} : ∀ l : Nat, (∀ i, i < l → dg c i = 2) → (∀ i, i < l → dg (c + 1) i = 0) ∧ (c + 1) / 3 ^ l = c / 3 ^ l + 1
  | 0, _ => ⟨fun i h => by omega, by simp⟩
  | l + 1, h => by
    have ih := dg_inc (c := c) l (fun i a => h i (by omega))
    have hl := h l (by omega)
    unfold dg at hl
    refine ⟨fun i a => ?_, ?_⟩
    · by_cases e : i = l
      · subst e; unfold dg; rw [ih.2]; omega
      · exact ih.1 i (by omega)
    · rw [dg_t, dg_t, ih.2]; omega
theorem dg_div {x y : Int} {l : Nat} (h : x / 3 ^ l = y / 3 ^ l) : ∀ m : Nat, dg x (l + m) = dg y (l + m) := by
  have key : ∀ m : Nat, x / 3 ^ (l + m) = y / 3 ^ (l + m) := by
    intro m
    induction m with
    | zero => exact h
    | succ m ih => rw [show l + (m + 1) = (l + m) + 1 by omega, dg_t, dg_t, ih]
  intro m
  unfold dg; rw [key m]
theorem dg_in2 {c : Int} {l : Nat} (h : ∀ i, i < l → dg c i = 2) (hl : dg c l < 2) : dg (c + 1) l = dg c l + 1 ∧ ∀ j, l < j → dg (c + 1) j = dg c j := by
  have e := (dg_inc l h).2
  unfold dg at hl
  refine ⟨by unfold dg; rw [e]; omega, fun j hj => ?_⟩
  have e2 : (c + 1) / 3 ^ (l + 1) = c / 3 ^ (l + 1) := by rw [dg_t, dg_t, e]; omega
  have := dg_div e2 (j - (l + 1))
  rw [show l + 1 + (j - (l + 1)) = j by omega] at this
  exact this
theorem dg_top : ∀ k i : Nat, dg (3 ^ k - 1) i = if i < k then 2 else 0
  | 0, i => by
    rw [if_neg (by omega)]; unfold dg; simp
  | k + 1, 0 => by
    rw [if_pos (by omega)]; unfold dg; rw [Int.pow_succ]; have := p3 k; simp only [Int.pow_zero, Int.ediv_one]; omega
  | k + 1, i + 1 => by
    have ih := dg_top k i
    unfold dg at *
    rw [dg_s, Int.pow_succ, show ((3 : Int) ^ k * 3 - 1) / 3 = 3 ^ k - 1 by omega, ih]
    by_cases e : i < k
    · rw [if_pos e, if_pos (by omega)]
    · rw [if_neg e, if_neg (by omega)]
theorem p3_le : ∀ k : Nat, k ≤ 10 → (3 : Int) ^ k ≤ 59049 := by decide
def agr (a : Int → Int) (v : Int) : Prop := ∀ k, 0 ≤ k → k < 10 → a k = 2 ∨ a k = bit01 (tb v k)
theorem agr_iff {a : Int → Int} {v : Int} : allB (knB a v) 10 = true ↔ agr a v := by
  rw [allB_iff]
  exact ⟨fun h k a b => of_decide_eq_true (h k a (by omega)), fun h k a b => decide_eq_true (h k a (by omega))⟩
def wtn (om a : Int → Int) (y : Int) : Prop := ∃ v, 0 ≤ v ∧ v < 1024 ∧ agr a v ∧ om v = y
theorem hasY_iff {om a : Int → Int} {y : Int} : hasY om a y = true ↔ wtn om a y := by
  unfold hasY wtn
  rw [exB_iff]
  constructor
  · rintro ⟨v, p, q, r⟩
    rw [Bool.and_eq_true, agr_iff, decide_eq_true_eq] at r
    exact ⟨v, p, by omega, r⟩
  · rintro ⟨v, p, q, r⟩
    exact ⟨v, p, by omega, by rw [Bool.and_eq_true, agr_iff, decide_eq_true_eq]; exact r⟩
theorem b01 (b : Bool) : bit01 b = 0 ∨ bit01 b = 1 := by cases b <;> simp [bit01]
def stb (v u b : Int) : Int := if b = 1 then zor v (zshl 1 u) else rmU v u
theorem stb_e {v u b : Int} (hv : 0 ≤ v ∧ v < 1024) (hu : 0 ≤ u ∧ u < 10) (hb' : b = 0 ∨ b = 1) : (0 ≤ stb v u b ∧ stb v u b < 1024) ∧ ∀ k, 0 ≤ k → k < 10 → bit01 (tb (stb v u b) k) = if k = u then b else bit01 (tb v k) := by
  rcases hb' with rfl | rfl
  · have e := rm_e hv hu
    unfold stb
    rw [if_neg (by decide)]
    refine ⟨e.1, fun k p q => ?_⟩
    rw [e.2 k p q]
    by_cases h : k = u
    · subst h; simp [bit01]
    · rw [if_neg h]; simp [show ¬ u = k from fun x => h x.symm]
  · have e := mk_or hv hu
    unfold stb
    rw [if_pos rfl]
    refine ⟨e.1, fun k p q => ?_⟩
    rw [e.2 k p]
    by_cases h : k = u
    · subst h; simp [bit01]
    · rw [if_neg h]; simp [show ¬ u = k from fun x => h x.symm]
theorem up_s (a : Int → Int) (u b : Int) : up a u b u = b := by simp [up]
theorem up_o {a : Int → Int} {u b k : Int} (h : k ≠ u) : up a u b k = a k := by simp [up, h]
theorem agr_up {a : Int → Int} {u b v : Int} (hu : 0 ≤ u ∧ u < 10) (h2 : a u = 2) (hb' : b = 0 ∨ b = 1) : agr (up a u b) v ↔ agr a v ∧ bit01 (tb v u) = b := by
  constructor
  · intro h
    have h3 := h u hu.1 hu.2
    rw [up_s] at h3
    refine ⟨fun k p q => ?_, by omega⟩
    by_cases e : k = u
    · subst e; exact Or.inl h2
    · have := h k p q
      rw [up_o e] at this; exact this
  · rintro ⟨h, h3⟩ k p q
    by_cases e : k = u
    · subst e; rw [up_s]; right; exact h3.symm
    · rw [up_o e]; exact h k p q
theorem agr_st {a : Int → Int} {u b v : Int} (hu : 0 ≤ u ∧ u < 10) (hv : 0 ≤ v ∧ v < 1024) (h2 : a u = 2) (hb' : b = 0 ∨ b = 1) (h : agr a v) : agr (up a u b) (stb v u b) := by
  have e := stb_e hv hu hb'
  intro k p q
  rw [e.2 k p q]
  by_cases x : k = u
  · subst x; rw [up_s, if_pos rfl]; exact Or.inr rfl
  · rw [up_o x, if_neg x]; exact h k p q
theorem wtn_up {om a : Int → Int} {u y : Int} (hu : 0 ≤ u ∧ u < 10) (h2 : a u = 2) : wtn om a y ↔ wtn om (up a u 0) y ∨ wtn om (up a u 1) y := by
  constructor
  · rintro ⟨v, p, q, r, s⟩
    rcases b01 (tb v u) with h | h
    · exact Or.inl ⟨v, p, q, (agr_up hu h2 (Or.inl rfl)).mpr ⟨r, h⟩, s⟩
    · exact Or.inr ⟨v, p, q, (agr_up hu h2 (Or.inr rfl)).mpr ⟨r, h⟩, s⟩
  · rintro (⟨v, p, q, r, s⟩ | ⟨v, p, q, r, s⟩)
    · exact ⟨v, p, q, ((agr_up hu h2 (Or.inl rfl)).mp r).1, s⟩
    · exact ⟨v, p, q, ((agr_up hu h2 (Or.inr rfl)).mp r).1, s⟩
theorem hasY_up {om a : Int → Int} {u : Int} (hu : 0 ≤ u ∧ u < 10) (h2 : a u = 2) (y : Int) : hasY om a y = (hasY om (up a u 0) y || hasY om (up a u 1) y) := by
  rw [Bool.eq_iff_iff, Bool.or_eq_true, hasY_iff, hasY_iff, hasY_iff]; exact wtn_up hu h2
/-- how many are still open -/
def c2 (a : Int → Int) : Int := cntB (fun k => decide (a k = 2)) 10
theorem c2_b (a : Int → Int) : 0 ≤ c2 a ∧ c2 a ≤ 10 := cntB_b 10
theorem c2_up {a : Int → Int} {u b : Int} (hu : 0 ≤ u ∧ u < 10) (h2 : a u = 2) (hb' : b = 0 ∨ b = 1) : c2 (up a u b) + 1 ≤ c2 a :=
  cnt_lt (m := u) 10 (fun k p q r => by
    by_cases e : k = u
    · subst e; rw [up_s] at r; have := of_decide_eq_true r; omega
    · rw [up_o e] at r; exact r) hu.1 (by omega) (by rw [up_s]; exact decide_eq_false (by omega)) (decide_eq_true h2)
theorem cnt_0 {p : Int → Bool} : ∀ n : Nat, (∀ k : Int, 0 ≤ k → k < n → p k = false) → cntB p n = 0
  | 0, _ => rfl
  | n + 1, h => by
    show cntB p n + bit01 (p n) = 0
    rw [cnt_0 n (fun k a b => h k a (by omega)), h n (by omega) (by omega)]; rfl
theorem cnt_1 {p : Int → Bool} : ∀ n : Nat, (∀ i j : Int, 0 ≤ i → i < n → 0 ≤ j → j < n → p i = true → p j = true → i = j) → cntB p n ≤ 1
  | 0, _ => by show (0 : Int) ≤ 1; omega
  | n + 1, h => by
    show cntB p n + bit01 (p n) ≤ 1
    cases hp : p n with
    | false => have := cnt_1 n (fun i j a b c d => h i j a (by omega) c (by omega)); simp [bit01]; exact this
    | true =>
      rw [cnt_0 n (fun k a b => by
        cases hk : p k with
        | false => rfl
        | true => have := h k n a (by omega) (by omega) (by omega) hk hp; omega)]
      simp [bit01]
theorem c2_0 {om a : Int → Int} (h : c2 a ≤ 0) : nB om a ≤ 1 := by
  have h3 : ∀ k, 0 ≤ k → k < 10 → a k ≠ 2 := fun k p q r => by
    have := c2_up (u := k) (b := 0) ⟨p, q⟩ r (Or.inl rfl)
    have := (c2_b (up a k 0)).1
    omega
  refine cnt_1 5 (fun i j p q r s x y => ?_)
  obtain ⟨v, v0, v1, v2, v3⟩ := hasY_iff.mp x
  obtain ⟨w, w0, w1, w2, w3⟩ := hasY_iff.mp y
  have : v = w := tb_e10 ⟨v0, v1⟩ ⟨w0, w1⟩ (fun k k0 k1 => by
    have e1 := (v2 k k0 k1).resolve_left (h3 k k0 k1)
    have e2 := (w2 k k0 k1).resolve_left (h3 k k0 k1)
    rw [e1] at e2
    cases t1 : tb v k <;> cases t2 : tb w k <;> rw [t1, t2] at e2 <;> first | rfl | exact absurd e2 (by decide))
  rw [this] at v3; omega
/-- what a question costs -/
def qst (g : (Int → Int) → Int) (a : Int → Int) (j : Int) : Int := 1 + max (g (up a j 0)) (g (up a j 1))
theorem mnA_s (g : (Int → Int) → Int) (a : Int → Int) (n : Nat) : mnA g a (n + 1) = if a n = 2 then min (mnA g a n) (qst g a n) else mnA g a n := rfl
theorem mnA_cg {g g' : (Int → Int) → Int} {a : Int → Int} : ∀ n : Nat, (∀ j : Int, 0 ≤ j → j < n → a j = 2 → g (up a j 0) = g' (up a j 0) ∧ g (up a j 1) = g' (up a j 1)) → mnA g a n = mnA g' a n
  | 0, _ => rfl
  | n + 1, h => by
    rw [mnA_s, mnA_s, mnA_cg n (fun j p q => h j p (by omega))]
    by_cases e : a n = 2
    · have := h n (by omega) (by omega) e
      rw [if_pos e, if_pos e]; unfold qst; rw [this.1, this.2]
    · rw [if_neg e, if_neg e]
theorem mnA_b {g : (Int → Int) → Int} {a : Int → Int} (hg : ∀ b, 0 ≤ g b) : ∀ n : Nat, 1 ≤ mnA g a n ∧ mnA g a n ≤ 10
  | 0 => by show (1 : Int) ≤ 10 ∧ (10 : Int) ≤ 10; omega
  | n + 1 => by
    have := mnA_b (g := g) (a := a) hg n
    rw [mnA_s]
    split
    · have h1 := hg (up a n 0)
      unfold qst
      omega
    · exact this
theorem mnA_le {g : (Int → Int) → Int} {a : Int → Int} {j : Int} : ∀ n : Nat, 0 ≤ j → j < n → a j = 2 → mnA g a n ≤ qst g a j
  | 0, p, q, _ => by omega
  | n + 1, p, q, r => by
    rw [mnA_s]
    by_cases e : j = n
    · subst e; rw [if_pos r]; omega
    · have := mnA_le (g := g) (a := a) n p (by omega) r
      split <;> omega
def mnW (g : (Int → Int) → Int) (a : Int → Int) (n m : Int) : Prop := ∃ j, 0 ≤ j ∧ j < n ∧ a j = 2 ∧ m = qst g a j
theorem mnA_at (g : (Int → Int) → Int) (a : Int → Int) : ∀ n : Nat, mnA g a n = 10 ∨ mnW g a n (mnA g a n)
  | 0 => Or.inl rfl
  | n + 1 => by
    rw [mnA_s]
    have up' : ∀ m, mnW g a n m → mnW g a ((n + 1 : Nat) : Int) m := fun m ⟨j, p, q, r⟩ => ⟨j, p, by omega, r⟩
    by_cases e : a n = 2
    · rw [if_pos e]
      by_cases h : mnA g a n ≤ qst g a n
      · rw [Int.min_eq_left h]
        exact (mnA_at g a n).imp id (up' _)
      · rw [Int.min_eq_right (by omega)]
        exact Or.inr ⟨n, by omega, by omega, e, rfl⟩
    · rw [if_neg e]
      exact (mnA_at g a n).imp id (up' _)
theorem aA_b (om : Int → Int) : ∀ (n : Nat) (a : Int → Int), 0 ≤ aA om n a ∧ aA om n a ≤ 10
  | 0, _ => by show (0 : Int) ≤ 0 ∧ (0 : Int) ≤ 10; omega
  | n + 1, a => by
    rw [aA]
    split
    · omega
    · have := mnA_b (g := aA om n) (a := a) (fun b => (aA_b om n b).1) 10
      omega
theorem aA_0 {om a : Int → Int} (h : nB om a ≤ 1) : ∀ n : Nat, aA om n a = 0
  | 0 => rfl
  | n + 1 => by rw [aA, if_pos h]
theorem aA_fu {om : Int → Int} : ∀ (n m : Nat) (a : Int → Int), c2 a ≤ n → c2 a ≤ m → aA om n a = aA om m a
  | 0, m, a, h, _ => by rw [aA_0 (c2_0 (by omega)), aA_0 (c2_0 (by omega))]
  | n + 1, 0, a, _, h => by rw [aA_0 (c2_0 (by omega)), aA_0 (c2_0 (by omega))]
  | n + 1, m + 1, a, h, h' => by
    rw [aA, aA]
    by_cases e : nB om a ≤ 1
    · rw [if_pos e, if_pos e]
    · rw [if_neg e, if_neg e]
      refine mnA_cg 10 (fun j p q r => ?_)
      have u0 := c2_up (u := j) (b := 0) ⟨p, by omega⟩ r (Or.inl rfl)
      have u1 := c2_up (u := j) (b := 1) ⟨p, by omega⟩ r (Or.inr rfl)
      exact ⟨aA_fu n m _ (by omega) (by omega), aA_fu n m _ (by omega) (by omega)⟩
theorem aA_e {om a : Int → Int} (h : ¬ nB om a ≤ 1) : aA om 10 a = mnA (aA om 10) a 10 := by
  have : aA om 10 a = mnA (aA om 9) a 10 := by rw [aA, if_neg h]
  rw [this]
  refine mnA_cg 10 (fun j p q r => ?_)
  have u0 := c2_up (u := j) (b := 0) ⟨p, by omega⟩ r (Or.inl rfl)
  have u1 := c2_up (u := j) (b := 1) ⟨p, by omega⟩ r (Or.inr rfl)
  have b := c2_b a
  exact ⟨aA_fu 9 10 _ (by omega) (by omega), aA_fu 9 10 _ (by omega) (by omega)⟩
/-- u told to be b leaves all that can be seen -/
def idl (om a : Int → Int) (u b : Int) : Prop := ∀ v, 0 ≤ v → v < 1024 → agr a v → om v ≠ 0 → om (stb v u b) = om v
theorem idl_up {om a : Int → Int} {u b j c : Int} (hj : 0 ≤ j ∧ j < 10) (h2 : a j = 2) (hc : c = 0 ∨ c = 1) (h : idl om a u b) : idl om (up a j c) u b :=
  fun v p q r s => h v p q ((agr_up hj h2 hc).mp r).1 s
theorem idl_hasY {om a : Int → Int} {u b y : Int} (hu : 0 ≤ u ∧ u < 10) (h2 : a u = 2) (hb' : b = 0 ∨ b = 1) (h : idl om a u b) (hy : y ≠ 0) : hasY om (up a u b) y = hasY om a y := by
  rw [Bool.eq_iff_iff, hasY_iff, hasY_iff]
  constructor
  · rintro ⟨v, p, q, r, s⟩
    exact ⟨v, p, q, ((agr_up hu h2 hb').mp r).1, s⟩
  · rintro ⟨v, p, q, r, s⟩
    have e := stb_e (v := v) ⟨p, q⟩ hu hb'
    exact ⟨stb v u b, e.1.1, e.1.2, agr_st hu ⟨p, q⟩ h2 hb' r, by rw [h v p q r (by omega)]; exact s⟩
theorem cnt_cg {p q : Int → Bool} : ∀ n : Nat, (∀ k : Int, 0 ≤ k → k < n → p k = q k) → cntB p n = cntB q n
  | 0, _ => rfl
  | n + 1, h => by
    show cntB p n + bit01 (p n) = cntB q n + bit01 (q n)
    rw [cnt_cg n (fun k a b => h k a (by omega)), h n (by omega) (by omega)]
theorem sum_cg {p q : Int → Int} : ∀ n : Nat, (∀ k : Int, 0 ≤ k → k < n → p k = q k) → sumI p n = sumI q n
  | 0, _ => rfl
  | n + 1, h => by
    show sumI p n + p n = sumI q n + q n
    rw [sum_cg n (fun k a b => h k a (by omega)), h n (by omega) (by omega)]
theorem nB_cg {om a b : Int → Int} (h : ∀ y, 1 ≤ y → y ≤ 5 → hasY om a y = hasY om b y) : nB om a = nB om b := cnt_cg 5 (fun k p q => h _ (by omega) (by omega))
theorem up_up {a : Int → Int} {u b j c : Int} (h : j ≠ u) : up (up a u b) j c = up (up a j c) u b := by
  funext k
  unfold up
  by_cases e : k = j
  · rw [if_pos e, if_neg (by omega), if_pos e]
  · rw [if_neg e]
    by_cases e2 : k = u
    · rw [if_pos e2, if_pos e2]
    · rw [if_neg e2, if_neg e2, if_neg e]
theorem idl_A {om : Int → Int} {u b : Int} (hu : 0 ≤ u ∧ u < 10) (hb' : b = 0 ∨ b = 1) : ∀ (N : Nat) (a : Int → Int), c2 a ≤ N → a u = 2 → idl om a u b → aA om 10 (up a u b) = aA om 10 a
  | 0, a, h, h2, _ => by
    have := c2_up hu h2 hb'
    have := (c2_b (up a u b)).1
    omega
  | N + 1, a, h, h2, hi => by
    have hn : nB om (up a u b) = nB om a := nB_cg (fun y p q => idl_hasY hu h2 hb' hi (by omega))
    by_cases e : nB om a ≤ 1
    · rw [aA_0 e, aA_0 (by rw [hn]; exact e)]
    · have e1 := aA_e e
      have e2 := aA_e (om := om) (a := up a u b) (by rw [hn]; exact e)
      have key : ∀ n : Nat, n ≤ 10 → mnA (aA om 10) a n ≤ mnA (aA om 10) (up a u b) n ∧ min (mnA (aA om 10) (up a u b) n) (1 + aA om 10 (up a u b)) ≤ mnA (aA om 10) a n := by
        intro n
        induction n with
        | zero => intro _; show (10 : Int) ≤ 10 ∧ min 10 _ ≤ (10 : Int); omega
        | succ n ih =>
          intro hn'
          have ih := ih (by omega)
          rw [mnA_s, mnA_s]
          by_cases hu' : (n : Int) = u
          · rw [hu', up_s, if_pos h2, if_neg (by omega)]
            have : 1 + aA om 10 (up a u b) ≤ qst (aA om 10) a u := by
              unfold qst
              rcases hb' with rfl | rfl <;> omega
            omega
          · rw [up_o hu']
            by_cases ha : a n = 2
            · have i0 := idl_A hu hb' N (up a n 0) (by have := c2_up (u := (n : Int)) (b := 0) (by omega) ha (Or.inl rfl); omega) (by rw [up_o (by omega)]; exact h2) (idl_up (by omega) ha (Or.inl rfl) hi)
              have i1 := idl_A hu hb' N (up a n 1) (by have := c2_up (u := (n : Int)) (b := 1) (by omega) ha (Or.inr rfl); omega) (by rw [up_o (by omega)]; exact h2) (idl_up (by omega) ha (Or.inr rfl) hi)
              have : qst (aA om 10) (up a u b) n = qst (aA om 10) a n := by
                unfold qst
                rw [up_up hu', up_up hu', i0, i1]
              rw [if_pos ha, if_pos ha, this]
              omega
            · rw [if_neg ha, if_neg ha]; exact ih
      have := key 10 (by omega)
      omega
