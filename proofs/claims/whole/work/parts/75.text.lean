/-! texts: bytes, runs of bytes, words, numbers -/
def bt (t : Int → Int) (n p : Int) : Int := if 0 ≤ p ∧ p < n then t p else 0
def ltB (c : Int) : Bool := decide (97 ≤ c ∧ c ≤ 122)
def dgB (c : Int) : Bool := decide (48 ≤ c ∧ c ≤ 57)
def spB (c : Int) : Bool := decide (c = 32)
theorem ltB_t {c : Int} : ltB c = true ↔ 97 ≤ c ∧ c ≤ 122 := by unfold ltB; exact decide_eq_true_iff
theorem ltB_f {c : Int} : ltB c = false ↔ ¬ (97 ≤ c ∧ c ≤ 122) := by unfold ltB; exact decide_eq_false_iff_not
theorem dgB_t {c : Int} : dgB c = true ↔ 48 ≤ c ∧ c ≤ 57 := by unfold dgB; exact decide_eq_true_iff
theorem dgB_f {c : Int} : dgB c = false ↔ ¬ (48 ≤ c ∧ c ≤ 57) := by unfold dgB; exact decide_eq_false_iff_not
theorem spB_t {c : Int} : spB c = true ↔ c = 32 := by unfold spB; exact decide_eq_true_iff
theorem spB_f {c : Int} : spB c = false ↔ c ≠ 32 := by unfold spB; exact decide_eq_false_iff_not
theorem bt_i {t : Int → Int} {n p : Int} (h : 0 ≤ p ∧ p < n) : bt t n p = t p := if_pos h
theorem bt_o {t : Int → Int} {n p : Int} (h : ¬ (0 ≤ p ∧ p < n)) : bt t n p = 0 := if_neg h
/-- e is the first place from p on that isn't so -/
def rnE (q : Int → Bool) (t : Int → Int) (n p e : Int) : Prop := p ≤ e ∧ (∀ k, p ≤ k → k < e → q (bt t n k) = true) ∧ q (bt t n e) = false
theorem rnE_u {q : Int → Bool} {t : Int → Int} {n p e e' : Int} (h : rnE q t n p e) (h' : rnE q t n p e') : e = e' := by
  rcases Int.lt_trichotomy e e' with x | x | x
  · have := h'.2.1 e h.1 x
    rw [h.2.2] at this; exact absurd this (by decide)
  · exact x
  · have := h.2.1 e' h'.1 x
    rw [h'.2.2] at this; exact absurd this (by decide)
theorem rnE_0 {q : Int → Bool} {t : Int → Int} {n p : Int} (h : q (bt t n p) = false) : rnE q t n p p := ⟨Int.le_refl _, fun k a b => by omega, h⟩
theorem rnE_s {q : Int → Bool} {t : Int → Int} {n p e : Int} (h : q (bt t n p) = true) (h' : rnE q t n p e) : rnE q t n (p + 1) e := by
  have : p ≠ e := fun x => by subst x; rw [h'.2.2] at h; exact absurd h (by decide)
  exact ⟨by have := h'.1; omega, fun k a b => h'.2.1 k (by omega) b, h'.2.2⟩
theorem rnE_c {q : Int → Bool} {t : Int → Int} {n p e : Int} (h : q (bt t n p) = true) (h' : rnE q t n (p + 1) e) : rnE q t n p e :=
  ⟨by have := h'.1; omega, fun k a b => by
    by_cases x : k = p
    · subst x; exact h
    · exact h'.2.1 k (by omega) b, h'.2.2⟩
theorem rnE_n {q : Int → Bool} {t : Int → Int} {n p e : Int} (h0 : q 0 = false) (hp : 0 ≤ p) (hn : p ≤ n) (h : rnE q t n p e) : e ≤ n := by
  by_cases x : e ≤ n
  · exact x
  · have := h.2.1 n hn (by omega)
    rw [bt_o (by omega), h0] at this; exact absurd this (by decide)
theorem rnE_ex {q : Int → Bool} {t : Int → Int} {n : Int} (h0 : q 0 = false) : ∀ (g : Nat) (p : Int), 0 ≤ p → n ≤ p + g → ∃ e, rnE q t n p e
  | 0, p, a, b => ⟨p, rnE_0 (by rw [bt_o (by omega)]; exact h0)⟩
  | g + 1, p, a, b => by
    cases h : q (bt t n p) with
    | false => exact ⟨p, rnE_0 h⟩
    | true =>
      obtain ⟨e, he⟩ := rnE_ex (t := t) (n := n) h0 g (p + 1) (by omega) (by omega)
      exact ⟨e, rnE_c h he⟩
/-- the number behind k digits from p on, as the reference reads it -/
def nvR (t : Int → Int) (p : Int) : Nat → Int
  | 0 => 0
  | k + 1 => if nvR t p k ≤ 9999 then 10 * nvR t p k + t (p + k) - 48 else 10000
/-- a word's letters, five bits each -/
def cdR (t : Int → Int) (p : Int) : Nat → Int
  | 0 => 0
  | k + 1 => if k < 6 then cdR t p k * 32 + (t (p + k) - 96) else 0
def cdE (t : Int → Int) (p e : Int) : Int := if e - p ≤ 6 then cdR t p (e - p).toNat else 0
/-- letters of a word as a number -/
def cdL : List Int → Int
  | [] => 0
  | c :: r => cdL r * 32 + (c - 96)
/-- the word (told from its end) stands at p -/
def stL (t : Int → Int) (p : Int) : List Int → Prop
  | [] => True
  | c :: r => stL t p r ∧ t (p + r.length) = c
theorem cdR_b {t : Int → Int} {p : Int} : ∀ k : Nat, k ≤ 6 → (∀ j : Int, p ≤ j → j < p + k → 97 ≤ t j ∧ t j ≤ 122) → 0 ≤ cdR t p k ∧ cdR t p k < 32 ^ k ∧ (0 < k → 1 ≤ cdR t p k)
  | 0, _, _ => ⟨by show (0 : Int) ≤ 0; omega, by show (0 : Int) < 32 ^ 0; decide, fun h => by omega⟩
  | k + 1, hk, h => by
    have ih := cdR_b (t := t) (p := p) k (by omega) (fun j a b => h j a (by omega))
    have hj := h (p + k) (by omega) (by omega)
    rw [cdR, if_pos (by omega), Int.pow_succ]
    refine ⟨by omega, by omega, fun _ => by omega⟩
theorem cd_inj {t : Int → Int} {p : Int} : ∀ (w : List Int) (k : Nat), k ≤ 6 → w.length ≤ 6 → (∀ c, c ∈ w → 97 ≤ c ∧ c ≤ 122) → (∀ j : Int, p ≤ j → j < p + k → 97 ≤ t j ∧ t j ≤ 122) → (cdR t p k = cdL w ↔ k = w.length ∧ stL t p w)
  | [], 0, _, _, _, _ => ⟨fun _ => ⟨rfl, trivial⟩, fun _ => rfl⟩
  | [], k + 1, hk, _, _, h => by
    have := (cdR_b (t := t) (p := p) (k + 1) hk h).2.2 (by omega)
    constructor
    · intro e; have : cdL [] = 0 := rfl; omega
    · intro e; have := e.1; simp at this
  | c :: r, 0, _, hl, hw, _ => by
    have hb : ∀ (w : List Int), (∀ c, c ∈ w → 97 ≤ c ∧ c ≤ 122) → 0 ≤ cdL w := by
      intro w
      induction w with
      | nil => intro _; show (0 : Int) ≤ 0; omega
      | cons d s ih =>
        intro h
        have := ih (fun x hx => h x (List.mem_cons_of_mem _ hx))
        have := h d (List.mem_cons_self ..)
        show 0 ≤ cdL s * 32 + (d - 96)
        omega
    have h1 := hb r (fun x hx => hw x (List.mem_cons_of_mem _ hx))
    have h2 := hw c (List.mem_cons_self ..)
    constructor
    · intro e
      have : (0 : Int) = cdL r * 32 + (c - 96) := e
      omega
    · intro e; have := e.1; simp at this
  | c :: r, k + 1, hk, hl, hw, h => by
    have ih := cd_inj (t := t) (p := p) r k (by omega) (by simp at hl; omega) (fun x hx => hw x (List.mem_cons_of_mem _ hx)) (fun j a b => h j a (by omega))
    have hc := hw c (List.mem_cons_self ..)
    have hj := h (p + k) (by omega) (by omega)
    rw [cdR, if_pos (by omega)]
    show cdR t p k * 32 + (t (p + k) - 96) = cdL r * 32 + (c - 96) ↔ k + 1 = r.length + 1 ∧ stL t p r ∧ t (p + r.length) = c
    constructor
    · intro e
      have e1 : cdR t p k = cdL r := by omega
      have e2 := ih.mp e1
      refine ⟨by omega, e2.2, ?_⟩
      rw [← e2.1]; omega
    · rintro ⟨e1, e2, e3⟩
      have e4 := ih.mpr ⟨by omega, e2⟩
      rw [e4, show k = r.length by omega, e3]
/-- which word a word's number is -/
def wixC (c : Int) : Int := if c = 211226802 then 0 else if c = 16496818 then 1 else if c = 254268868 then 2 else if c = 269899955 then 3 else if c = 3751662 then 4 else if c = 23609 then 5 else if c = 17171557 then 6 else if c = 24627848 then 7 else if c = 773206180 then 8 else if c = 13683059 then 9 else if c = 591429 then 10 else if c = 16110 then 11 else if c = 1253 then 12 else if c = 3744932 then 13 else if c = 113288627 then 14 else if c = 3673 then 15 else if c = 294 then 16 else if c = 498 then 17 else if c = 1476 then 18 else if c = 14836 then 19 else -1
/-- the class's search through all words: b the bytes from the word's first on -/
def wnF (b : Int → Int) (len : Int) : List Int → Int → Int → Int → Int
  | [], num, same, lt => if same = lt ∧ lt = len then num else -1
  | c :: r, num, same, lt => if c = 32 then (if same = lt ∧ lt = len then num else wnF b len r (num + 1) 0 0) else wnF b len r num (same + (if b lt = c then 1 else 0)) (lt + 1)
/-- the letters of w from place lt on -/
def mtL (b : Int → Int) : List Int → Int → Prop
  | [], _ => True
  | c :: r, lt => b lt = c ∧ mtL b r (lt + 1)
theorem wnF_w {b : Int → Int} {len : Int} (r : List Int) (num : Int) : ∀ (w : List Int) (same lt : Int), (∀ c, c ∈ w → c ≠ 32) → same ≤ lt → ((same = lt ∧ mtL b w lt ∧ lt + w.length = len) → wnF b len (w ++ 32 :: r) num same lt = num) ∧ (¬ (same = lt ∧ mtL b w lt ∧ lt + w.length = len) → wnF b len (w ++ 32 :: r) num same lt = wnF b len r (num + 1) 0 0)
  | [], same, lt, _, _ => by
    have : (same = lt ∧ lt = len) ↔ (same = lt ∧ mtL b [] lt ∧ lt + ([] : List Int).length = len) := by simp [mtL]
    rw [← this]
    show ((same = lt ∧ lt = len) → (if (32 : Int) = 32 then (if same = lt ∧ lt = len then num else _) else _) = _) ∧ (¬ (same = lt ∧ lt = len) → (if (32 : Int) = 32 then (if same = lt ∧ lt = len then num else _) else _) = _)
    rw [if_pos rfl]
    exact ⟨fun h => if_pos h, fun h => if_neg h⟩
  | c :: w, same, lt, hw, hs => by
    have ih := wnF_w (b := b) (len := len) r num w (same + (if b lt = c then 1 else 0)) (lt + 1) (fun x hx => hw x (List.mem_cons_of_mem _ hx)) (by split <;> omega)
    have st : wnF b len ((c :: w) ++ 32 :: r) num same lt = wnF b len (w ++ 32 :: r) num (same + (if b lt = c then 1 else 0)) (lt + 1) := by
      show (if c = 32 then _ else wnF b len (w ++ 32 :: r) num _ _) = _
      rw [if_neg (hw c (List.mem_cons_self ..))]
    rw [st]
    have : (same + (if b lt = c then 1 else 0) = lt + 1 ∧ mtL b w (lt + 1) ∧ lt + 1 + (w.length : Int) = len) ↔ (same = lt ∧ mtL b (c :: w) lt ∧ lt + ((c :: w).length : Int) = len) := by
      have e1 : ((c :: w).length : Int) = (w.length : Int) + 1 := by simp
      rw [e1]
      show _ ↔ (same = lt ∧ (b lt = c ∧ mtL b w (lt + 1)) ∧ _)
      by_cases hb : b lt = c
      · rw [if_pos hb]
        constructor
        · rintro ⟨x, y, z⟩; exact ⟨by omega, ⟨hb, y⟩, by omega⟩
        · rintro ⟨x, y, z⟩; exact ⟨by omega, y.2, by omega⟩
      · rw [if_neg hb]
        constructor
        · rintro ⟨x, y, z⟩; omega
        · rintro ⟨x, y, z⟩; exact absurd y.1 hb
    rw [← this]
    exact ih
theorem wnF_e {b : Int → Int} {len : Int} (num : Int) : ∀ (w : List Int) (same lt : Int), (∀ c, c ∈ w → c ≠ 32) → same ≤ lt → ((same = lt ∧ mtL b w lt ∧ lt + w.length = len) → wnF b len w num same lt = num) ∧ (¬ (same = lt ∧ mtL b w lt ∧ lt + w.length = len) → wnF b len w num same lt = -1)
  | [], same, lt, _, _ => by
    have : (same = lt ∧ lt = len) ↔ (same = lt ∧ mtL b [] lt ∧ lt + ([] : List Int).length = len) := by simp [mtL]
    rw [← this]
    show ((same = lt ∧ lt = len) → (if same = lt ∧ lt = len then num else -1) = _) ∧ (¬ (same = lt ∧ lt = len) → (if same = lt ∧ lt = len then num else -1) = _)
    skip
    exact ⟨fun h => if_pos h, fun h => if_neg h⟩
  | c :: w, same, lt, hw, hs => by
    have ih := wnF_e (b := b) (len := len) num w (same + (if b lt = c then 1 else 0)) (lt + 1) (fun x hx => hw x (List.mem_cons_of_mem _ hx)) (by split <;> omega)
    have st : wnF b len (c :: w) num same lt = wnF b len w num (same + (if b lt = c then 1 else 0)) (lt + 1) := by
      show (if c = 32 then _ else wnF b len w num _ _) = _
      rw [if_neg (hw c (List.mem_cons_self ..))]
    rw [st]
    have : (same + (if b lt = c then 1 else 0) = lt + 1 ∧ mtL b w (lt + 1) ∧ lt + 1 + (w.length : Int) = len) ↔ (same = lt ∧ mtL b (c :: w) lt ∧ lt + ((c :: w).length : Int) = len) := by
      have e1 : ((c :: w).length : Int) = (w.length : Int) + 1 := by simp
      rw [e1]
      show _ ↔ (same = lt ∧ (b lt = c ∧ mtL b w (lt + 1)) ∧ _)
      by_cases hb : b lt = c
      · rw [if_pos hb]
        constructor
        · rintro ⟨x, y, z⟩; exact ⟨by omega, ⟨hb, y⟩, by omega⟩
        · rintro ⟨x, y, z⟩; exact ⟨by omega, y.2, by omega⟩
      · rw [if_neg hb]
        constructor
        · rintro ⟨x, y, z⟩; omega
        · rintro ⟨x, y, z⟩; exact absurd y.1 hb
    rw [← this]
    exact ih
theorem mtL_ap {b : Int → Int} : ∀ (w r : List Int) (lt : Int), mtL b (w ++ r) lt ↔ mtL b w lt ∧ mtL b r (lt + w.length)
  | [], r, lt => by simp [mtL]
  | c :: w, r, lt => by
    have ih := mtL_ap (b := b) w r (lt + 1)
    show (b lt = c ∧ mtL b (w ++ r) (lt + 1)) ↔ (b lt = c ∧ mtL b w (lt + 1)) ∧ _
    rw [ih]
    have e1 : lt + ((c :: w).length : Int) = lt + 1 + (w.length : Int) := by simp; omega
    rw [e1]
    exact ⟨fun x => ⟨⟨x.1, x.2.1⟩, x.2.2⟩, fun x => ⟨x.1.1, x.1.2, x.2⟩⟩
/-- told from its beginning, or from its end -/
theorem mt_st {t b : Int → Int} {p len : Int} (hb' : ∀ k, 0 ≤ k → k < len → b k = t (p + k)) : ∀ (w : List Int), (w.length : Int) ≤ len → (mtL b w.reverse 0 ↔ stL t p w)
  | [], _ => by simp [mtL, stL]
  | c :: r, h => by
    have hl : ((c :: r).length : Int) = r.length + 1 := by simp
    have ih := mt_st hb' r (by omega)
    rw [List.reverse_cons, mtL_ap, ih]
    show stL t p r ∧ (b (0 + (r.reverse.length : Int)) = c ∧ True) ↔ stL t p r ∧ t (p + r.length) = c
    rw [List.length_reverse, Int.zero_add, hb' _ (by omega) (by omega)]
    simp
/-- one word of the list against the reference's number of it -/
theorem wn_one {t b : Int → Int} {p e : Int} (w : List Int) (num : Int) (hb' : ∀ k, 0 ≤ k → k < e - p → b k = t (p + k)) (hp : p ≤ e) (ht : ∀ j, p ≤ j → j < e → 97 ≤ t j ∧ t j ≤ 122) (hw : w.all (fun c => decide (97 ≤ c ∧ c ≤ 122)) = true) (hl : w.length ≤ 6) (h0 : cdL w ≠ 0) : ((0 : Int) = 0 ∧ mtL b w.reverse 0 ∧ 0 + (w.reverse.length : Int) = e - p) ↔ cdE t p e = cdL w := by
  have hw' : ∀ c, c ∈ w → 97 ≤ c ∧ c ≤ 122 := fun c hc => of_decide_eq_true (List.all_eq_true.mp hw c hc)
  rw [List.length_reverse]
  unfold cdE
  by_cases h6 : e - p ≤ 6
  · rw [if_pos h6, cd_inj w (e - p).toNat (by omega) hl hw' (fun j a b => ht j a (by omega))]
    constructor
    · rintro ⟨_, x, y⟩
      exact ⟨by omega, (mt_st hb' w (by omega)).mp x⟩
    · rintro ⟨x, y⟩
      exact ⟨rfl, (mt_st hb' w (by omega)).mpr y, by omega⟩
  · rw [if_neg h6]
    constructor
    · rintro ⟨_, x, y⟩; omega
    · intro x; exact absurd x.symm h0
def aWs : List Int := ([102, 105, 110, 100, 101, 114]) ++ 32 :: ([111, 119, 110, 101, 114] ++ 32 :: ([103, 114, 111, 117, 110, 100] ++ 32 :: ([104, 97, 108, 118, 101, 115] ++ 32 :: ([99, 114, 111, 119, 110] ++ 32 :: ([119, 97, 121] ++ 32 :: ([112, 108, 97, 99, 101] ++ 32 :: ([119, 111, 114, 116, 104] ++ 32 :: ([119, 97, 108, 108, 101, 100] ++ 32 :: ([109, 97, 114, 107, 115] ++ 32 :: ([114, 97, 114, 101] ++ 32 :: ([111, 119, 110] ++ 32 :: ([97, 103, 101] ++ 32 :: ([99, 114, 105, 101, 100] ++ 32 :: ([99, 108, 97, 105, 109, 115] ++ 32 :: ([99, 114, 121] ++ 32 :: ([105, 102] ++ 32 :: ([111, 114] ++ 32 :: ([97, 110, 100] ++ 32 :: ([110, 111, 116])))))))))))))))))))
theorem aWs_e : aWs = zByt.map Int32.toInt := by decide +kernel
theorem wn_all {t b : Int → Int} {p e : Int} (hb' : ∀ k, 0 ≤ k → k < e - p → b k = t (p + k)) (hp : p ≤ e) (ht : ∀ j, p ≤ j → j < e → 97 ≤ t j ∧ t j ≤ 122) : wnF b (e - p) aWs 0 0 0 = wixC (cdE t p e) := by
  unfold aWs wixC
  have h0 := wn_one [114, 101, 100, 110, 105, 102] 0 hb' hp ht (by decide) (by decide) (by decide)
  rw [show cdL [114, 101, 100, 110, 105, 102] = 211226802 from by decide, show ([114, 101, 100, 110, 105, 102] : List Int).reverse = [102, 105, 110, 100, 101, 114] from rfl] at h0
  have h1 := wn_one [114, 101, 110, 119, 111] 1 hb' hp ht (by decide) (by decide) (by decide)
  rw [show cdL [114, 101, 110, 119, 111] = 16496818 from by decide, show ([114, 101, 110, 119, 111] : List Int).reverse = [111, 119, 110, 101, 114] from rfl] at h1
  have h2 := wn_one [100, 110, 117, 111, 114, 103] 2 hb' hp ht (by decide) (by decide) (by decide)
  rw [show cdL [100, 110, 117, 111, 114, 103] = 254268868 from by decide, show ([100, 110, 117, 111, 114, 103] : List Int).reverse = [103, 114, 111, 117, 110, 100] from rfl] at h2
  have h3 := wn_one [115, 101, 118, 108, 97, 104] 3 hb' hp ht (by decide) (by decide) (by decide)
  rw [show cdL [115, 101, 118, 108, 97, 104] = 269899955 from by decide, show ([115, 101, 118, 108, 97, 104] : List Int).reverse = [104, 97, 108, 118, 101, 115] from rfl] at h3
  have h4 := wn_one [110, 119, 111, 114, 99] 4 hb' hp ht (by decide) (by decide) (by decide)
  rw [show cdL [110, 119, 111, 114, 99] = 3751662 from by decide, show ([110, 119, 111, 114, 99] : List Int).reverse = [99, 114, 111, 119, 110] from rfl] at h4
  have h5 := wn_one [121, 97, 119] 5 hb' hp ht (by decide) (by decide) (by decide)
  rw [show cdL [121, 97, 119] = 23609 from by decide, show ([121, 97, 119] : List Int).reverse = [119, 97, 121] from rfl] at h5
  have h6 := wn_one [101, 99, 97, 108, 112] 6 hb' hp ht (by decide) (by decide) (by decide)
  rw [show cdL [101, 99, 97, 108, 112] = 17171557 from by decide, show ([101, 99, 97, 108, 112] : List Int).reverse = [112, 108, 97, 99, 101] from rfl] at h6
  have h7 := wn_one [104, 116, 114, 111, 119] 7 hb' hp ht (by decide) (by decide) (by decide)
  rw [show cdL [104, 116, 114, 111, 119] = 24627848 from by decide, show ([104, 116, 114, 111, 119] : List Int).reverse = [119, 111, 114, 116, 104] from rfl] at h7
  have h8 := wn_one [100, 101, 108, 108, 97, 119] 8 hb' hp ht (by decide) (by decide) (by decide)
  rw [show cdL [100, 101, 108, 108, 97, 119] = 773206180 from by decide, show ([100, 101, 108, 108, 97, 119] : List Int).reverse = [119, 97, 108, 108, 101, 100] from rfl] at h8
  have h9 := wn_one [115, 107, 114, 97, 109] 9 hb' hp ht (by decide) (by decide) (by decide)
  rw [show cdL [115, 107, 114, 97, 109] = 13683059 from by decide, show ([115, 107, 114, 97, 109] : List Int).reverse = [109, 97, 114, 107, 115] from rfl] at h9
  have h10 := wn_one [101, 114, 97, 114] 10 hb' hp ht (by decide) (by decide) (by decide)
  rw [show cdL [101, 114, 97, 114] = 591429 from by decide, show ([101, 114, 97, 114] : List Int).reverse = [114, 97, 114, 101] from rfl] at h10
  have h11 := wn_one [110, 119, 111] 11 hb' hp ht (by decide) (by decide) (by decide)
  rw [show cdL [110, 119, 111] = 16110 from by decide, show ([110, 119, 111] : List Int).reverse = [111, 119, 110] from rfl] at h11
  have h12 := wn_one [101, 103, 97] 12 hb' hp ht (by decide) (by decide) (by decide)
  rw [show cdL [101, 103, 97] = 1253 from by decide, show ([101, 103, 97] : List Int).reverse = [97, 103, 101] from rfl] at h12
  have h13 := wn_one [100, 101, 105, 114, 99] 13 hb' hp ht (by decide) (by decide) (by decide)
  rw [show cdL [100, 101, 105, 114, 99] = 3744932 from by decide, show ([100, 101, 105, 114, 99] : List Int).reverse = [99, 114, 105, 101, 100] from rfl] at h13
  have h14 := wn_one [115, 109, 105, 97, 108, 99] 14 hb' hp ht (by decide) (by decide) (by decide)
  rw [show cdL [115, 109, 105, 97, 108, 99] = 113288627 from by decide, show ([115, 109, 105, 97, 108, 99] : List Int).reverse = [99, 108, 97, 105, 109, 115] from rfl] at h14
  have h15 := wn_one [121, 114, 99] 15 hb' hp ht (by decide) (by decide) (by decide)
  rw [show cdL [121, 114, 99] = 3673 from by decide, show ([121, 114, 99] : List Int).reverse = [99, 114, 121] from rfl] at h15
  have h16 := wn_one [102, 105] 16 hb' hp ht (by decide) (by decide) (by decide)
  rw [show cdL [102, 105] = 294 from by decide, show ([102, 105] : List Int).reverse = [105, 102] from rfl] at h16
  have h17 := wn_one [114, 111] 17 hb' hp ht (by decide) (by decide) (by decide)
  rw [show cdL [114, 111] = 498 from by decide, show ([114, 111] : List Int).reverse = [111, 114] from rfl] at h17
  have h18 := wn_one [100, 110, 97] 18 hb' hp ht (by decide) (by decide) (by decide)
  rw [show cdL [100, 110, 97] = 1476 from by decide, show ([100, 110, 97] : List Int).reverse = [97, 110, 100] from rfl] at h18
  have h19 := wn_one [116, 111, 110] 19 hb' hp ht (by decide) (by decide) (by decide)
  rw [show cdL [116, 111, 110] = 14836 from by decide, show ([116, 111, 110] : List Int).reverse = [110, 111, 116] from rfl] at h19
  by_cases c0 : cdE t p e = 211226802
  · rw [if_pos c0]; exact (wnF_w _ _ [102, 105, 110, 100, 101, 114] 0 0 (by decide) (by decide)).1 (h0.mpr c0)
  rw [if_neg c0]; refine ((wnF_w _ _ [102, 105, 110, 100, 101, 114] 0 0 (by decide) (by decide)).2 (fun x => c0 (h0.mp x))).trans ?_
  by_cases c1 : cdE t p e = 16496818
  · rw [if_pos c1]; exact (wnF_w _ _ [111, 119, 110, 101, 114] 0 0 (by decide) (by decide)).1 (h1.mpr c1)
  rw [if_neg c1]; refine ((wnF_w _ _ [111, 119, 110, 101, 114] 0 0 (by decide) (by decide)).2 (fun x => c1 (h1.mp x))).trans ?_
  by_cases c2 : cdE t p e = 254268868
  · rw [if_pos c2]; exact (wnF_w _ _ [103, 114, 111, 117, 110, 100] 0 0 (by decide) (by decide)).1 (h2.mpr c2)
  rw [if_neg c2]; refine ((wnF_w _ _ [103, 114, 111, 117, 110, 100] 0 0 (by decide) (by decide)).2 (fun x => c2 (h2.mp x))).trans ?_
  by_cases c3 : cdE t p e = 269899955
  · rw [if_pos c3]; exact (wnF_w _ _ [104, 97, 108, 118, 101, 115] 0 0 (by decide) (by decide)).1 (h3.mpr c3)
  rw [if_neg c3]; refine ((wnF_w _ _ [104, 97, 108, 118, 101, 115] 0 0 (by decide) (by decide)).2 (fun x => c3 (h3.mp x))).trans ?_
  by_cases c4 : cdE t p e = 3751662
  · rw [if_pos c4]; exact (wnF_w _ _ [99, 114, 111, 119, 110] 0 0 (by decide) (by decide)).1 (h4.mpr c4)
  rw [if_neg c4]; refine ((wnF_w _ _ [99, 114, 111, 119, 110] 0 0 (by decide) (by decide)).2 (fun x => c4 (h4.mp x))).trans ?_
  by_cases c5 : cdE t p e = 23609
  · rw [if_pos c5]; exact (wnF_w _ _ [119, 97, 121] 0 0 (by decide) (by decide)).1 (h5.mpr c5)
  rw [if_neg c5]; refine ((wnF_w _ _ [119, 97, 121] 0 0 (by decide) (by decide)).2 (fun x => c5 (h5.mp x))).trans ?_
  by_cases c6 : cdE t p e = 17171557
  · rw [if_pos c6]; exact (wnF_w _ _ [112, 108, 97, 99, 101] 0 0 (by decide) (by decide)).1 (h6.mpr c6)
  rw [if_neg c6]; refine ((wnF_w _ _ [112, 108, 97, 99, 101] 0 0 (by decide) (by decide)).2 (fun x => c6 (h6.mp x))).trans ?_
  by_cases c7 : cdE t p e = 24627848
  · rw [if_pos c7]; exact (wnF_w _ _ [119, 111, 114, 116, 104] 0 0 (by decide) (by decide)).1 (h7.mpr c7)
  rw [if_neg c7]; refine ((wnF_w _ _ [119, 111, 114, 116, 104] 0 0 (by decide) (by decide)).2 (fun x => c7 (h7.mp x))).trans ?_
  by_cases c8 : cdE t p e = 773206180
  · rw [if_pos c8]; exact (wnF_w _ _ [119, 97, 108, 108, 101, 100] 0 0 (by decide) (by decide)).1 (h8.mpr c8)
  rw [if_neg c8]; refine ((wnF_w _ _ [119, 97, 108, 108, 101, 100] 0 0 (by decide) (by decide)).2 (fun x => c8 (h8.mp x))).trans ?_
  by_cases c9 : cdE t p e = 13683059
  · rw [if_pos c9]; exact (wnF_w _ _ [109, 97, 114, 107, 115] 0 0 (by decide) (by decide)).1 (h9.mpr c9)
  rw [if_neg c9]; refine ((wnF_w _ _ [109, 97, 114, 107, 115] 0 0 (by decide) (by decide)).2 (fun x => c9 (h9.mp x))).trans ?_
  by_cases c10 : cdE t p e = 591429
  · rw [if_pos c10]; exact (wnF_w _ _ [114, 97, 114, 101] 0 0 (by decide) (by decide)).1 (h10.mpr c10)
  rw [if_neg c10]; refine ((wnF_w _ _ [114, 97, 114, 101] 0 0 (by decide) (by decide)).2 (fun x => c10 (h10.mp x))).trans ?_
  by_cases c11 : cdE t p e = 16110
  · rw [if_pos c11]; exact (wnF_w _ _ [111, 119, 110] 0 0 (by decide) (by decide)).1 (h11.mpr c11)
  rw [if_neg c11]; refine ((wnF_w _ _ [111, 119, 110] 0 0 (by decide) (by decide)).2 (fun x => c11 (h11.mp x))).trans ?_
  by_cases c12 : cdE t p e = 1253
  · rw [if_pos c12]; exact (wnF_w _ _ [97, 103, 101] 0 0 (by decide) (by decide)).1 (h12.mpr c12)
  rw [if_neg c12]; refine ((wnF_w _ _ [97, 103, 101] 0 0 (by decide) (by decide)).2 (fun x => c12 (h12.mp x))).trans ?_
  by_cases c13 : cdE t p e = 3744932
  · rw [if_pos c13]; exact (wnF_w _ _ [99, 114, 105, 101, 100] 0 0 (by decide) (by decide)).1 (h13.mpr c13)
  rw [if_neg c13]; refine ((wnF_w _ _ [99, 114, 105, 101, 100] 0 0 (by decide) (by decide)).2 (fun x => c13 (h13.mp x))).trans ?_
  by_cases c14 : cdE t p e = 113288627
  · rw [if_pos c14]; exact (wnF_w _ _ [99, 108, 97, 105, 109, 115] 0 0 (by decide) (by decide)).1 (h14.mpr c14)
  rw [if_neg c14]; refine ((wnF_w _ _ [99, 108, 97, 105, 109, 115] 0 0 (by decide) (by decide)).2 (fun x => c14 (h14.mp x))).trans ?_
  by_cases c15 : cdE t p e = 3673
  · rw [if_pos c15]; exact (wnF_w _ _ [99, 114, 121] 0 0 (by decide) (by decide)).1 (h15.mpr c15)
  rw [if_neg c15]; refine ((wnF_w _ _ [99, 114, 121] 0 0 (by decide) (by decide)).2 (fun x => c15 (h15.mp x))).trans ?_
  by_cases c16 : cdE t p e = 294
  · rw [if_pos c16]; exact (wnF_w _ _ [105, 102] 0 0 (by decide) (by decide)).1 (h16.mpr c16)
  rw [if_neg c16]; refine ((wnF_w _ _ [105, 102] 0 0 (by decide) (by decide)).2 (fun x => c16 (h16.mp x))).trans ?_
  by_cases c17 : cdE t p e = 498
  · rw [if_pos c17]; exact (wnF_w _ _ [111, 114] 0 0 (by decide) (by decide)).1 (h17.mpr c17)
  rw [if_neg c17]; refine ((wnF_w _ _ [111, 114] 0 0 (by decide) (by decide)).2 (fun x => c17 (h17.mp x))).trans ?_
  by_cases c18 : cdE t p e = 1476
  · rw [if_pos c18]; exact (wnF_w _ _ [97, 110, 100] 0 0 (by decide) (by decide)).1 (h18.mpr c18)
  rw [if_neg c18]; refine ((wnF_w _ _ [97, 110, 100] 0 0 (by decide) (by decide)).2 (fun x => c18 (h18.mp x))).trans ?_
  by_cases c19 : cdE t p e = 14836
  · rw [if_pos c19]; exact (wnF_e _ [110, 111, 116] 0 0 (by decide) (by decide)).1 (h19.mpr c19)
  rw [if_neg c19]; exact (wnF_e _ [110, 111, 116] 0 0 (by decide) (by decide)).2 (fun x => c19 (h19.mp x))
