/-! pieces as both see them -/
section
variable {t : Int → Int} {n : Int} {kd vl pl : Int → Int} {m i o : Int} {V : qV}
theorem tk_sp (h : TK t n kd vl pl m) (h0 : 0 ≤ i) (h1 : i ≤ m) : spB (bt t n (pl i)) = false ∧ 0 ≤ pl i ∧ pl i ≤ n := by
  obtain ⟨a1, a2, a3, a4, a5, a6⟩ := h
  have b := a6 i h0 h1
  refine ⟨?_, by omega, b.2⟩
  by_cases e : i = 0
  · subst e; exact a3.2.2
  · obtain ⟨nx, _, _, _, x⟩ := a4 (i - 1) (by omega) (by omega)
    rw [show i - 1 + 1 = i by omega] at x
    exact x.2.2
theorem tk_lt (h : TK t n kd vl pl m) (h1 : i ≤ m) (hk : kd i ≠ 0) : i < m := by
  by_cases e : i = m
  · subst e; exact absurd h.2.2.2.2.1.2.1 hk
  · omega
theorem tk_kd (h : TK t n kd vl pl m) (h0 : 0 ≤ i) (h1 : i < m) : kd i = 1 ∨ kd i = 2 ∨ kd i = 3 ∨ kd i = 4 := by
  obtain ⟨nx, _, _, x, _⟩ := h.2.2.2.1 i h0 h1
  rcases x with ⟨_, e, _, x | x⟩ | ⟨_, _, x, _⟩ | ⟨_, _, _, x, _⟩
  · exact Or.inr (Or.inr (Or.inl x.2.1))
  · exact Or.inl x.2.1
  · exact Or.inr (Or.inl x)
  · exact Or.inr (Or.inr (Or.inr x))
theorem tk_4 (h : TK t n kd vl pl m) (h0 : 0 ≤ i) (h1 : i ≤ m) (hk : kd i = 4) : i < m ∧ bt t n (pl i) = vl i ∧ ltB (vl i) = false ∧ dgB (vl i) = false ∧ rnE spB t n (pl i + 1) (pl (i + 1)) ∧ pl i + 1 ≤ n := by
  have lt := tk_lt h h1 (by omega)
  obtain ⟨nx, y, z, x, w⟩ := h.2.2.2.1 i h0 lt
  rcases x with ⟨_, e, _, x | x⟩ | ⟨_, _, x, _⟩ | ⟨x1, x2, x3, x4, x5, x6⟩
  · have := x.2.1; omega
  · have := x.2.1; omega
  · omega
  · rw [x5]
    exact ⟨lt, rfl, x1, x2, by rw [← x6]; exact w, by omega⟩
def tk2 (t : Int → Int) (n : Int) (vl pl : Int → Int) (i e : Int) : Prop := rnE dgB t n (pl i) e ∧ (pl i < e ∧ e ≤ n) ∧ vl i = min (nvR t (pl i) (e - pl i).toNat) 10000 ∧ rnE spB t n e (pl (i + 1))
theorem tk_2 (h : TK t n kd vl pl m) (h0 : 0 ≤ i) (h1 : i ≤ m) (hk : kd i = 2) : i < m ∧ dgB (bt t n (pl i)) = true ∧ ∃ e, tk2 t n vl pl i e := by
  have lt := tk_lt h h1 (by omega)
  obtain ⟨nx, y, z, x, w⟩ := h.2.2.2.1 i h0 lt
  rcases x with ⟨_, e, _, x | x⟩ | ⟨x1, x2, x3, x4⟩ | ⟨x1, x2, x3, x4, x5, x6⟩
  · have := x.2.1; omega
  · have := x.2.1; omega
  · exact ⟨lt, x1, nx, x2, z, x4, w⟩
  · omega
def tk1 (t : Int → Int) (n : Int) (vl pl : Int → Int) (i e : Int) : Prop := rnE ltB t n (pl i) e ∧ (pl i < e ∧ e ≤ n) ∧ vl i = wixC (cdE t (pl i) e) ∧ ¬ uC t n (pl i) e ∧ rnE spB t n e (pl (i + 1))
theorem tk_1 (h : TK t n kd vl pl m) (h0 : 0 ≤ i) (h1 : i ≤ m) (hk : kd i = 1) : i < m ∧ ltB (bt t n (pl i)) = true ∧ ∃ e, tk1 t n vl pl i e := by
  have lt := tk_lt h h1 (by omega)
  obtain ⟨nx, y, z, x, w⟩ := h.2.2.2.1 i h0 lt
  rcases x with ⟨x0, e, xe, x | x⟩ | ⟨x1, x2, x3, x4⟩ | ⟨x1, x2, x3, x4, x5, x6⟩
  · have := x.2.1; omega
  · obtain ⟨u1, u2, u3, u4⟩ := x
    subst u4
    exact ⟨lt, x0, nx, xe, z, u3, u1, w⟩
  · omega
  · omega
theorem tk_3 (h : TK t n kd vl pl m) (h0 : 0 ≤ i) (h1 : i ≤ m) (hk : kd i = 3) : i < m ∧ uC t n (pl i) (pl i + 1) ∧ rnE ltB t n (pl i) (pl i + 1) ∧ vl i = bt t n (pl i + 1) - 48 ∧ rnE spB t n (pl i + 2) (pl (i + 1)) ∧ pl i + 2 ≤ n ∧ (0 ≤ vl i ∧ vl i ≤ 9) ∧ bt t n (pl i) = 117 := by
  have lt := tk_lt h h1 (by omega)
  obtain ⟨nx, y, z, x, w⟩ := h.2.2.2.1 i h0 lt
  rcases x with ⟨x0, e, xe, x | x⟩ | ⟨x1, x2, x3, x4⟩ | ⟨x1, x2, x3, x4, x5, x6⟩
  · obtain ⟨u1, u2, u3, u4⟩ := x
    have e1 : e = pl i + 1 := u1.1
    subst e1
    have d := dgB_t.mp u1.2.2.1
    exact ⟨lt, u1, xe, u3, by rw [show pl i + 2 = nx by omega]; exact w, by omega, by omega, u1.2.1⟩
  · have := x.2.1; omega
  · omega
  · omega
/-- a sign -/
theorem tk_sg {c : Int} (h : TK t n kd vl pl m) (h0 : 0 ≤ i) (h1 : i ≤ m) (hc : ltB c = false ∧ dgB c = false ∧ c ≠ 0) : bt t n (pl i) = c ↔ kd i = 4 ∧ vl i = c := by
  constructor
  · intro e
    have k0 : kd i ≠ 0 := fun x => by
      by_cases y : i = m
      · subst y; rw [h.2.2.2.2.1.1, bt_o (by omega)] at e; exact hc.2.2 e.symm
      · have := tk_kd h h0 (by omega); omega
    have lt := tk_lt h h1 k0
    rcases tk_kd h h0 lt with k | k | k | k
    · have := (tk_1 h h0 h1 k).2.1
      rw [e, hc.1] at this; exact absurd this (by decide)
    · have := (tk_2 h h0 h1 k).2.1
      rw [e, hc.2.1] at this; exact absurd this (by decide)
    · have := (tk_3 h h0 h1 k).2.2.2.2.2.2.2
      rw [this] at e
      rw [← e] at hc; exact absurd hc.1 (by decide)
    · exact ⟨k, by rw [← (tk_4 h h0 h1 k).2.1]; exact e⟩
  · rintro ⟨k, e⟩
    rw [(tk_4 h h0 h1 k).2.1]; exact e
theorem tk_dg (h : TK t n kd vl pl m) (h0 : 0 ≤ i) (h1 : i ≤ m) : dgB (bt t n (pl i)) = true ↔ kd i = 2 := by
  constructor
  · intro e
    have k0 : kd i ≠ 0 := fun x => by
      by_cases y : i = m
      · subst y; rw [h.2.2.2.2.1.1, bt_o (by omega)] at e; exact absurd e (by decide)
      · have := tk_kd h h0 (by omega); omega
    have lt := tk_lt h h1 k0
    rcases tk_kd h h0 lt with k | k | k | k
    · have := ltB_t.mp (tk_1 h h0 h1 k).2.1
      have := dgB_t.mp e
      omega
    · exact k
    · have := (tk_3 h h0 h1 k).2.2.2.2.2.2.2
      have := dgB_t.mp e
      omega
    · have := (tk_4 h h0 h1 k)
      rw [this.2.1, this.2.2.2.1] at e; exact absurd e (by decide)
  · intro k; exact (tk_2 h h0 h1 k).2.1
def tkC (t : Int → Int) (n : Int) (kd vl pl : Int → Int) (i e : Int) : Prop := rnE ltB t n (pl i) e ∧ (kd i = 1 → tk1 t n vl pl i e) ∧ (kd i = 3 → e = pl i + 1 ∧ cdE t (pl i) e = 21) ∧ (kd i ≠ 1 → kd i ≠ 3 → cdE t (pl i) e = 0)
/-- the word's number at a piece -/
theorem tk_w (h : TK t n kd vl pl m) (h0 : 0 ≤ i) (h1 : i ≤ m) : ∃ e, tkC t n kd vl pl i e := by
  have cd0 : cdE t (pl i) (pl i) = 0 := by unfold cdE; rw [if_pos (by omega), show (pl i - pl i).toNat = 0 by omega]; rfl
  have no : kd i ≠ 1 → kd i ≠ 3 → ltB (bt t n (pl i)) = false → ∃ e, tkC t n kd vl pl i e := fun a b c => ⟨pl i, rnE_0 c, fun x => absurd x a, fun x => absurd x b, fun _ _ => cd0⟩
  by_cases lt : i < m
  · rcases tk_kd h h0 lt with k | k | k | k
    · obtain ⟨e, he⟩ := (tk_1 h h0 h1 k).2.2
      exact ⟨e, he.1, fun _ => he, fun x => by omega, fun x => absurd k x⟩
    · have := dgB_t.mp (tk_2 h h0 h1 k).2.1
      exact no (by omega) (by omega) (ltB_f.mpr (by omega))
    · have := tk_3 h h0 h1 k
      refine ⟨pl i + 1, this.2.2.1, fun x => by omega, fun _ => ⟨rfl, ?_⟩, fun _ x => absurd k x⟩
      have hp := tk_sp h h0 h1
      have b := this.2.2.2.2.2.2.2
      rw [bt_i (by omega)] at b
      unfold cdE
      rw [if_pos (by omega), show (pl i + 1 - pl i).toNat = 1 by omega]
      show (if (0 : Nat) < 6 then (0 : Int) * 32 + (t (pl i + (0 : Nat)) - 96) else 0) = 21
      rw [if_pos (by decide), show pl i + ((0 : Nat) : Int) = pl i by omega, b]
      decide
    · have := tk_4 h h0 h1 k
      exact no (by omega) (by omega) (by rw [this.2.1]; exact this.2.2.1)
  · have : i = m := by omega
    subst this
    exact no (by rw [h.2.2.2.2.1.2.1]; decide) (by rw [h.2.2.2.2.1.2.1]; decide) (by rw [h.2.2.2.2.1.1, bt_o (by omega)]; decide)
end
