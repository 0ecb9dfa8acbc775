/-! riddles: what must be asked -/
def exB (p : Int → Bool) : Nat → Bool
  | 0 => false
  | n + 1 => exB p n || p n
theorem exB_iff {p : Int → Bool} : ∀ {n : Nat}, exB p n = true ↔ ∃ k : Int, 0 ≤ k ∧ k < n ∧ p k = true
  | 0 => ⟨fun h => Bool.noConfusion h, fun ⟨k, a, b, _⟩ => by omega⟩
  | n + 1 => by
    rw [exB, Bool.or_eq_true, exB_iff (n := n)]
    constructor
    · rintro (⟨k, a, b, c⟩ | h)
      · exact ⟨k, a, by omega, c⟩
      · exact ⟨n, by omega, by omega, h⟩
    · rintro ⟨k, a, b, c⟩
      by_cases h : k = n
      · right; rw [← h]; exact c
      · left; exact ⟨k, a, by omega, c⟩
def up (a : Int → Int) (k b : Int) : Int → Int := fun j => if j = k then b else a j
/-- some world that agrees with a has WHO and 1 = y -/
def hasY (om a : Int → Int) (y : Int) : Bool := exB (fun v => allB (knB a v) 10 && decide (om v = y)) 1024
def nB (om a : Int → Int) : Int := cntB (fun i => hasY om a (i + 1)) 5
def mnA (g : (Int → Int) → Int) (a : Int → Int) : Nat → Int
  | 0 => 10
  | j + 1 => if a j = 2 then min (mnA g a j) (1 + max (g (up a j 0)) (g (up a j 1))) else mnA g a j
/-- the fewest questions, n at most -/
def aA (om : Int → Int) : Nat → (Int → Int) → Int
  | 0, _ => 0
  | n + 1, a => if nB om a ≤ 1 then 0 else mnA (aA om n) a 10
def vlA (om a : Int → Int) : Int := if nB om a ≤ 1 then sumI (fun i => if hasY om a (i + 1) then i + 1 else 0) 5 else 5 + aA om 10 a
def telB (om : Int → Int) (op u : Int) : Bool := tb op u && exB (fun v => decide (zor v (zshl 1 u) ≠ v ∧ om v ≠ om (zor v (zshl 1 u)))) 1024
def asg (V : qV) (c u : Int) : Int := if ri (fun i => decide (V 162 i = u)) (V 159 6) = -1 then (if tb (V 159 3) u then 2 else bit01 (tb (V 159 4) u)) else c / 3 ^ (ri (fun i => decide (V 162 i = u)) (V 159 6)).toNat % 3
def tlR (V : qV) : Prop := (0 ≤ V 159 6 ∧ V 159 6 ≤ 10) ∧ (∀ i, 0 ≤ i → i < V 159 6 → (0 ≤ V 162 i ∧ V 162 i < 10) ∧ telB (V 160) (V 159 3) (V 162 i) = true) ∧ (∀ i j, 0 ≤ i → i < j → j < V 159 6 → V 162 i < V 162 j) ∧ (∀ u, 0 ≤ u → u < 10 → telB (V 160) (V 159 3) u = true → ri (fun i => decide (V 162 i = u)) (V 159 6) ≠ -1)
def cuR (V : qV) : Prop := (3 ^ (V 159 6).toNat ≤ V 159 100) ∧ (∀ i, 0 ≤ i → i < 10 → V 164 i = 3 ^ i.toNat) ∧ ∀ c, 0 ≤ c → c < 3 ^ (V 159 6).toNat → V (V 159 7) c = vlA (V 160) (asg V c)
/-- how often a row of c cells can still grow -/
def gT (c : Int) : Nat → Int
  | 0 => 0
  | t + 1 => gT c t + (if c < 3 ^ (t + 1) then 1 else 0)
theorem gT_b (c : Int) : ∀ t : Nat, 0 ≤ gT c t ∧ gT c t ≤ t
  | 0 => by show (0 : Int) ≤ 0 ∧ (0 : Int) ≤ 0; decide
  | t + 1 => by
    have := gT_b c t
    rw [gT]
    split <;> omega
theorem gT_mono {c d : Int} (h : c ≤ d) : ∀ t : Nat, gT d t ≤ gT c t
  | 0 => by show (0 : Int) ≤ 0; decide
  | t + 1 => by
    have := gT_mono h t
    rw [gT, gT]
    by_cases y : d < 3 ^ (t + 1)
    · rw [if_pos y, if_pos (Int.lt_of_le_of_lt h y)]; omega
    · rw [if_neg y]; split <;> omega
theorem gT_lt {c d : Int} (h : c ≤ d) {m : Nat} (h1 : c < 3 ^ m) (h2 : (3 : Int) ^ m ≤ d) (h0 : 0 < m) : ∀ t : Nat, m ≤ t → gT d t + 1 ≤ gT c t
  | 0, ht => by omega
  | t + 1, ht => by
    rw [gT, gT]
    by_cases e : m = t + 1
    · rw [← e, if_pos h1, if_neg (by omega)]
      have := gT_mono h t
      omega
    · have := gT_lt h h1 h2 h0 t (by omega)
      by_cases y : d < 3 ^ (t + 1)
      · rw [if_pos y, if_pos (Int.lt_of_le_of_lt h y)]; omega
      · rw [if_neg y]; split <;> omega
def gN (c : Int) : Int := gT c 10
theorem gN_0 (c : Int) : 0 ≤ gN c := (gT_b c 10).1
theorem gN_m {c d : Int} (h : c ≤ d) : gN d ≤ gN c := gT_mono h 10
def rd (n : Int) (V : qV) : Prop :=
  ((0 ≤ V 159 2 ∧ V 159 2 + 8388608 * gN (V 159 100) ≤ 1024 * n) ∧ ∀ k, 0 ≤ k → k < 1024 → 0 ≤ V 161 k ∧ V 161 k ≤ 8 * V 159 2 + 7) ∧ ((0 ≤ V 159 3 ∧ V 159 3 < 1024) ∧ (0 ≤ V 159 4 ∧ V 159 4 < 1024)) ∧ (∀ v, 0 ≤ v → v < 1024 → 0 ≤ V 160 v ∧ V 160 v ≤ 5) ∧ tlR V ∧
  ((1 ≤ V 159 100 ∧ V 159 100 ≤ 59049) ∧ (V 159 7 = 163 ∨ (625 ≤ V 159 7 ∧ V 159 7 < 1000000))) ∧ (V 159 8 = 0 ∨ (V 159 8 = 1 ∧ cuR V))
theorem rd.fr {n n' : Int} {V V' : qV} (h : rd n V) (hn : n ≤ n') (hV : ∀ o j, 159 ≤ o → o ≤ 165 → V' o j = V o j) (hC : ∀ j, V' (V 159 7) j = V (V 159 7) j) : rd n' V' := by
  have e : ∀ o, 159 ≤ o → o ≤ 165 → V' o = V o := fun o a b => by funext j; exact hV o j a b
  have e7 : V' 159 7 = V 159 7 := hV _ _ (by decide) (by decide)
  have ea : ∀ c, asg V' c = asg V c := fun c => by
    funext u
    unfold asg
    rw [e 159 (by decide) (by decide), e 162 (by decide) (by decide)]
  obtain ⟨h1, h2, h3, h4, h5, h6⟩ := h
  refine ⟨?_, ?_, ?_, ?_, ?_, ?_⟩
  · rw [e 159 (by decide) (by decide), e 161 (by decide) (by decide)]
    exact ⟨⟨h1.1.1, by omega⟩, h1.2⟩
  · rw [e 159 (by decide) (by decide)]; exact h2
  · rw [e 160 (by decide) (by decide)]; exact h3
  · unfold tlR at h4 ⊢
    rw [e 159 (by decide) (by decide), e 160 (by decide) (by decide), e 162 (by decide) (by decide)]; exact h4
  · rw [e 159 (by decide) (by decide)]; exact h5
  · rw [e 159 (by decide) (by decide)]
    rcases h6 with h6 | ⟨h6, c1, c2, c3⟩
    · exact Or.inl h6
    · right
      refine ⟨h6, ?_, ?_, fun c a b => ?_⟩
      · rw [e 159 (by decide) (by decide)]; exact c1
      · rw [e 164 (by decide) (by decide)]; exact c2
      · rw [e7, hC, ea, e 160 (by decide) (by decide)]
        exact c3 c a (by rw [e 159 (by decide) (by decide)] at b; exact b)
/-! all that class and reference hold alike between two calls -/
def tpR (V : qV) : Prop := (V 1 1 = V 602 12 ∧ 0 ≤ V 602 12 ∧ V 602 12 ≤ 400) ∧ ∀ k, 0 ≤ k → k < 400 → V 2 k = (V 613 k).bmod 256 ∧ 0 ≤ V 613 k ∧ V 613 k < 256
def lwR (V : qV) : Prop := (V 0 2 = V 602 11 ∧ 0 ≤ V 602 11 ∧ V 602 11 ≤ 3) ∧ ∀ l, 0 ≤ l → l < V 602 11 → lR V l
def wI (V : qV) (i : Int) : Int → Int := fun k => V 623 (594 * i + k)
def imR (V : qV) (J : qJ) : Prop := (V 0 5 = V 602 33 ∧ 0 ≤ V 602 33 ∧ V 602 33 ≤ 3) ∧ (∀ i, 0 ≤ i → i < V 602 33 → tR V J (188 + 138 * i) (wI V i) (cS V) ∧ wI V i 593 ≤ V 603 593) ∧ ∀ i j, 0 ≤ i → i ≤ j → j < V 602 33 → wI V i 593 ≤ wI V j 593
def Rel (n : Int) (V : qV) (J : qJ) : Prop :=
  tpR V ∧ V 1 12 = V 602 20 ∧ lwR V ∧ tR V J 12 (V 603) (cS V) ∧ imR V J ∧ (∀ c, 0 ≤ c → c < V 603 593 → cW V c) ∧ rd n V ∧ jI V J ∧ (∀ k, 0 ≤ k → k < 10 → V 621 k = 3 ^ k.toNat)
/-- cells that only one call looks at -/
def scrC (o j : Int) : Prop := (o = 1 ∧ j ≠ 1 ∧ j ≠ 12) ∨ (3 ≤ o ∧ o ≤ 10) ∨ (153 ≤ o ∧ o ≤ 158) ∨ (166 ≤ o ∧ o ≤ 172) ∨ (o = 602 ∧ j ≠ 11 ∧ j ≠ 12 ∧ j ≠ 20 ∧ j ≠ 33) ∨ (614 ≤ o ∧ o ≤ 620) ∨ o = 622 ∨ o = 624
theorem cS_fr {V V' : qV} (h : ∀ o j, 604 ≤ o → o ≤ 612 → V' o j = V o j) : cS V' = cS V := by
  funext c v
  unfold cS
  rw [h 611 _ (by decide) (by decide), seg_fr (fun o j ho => h o j (by omega) (by omega))]
theorem lR.fr {V V' : qV} {l : Int} (hl : 0 ≤ l ∧ l < 3) (h : lR V l) (hV : ∀ o j, (173 ≤ o ∧ o < 188) ∨ (604 ≤ o ∧ o ≤ 612) → V' o j = V o j) : lR V' l := by
  have e : ∀ o, (173 ≤ o ∧ o < 188) ∨ (604 ≤ o ∧ o ≤ 612) → V' o = V o := fun o a => by funext j; exact hV o j a
  unfold lR at h ⊢
  simp only [e (173 + 5 * l) (by omega), e (173 + 5 * l + 1) (by omega), e (173 + 5 * l + 2) (by omega), e (173 + 5 * l + 3) (by omega), e (173 + 5 * l + 4) (by omega), e 604 (by omega), e 605 (by omega), e 606 (by omega), e 607 (by omega), e 608 (by omega), e 609 (by omega), e 610 (by omega), e 612 (by omega), seg_fr (fun o j ho => hV o j (by omega))]
  exact h
/-- nothing but such cells was changed, nor longs of what was told -/
theorem Rel.sc {n n' : Int} {V V' : qV} {J J' : qJ} (h : Rel n V J) (hn : n ≤ n') (hV : ∀ o j, ¬ scrC o j → o ≠ 151 → ¬ (159 ≤ o ∧ o ≤ 165) → o < 625 → V' o j = V o j) (hJ : ∀ o j, o = 13 ∨ o = 189 ∨ o = 327 ∨ o = 465 → J' o j = J o j) (hr : rd n' V') (hj : jI V' J') : Rel n' V' J' := by
  obtain ⟨h1, h2, h3, h4, h5, h6, h7, h8, h9⟩ := h
  have a : ∀ o j, (12 ≤ o ∧ o ≤ 150) ∨ (173 ≤ o ∧ o ≤ 601) ∨ (603 ≤ o ∧ o ≤ 613) ∨ o = 0 ∨ o = 2 ∨ o = 621 ∨ o = 623 → V' o j = V o j := fun o j ho => hV o j (by unfold scrC; omega) (by omega) (by omega) (by omega)
  have b : ∀ o j, (o = 1 ∧ (j = 1 ∨ j = 12)) ∨ (o = 602 ∧ (j = 11 ∨ j = 12 ∨ j = 20 ∨ j = 33)) → V' o j = V o j := fun o j ho => hV o j (by unfold scrC; omega) (by omega) (by omega) (by omega)
  have e603 : V' 603 = V 603 := by funext j; exact a _ _ (by omega)
  have ecs : cS V' = cS V := cS_fr (fun o j p q => a o j (by omega))
  have ewI : ∀ i, wI V' i = wI V i := fun i => by funext k; unfold wI; exact a _ _ (by omega)
  refine ⟨?_, ?_, ?_, ?_, ?_, ?_, hr, hj, ?_⟩
  · refine ⟨by rw [b _ _ (by omega), b _ _ (by omega)]; exact h1.1, fun k p q => ?_⟩
    rw [a _ _ (by omega), a _ _ (by omega)]; exact h1.2 k p q
  · rw [b _ _ (by omega), b _ _ (by omega)]; exact h2
  · refine ⟨by rw [a _ _ (by omega), b _ _ (by omega)]; exact h3.1, fun l p q => ?_⟩
    rw [b _ _ (by omega)] at q
    exact (h3.2 l p q).fr (by have := h3.1; omega) (fun o j ho => a o j (by omega))
  · rw [e603, ecs]
    exact h4.fr (fun o j p q => a o j (by omega)) (fun j => hJ _ _ (by omega))
  · refine ⟨by rw [a _ _ (by omega), b _ _ (by omega)]; exact h5.1, fun i p q => ?_, fun i j p q r => ?_⟩
    · rw [b _ _ (by omega)] at q
      have hi : i = 0 ∨ i = 1 ∨ i = 2 := by have := h5.1; omega
      rw [ewI, e603, ecs]
      exact ⟨(h5.2.1 i p q).1.fr (fun o j p q => a o j (by omega)) (fun j => hJ _ _ (by omega)), (h5.2.1 i p q).2⟩
    · rw [b _ _ (by omega)] at r
      rw [ewI, ewI]; exact h5.2.2 i j p q r
  · intro c p q
    rw [e603] at q
    have := h6 c p q
    unfold cW at this ⊢
    rw [a 611 _ (by omega), seg_fr (fun o j ho => a o j (by omega))]; exact this
  · intro k p q
    rw [a _ _ (by omega)]; exact h9 k p q
