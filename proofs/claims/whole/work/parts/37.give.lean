/-! worlds given to a WHO -/
theorem zlc_0 {x y : Int64} : zlc x y = 0 ↔ x = y := by
  unfold zlc lg_cmp
  by_cases h1 : x > y
  · rw [if_pos h1]
    refine ⟨fun h => absurd h (by decide), fun h => ?_⟩
    subst h
    exact absurd h1 (by simp)
  · rw [if_neg h1]
    by_cases h2 : x = y
    · rw [if_pos h2]; exact ⟨fun _ => h2, fun _ => rfl⟩
    · rw [if_neg h2]; exact ⟨fun h => absurd h (by decide), fun h => absurd h h2⟩
def sv (J : qJ) (o r v : Int) : Bool := hb (J o (r * 16 + v / 64)) (v % 64)
def s0 (J : qJ) (o v : Int) : Bool := hb (J o (v / 64)) (v % 64)
theorem s0_z {J : qJ} {o i : Int} (hi : 0 ≤ i) : (J o i = 0) ↔ ∀ v, v / 64 = i → 0 ≤ v → s0 J o v = false := by
  rw [hb_z]
  constructor
  · intro h v hv h0
    unfold s0
    rw [hv]
    exact h _ (by omega) (by omega)
  · intro h k h0 h1
    have := h (i * 64 + k) (by omega) (by omega)
    unfold s0 at this
    rw [show (i * 64 + k) / 64 = i by omega, show (i * 64 + k) % 64 = k by omega] at this
    exact this
/-- what is left behind give: up to long i -/
def gvn (vo k i : Int) (J J' : qJ) : Prop :=
  (∀ o j, o ≠ 154 → o ≠ vo + 1 → J' o j = J o j) ∧ (∀ j, (j < k * 16 ∨ k * 16 + i ≤ j) → J' (vo + 1) j = J (vo + 1) j) ∧ (∀ j, i ≤ j → J' 154 j = J 154 j) ∧
  (∀ v, 0 ≤ v → v < 64 * i → sv J' (vo + 1) k v = (sv J (vo + 1) k v || (s0 J 154 v && s0 J 152 v)) ∧ s0 J' 154 v = (s0 J 154 v && !s0 J 152 v))
theorem s_give_l {vo k : Int} {V : qV} {K : Int → Int → qJ → Prop} (hvo : vo = 155 ∨ vo = 157) (hk : 0 ≤ k ∧ k ≤ 4) {J0 : qJ} : ∀ (f : Nat) (i r : Int) (J : qJ), 0 ≤ i → i ≤ 16 → 16 < i + f → gvn vo k i J0 J → (r = 0 ∨ r = 1) → (r = 1 ↔ ∃ v, 0 ≤ v ∧ v < 64 * i ∧ s0 J0 154 v = true ∧ s0 J0 152 v = true) →
    (∀ r' J', gvn vo k 16 J0 J' → (r' = 0 ∨ r' = 1) → (r' = 1 ↔ ∃ v, 0 ≤ v ∧ v < 1024 ∧ s0 J0 154 v = true ∧ s0 J0 152 v = true) → K r' 16 J') → lp_X2_give_5 vo k V K f r i J := by
  intro f
  induction f with
  | zero => intro i r J a b c; omega
  | succ f ih =>
    intro i r J h0 h1 hf hg hr hr2 hK
    rw [lp_X2_give_5]
    obtain ⟨g1, g2, g3, g4⟩ := hg
    have e2 : ∀ j, J 152 j = J0 152 j := fun j => g1 152 j (by decide) (by omega)
    refine br_c (fun c => ?_) (fun c => ?_)
    · have e : i = 16 := by omega
      subst e
      exact hK r J ⟨g1, g2, g3, g4⟩ hr hr2
    · refine ⟨by omega, by omega, zr_i (by omega) (by omega), zr_i (by omega) (by omega), br_c (fun d => ?_) (fun d => ?_)⟩
      · rw [zlc_0, g3 i (by omega), e2] at d
        have hz : ∀ v, 64 * i ≤ v → v < 64 * (i + 1) → (s0 J0 154 v && s0 J0 152 v) = false := by
          intro v a b
          have e : v / 64 = i := by omega
          unfold s0
          rw [e, ← hb_and, d, hb_0]
        refine ⟨zr_i (by omega) (by omega), ih (i + 1) r J (by omega) (by omega) (by omega) ⟨g1, fun j hj => g2 j (by omega), fun j hj => g3 j (by omega), fun v a b => ?_⟩ hr ?_ hK⟩
        · by_cases hv : v < 64 * i
          · exact g4 v a hv
          · have z := hz v (by omega) b
            unfold sv
            unfold s0 at z ⊢
            rw [g2 _ (by omega), g3 _ (by omega), z]
            refine ⟨by simp, ?_⟩
            cases h7 : hb (J0 154 (v / 64)) (v % 64) <;> simp_all
        · rw [hr2]
          constructor
          · rintro ⟨v, a, b, c1, c2⟩; exact ⟨v, a, by omega, c1, c2⟩
          · rintro ⟨v, a, b, c1, c2⟩
            by_cases hv : v < 64 * i
            · exact ⟨v, a, hv, c1, c2⟩
            · have z := hz v (by omega) b
              rw [c1, c2] at z; cases z
      · rw [zlc_0, g3 i (by omega), e2] at d
        refine br_f (by omega) (br_f (by omega) ⟨by omega, by omega, by omega, by omega, zr_i (by omega) (by omega), ih (i + 1) 1 _ (by omega) (by omega) (by omega) ⟨fun o j a b => ?_, fun j hj => ?_, fun j hj => ?_, fun v a b => ?_⟩ (Or.inr rfl) ⟨fun _ => ?_, fun _ => rfl⟩ hK⟩)
        · rw [qu_o _ _ a, qu_o _ _ b]; exact g1 o j a b
        · clear hr2 hK ih; rw [qu_o _ _ (by omega), qu_j _ _ (by omega)]; exact g2 j (by omega)
        · rw [qu_j _ _ (by omega), qu_o _ _ (by omega)]; exact g3 j (by omega)
        · have n1 : vo + 1 ≠ 154 := by omega
          by_cases hv : v < 64 * i
          · have := g4 v a hv
            unfold sv s0 at this ⊢
            rw [qu_o _ _ n1, qu_j _ _ (by omega), qu_j _ _ (by omega), qu_o _ _ (by omega)]
            exact this
          · have e : v / 64 = i := by omega
            unfold sv s0
            rw [e, qu_o _ _ n1, qu_s, qu_s, qu_o _ _ (by omega), g2 _ (by omega), g3 _ (by omega), e2, hb_or, hb_and, hb_and, hb_not _ (by omega), hb_and]
            refine ⟨rfl, ?_⟩
            cases hb (J0 154 i) (v % 64) <;> cases hb (J0 152 i) (v % 64) <;> rfl
        · by_cases hx : ∃ v, 0 ≤ v ∧ v < 64 * (i + 1) ∧ s0 J0 154 v = true ∧ s0 J0 152 v = true
          · exact hx
          · exfalso
            apply d
            rw [hb_z]
            intro b b0 b1
            cases h7 : hb (J0 154 i &&& J0 152 i) b with
            | false => rfl
            | true =>
              exfalso
              apply hx
              rw [hb_and, Bool.and_eq_true] at h7
              refine ⟨64 * i + b, by omega, by omega, ?_, ?_⟩
              · unfold s0; rw [show (64 * i + b) / 64 = i by omega, show (64 * i + b) % 64 = b by omega]; exact h7.1
              · unfold s0; rw [show (64 * i + b) / 64 = i by omega, show (64 * i + b) % 64 = b by omega]; exact h7.2
theorem s_give {vo k : Int} {V : qV} {J : qJ} {Q : Int → qJ → Prop} (hvo : vo = 155 ∨ vo = 157) (hk : 0 ≤ k ∧ k ≤ 4) (K : ∀ r J', gvn vo k 16 J J' → (r = 0 ∨ r = 1) → (r = 1 ↔ ∃ v, 0 ≤ v ∧ v < 1024 ∧ s0 J 154 v = true ∧ s0 J 152 v = true) → Q r J') : W_X2_give vo k V J Q := by
  refine s_give_l (J0 := J) hvo hk 100000 0 0 J (by decide) (by decide) (by decide) ⟨fun _ _ _ _ => rfl, fun _ _ => rfl, fun _ _ => rfl, fun v a b => by omega⟩ (Or.inl rfl) ⟨fun h => absurd h (by decide), fun ⟨v, a, b, _⟩ => by omega⟩ (fun r' J' h1 h2 h3 => ⟨h2, K r' J' h1 h2 h3⟩)
theorem s_any {V : qV} {J : qJ} {Q : Int → Prop} (k1 : (∃ v, 0 ≤ v ∧ v < 1024 ∧ s0 J 154 v = true) → Q 1) (k0 : (∀ v, 0 ≤ v → v < 1024 → s0 J 154 v = false) → Q 0) : W_X2_anyUndecided V J Q := by
  have h : ∀ (f : Nat) (i : Int), 0 ≤ i → i ≤ 16 → 16 < i + f → (∀ v, 0 ≤ v → v < 64 * i → s0 J 154 v = false) → lp_X2_anyUndecided_2 V J (fun _ => Q 0) Q f i := by
    intro f
    induction f with
    | zero => intro i a b c; omega
    | succ f ih =>
      intro i h0 h1 hf hz
      rw [lp_X2_anyUndecided_2]
      refine br_c (fun c => k0 (fun v a b => hz v a (by omega))) (fun c => ⟨by omega, br_c (fun d => ⟨zr_i (by omega) (by omega), ih (i + 1) (by omega) (by omega) (by omega) (fun v a b => ?_)⟩) (fun d => k1 ?_)⟩)
      · rw [zlc_0, s0_z h0] at d
        by_cases hv : v < 64 * i
        · exact hz v a hv
        · exact d v (by omega) a
      · rw [zlc_0, s0_z h0] at d
        by_cases hx : ∃ v, 0 ≤ v ∧ v < 1024 ∧ s0 J 154 v = true
        · exact hx
        · exfalso
          apply d
          intro v hv h9
          cases h7 : s0 J 154 v with
          | false => rfl
          | true => exact absurd ⟨v, h9, by omega, h7⟩ hx
  exact h 100000 0 (by decide) (by decide) (by decide) (fun v a b => by omega)
theorem s_clear {vo : Int} {V : qV} {J : qJ} {Q : qV → qJ → Prop} (K : Q (qu (qu V vo 1 (-1)) vo 2 0) (fl J (vo + 1) 0 80 (fun _ => 0))) : W_X9_clear vo V J Q := by
  have h : ∀ (f : Nat) (i : Int) (J : qJ), 0 ≤ i → i ≤ 80 → 80 < i + f → Q (qu (qu V vo 1 (-1)) vo 2 0) (fl J (vo + 1) i 80 (fun _ => 0)) → lp_X9_clear_2 vo V (fun l1x3 J3 => Q (qu (qu V vo 1 (-1)) vo 2 0) J3) f i J := by
    intro f
    induction f with
    | zero => intro i J a b c; omega
    | succ f ih =>
      intro i J h0 h1 hf k
      rw [lp_X9_clear_2]
      refine br_c (fun c => ?_) (fun c => ⟨by omega, zr_i (by omega) (by omega), ih (i + 1) _ (by omega) (by omega) (by omega) ?_⟩)
      · rwa [fl_e (by omega)] at k
      · rw [fl_s (c := fun _ => 0) (by omega)]; exact k
  exact h 100000 0 J (by decide) (by decide) (by decide) K
