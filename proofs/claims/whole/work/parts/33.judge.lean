/-! the judge's steps: sets and numbers on two stacks -/
theorem s_pushAll_l {l1 l2 : Int} {V : qV} {K : Int → qJ → Prop} (h2 : 0 ≤ l2 ∧ l2 ≤ 240) : ∀ (f : Nat) (i : Int) (J : qJ), 0 ≤ i → i ≤ 16 → 16 < i + f → K 16 (fl J 152 (l2 + i) (l2 + 16) (fun _ => if l1 = 0 then 0 else -1)) → lp_X2_pushAll_19 l1 l2 V K f i J := by
  intro f
  induction f with
  | zero => intro i J a b c; omega
  | succ f ih =>
    intro i J a b c k
    rw [lp_X2_pushAll_19]
    refine br_c (fun d => ?_) (fun d => ?_)
    · have e : i = 16 := by omega
      subst e
      rwa [fl_e (by omega)] at k
    · refine ⟨zr_i (by omega) (by omega), br_c (fun e => ?_) (fun e => ?_)⟩
      · refine ⟨by omega, zr_i (by omega) (by omega), ih (i + 1) _ (by omega) (by omega) (by omega) ?_⟩
        rw [show l2 + (i + 1) = l2 + i + 1 by omega, fl_s' (by omega) (by simp [e])]
        exact k
      · refine ⟨by omega, zr_i (by omega) (by omega), ih (i + 1) _ (by omega) (by omega) (by omega) ?_⟩
        rw [show l2 + (i + 1) = l2 + i + 1 by omega, fl_s' (by omega) (by simp [e])]
        exact k
theorem s_pushAll {a1 : Int} {V : qV} {J : qJ} {Q : qV → qJ → Prop} (h : 0 ≤ V 151 3 ∧ V 151 3 < 16) (k : Q (qu V 151 3 (V 151 3 + 1)) (fl J 152 (V 151 3 * 16) (V 151 3 * 16 + 16) (fun _ => if a1 = 0 then 0 else -1))) : W_X2_pushAll a1 V J Q := by
  refine br_f (by omega) ⟨zr_i (by omega) (by omega), s_pushAll_l (by omega) 100000 0 J (by decide) (by decide) (by decide) ⟨zr_i (by omega) (by omega), ?_⟩⟩
  rw [Int.add_zero]
  exact k
/-- the worlds of a long in which an unknown is true -/
def tB (u i : Int) : Int64 := if u < 6 then qTB u else if tb i (u - 6) then -1 else 0
theorem s_trueBits {u i : Int} {V : qV} {J : qJ} {Q : Int64 → Prop} (hu : 0 ≤ u ∧ u < 10) (hi : 0 ≤ i ∧ i < 16) (k : Q (tB u i)) : W_X10_trueBits u i V J Q := by
  refine br_f (by omega) (br_c (fun c => ⟨zr_i (by omega) (by omega), ?_⟩) (fun c => ⟨by omega, ?_⟩))
  · rw [tb_sh hi.1 (by omega) (by omega) (by omega)]
    unfold tB at k
    rw [if_neg (by omega)] at k
    by_cases h : tb i (u - 6) = true
    · rw [if_pos h] at k ⊢
      exact br_t rfl k
    · rw [if_neg h] at k ⊢
      exact br_f (by decide) k
  · unfold tB at k
    rw [if_pos (by omega)] at k
    exact k
theorem s_pushUnknown_l {l1 l2 : Int} {V : qV} {K : Int → qJ → Prop} (h1 : 0 ≤ l1 ∧ l1 < 10) (h2 : 0 ≤ l2 ∧ l2 ≤ 240) : ∀ (f : Nat) (i : Int) (J : qJ), 0 ≤ i → i ≤ 16 → 16 < i + f → K 16 (fl J 152 (l2 + i) (l2 + 16) (fun j => tB l1 (j - l2))) → lp_X2_pushUnknown_19 l1 l2 V K f i J := by
  intro f
  induction f with
  | zero => intro i J a b c; omega
  | succ f ih =>
    intro i J a b c k
    rw [lp_X2_pushUnknown_19]
    refine br_c (fun d => ?_) (fun d => ?_)
    · have e : i = 16 := by omega
      subst e
      rwa [fl_e (by omega)] at k
    · refine ⟨zr_i (by omega) (by omega), s_trueBits h1 (by omega) ⟨by omega, zr_i (by omega) (by omega), ih (i + 1) _ (by omega) (by omega) (by omega) ?_⟩⟩
      rw [show l2 + (i + 1) = l2 + i + 1 by omega, fl_s' (by omega) (by rw [show l2 + i - l2 = i by omega])]
      exact k
theorem s_pushUnknown {a1 : Int} {V : qV} {J : qJ} {Q : qV → qJ → Prop} (hu : 0 ≤ a1 ∧ a1 < 10) (h : 0 ≤ V 151 3 ∧ V 151 3 < 16) (k : Q (qu V 151 3 (V 151 3 + 1)) (fl J 152 (V 151 3 * 16) (V 151 3 * 16 + 16) (fun j => tB a1 (j - V 151 3 * 16)))) : W_X2_pushUnknown a1 V J Q := by
  refine br_f (by omega) ⟨zr_i (by omega) (by omega), s_pushUnknown_l hu (by omega) 100000 0 J (by decide) (by decide) (by decide) ⟨zr_i (by omega) (by omega), ?_⟩⟩
  rw [Int.add_zero]
  exact k
theorem s_turn_l {l1 : Int} {V : qV} {K : Int → qJ → Prop} {J0 : qJ} (h2 : 0 ≤ l1 ∧ l1 ≤ 240) : ∀ (f : Nat) (i : Int) (J : qJ), 0 ≤ i → i ≤ 16 → 16 < i + f → (∀ j, l1 + i ≤ j → J 152 j = J0 152 j) → K 16 (fl J 152 (l1 + i) (l1 + 16) (fun j => J0 152 j ^^^ (-1))) → lp_X2_turn_20 l1 V K f i J := by
  intro f
  induction f with
  | zero => intro i J a b c; omega
  | succ f ih =>
    intro i J a b c hJ k
    rw [lp_X2_turn_20]
    refine br_c (fun d => ?_) (fun d => ?_)
    · have e : i = 16 := by omega
      subst e
      rwa [fl_e (by omega)] at k
    · refine ⟨zr_i (by omega) (by omega), zr_i (by omega) (by omega), by omega, by omega, zr_i (by omega) (by omega), ih (i + 1) _ (by omega) (by omega) (by omega) (fun j hj => ?_) ?_⟩
      · rw [qu_j _ _ (by omega)]; exact hJ j (by omega)
      · rw [show l1 + (i + 1) = l1 + i + 1 by omega, fl_s' (by omega) (by rw [hJ _ (by omega)])]
        exact k
theorem s_turn {V : qV} {J : qJ} {Q : qJ → Prop} (h : 1 ≤ V 151 3 ∧ V 151 3 ≤ 16) (k : Q (fl J 152 ((V 151 3 - 1) * 16) ((V 151 3 - 1) * 16 + 16) (fun j => J 152 j ^^^ (-1)))) : W_X2_turn V J Q := by
  refine br_f (by omega) ⟨zr_i (by omega) (by omega), zr_i (by omega) (by omega), s_turn_l (J0 := J) (by omega) 100000 0 J (by decide) (by decide) (by decide) (fun _ _ => rfl) ?_⟩
  rw [Int.add_zero]
  exact k
theorem s_join_l {l1 l2 l3 : Int} {V : qV} {K : Int → qJ → Prop} {J0 : qJ} (h2 : l2 = l3 + 16) (h3 : 0 ≤ l3 ∧ l3 ≤ 224) : ∀ (f : Nat) (i : Int) (J : qJ), 0 ≤ i → i ≤ 16 → 16 < i + f → (∀ j, l3 + i ≤ j → J 152 j = J0 152 j) → K 16 (fl J 152 (l3 + i) (l3 + 16) (fun j => if l1 = 0 then J0 152 j ||| J0 152 (j + 16) else J0 152 j &&& J0 152 (j + 16))) → lp_X2_join_34 l1 l2 l3 V K f i J := by
  intro f
  induction f with
  | zero => intro i J a b c; omega
  | succ f ih =>
    intro i J a b c hJ k
    rw [lp_X2_join_34]
    refine br_c (fun d => ?_) (fun d => ?_)
    · have e : i = 16 := by omega
      subst e
      rwa [fl_e (by omega)] at k
    · refine ⟨zr_i (by omega) (by omega), br_c (fun e => ?_) (fun e => ?_)⟩
      · refine ⟨zr_i (by omega) (by omega), by omega, zr_i (by omega) (by omega), by omega, by omega, zr_i (by omega) (by omega), ih (i + 1) _ (by omega) (by omega) (by omega) (fun j hj => ?_) ?_⟩
        · rw [qu_j _ _ (by omega)]; exact hJ j (by omega)
        · rw [show l3 + (i + 1) = l3 + i + 1 by omega, fl_s' (by omega) (by rw [if_pos e, hJ _ (by omega), hJ _ (by omega), show l2 + i = l3 + i + 16 by omega])]
          exact k
      · refine ⟨zr_i (by omega) (by omega), by omega, zr_i (by omega) (by omega), by omega, by omega, zr_i (by omega) (by omega), ih (i + 1) _ (by omega) (by omega) (by omega) (fun j hj => ?_) ?_⟩
        · rw [qu_j _ _ (by omega)]; exact hJ j (by omega)
        · rw [show l3 + (i + 1) = l3 + i + 1 by omega, fl_s' (by omega) (by rw [if_neg e, hJ _ (by omega), hJ _ (by omega), show l2 + i = l3 + i + 16 by omega])]
          exact k
theorem s_join {a1 : Int} {V : qV} {J : qJ} {Q : qV → qJ → Prop} (h : 2 ≤ V 151 3 ∧ V 151 3 ≤ 16) (k : Q (qu V 151 3 (V 151 3 - 1)) (fl J 152 ((V 151 3 - 2) * 16) ((V 151 3 - 2) * 16 + 16) (fun j => if a1 = 0 then J 152 j ||| J 152 (j + 16) else J 152 j &&& J 152 (j + 16)))) : W_X2_join a1 V J Q := by
  unfold W_X2_join
  rw [qu_s]
  refine br_f (by omega) ⟨zr_i (by omega) (by omega), zr_i (by omega) (by omega), zr_i (by omega) (by omega), s_join_l (J0 := J) (by omega) (by omega) 100000 0 J (by decide) (by decide) (by decide) (fun _ _ => rfl) ?_⟩
  rw [Int.add_zero, show (V 151 3 - 1) * 16 - 16 = (V 151 3 - 2) * 16 by omega]
  exact k
theorem s_pushNumber {a1 : Int} {V : qV} {Q : qV → Prop} (h : 0 ≤ V 151 4 ∧ V 151 4 < 16) (k : Q (qu (qu V 153 (V 151 4) a1) 151 4 (V 151 4 + 1))) : W_X2_pushNumber a1 V Q := by
  unfold W_X2_pushNumber
  rw [qu_o _ _ (by decide)]
  exact br_f (by omega) ⟨by omega, zr_i (by omega) (by omega), k⟩
theorem s_popNumber {V : qV} {Q : Int → qV → Prop} (h : 0 < V 151 4 ∧ V 151 4 ≤ 16) (k : Q (V 153 (V 151 4 - 1)) (qu V 151 4 (V 151 4 - 1))) : W_X2_popNumber V Q := by
  unfold W_X2_popNumber
  rw [qu_s, qu_o _ _ (by decide)]
  exact br_t h.1 ⟨zr_i (by omega) (by omega), by omega, k⟩
