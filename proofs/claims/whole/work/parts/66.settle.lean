/-! sets that settle -/
def stP (om : Int → Int) (s : Int) : Prop := ∀ v w, 0 ≤ v → v < 1024 → 0 ≤ w → w < 1024 → om v ≠ 0 → om w ≠ 0 → zand v s = zand w s → om v = om w
def lkP (V : qV) (om : Int → Int) (s L i key : Int) : Prop := ∃ v, 0 ≤ v ∧ v < i ∧ om v ≠ 0 ∧ zand v s = key ∧ V 161 key = (L + 1) * 8 + om v
theorem an_b {v s : Int} (hv : 0 ≤ v ∧ v < 1024) (hs : 0 ≤ s ∧ s < 1024) : 0 ≤ zand v s ∧ zand v s < 1024 := by
  have := zand_rn (a := v) (b := s) hv.1 (by omega) hs.1 (by omega)
  omega
theorem s_settling {s L : Int} {V : qV} {Q : Int → qV → Prop} (hs : 0 ≤ s ∧ s < 1024) (hL : V 159 2 = L) (h0 : 0 ≤ L) (h1 : L ≤ 200000000) (hk : ∀ k, 0 ≤ k → k < 1024 → 0 ≤ V 161 k ∧ V 161 k ≤ 8 * L + 7) (ho : ∀ v, 0 ≤ v → v < 1024 → 0 ≤ V 160 v ∧ V 160 v ≤ 5)
    (k : ∀ r V', (∀ o j, o ≠ 161 → ¬ (o = 159 ∧ j = 2) → V' o j = V o j) → V' 159 2 = L + 1 → (∀ k, 0 ≤ k → k < 1024 → 0 ≤ V' 161 k ∧ V' 161 k ≤ 8 * (L + 1) + 7) → ((r = 1 ∧ stP (V 160) s) ∨ (r = 0 ∧ ¬ stP (V 160) s)) → Q r V') : W_X7_settling s V Q := by
  unfold W_X7_settling
  rw [hL]
  refine ⟨zr_i (by omega) (by omega), ?_⟩
  have main : ∀ (g : Nat) (i : Int) (V1 : qV), 0 ≤ i → i ≤ 1024 → 1024 < i + g → (∀ o j, o ≠ 161 → ¬ (o = 159 ∧ j = 2) → V1 o j = V o j) → V1 159 2 = L + 1 → (∀ k, 0 ≤ k → k < 1024 → 0 ≤ V1 161 k ∧ V1 161 k ≤ 8 * (L + 1) + 7) → (∀ v, 0 ≤ v → v < i → V 160 v ≠ 0 → V1 161 (zand v s) = (L + 1) * 8 + V 160 v) → (∀ key, 0 ≤ key → key < 1024 → V1 161 key ≤ 8 * L + 7 ∨ lkP V1 (V 160) s L i key) → lp_X7_settling_12 s (fun l2x16 V16 => Q 1 V16) Q g i V1 := by
    intro g
    induction g with
    | zero => intro i V1 p q r; omega
    | succ g ih =>
      intro i V1 p q r e1 e2 e3 e4 e5
      have e160 : ∀ j, V1 160 j = V 160 j := fun j => e1 _ _ (by omega) (by omega)
      rw [lp_X7_settling_12, e2, e160]
      refine br_c (fun c => ?_) (fun c => ⟨by omega, ?_⟩)
      · refine k 1 V1 e1 e2 e3 (Or.inl ⟨rfl, fun v w a b c' d x y z => ?_⟩)
        have u1 := e4 v a (by omega) x
        have u2 := e4 w c' (by omega) y
        rw [z, u2] at u1; omega
      · have hi := ho i p (by omega)
        have hkey := an_b (v := i) (s := s) (by omega) hs
        have st : V 160 i ≠ 0 → (∀ v, 0 ≤ v → v < i → V 160 v ≠ 0 → zand v s = zand i s → V 160 v = V 160 i) → ((0 ≤ zand i s ∧ zand i s < 1024) ∧ (zr (i + 1) ∧ lp_X7_settling_12 s (fun l2x16 V16 => Q 1 V16) Q g (i + 1) (qu V1 161 (zand i s) (((L + 1) * 8) + V 160 i)))) := fun hz hag => by
          refine ⟨hkey, zr_i (by omega) (by omega), ih _ _ (by omega) (by omega) (by omega) (fun o j x y => by rw [qu_o _ _ x]; exact e1 o j x y) (by rw [qu_e (by omega)]; exact e2) (fun m a b => ?_) (fun v a b x => ?_) (fun key a b => ?_)⟩
          · by_cases hm : m = zand i s
            · subst hm; rw [qu_s]; omega
            · rw [qu_e (by omega)]; exact e3 m a b
          · by_cases hv : v = i
            · subst hv; rw [qu_s]
            · by_cases hz2 : zand v s = zand i s
              · rw [hz2, qu_s, hag v a (by omega) x hz2]
              · rw [qu_e (by omega)]; exact e4 v a (by omega) x
          · by_cases hm : key = zand i s
            · subst hm
              exact Or.inr ⟨i, p, by omega, hz, rfl, by rw [qu_s]⟩
            · rcases e5 key a b with u | ⟨v, u1, u2, u3, u4, u5⟩
              · left; rw [qu_e (by omega)]; exact u
              · exact Or.inr ⟨v, u1, by omega, u3, u4, by rw [qu_e (by omega)]; exact u5⟩
        refine br_c (fun y => ⟨zr_i (by omega) (by omega), ih _ _ (by omega) (by omega) (by omega) e1 e2 e3 (fun v a b x => ?_) (fun key a b => ?_)⟩) (fun y => ⟨zr_i (by omega) (by omega), by omega, zr_i (by omega) (by omega), hkey, ?_⟩)
        · by_cases hv : v = i
          · subst hv; exact absurd y x
          · exact e4 v a (by omega) x
        · rcases e5 key a b with u | ⟨v, u1, u2, u3, u4, u5⟩
          · exact Or.inl u
          · exact Or.inr ⟨v, u1, by omega, u3, u4, u5⟩
        · have b3 := e3 _ hkey.1 hkey.2
          rw [Int.tdiv_eq_ediv_of_nonneg b3.1]
          refine br_c (fun z => ⟨hkey, br_c (fun z2 => st y (fun v a b x w => ?_)) (fun z2 => ?_)⟩) (fun z => st y (fun v a b x w => ?_))
          · have := e4 v a b x
            rw [w, z2] at this; omega
          · refine k 0 V1 e1 e2 e3 (Or.inr ⟨rfl, fun hst => ?_⟩)
            rcases e5 _ hkey.1 hkey.2 with u | ⟨v, u1, u2, u3, u4, u5⟩
            · omega
            · have := hst v i u1 (by omega) p (by omega) u3 y u4
              rw [this] at u5; exact z2 u5
          · exfalso
            have h9 := e4 v a b x
            have h8 := ho v a (by omega)
            rw [w] at h9
            omega
  exact main 100000 0 (qu V 159 2 (L + 1)) (by decide) (by decide) (by decide) (fun o j x y => qu_e y) (qu_s _ _ _ _) (fun m a b => by rw [qu_e (by omega)]; have := hk m a b; omega) (fun v a b => by omega) (fun key a b => Or.inl (by rw [qu_e (by omega)]; exact (hk key a b).2))
def lkM (V : qV) (W : Int → Bool) (x : Int → Int) (s i key : Int) : Prop := ∃ v, 0 ≤ v ∧ v < i ∧ W v = true ∧ zand v s = key ∧ V 618 key = x v
theorem m_isSettling {W : Int → Bool} {x om : Int → Int} {s : Int} {V : qV} {Q : Int → qV → Prop} (hs : 0 ≤ s ∧ s < 1024) (h6 : ∀ v, 0 ≤ v → v < 1024 → V 616 v = bit01 (W v)) (h7 : ∀ v, 0 ≤ v → v < 1024 → W v = true → V 617 v = x v) (hx : ∀ v, 0 ≤ x v) (hom : ∀ v, 0 ≤ v → v < 1024 → om v = if W v then x v + 1 else 0)
    (k : ∀ r V', (∀ o j, o ≠ 618 → V' o j = V o j) → ((r = 1 ∧ stP om s) ∨ (r = 0 ∧ ¬ stP om s)) → Q r V') : W_X11_isSettling s V Q := by
  have L1 : ∀ (g : Nat) (i : Int) (V2 : qV) (K : Int → qV → Prop), 0 ≤ i → i ≤ 1024 → 1024 < i + g → K 1024 (fl V2 618 i 1024 (fun _ => -1)) → lp_X11_isSettling_2 s K g i V2 := by
    intro g
    induction g with
    | zero => intro i V2 K p q r; omega
    | succ g ih =>
      intro i V2 K p q r kk
      rw [lp_X11_isSettling_2]
      refine br_c (fun c => ?_) (fun c => ⟨by omega, zr_i (by omega) (by omega), ih _ _ _ (by omega) (by omega) (by omega) ?_⟩)
      · have : i = 1024 := by omega
        subst this
        rw [fl_e (by omega)] at kk; exact kk
      · rw [fl_s' (x := -1) (c := fun _ => -1) (by omega) rfl]; exact kk
  refine L1 100000 0 V _ (by decide) (by decide) (by decide) ?_
  have f1 : ∀ o j, o ≠ 618 → (fl V 618 0 1024 (fun _ => (-1 : Int))) o j = V o j := fun o j x => fl_o x _
  have f2 : ∀ u, 0 ≤ u → u < 1024 → (fl V 618 0 1024 (fun _ => (-1 : Int))) 618 u = -1 := fun u a b => fl_in a b
  generalize (fl V 618 0 1024 (fun _ => (-1 : Int))) = V0 at f1 f2 ⊢
  have wne : ∀ v, 0 ≤ v → v < 1024 → (om v ≠ 0 ↔ W v = true) := fun v a b => by
    rw [hom v a b]
    have := hx v
    cases W v <;> simp <;> omega
  have main : ∀ (g : Nat) (i : Int) (V1 : qV), 0 ≤ i → i ≤ 1024 → 1024 < i + g → (∀ o j, o ≠ 618 → V1 o j = V o j) → (∀ v, 0 ≤ v → v < i → W v = true → V1 618 (zand v s) = x v) → (∀ key, 0 ≤ key → key < 1024 → V1 618 key = -1 ∨ lkM V1 W x s i key) → lp_X11_isSettling_24 s (fun l2x18 V18 => Q 1 V18) Q g i V1 := by
    intro g
    induction g with
    | zero => intro i V1 p q r; omega
    | succ g ih =>
      intro i V1 p q r e1 e4 e5
      rw [lp_X11_isSettling_24]
      refine br_c (fun c => ?_) (fun c => ⟨by omega, ?_⟩)
      · refine k 1 V1 e1 (Or.inl ⟨rfl, fun v w a b c' d y z u => ?_⟩)
        have w1 := (wne v a b).mp y
        have w2 := (wne w c' d).mp z
        have u1 := e4 v a (by omega) w1
        have u2 := e4 w c' (by omega) w2
        rw [hom v a b, hom w c' d, w1, w2, if_pos rfl, if_pos rfl, ← u1, ← u2, u]
      · have hkey := an_b (v := i) (s := s) (by omega) hs
        have st : W i = true → (∀ v, 0 ≤ v → v < i → W v = true → zand v s = zand i s → x v = x i) → ((0 ≤ i ∧ i < 1024) ∧ ((0 ≤ zand i s ∧ zand i s < 1024) ∧ (zr (i + 1) ∧ lp_X11_isSettling_24 s (fun l2x18 V18 => Q 1 V18) Q g (i + 1) (qu V1 618 (zand i s) (x i))))) := fun hz hag => by
          refine ⟨by omega, hkey, zr_i (by omega) (by omega), ih _ _ (by omega) (by omega) (by omega) (fun o j y => by rw [qu_o _ _ y]; exact e1 o j y) (fun v a b y => ?_) (fun key a b => ?_)⟩
          · by_cases hv : v = i
            · subst hv; rw [qu_s]
            · by_cases hz2 : zand v s = zand i s
              · rw [hz2, qu_s, hag v a (by omega) y hz2]
              · rw [qu_e (by omega)]; exact e4 v a (by omega) y
          · by_cases hm : key = zand i s
            · subst hm
              exact Or.inr ⟨i, p, by omega, hz, rfl, by rw [qu_s]⟩
            · rcases e5 key a b with u | ⟨v, u1, u2, u3, u4, u5⟩
              · left; rw [qu_e (by omega)]; exact u
              · exact Or.inr ⟨v, u1, by omega, u3, u4, by rw [qu_e (by omega)]; exact u5⟩
        rw [e1 616 i (by decide), h6 i p (by omega)]
        cases hw : W i with
        | false =>
          refine br_t rfl ⟨zr_i (by omega) (by omega), ih _ _ (by omega) (by omega) (by omega) e1 (fun v a b y => ?_) (fun key a b => ?_)⟩
          · by_cases hv : v = i
            · subst hv; rw [hw] at y; exact absurd y (by decide)
            · exact e4 v a (by omega) y
          · rcases e5 key a b with u | ⟨v, u1, u2, u3, u4, u5⟩
            · exact Or.inl u
            · exact Or.inr ⟨v, u1, by omega, u3, u4, u5⟩
        | true =>
          rw [e1 617 i (by decide), h7 i p (by omega) hw]
          refine br_f (by decide) ⟨hkey, br_c (fun z => st hw (fun v a b y w => ?_)) (fun z => ⟨hkey, by omega, br_c (fun z2 => st hw (fun v a b y w => ?_)) (fun z2 => ?_)⟩)⟩
          · exfalso
            have h9 := e4 v a b y
            have := hx v
            rw [w] at h9; omega
          · have h9 := e4 v a b y
            rw [w, z2] at h9; exact h9.symm
          · refine k 0 V1 e1 (Or.inr ⟨rfl, fun hst => ?_⟩)
            rcases e5 _ hkey.1 hkey.2 with u | ⟨v, u1, u2, u3, u4, u5⟩
            · exact z u
            · have h9 := hst v i u1 (by omega) p (by omega) ((wne v u1 (by omega)).mpr u3) ((wne i p (by omega)).mpr hw) u4
              rw [hom v u1 (by omega), hom i p (by omega), u3, hw, if_pos rfl, if_pos rfl] at h9
              exact z2 (by omega)
  exact main 100000 0 V0 (by decide) (by decide) (by decide) f1 (fun v a b => by omega) (fun key a b => Or.inl (f2 key a b))
