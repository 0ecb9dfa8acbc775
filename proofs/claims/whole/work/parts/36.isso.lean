/-! the reference works a condition out in one world -/
def mi (V : qV) : List Int → Prop
  | [] => True
  | a :: s => V 615 (s.length : Int) = a ∧ mi V s
theorem mi.fr {V V' : qV} : ∀ {s : List Int}, mi V s → (∀ j, j < (s.length : Int) → V' 615 j = V 615 j) → mi V' s
  | [], _, _ => trivial
  | a :: s, h, hV => by
    simp only [List.length_cons] at hV
    exact ⟨by rw [hV _ (by omega)]; exact h.1, h.2.fr (fun j hj => hV j (by omega))⟩
def mcod (V : qV) : Int → List (Int × Int) → Prop
  | _, [] => True
  | a, c :: L => V 604 a = c.1 ∧ V 605 a = c.2 ∧ mcod V (a + 1) L
theorem mcod.fr {V V' : qV} (h : ∀ o j, o = 604 ∨ o = 605 → V' o j = V o j) : ∀ {L : List (Int × Int)} {a : Int}, mcod V a L → mcod V' a L
  | [], _, _ => trivial
  | _ :: _, _, hc => ⟨by rw [h _ _ (Or.inl rfl)]; exact hc.1, by rw [h _ _ (Or.inr rfl)]; exact hc.2.1, hc.2.2.fr h⟩
theorem mcod_seg (V : qV) : ∀ (n : Nat) (a : Int), mcod V a (seg V a n)
  | 0, _ => trivial
  | n + 1, a => ⟨rfl, rfl, mcod_seg V n (a + 1)⟩
theorem seg_len (V : qV) : ∀ (n : Nat) (a : Int), (seg V a n).length = n
  | 0, _ => rfl
  | n + 1, a => by rw [seg, List.length_cons, seg_len V n]
theorem cnt_len : ∀ t : List Bool, t.length = t.count true + t.count false
  | [] => rfl
  | true :: t => by rw [List.length_cons, cnt_len t]; simp; omega
  | false :: t => by rw [List.length_cons, cnt_len t]; simp; omega
theorem wok_len {t : List Bool} (h : wok t = true) : t.length ≤ 32 := by
  have := cnt_len t
  simp only [wok, decide_eq_true_eq] at h
  omega
theorem wst_two {t t' : List Bool} {what n : Int} (h : wst t (what, n) = some t') (h1 : 2 < what) (h2 : what ≠ 10) : n = 0 ∧ what ≤ 9 ∧ ∃ p q r x, t = p :: q :: r ∧ t' = x :: r := by
  unfold wst at h
  dsimp only at h
  rw [if_neg (by omega), if_neg (by omega), if_neg (by omega)] at h
  split at h
  · cases h
  · rename_i hn
    refine ⟨by omega, ?_⟩
    split at h
    · split at h
      · cases h; exact ⟨by omega, _, _, _, _, rfl, rfl⟩
      · cases h
    · split at h
      · split at h
        · cases h; exact ⟨by omega, _, _, _, _, rfl, rfl⟩
        · cases h
      · split at h
        · split at h
          · cases h; exact ⟨by omega, _, _, _, _, rfl, rfl⟩
          · cases h
        · cases h
theorem wst_one {t t' : List Bool} {n : Int} (h : wst t (10, n) = some t') : n = 0 ∧ ∃ r, t = true :: r ∧ t' = true :: r := by
  unfold wst at h
  dsimp only at h
  rw [if_neg (by decide), if_neg (by decide), if_neg (by decide)] at h
  split at h
  · cases h
  · rename_i hn
    rw [if_pos rfl] at h
    split at h
    · cases h; exact ⟨by omega, _, rfl, rfl⟩
    · cases h
theorem wst_zero {t t' : List Bool} {what n : Int} (h : wst t (what, n) = some t') (h1 : ¬ 2 < what) : (what = 0 ∨ (what = 1 ∧ 0 ≤ n ∧ n ≤ 9) ∨ (what = 2 ∧ 0 ≤ n ∧ n ≤ 9)) ∧ ∃ x, t' = x :: t := by
  unfold wst at h
  dsimp only at h
  split at h
  · rename_i h0
    split at h
    · cases h; exact ⟨Or.inl h0, _, rfl⟩
    · cases h
  · split at h
    · rename_i h0
      split at h
      · rename_i h2; cases h; exact ⟨Or.inr (Or.inl ⟨h0, h2⟩), _, rfl⟩
      · cases h
    · split at h
      · rename_i h0
        split at h
        · rename_i h2; cases h; exact ⟨Or.inr (Or.inr ⟨h0, h2⟩), _, rfl⟩
        · cases h
      · exfalso
        split at h
        · cases h
        · rw [if_neg (by omega), if_neg (by omega), if_neg (by omega), if_neg (by omega)] at h
          cases h
theorem m_isSo_l {nm : Int → Int} {l2 l3 : Int} {K : Int → Int → qV → Prop} (h3 : 0 ≤ l3 ∧ l3 < 1024) (h2 : l2 ≤ 4620) : ∀ (f : Nat) (L : List (Int × Int)) (i : Int) (V : qV) (t t' : List Bool) (s : List Int), 0 ≤ i → i + L.length = l2 → L.length < f → s.length = t.length → wok t = true → wrun L t = some t' → mcod V i L → mi V s → (∀ n, 0 ≤ n → n ≤ 9 → nm n = V 614 n) →
    (∀ V' n, (∀ o j, o ≠ 615 → V' o j = V o j) → mi V' (run nm l3 L s) → (run nm l3 L s).length = t'.length → K n l2 V') → lp_X11_isSo_6 l2 l3 K f (s.length : Int) i V := by
  intro f
  induction f with
  | zero => intro L i V t t' s _ _ h; omega
  | succ f ih =>
    intro L i V t t' s hi hl hf hsl hk hw hc hm hnm k
    rw [lp_X11_isSo_6]
    cases L with
    | nil =>
      simp only [List.length_nil] at hl
      have e : i = l2 := by omega
      subst e
      simp only [wrun, Option.some.injEq] at hw
      exact br_t (by omega) (k V _ (fun _ _ _ => rfl) hm (by rw [← hw]; exact hsl))
    | cons c L =>
      simp only [List.length_cons] at hl hf
      rw [wrun] at hw
      split at hw
      · cases hw
      · rename_i t1 hw1
        split at hw
        · rename_i hk1
          have hlen := wok_len hk
          obtain ⟨what, n⟩ := c
          have c1 : V 604 i = what := hc.1
          have c2 : V 605 i = n := hc.2.1
          have go : ∀ (V1 : qV) (s1 : List Int), (∀ o j, o ≠ 615 → V1 o j = V o j) → mi V1 s1 → s1.length = t1.length → s1 = stp nm l3 s (what, n) → lp_X11_isSo_6 l2 l3 K f (s1.length : Int) (i + 1) V1 := by
            intro V1 s1 hV hm1 hl1 he
            refine ih L (i + 1) V1 t1 t' s1 (by omega) (by omega) (by omega) hl1 hk1 hw (hc.2.2.fr (fun o j h => hV o j (by omega))) hm1 (fun n a b => by rw [hnm n a b, hV _ _ (by decide)]) (fun V' m q1 q2 q3 => ?_)
            rw [he] at q2 q3
            exact k V' m (fun o j h => by rw [q1 o j h, hV o j h]) q2 q3
          refine br_f (by omega) ⟨by omega, ?_⟩
          rw [c1, c2]
          refine br_c (fun q => ?_) (fun q => ?_)
          · refine br_c (fun q2 => ?_) (fun q2 => ?_)
            · subst q2
              obtain ⟨-, r, rfl, rfl⟩ := wst_one hw1
              cases s with
              | nil => simp at hsl
              | cons b s =>
                simp only [List.length_cons] at hsl hlen
                have e : (((b :: s).length : Nat) : Int) - 1 = (s.length : Int) := by simp
                have hm1 : V 615 (s.length : Int) = b := hm.1
                rw [e, hm1]
                refine ⟨zr_i (by omega) (by omega), zr_i (by omega) (by omega), by omega, by omega, zr_i (by omega) (by omega), ?_⟩
                refine go _ (qw (1 - b) :: s) (fun o j h => qu_o _ _ h _) ⟨by rw [qu_s], hm.2.fr (fun j hj => by rw [qu_j _ _ (by omega)])⟩ (by simp only [List.length_cons]; omega) (by simp [stp])
            · obtain ⟨rfl, h9, p, q3, r, x, rfl, rfl⟩ := wst_two hw1 q q2
              cases s with
              | nil => simp at hsl
              | cons b s => cases s with
                | nil => simp at hsl
                | cons a s =>
                  simp only [List.length_cons] at hsl hlen
                  have e : (((b :: a :: s).length : Nat) : Int) + (-1) = ((a :: s).length : Int) := by simp; omega
                  have e2 : (((a :: s).length : Nat) : Int) - 1 = (s.length : Int) := by simp
                  have hm1 : V 615 ((a :: s).length : Int) = b := hm.1
                  have hm2 : V 615 (s.length : Int) = a := hm.2.1
                  rw [e, e2, hm1, hm2]
                  have l1 : ((a :: s).length : Int) = (s.length : Int) + 1 := by simp
                  refine ⟨zr_i (by omega) (by omega), zr_i (by omega) (by omega), by omega, by omega, zr_i (by omega) (by omega), ?_⟩
                  have fin : ∀ y, op2 what a b = y → ((0 ≤ (s.length : Int) ∧ (s.length : Int) < 210) ∧ (zr (i + 1) ∧ lp_X11_isSo_6 l2 l3 K f ((a :: s).length : Int) (i + 1) (qu V 615 (s.length : Int) y))) := by
                    intro y hy
                    refine ⟨by omega, zr_i (by omega) (by omega), ?_⟩
                    have h0 := go (qu V 615 (s.length : Int) y) (y :: s) (fun o j h => qu_o _ _ h _) ⟨by rw [qu_s], hm.2.2.fr (fun j hj => by rw [qu_j _ _ (by omega)])⟩ (by simp only [List.length_cons]; omega) (by simp only [stp]; rw [if_neg (by omega), if_neg q2, hy])
                    exact h0
                  refine br_c (fun z => fin _ (by simp [op2, z])) (fun z3 => br_c (fun z => fin _ (by simp [op2, z])) (fun z4 => br_c (fun z => ?_) (fun z5 => br_c (fun z => ?_) (fun z6 => br_c (fun z => ?_) (fun z7 => br_c (fun z => fin _ (by simp [op2, z])) (fun z8 => fin _ (by simp [op2, z3, z4, z5, z6, z7, z8])))))))
                  · exact br_c (fun y => fin _ (by simp [op2, z, bit01, show ¬ a < b by omega])) (fun y => fin _ (by simp [op2, z, bit01, show a < b by omega]))
                  · exact br_c (fun y => fin _ (by simp [op2, z, bit01, show ¬ b < a by omega])) (fun y => fin _ (by simp [op2, z, bit01, show b < a by omega]))
                  · exact br_c (fun y => fin _ (by simp [op2, z, bit01, y])) (fun y => fin _ (by simp [op2, z, bit01, y]))
          · obtain ⟨h9, x, rfl⟩ := wst_zero hw1 q
            have push : ∀ y, stp nm l3 s (what, n) = y :: s → lp_X11_isSo_6 l2 l3 K f ((s.length : Int) + 1) (i + 1) (qu V 615 (s.length : Int) y) := by
              intro y hy
              have h0 := go (qu V 615 (s.length : Int) y) (y :: s) (fun o j h => qu_o _ _ h _) ⟨by rw [qu_s], hm.fr (fun j hj => by rw [qu_j _ _ (by omega)])⟩ (by simp only [List.length_cons]; omega) hy.symm
              simpa using h0
            refine br_c (fun z => ?_) (fun z0 => br_c (fun z => ?_) (fun z1 => ?_))
            · exact ⟨by omega, by omega, zr_i (by omega) (by omega), zr_i (by omega) (by omega), push _ (by simp [stp, z])⟩
            · exact ⟨by omega, by omega, by omega, zr_i (by omega) (by omega), zr_i (by omega) (by omega), push _ (by simp [stp, z, hnm n (by omega) (by omega)])⟩
            · refine ⟨by omega, by omega, zr_i (by omega) (by omega), zr_i (by omega) (by omega), push _ ?_⟩
              have z2 : what = 2 := by omega
              subst z2
              rw [tb_sh h3.1 (by omega) (by omega) (by omega)]
              simp [stp, bit01]
        · cases hw
theorem m_isSo {nm : Int → Int} {a b v : Int} {V : qV} {Q : Int → qV → Prop} {L : List (Int × Int)} (hv : 0 ≤ v ∧ v < 1024) (ha : 0 ≤ a) (hab : a + L.length = b) (hb4 : b ≤ 4620) (hl : L.length ≤ 400) (hw : wrun L [] = some [true]) (hc : mcod V a L) (hnm : ∀ n, 0 ≤ n → n ≤ 9 → nm n = V 614 n)
    (k : ∀ V', (∀ o j, o ≠ 615 → V' o j = V o j) → Q (bit01 (run nm v L [] = [1])) V') : W_X11_isSo a b v V Q := by
  have h := m_isSo_l (K := fun l4x59 l5x59 V59 => ((V59 615 0 = 1 → Q 1 V59) ∧ (¬ V59 615 0 = 1 → Q 0 V59))) hv hb4 100000 L a V [] [true] [] ha hab (by omega) rfl (by decide) hw hc trivial hnm (fun V' n q1 q2 q3 => ?_)
  · exact h
  · cases hr : run nm v L [] with
    | nil => rw [hr] at q3; simp at q3
    | cons x r =>
      rw [hr] at q2 q3
      have er : r = [] := by cases r with
        | nil => rfl
        | cons _ _ => simp at q3
      subst er
      have hx : V' 615 0 = x := q2.1
      have hk := k V' q1
      rw [hr] at hk
      rw [hx]
      refine br_c (fun c => ?_) (fun c => ?_)
      · subst c; simpa [bit01] using hk
      · simpa [bit01, c] using hk
