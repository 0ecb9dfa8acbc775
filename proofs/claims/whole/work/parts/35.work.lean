/-! a condition worked out: the judge's lowest set is then the worlds in which it holds -/
/-- the class's code of list L stands at object o from a on -/
def cod (V : qV) (o : Int) : Int → List (Int × Int) → Prop
  | _, [] => True
  | a, c :: L => V o a = enc c ∧ cod V o (a + 1) L
theorem cod.fr {V V' : qV} {o : Int} (h : ∀ j, V' o j = V o j) : ∀ {L : List (Int × Int)} {a : Int}, cod V o a L → cod V' o a L
  | [], _, _ => trivial
  | _ :: _, _, hc => ⟨by rw [h]; exact hc.1, hc.2.fr h⟩
theorem opC_b {c : Int × Int} {t t' : List Bool} (h : wst t c = some t') : (0 ≤ c.1 ∧ c.1 ≤ 10) ∧ 0 ≤ opC c.1 ∧ opC c.1 ≤ 10 ∧ 0 ≤ c.2 ∧ c.2 ≤ 9999 := by
  obtain ⟨w, n⟩ := c
  unfold wst at h
  dsimp only at h ⊢
  unfold opC
  repeat' split at h
  all_goals first
    | (cases h; done)
    | (simp only [Option.some.injEq] at h; split <;> (try split) <;> (try split) <;> (try split) <;> omega)
theorem enc_dec {w n : Int} (h : 0 ≤ w ∧ w ≤ 10) (hn : 0 ≤ n ∧ n ≤ 9999) : zshr (w * 16384 + n) 14 = w ∧ zand (w * 16384 + n) 16383 = n := by
  constructor
  · rw [fx_shr (by omega) (by omega) (by decide) (by decide), show (14 : Int).toNat = 14 from rfl]
    omega
  · rw [fx_and (by omega) (by omega) (by decide) (by decide), show (16383 : Int).toNat = 2 ^ 14 - 1 from rfl, Nat.and_two_pow_sub_one_eq_mod]
    omega
theorem s_work_l {nm : Int → Int} {l1 l3 l5 : Int} {K : Int → qV → qJ → Prop} (h1 : l1 < 151 ∨ 153 < l1) (h1' : l1 + 4 < 151 ∨ 153 < l1 + 4) (h3 : l3 ≠ 151 ∧ l3 ≠ 153) (h5 : l5 ≤ 400) : ∀ (f : Nat) (L : List (Int × Int)) (i : Int) (V : qV) (J : qJ) (t t' : List Bool), 0 ≤ i → i + L.length = l5 → L.length < f → V 151 3 = (t.count true : Int) → V 151 4 = (t.count false : Int) → wok t = true → wrun L t = some t' → cod V (l1 + 4) i L → (∀ n, 0 ≤ n → n ≤ 9 → nm n = V l3 n) →
    (∀ V' J', V' 151 3 = (t'.count true : Int) → V' 151 4 = (t'.count false : Int) → (∀ o j, o ≠ 151 → o ≠ 153 → V' o j = V o j) → (∀ o j, o ≠ 152 → J' o j = J o j) → (∀ v s, 0 ≤ v → v < 1024 → ji V J v t s → ji V' J' v t' (run nm v L s)) → K l5 V' J') → lp_X2_workCondition_40 l1 l3 l5 K f i V J := by
  intro f
  induction f with
  | zero => intro L i V J t t' _ _ h; omega
  | succ f ih =>
    intro L i V J t t' hi hl hf hS hN hk hw hc hnm k
    rw [lp_X2_workCondition_40]
    cases L with
    | nil =>
      simp only [List.length_nil] at hl
      have e : i = l5 := by omega
      subst e
      refine br_t (by omega) (k V J ?_ ?_ (fun _ _ _ _ => rfl) (fun _ _ _ => rfl) (fun v s _ _ h => ?_))
      · simp only [wrun, Option.some.injEq] at hw; rw [← hw]; exact hS
      · simp only [wrun, Option.some.injEq] at hw; rw [← hw]; exact hN
      · simp only [wrun, Option.some.injEq] at hw; rw [← hw]; exact h
    | cons c L =>
      simp only [List.length_cons] at hl hf
      refine br_f (by omega) ⟨by omega, by omega, ?_⟩
      rw [wrun] at hw
      split at hw
      · cases hw
      · rename_i t1 hw1
        split at hw
        · rename_i hk1
          have hb := opC_b hw1
          have he : V (l1 + 4) i = opC c.1 * 16384 + c.2 := hc.1
          have hd := enc_dec (w := opC c.1) (n := c.2) ⟨hb.2.1, hb.2.2.1⟩ hb.2.2.2
          rw [he, hd.1, hd.2]
          refine s_step hS hN hk hw1 hk1 hnm (fun V1 J1 hj => ⟨zr_i (by omega) (by omega), ih L (i + 1) V1 J1 t1 t' (by omega) (by omega) (by omega) hj.1.1 hj.1.2 hk1 hw (hc.2.fr (fun j => hj.2.1 _ _ (by omega) (by omega))) (fun n a b => by rw [hnm n a b, hj.2.1 _ _ h3.1 h3.2]) (fun V' J' q1 q2 q3 q4 q5 => ?_)⟩)
          exact k V' J' q1 q2 (fun o j a b => by rw [q3 o j a b, hj.2.1 o j a b]) (fun o j a => by rw [q4 o j a, hj.2.2.1 o j a]) (fun v s a b h => q5 v _ a b (hj.2.2.2 v s a b h))
        · cases hw
/-- a rule's condition: its codes L from place a to b of law o's codes -/
theorem s_work {nm : Int → Int} {o i a3 : Int} {V : qV} {J : qJ} {Q : qV → qJ → Prop} {L : List (Int × Int)} {a b : Int} (ho : (0 ≤ o ∧ o < 12) ∨ (173 ≤ o ∧ o < 188)) (hi : 0 ≤ i ∧ i < 12) (h3 : a3 ≠ 151 ∧ a3 ≠ 153) (ha : 0 ≤ a) (hab : a + L.length = b) (hb4 : b ≤ 400) (hst : (if i = 0 then 0 else V (o + 3) (i - 1)) = a) (hen : V (o + 3) i = b) (hw : L = [] ∨ wrun L [] = some [true]) (hc : cod V (o + 4) a L) (hnm : ∀ n, 0 ≤ n → n ≤ 9 → nm n = V a3 n)
    (k : ∀ V' J', V' 151 3 = 0 → (∀ o j, o ≠ 151 → o ≠ 153 → V' o j = V o j) → (∀ o j, o ≠ 152 → J' o j = J o j) → (∀ v, 0 ≤ v → v < 1024 → (hb (J' 152 (v / 64)) (v % 64) = true ↔ (L = [] ∨ run nm v L [] = [1]))) → Q V' J') : W_X2_workCondition o i a3 V J Q := by
  unfold W_X2_workCondition
  have hf : ∀ q j, q ≠ 151 → (qu (qu V 151 3 0) 151 4 0) q j = V q j := fun q j h => by rw [qu_o _ _ h, qu_o _ _ h]
  have e3 : (qu (qu V 151 3 0) 151 4 0) 151 3 = 0 := by rw [qu_j _ _ (by decide), qu_s]
  have e4 : (qu (qu V 151 3 0) 151 4 0) 151 4 = 0 := by rw [qu_s]
  generalize (qu (qu V 151 3 0) 151 4 0) = V1 at hf e3 e4 ⊢
  have hstart : ∀ P : Int → Prop, P a → W_X3_startOf o i V1 P := by
    intro P hP
    refine br_c (fun c => ?_) (fun c => br_f (by omega) ⟨zr_i (by omega) (by omega), by omega, ?_⟩)
    · rw [if_pos (by omega)] at hst; rw [hst]; exact hP
    · rw [if_neg (by omega)] at hst; rw [hf _ _ (by omega), hst]; exact hP
  refine hstart _ (br_f (by omega) (br_f (by omega) ⟨by omega, ?_⟩))
  rw [hf _ _ (by omega), hen, show min b 400 = b by omega]
  have hc1 : cod V1 (o + 4) a L := hc.fr (fun j => hf _ _ (by omega))
  rcases hw with rfl | hw
  · simp only [List.length_nil] at hab
    have e : a = b := by omega
    subst e
    refine br_f (by omega) (s_pushAll (by omega) ?_)
    rw [lp_X2_workCondition_40]
    refine br_t (by omega) (k _ _ (by rw [qu_s]) (fun q j h1 h2 => by rw [qu_o _ _ h1, qu_o _ _ h1, hf _ _ h1]) (fun q j h => fl_o h _) (fun v h0 h1 => ?_))
    rw [e3, fl_in (by omega) (by omega), if_neg (by decide), hb_m1 (by omega)]
    simp
  · have hne : L ≠ [] := fun h => by subst h; simp [wrun] at hw
    have hlen : 0 < L.length := List.length_pos_iff.mpr hne
    refine br_t (by omega) (s_work_l (nm := nm) (by omega) (by omega) h3 hb4 100000 L a V1 J [] [true] ha hab (by omega) (by rw [e3]; rfl) (by rw [e4]; rfl) (by decide) hw hc1 (fun n p q => by rw [hnm n p q, hf _ _ h3.1]) (fun V' J' q1 q2 q3 q4 q5 => ?_))
    refine k _ _ (by rw [qu_s]) (fun q j h1 h2 => by rw [qu_o _ _ h1, q3 q j h1 h2, hf q j h1]) q4 (fun v h0 h1 => ?_)
    have h9 := q5 v [] h0 h1 trivial
    obtain ⟨x, r, hx, hx1, hm, hr⟩ := ji_tt h9
    have er : r = [] := by
      cases r with
      | nil => rfl
      | cons _ _ => exact hr.elim
    subst er
    rw [hx]
    simp only [List.count_nil] at hm
    rw [show ((0 : Nat) : Int) * 16 + v / 64 = v / 64 by omega] at hm
    rw [hm]
    simp [hne]
