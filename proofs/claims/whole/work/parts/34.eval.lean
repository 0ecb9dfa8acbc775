/-! the judge's two stacks against one stack for each world -/
def ji (V : qV) (J : qJ) (v : Int) : List Bool → List Int → Prop
  | [], [] => True
  | true :: t, b :: s => (b = 0 ∨ b = 1) ∧ (hb (J 152 ((t.count true : Int) * 16 + v / 64)) (v % 64) = true ↔ b = 1) ∧ ji V J v t s
  | false :: t, a :: s => V 153 (t.count false : Int) = a ∧ ji V J v t s
  | [], _ :: _ => False
  | _ :: _, [] => False
theorem ji.fr {V V' : qV} {J J' : qJ} {v : Int} (hv : 0 ≤ v ∧ v < 1024) : ∀ {t : List Bool} {s : List Int}, ji V J v t s → (∀ j, j < (t.count true : Int) * 16 → J' 152 j = J 152 j) → (∀ j, j < (t.count false : Int) → V' 153 j = V 153 j) → ji V' J' v t s
  | [], [], _, _, _ => trivial
  | true :: t, b :: s, h, hJ, hV => by
    have e : (true :: t).count true = t.count true + 1 := by simp
    have e2 : (true :: t).count false = t.count false := by simp
    rw [e] at hJ
    rw [e2] at hV
    exact ⟨h.1, by rw [hJ _ (by omega)]; exact h.2.1, ji.fr hv h.2.2 (fun j hj => hJ j (by omega)) hV⟩
  | false :: t, a :: s, h, hJ, hV => by
    have e : (false :: t).count true = t.count true := by simp
    have e2 : (false :: t).count false = t.count false + 1 := by simp
    rw [e] at hJ
    rw [e2] at hV
    exact ⟨by rw [hV _ (by omega)]; exact h.1, ji.fr hv h.2 hJ (fun j hj => hV j (by omega))⟩
  | [], _ :: _, h, _, _ => h.elim
  | true :: _, [], h, _, _ => h.elim
  | false :: _, [], h, _, _ => h.elim
/-- what a step of the judge leaves -/
def jst (nm : Int → Int) (t t' : List Bool) (c : Int × Int) (V : qV) (J : qJ) (V' : qV) (J' : qJ) : Prop :=
  (V' 151 3 = (t'.count true : Int) ∧ V' 151 4 = (t'.count false : Int)) ∧ (∀ o j, o ≠ 151 → o ≠ 153 → V' o j = V o j) ∧ (∀ o j, o ≠ 152 → J' o j = J o j) ∧ (∀ v s, 0 ≤ v → v < 1024 → ji V J v t s → ji V' J' v t' (stp nm v s c))
section
variable {nm : Int → Int} {t t' : List Bool} {V : qV} {J : qJ} {Q : qV → qJ → Prop} {n a3 : Int}
theorem j_push (hS : V 151 3 = (t.count true : Int)) (hN : V 151 4 = (t.count false : Int)) {c : Int × Int} {x : Int} (hc : ∀ v s, stp nm v s c = x :: s) : jst nm t (false :: t) c V J (qu (qu V 153 (V 151 4) x) 151 4 (V 151 4 + 1)) J := by
  have e : (false :: t).count true = t.count true := by simp
  have e2 : (false :: t).count false = t.count false + 1 := by simp
  refine ⟨⟨?_, ?_⟩, fun o j h1 h2 => ?_, fun _ _ _ => rfl, fun v s h0 h1 h => ?_⟩
  · rw [qu_j _ _ (by decide), qu_o _ _ (by decide), hS, e]
  · rw [qu_s, hN, e2]; omega
  · rw [qu_o _ _ h1, qu_o _ _ h2]
  · rw [hc]
    refine ⟨by rw [qu_o _ _ (by decide), ← hN, qu_s], h.fr ⟨h0, h1⟩ (fun _ _ => rfl) (fun j hj => ?_)⟩
    rw [qu_o _ _ (by decide), qu_j _ _ (by omega)]
theorem j_all (hS : V 151 3 = (t.count true : Int)) (hN : V 151 4 = (t.count false : Int)) {b : Int} {W : Int → Int64} (hb1 : b = 0 ∨ b = 1) {v : Int} {s : List Int} (h0 : 0 ≤ v) (h1 : v < 1024) (hW : hb (W ((t.count true : Int) * 16 + v / 64)) (v % 64) = decide (b = 1)) (h : ji V J v t s) : ji (qu V 151 3 (V 151 3 + 1)) (fl J 152 (V 151 3 * 16) (V 151 3 * 16 + 16) W) v (true :: t) (b :: s) := by
  refine ⟨hb1, ?_, h.fr ⟨h0, h1⟩ (fun j hj => fl_out _ (by omega)) (fun j hj => qu_o _ _ (by decide) _)⟩
  rw [hS, fl_in (by omega) (by omega), hW]
  simp
theorem j_cnt (hS : V 151 3 = (t.count true : Int)) (hN : V 151 4 = (t.count false : Int)) : (qu V 151 3 (V 151 3 + 1)) 151 3 = ((true :: t).count true : Int) ∧ (qu V 151 3 (V 151 3 + 1)) 151 4 = ((true :: t).count false : Int) := by
  have e : (true :: t).count true = t.count true + 1 := by simp
  have e2 : (true :: t).count false = t.count false := by simp
  rw [qu_s, qu_j _ _ (by decide), e, e2, hS, hN]
  omega
theorem wok_t (h : wok (true :: t) = true) : t.count true < 16 := by
  simp [wok] at h; omega
theorem wok_f (h : wok (false :: t) = true) : t.count false < 16 := by
  simp [wok] at h; omega
end
theorem tB_all : ∀ u, u < 10 → ∀ i, i < 16 → ∀ k, k < 64 → hb (tB ((u : Nat) : Int) ((i : Nat) : Int)) ((k : Nat) : Int) = tb ((64 * i + k : Nat) : Int) (u : Int) := by decide +kernel
theorem tB_m {u v : Int} (hu : 0 ≤ u ∧ u < 10) (hv : 0 ≤ v ∧ v < 1024) : hb (tB u (v / 64)) (v % 64) = tb v u := by
  have h := tB_all u.toNat (by omega) (v / 64).toNat (by omega) (v % 64).toNat (by omega)
  rw [Int.toNat_of_nonneg (by omega), Int.toNat_of_nonneg (by omega), Int.toNat_of_nonneg (by omega)] at h
  rw [h]
  congr 1
  omega
section
variable {nm : Int → Int} {t t' : List Bool} {V : qV} {J : qJ} {Q : qV → qJ → Prop} {n a3 : Int}
theorem bit01_1 {p : Bool} : bit01 p = 1 ↔ p = true := by cases p <;> simp [bit01]
theorem bit01_b (p : Bool) : bit01 p = 0 ∨ bit01 p = 1 := by cases p <;> simp [bit01]
theorem j_fr3 : ∀ o j, o ≠ 151 → o ≠ 153 → (qu V 151 3 (V 151 3 + 1)) o j = V o j := fun _ _ h _ => qu_o _ _ h _
theorem j_set (hS : V 151 3 = (t.count true : Int)) (hN : V 151 4 = (t.count false : Int)) {c : Int × Int} {W : Int → Int64} {x : Int → Int} (hW : ∀ v, 0 ≤ v → v < 1024 → hb (W ((t.count true : Int) * 16 + v / 64)) (v % 64) = decide (x v = 1)) (hx : ∀ v, x v = 0 ∨ x v = 1) (hc : ∀ v s, stp nm v s c = x v :: s) : jst nm t (true :: t) c V J (qu V 151 3 (V 151 3 + 1)) (fl J 152 (V 151 3 * 16) (V 151 3 * 16 + 16) W) :=
  ⟨j_cnt hS hN, j_fr3, fun _ _ h => fl_o h _, fun v s h0 h1 h => by rw [hc]; exact j_all hS hN (hx v) h0 h1 (hW v h0 h1) h⟩
end
section
variable {nm : Int → Int} {t t' : List Bool} {V : qV} {J : qJ} {Q : qV → qJ → Prop} {n a3 : Int}
theorem ji_tt {V : qV} {J : qJ} {v : Int} {t : List Bool} {s : List Int} (h : ji V J v (true :: t) s) : ∃ b r, s = b :: r ∧ (b = 0 ∨ b = 1) ∧ (hb (J 152 ((t.count true : Int) * 16 + v / 64)) (v % 64) = true ↔ b = 1) ∧ ji V J v t r := by
  cases s with
  | nil => exact h.elim
  | cons b r => exact ⟨b, r, rfl, h.1, h.2.1, h.2.2⟩
theorem ji_ff {V : qV} {J : qJ} {v : Int} {t : List Bool} {s : List Int} (h : ji V J v (false :: t) s) : ∃ a r, s = a :: r ∧ V 153 (t.count false : Int) = a ∧ ji V J v t r := by
  cases s with
  | nil => exact h.elim
  | cons b r => exact ⟨b, r, rfl, h.1, h.2⟩
theorem s_step_num (hS : V 151 3 = (t.count true : Int)) (hN : V 151 4 = (t.count false : Int)) (hk : t.count false < 16) (k : ∀ V' J', jst nm t (false :: t) (0, n) V J V' J' → Q V' J') : W_X2_step 0 n a3 V J Q :=
  ⟨fun _ => s_pushNumber (by omega) (k _ _ (j_push hS hN (fun v s => by simp [stp]))), fun h => absurd h (by decide), fun h => absurd h (by decide), fun h => absurd h (by decide), fun h => absurd h (by decide), fun h => absurd h (by decide), fun h => absurd h (by decide)⟩
theorem s_step_name (hS : V 151 3 = (t.count true : Int)) (hN : V 151 4 = (t.count false : Int)) (hk : t.count false < 16) (hn : 0 ≤ n ∧ n ≤ 9) (hnm : nm n = V a3 n) (k : ∀ V' J', jst nm t (false :: t) (1, n) V J V' J' → Q V' J') : W_X2_step 1 n a3 V J Q :=
  ⟨fun h => absurd h (by decide), fun _ => br_f (by omega) ⟨by omega, s_pushNumber (by omega) (k _ _ (j_push hS hN (fun v s => by simp [stp, hnm])))⟩, fun h => absurd h (by decide), fun h => absurd h (by decide), fun h => absurd h (by decide), fun h => absurd h (by decide), fun h => absurd h (by decide)⟩
theorem s_step_unk (hS : V 151 3 = (t.count true : Int)) (hN : V 151 4 = (t.count false : Int)) (hk : t.count true < 16) (hn : 0 ≤ n ∧ n ≤ 9) (k : ∀ V' J', jst nm t (true :: t) (2, n) V J V' J' → Q V' J') : W_X2_step 2 n a3 V J Q := by
  refine ⟨fun h => absurd h (by decide), fun h => absurd h (by decide), fun _ => s_pushUnknown (by omega) (by omega) (k _ _ (j_set (x := fun v => bit01 (tb v n)) hS hN (fun v h0 h1 => ?_) (fun v => bit01_b _) (fun v s => by simp [stp]))), fun h => absurd h (by decide), fun h => absurd h (by decide), fun h => absurd h (by decide), fun h => absurd h (by decide)⟩
  rw [hS, show (t.count true : Int) * 16 + v / 64 - (t.count true : Int) * 16 = v / 64 by omega, tB_m (by omega) (by omega)]
  cases tb v n <;> simp [bit01]
theorem s_step_not (hS : V 151 3 = ((true :: t).count true : Int)) (hN : V 151 4 = ((true :: t).count false : Int)) (hk : wok (true :: t) = true) (k : ∀ V' J', jst nm (true :: t) (true :: t) (10, 0) V J V' J' → Q V' J') : W_X2_step 3 n a3 V J Q := by
  have hk2 := wok_t hk
  have e : (true :: t).count true = t.count true + 1 := by simp
  refine ⟨fun h => absurd h (by decide), fun h => absurd h (by decide), fun h => absurd h (by decide), fun _ => s_turn (by omega) (k _ _ ⟨⟨hS, hN⟩, fun _ _ _ _ => rfl, fun _ _ h => fl_o h _, fun v s h0 h1 h => ?_⟩), fun h => absurd h (by decide), fun h => absurd h (by decide), fun h => absurd h (by decide)⟩
  obtain ⟨b, r, rfl, hb, hm, hr⟩ := ji_tt h
  have e2 : stp nm v (b :: r) (10, 0) = qw (1 - b) :: r := by simp [stp]
  rw [e2]
  have e3 : qw (1 - b) = 1 - b := qw_e (zr_i (by omega) (by omega))
  rw [e3]
  refine ⟨by omega, ?_, hr.fr ⟨h0, h1⟩ (fun j hj => fl_out _ (by omega)) (fun _ _ => rfl)⟩
  rw [fl_in (by omega) (by omega), hb_not _ (by omega)]
  rcases hb with rfl | rfl
  · have : hb (J 152 ((t.count true : Int) * 16 + v / 64)) (v % 64) = false := by
      cases h9 : hb (J 152 ((t.count true : Int) * 16 + v / 64)) (v % 64) with
      | false => rfl
      | true => exact absurd (hm.mp h9) (by decide)
    simp [this]
  · simp [hm.mpr rfl]
theorem s_step_join (both : Int) (what : Int) (hb0 : (both = 0 ∧ what = 8) ∨ (both = 1 ∧ what = 9)) (hS : V 151 3 = ((true :: true :: t).count true : Int)) (hN : V 151 4 = ((true :: true :: t).count false : Int)) (hk : wok (true :: true :: t) = true) (k : ∀ V' J', jst nm (true :: true :: t) (true :: t) (what, 0) V J V' J' → Q V' J') : W_X2_join both V J Q := by
  have hk2 := wok_t hk
  have e : (true :: true :: t).count true = t.count true + 2 := by simp
  have e1 : (true :: t).count true = t.count true + 1 := by simp
  have e4 : (true :: true :: t).count false = t.count false := by simp
  have e5 : (true :: t).count false = t.count false := by simp
  refine s_join (by omega) (k _ _ ⟨⟨by rw [qu_s]; omega, by rw [qu_j _ _ (by decide)]; omega⟩, fun o j h _ => qu_o _ _ h _, fun _ _ h => fl_o h _, fun v s h0 h1 h => ?_⟩)
  obtain ⟨b, r, rfl, hb, hm, hr⟩ := ji_tt h
  obtain ⟨a, q, rfl, ha, hm2, hq⟩ := ji_tt hr
  have e2 : stp nm v (b :: a :: q) (what, 0) = (if what = 8 then zor a b else zand a b) :: q := by
    rcases hb0 with ⟨-, rfl⟩ | ⟨-, rfl⟩ <;> simp [stp, op2]
  rw [e2]
  have hor : ∀ a b : Int, (a = 0 ∨ a = 1) → (b = 0 ∨ b = 1) → (zor a b = 0 ∨ zor a b = 1) ∧ (zor a b = 1 ↔ a = 1 ∨ b = 1) ∧ (zand a b = 0 ∨ zand a b = 1) ∧ (zand a b = 1 ↔ a = 1 ∧ b = 1) := by
    intro a b h1 h2
    rcases h1 with rfl | rfl <;> rcases h2 with rfl | rfl <;> decide
  obtain ⟨o1, o2, o3, o4⟩ := hor a b ha hb
  rw [e1] at hm
  refine ⟨by split; exact o1; exact o3, ?_, hq.fr ⟨h0, h1⟩ (fun j hj => fl_out _ (by omega)) (fun j _ => qu_o _ _ (by decide) _)⟩
  rw [fl_in (by omega) (by omega)]
  rw [show ((t.count true + 1 : Nat) : Int) * 16 + v / 64 = (t.count true : Int) * 16 + v / 64 + 16 by omega] at hm
  rcases hb0 with ⟨rfl, rfl⟩ | ⟨rfl, rfl⟩
  · rw [if_pos rfl, if_pos rfl, hb_or, Bool.or_eq_true, hm2, hm, o2]
  · rw [if_neg (by decide), if_neg (by decide), hb_and, Bool.and_eq_true, hm2, hm, o4]
theorem s_step_and (hS : V 151 3 = ((true :: true :: t).count true : Int)) (hN : V 151 4 = ((true :: true :: t).count false : Int)) (hk : wok (true :: true :: t) = true) (k : ∀ V' J', jst nm (true :: true :: t) (true :: t) (9, 0) V J V' J' → Q V' J') : W_X2_step 4 n a3 V J Q :=
  ⟨fun h => absurd h (by decide), fun h => absurd h (by decide), fun h => absurd h (by decide), fun h => absurd h (by decide), fun _ => br_t rfl (s_step_join 1 9 (Or.inr ⟨rfl, rfl⟩) hS hN hk k), fun h => absurd h (by decide), fun h => absurd h (by decide)⟩
theorem s_step_or (hS : V 151 3 = ((true :: true :: t).count true : Int)) (hN : V 151 4 = ((true :: true :: t).count false : Int)) (hk : wok (true :: true :: t) = true) (k : ∀ V' J', jst nm (true :: true :: t) (true :: t) (8, 0) V J V' J' → Q V' J') : W_X2_step 5 n a3 V J Q :=
  ⟨fun h => absurd h (by decide), fun h => absurd h (by decide), fun h => absurd h (by decide), fun h => absurd h (by decide), fun h => absurd h (by decide), fun _ => br_f (by decide) (s_step_join 0 8 (Or.inl ⟨rfl, rfl⟩) hS hN hk k), fun h => absurd h (by decide)⟩
end
section
variable {nm : Int → Int} {t t' : List Bool} {V : qV} {J : qJ} {Q : qV → qJ → Prop} {n a3 : Int}
theorem s_two (hS : V 151 3 = ((false :: false :: t).count true : Int)) (hN : V 151 4 = ((false :: false :: t).count false : Int)) (hk : wok (false :: false :: t) = true) {op : Int} (hop : 6 ≤ op)
    (k : ∀ V1, V1 151 3 = (t.count true : Int) → V1 151 4 = (t.count false : Int) → (∀ o j, o ≠ 151 → V1 o j = V o j) → (∀ r1 a2, r1 = V 153 (t.count false : Int) → a2 = V 153 ((t.count false : Int) + 1) → ((op = 6 → W_X2_pushNumber (qw (r1 + a2)) V1 (fun V3 => Q V3 J)) ∧ ((op = 7 → W_X2_pushNumber (qw (r1 - a2)) V1 (fun V4 => Q V4 J)) ∧ ((op = 8 → ((a2 ≤ r1 → W_X2_pushAll 0 V1 J (fun V5 J5 => Q V5 J5)) ∧ (¬ a2 ≤ r1 → W_X2_pushAll 1 V1 J (fun V6 J6 => Q V6 J6)))) ∧ ((op = 9 → ((r1 ≤ a2 → W_X2_pushAll 0 V1 J (fun V7 J7 => Q V7 J7)) ∧ (¬ r1 ≤ a2 → W_X2_pushAll 1 V1 J (fun V8 J8 => Q V8 J8)))) ∧ ((op < 6 ∨ 9 < op) → ((r1 = a2 → W_X2_pushAll 1 V1 J (fun V10 J10 => Q V10 J10)) ∧ (¬ r1 = a2 → W_X2_pushAll 0 V1 J (fun V9 J9 => Q V9 J9))))))))))  : W_X2_step op n a3 V J Q := by
  have hk2 := wok_f hk
  have e : (false :: false :: t).count false = t.count false + 2 := by simp
  have e1 : (false :: t).count false = t.count false + 1 := by simp
  have e2 : (false :: false :: t).count true = t.count true := by simp
  refine ⟨fun h => absurd h (by omega), fun h => absurd h (by omega), fun h => absurd h (by omega), fun h => absurd h (by omega), fun h => absurd h (by omega), fun h => absurd h (by omega), fun _ => ?_⟩
  refine s_popNumber (by omega) ?_
  refine s_popNumber (by rw [qu_s]; omega) ?_
  refine k _ ?_ ?_ (fun o j h => by rw [qu_o _ _ h, qu_o _ _ h]) _ _ ?_ ?_
  · rw [qu_j _ _ (by decide), qu_j _ _ (by decide), hS, e2]
  · rw [qu_s, qu_s, hN]; omega
  · rw [qu_s, qu_o _ _ (by decide)]; congr 1; omega
  · congr 1; omega
theorem j_numC {V0 V1 : qV} {x : Int} {c : Int × Int} (hS : V1 151 3 = (t.count true : Int)) (hN : V1 151 4 = (t.count false : Int)) (hV : ∀ o j, o ≠ 151 → V1 o j = V0 o j) (hx : ∀ v q, stp nm v (V0 153 ((t.count false : Int) + 1) :: V0 153 (t.count false : Int) :: q) c = x :: q) : jst nm (false :: false :: t) (false :: t) c V0 J (qu (qu V1 153 (V1 151 4) x) 151 4 (V1 151 4 + 1)) J := by
  have e : (false :: t).count true = t.count true := by simp
  have e2 : (false :: t).count false = t.count false + 1 := by simp
  refine ⟨⟨?_, ?_⟩, fun o j h1 h2 => ?_, fun _ _ _ => rfl, fun v s h0 h1 h => ?_⟩
  · rw [qu_j _ _ (by decide), qu_o _ _ (by decide), hS, e]
  · rw [qu_s, hN, e2]; omega
  · rw [qu_o _ _ h1, qu_o _ _ h2, hV o j h1]
  · obtain ⟨b, r, rfl, hb, hr⟩ := ji_ff h
    obtain ⟨a, q, rfl, ha, hq⟩ := ji_ff hr
    rw [e2] at hb
    rw [← ha, ← hb, show ((t.count false + 1 : Nat) : Int) = (t.count false : Int) + 1 by omega, hx]
    refine ⟨by rw [qu_o _ _ (by decide), ← hN, qu_s], hq.fr ⟨h0, h1⟩ (fun _ _ => rfl) (fun j hj => ?_)⟩
    rw [qu_o _ _ (by decide), qu_j _ _ (by omega), hV _ _ (by decide)]
theorem j_cmpC {V0 V1 : qV} {x : Int} {b1 : Int} {c : Int × Int} (hS : V1 151 3 = (t.count true : Int)) (hN : V1 151 4 = (t.count false : Int)) (hV : ∀ o j, o ≠ 151 → V1 o j = V0 o j) (hx : ∀ v q, stp nm v (V0 153 ((t.count false : Int) + 1) :: V0 153 (t.count false : Int) :: q) c = x :: q) (hb : (b1 = 0 ∧ x = 0) ∨ (b1 = 1 ∧ x = 1)) : jst nm (false :: false :: t) (true :: t) c V0 J (qu V1 151 3 (V1 151 3 + 1)) (fl J 152 (V1 151 3 * 16) (V1 151 3 * 16 + 16) (fun _ => if b1 = 0 then 0 else -1)) := by
  have e2 : (false :: t).count false = t.count false + 1 := by simp
  refine ⟨j_cnt hS hN, fun o j h1 h2 => by rw [qu_o _ _ h1, hV o j h1], fun _ _ h => fl_o h _, fun v s h0 h1 h => ?_⟩
  obtain ⟨b, r, rfl, hb2, hr⟩ := ji_ff h
  obtain ⟨a, q, rfl, ha, hq⟩ := ji_ff hr
  rw [e2] at hb2
  rw [← ha, ← hb2, show ((t.count false + 1 : Nat) : Int) = (t.count false : Int) + 1 by omega, hx]
  have hq1 : ji V1 J v t q := hq.fr ⟨h0, h1⟩ (fun _ _ => rfl) (fun j hj => hV _ _ (by decide))
  refine j_all hS hN (by omega) h0 h1 ?_ hq1
  rcases hb with ⟨rfl, rfl⟩ | ⟨rfl, rfl⟩
  · rw [if_pos rfl, hb_0]; rfl
  · rw [if_neg (by decide), hb_m1 (by omega)]; rfl
theorem s_step_two (hS : V 151 3 = ((false :: false :: t).count true : Int)) (hN : V 151 4 = ((false :: false :: t).count false : Int)) (hk : wok (false :: false :: t) = true) {what : Int} (hk' : 5 ≤ what → t.count true < 16) (hw : 3 ≤ what ∧ what ≤ 7) (k : ∀ V' J', jst nm (false :: false :: t) ((if what ≤ 4 then false else true) :: t) (what, 0) V J V' J' → Q V' J') : W_X2_step (what + 3) n a3 V J Q := by
  have hk2 := wok_f hk
  have e1 : (false :: t).count false = t.count false + 1 := by simp
  refine s_two hS hN hk (by omega) (fun V1 h3 h4 hV r1 a2 hr1 ha2 => ?_)
  have h5 : what = 3 ∨ what = 4 ∨ what = 5 ∨ what = 6 ∨ what = 7 := by omega
  rcases h5 with rfl | rfl | rfl | rfl | rfl
  · refine ⟨fun _ => s_pushNumber (by omega) (k _ _ (j_numC h3 h4 hV (fun v q => ?_))), fun h => absurd h (by decide), fun h => absurd h (by decide), fun h => absurd h (by decide), fun h => absurd h (by decide)⟩
    simp [stp, op2, hr1, ha2]
  · refine ⟨fun h => absurd h (by decide), fun _ => s_pushNumber (by omega) (k _ _ (j_numC h3 h4 hV (fun v q => ?_))), fun h => absurd h (by decide), fun h => absurd h (by decide), fun h => absurd h (by decide)⟩
    simp [stp, op2, hr1, ha2]
  · refine ⟨fun h => absurd h (by decide), fun h => absurd h (by decide), fun _ => br_c (fun c => s_pushAll (by have := hk' (by decide); omega) (k _ _ (j_cmpC (x := 0) h3 h4 hV (fun v q => ?_) (Or.inl ⟨rfl, rfl⟩)))) (fun c => s_pushAll (by have := hk' (by decide); omega) (k _ _ (j_cmpC (x := 1) h3 h4 hV (fun v q => ?_) (Or.inr ⟨rfl, rfl⟩)))), fun h => absurd h (by decide), fun h => absurd h (by decide)⟩
    · have : ¬ V 153 (t.count false : Int) < V 153 ((t.count false : Int) + 1) := by omega
      simp [stp, op2, bit01, this]
    · have : V 153 (t.count false : Int) < V 153 ((t.count false : Int) + 1) := by omega
      simp [stp, op2, bit01, this]
  · refine ⟨fun h => absurd h (by decide), fun h => absurd h (by decide), fun h => absurd h (by decide), fun _ => br_c (fun c => s_pushAll (by have := hk' (by decide); omega) (k _ _ (j_cmpC (x := 0) h3 h4 hV (fun v q => ?_) (Or.inl ⟨rfl, rfl⟩)))) (fun c => s_pushAll (by have := hk' (by decide); omega) (k _ _ (j_cmpC (x := 1) h3 h4 hV (fun v q => ?_) (Or.inr ⟨rfl, rfl⟩)))), fun h => absurd h (by decide)⟩
    · have : ¬ V 153 ((t.count false : Int) + 1) < V 153 (t.count false : Int) := by omega
      simp [stp, op2, bit01, this]
    · have : V 153 ((t.count false : Int) + 1) < V 153 (t.count false : Int) := by omega
      simp [stp, op2, bit01, this]
  · refine ⟨fun h => absurd h (by decide), fun h => absurd h (by decide), fun h => absurd h (by decide), fun h => absurd h (by decide), fun _ => br_c (fun c => s_pushAll (by have := hk' (by decide); omega) (k _ _ (j_cmpC (x := 1) h3 h4 hV (fun v q => ?_) (Or.inr ⟨rfl, rfl⟩)))) (fun c => s_pushAll (by have := hk' (by decide); omega) (k _ _ (j_cmpC (x := 0) h3 h4 hV (fun v q => ?_) (Or.inl ⟨rfl, rfl⟩))))⟩
    · have : V 153 (t.count false : Int) = V 153 ((t.count false : Int) + 1) := by omega
      simp [stp, op2, bit01, this]
    · have : ¬ V 153 (t.count false : Int) = V 153 ((t.count false : Int) + 1) := by omega
      simp [stp, op2, bit01, this]
/-- a step of the judge, whatever it is -/
theorem s_step {c : Int × Int} (hS : V 151 3 = (t.count true : Int)) (hN : V 151 4 = (t.count false : Int)) (hk : wok t = true) (hw : wst t c = some t') (hk' : wok t' = true) (hnm : ∀ n, 0 ≤ n → n ≤ 9 → nm n = V a3 n) (k : ∀ V' J', jst nm t t' c V J V' J' → Q V' J') : W_X2_step (opC c.1) c.2 a3 V J Q := by
  obtain ⟨what, n⟩ := c
  unfold wst at hw
  dsimp only at hw ⊢
  split at hw
  · rename_i h0
    subst h0
    split at hw
    · cases hw
      exact s_step_num hS hN (wok_f hk') k
    · cases hw
  · split at hw
    · rename_i h0
      subst h0
      split at hw
      · rename_i h1
        cases hw
        exact s_step_name hS hN (wok_f hk') h1 (hnm n h1.1 h1.2) k
      · cases hw
    · split at hw
      · rename_i h0
        subst h0
        split at hw
        · rename_i h1
          cases hw
          exact s_step_unk hS hN (wok_t hk') h1 k
        · cases hw
      · split at hw
        · cases hw
        · rename_i hn0
          have hn1 : n = 0 := by omega
          subst hn1
          split at hw
          · rename_i h0
            subst h0
            split at hw
            · cases hw
              exact s_step_not hS hN hk k
            · cases hw
          · split at hw
            · rename_i h0
              split at hw
              · cases hw
                have h1 : what = 8 ∨ what = 9 := by omega
                rcases h1 with rfl | rfl
                · exact s_step_or hS hN hk k
                · exact s_step_and hS hN hk k
              · cases hw
            · split at hw
              · rename_i h0
                split at hw
                · cases hw
                  have e : opC what = what + 3 := by unfold opC; rw [if_neg (by omega), if_neg (by omega), if_neg (by omega), if_neg (by omega)]
                  rw [e]
                  refine s_step_two (nm := nm) hS hN hk (fun _ => wok_t hk') (by omega) ?_
                  rw [if_neg (by omega)]
                  exact k
                · cases hw
              · split at hw
                · rename_i h0
                  split at hw
                  · rename_i r
                    cases hw
                    have e : opC what = what + 3 := by unfold opC; rw [if_neg (by omega), if_neg (by omega), if_neg (by omega), if_neg (by omega)]
                    rw [e]
                    refine s_step_two (nm := nm) hS hN hk (fun h => absurd h (by omega)) (by omega) ?_
                    rw [if_pos (by omega)]
                    exact k
                  · cases hw
                · cases hw
end
