/-! the reference: worlds -/
theorem fsF_b (ev : Nat → Bool) : ∀ m i, fsF ev i m = -1 ∨ ((i : Int) ≤ fsF ev i m ∧ fsF ev i m < i + m)
  | 0, i => Or.inl rfl
  | m + 1, i => by
    rw [fsF]
    split
    · refine Or.inr ⟨by omega, by push_cast; omega⟩
    · have h := fsF_b ev m (i + 1)
      rcases h with h | ⟨h1, h2⟩
      · exact Or.inl h
      · refine Or.inr ⟨by push_cast at h1; omega, by push_cast at h2 ⊢; omega⟩
theorem iso1_nm {code cn nm nm' : Nat → Int} (h : ∀ j, j < 10 → nm j = nm' j) (world : Int) (k : Nat) (s : Nat → Int) (n : Nat) : iso1 code cn nm world k s n = iso1 code cn nm' world k s n := by
  unfold iso1
  by_cases h1 : 0 ≤ cn k ∧ cn k < 10
  · rw [h (cn k).toNat (by omega)]
  · have e : (decide (0 ≤ cn k) && decide (cn k < 10)) = false := by
      rcases Int.lt_or_le (cn k) 0 with q | q
      · simp [show ¬ 0 ≤ cn k by omega]
      · simp [show ¬ cn k < 10 by omega]
    have e2 : ∀ b, (decide (0 ≤ cn k) && (decide (cn k < 10) && b)) = false := fun b => by rw [← Bool.and_assoc, e]; rfl
    simp only [e2, Bool.and_false]
    rfl
theorem isoN_nm {code cn nm nm' : Nat → Int} (h : ∀ j, j < 10 → nm j = nm' j) (world : Int) : ∀ (m k : Nat) (s : Nat → Int) (n : Nat), isoN code cn nm world m k s n = isoN code cn nm' world m k s n
  | 0, _, _, _ => rfl
  | m + 1, k, s, n => by
    rw [isoN, isoN, iso1_nm h]
    cases iso1 code cn nm' world k s n with
    | none => rfl
    | some q => exact isoN_nm h world m (k + 1) q.1 q.2
def knF (w : Nat → Int) (v : Nat) : Nat → Bool
  | 0 => true
  | k + 1 => knF w v k && (decide (w k = 2) || decide (w k = zand (zshr (v : Int) (k : Int)) 1))
def cdF (ev : Nat → Bool) (b : Bool) : Nat → Bool
  | 0 => b
  | c + 1 => cdF ev b c && ev c
theorem cdF_f {ev : Nat → Bool} {b : Bool} {c : Nat} (h : cdF ev b c = false) : ∀ m, cdF ev b (c + m) = false
  | 0 => h
  | m + 1 => by rw [← Nat.add_assoc, cdF, cdF_f h m]; rfl
def ctF (wd : Nat → Bool) : Nat → Int
  | 0 => 0
  | v + 1 => ctF wd v + if wd v = true then 1 else 0
theorem ctF_b (wd : Nat → Bool) : ∀ n, 0 ≤ ctF wd n ∧ ctF wd n ≤ n
  | 0 => by simp [ctF]
  | n + 1 => by
    have h := ctF_b wd n
    simp only [ctF]
    split <;> constructor <;> push_cast <;> omega
def wdF (w : Nat → Int) (ev : Nat → Nat → Bool) (C : Nat) (v : Nat) : Bool := cdF (fun c => ev c v) (knF w v 10) C
theorem knx0 {w : Nat → Int} {v k : Nat} (h : (if knF w v k = true then (1 : Int) else 0) = 0) : (0 : Int) = (if knF w v (k + 1) = true then 1 else 0) := by
  rw [knF]
  cases hb : knF w v k with
  | true => rw [hb] at h; exact absurd h (by decide)
  | false => rfl
theorem knx1 {w : Nat → Int} {v k : Nat} (h : ¬ (if knF w v k = true then (1 : Int) else 0) = 0) (h2 : w (0 + k) = 2 ∨ w (0 + k) = zand (zshr (v : Int) (k : Int)) 1) : (1 : Int) = (if knF w v (k + 1) = true then 1 else 0) := by
  rw [Nat.zero_add] at h2
  rw [knF]
  cases hb : knF w v k with
  | true => simp [h2]
  | false => rw [hb] at h; exact absurd rfl h
theorem knx2 {w : Nat → Int} {v k : Nat} (h1 : ¬ w (0 + k) = 2) (h2 : ¬ w (0 + k) = zand (zshr (v : Int) (k : Int)) 1) : (0 : Int) = (if knF w v (k + 1) = true then 1 else 0) := by
  rw [Nat.zero_add] at h1 h2
  rw [knF]
  simp [h1, h2]
theorem cdx1 {ev : Nat → Bool} {b : Bool} {c : Nat} {x : Int} (h : ¬ (if cdF ev b c = true then (1 : Int) else 0) = 0) (h3 : x = 1 ↔ ev c = true) : (if x = 1 then (1 : Int) else 0) = (if cdF ev b (c + 1) = true then 1 else 0) := by
  rw [cdF]
  cases hb : cdF ev b c with
  | true => simp [h3]
  | false => rw [hb] at h; exact absurd rfl h
theorem cdx2 {ev : Nat → Bool} {b : Bool} {c C : Nat} (hc : c ≤ C) (h : (if cdF ev b c = true then (1 : Int) else 0) = 0) : (if cdF ev b c = true then (1 : Int) else 0) = (if cdF ev b C = true then 1 else 0) := by
  cases hb : cdF ev b c with
  | true => rw [hb] at h; exact absurd h (by decide)
  | false =>
    have h1 := cdF_f hb (C - c)
    rw [show c + (C - c) = C by omega] at h1
    rw [h1]
theorem ctx1 {wd : Nat → Bool} {v : Nat} (h : ¬ (if wd v = true then (1 : Int) else 0) = 0) : ctF wd v + 1 = ctF wd (v + 1) := by
  rw [ctF]
  cases hb : wd v with
  | true => rfl
  | false => rw [hb] at h; exact absurd rfl h
theorem ctx0 {wd : Nat → Bool} {v : Nat} (h : (if wd v = true then (1 : Int) else 0) = 0) : ctF wd v + 0 = ctF wd (v + 1) := by
  rw [ctF]
  cases hb : wd v with
  | true => rw [hb] at h; exact absurd h (by decide)
  | false => rfl
theorem bz_r (b : Bool) : zr (if b = true then 1 else 0) := by split <;> exact ⟨by decide, by decide⟩
set_option maxHeartbeats 4000000 in
set_option maxRecDepth 20000 in
theorem lp_fw39 {S : zS} {J : zJ} {Q : zQ} (d : Nat) (hS : zSh S) {V : Nat → Nat → Int} (hw0 : ∀ k, k < 10 → zr (V 603 k)) {v : Nat} (hv : v < 1024) (hK : Z M_X11_findWorlds d 0 0 89 [some (.ref 602), some (.int (iI ((v : Int)))), some (.int (iI (if knF (V 603) v 10 = true then 1 else 0))), none] [] S (zi V) J Q) : ∀ (f : Nat) (k : Nat), k ≤ 10 → 10 - k < f → Z M_X11_findWorlds d 0 0 39 [some (.ref 602), some (.int (iI ((v : Int)))), some (.int (iI (if knF (V 603) v k = true then 1 else 0))), some (.int (iI ((k : Int))))] [] S (zi V) J (Q) := by
  intro f
  induction f with
  | zero => intro k hk hf; omega
  | succ f ih =>
    intro k hk hf
    refine z_iload_n Q_X11_findWorlds (k := 24) rfl rfl ?_
    refine y_bipush Q_X11_findWorlds (k := 25) rfl (by decide) ?_
    refine y_icmp_ge 89 Q_X11_findWorlds (k := 26) rfl (by decide) ⟨by omega, by omega⟩ ⟨by decide, by decide⟩ (fun c42 => ?_) (fun c42 => ?_)
    · obtain rfl : k = 10 := by omega
      exact y_fg (by simp [zsb]) hK
    · refine z_iload_n Q_X11_findWorlds (k := 27) rfl rfl ?_
      refine y_if_eq 81 Q_X11_findWorlds (k := 28) rfl (by decide) (bz_r _) (fun c46 => ?_) (fun c46 => ?_)
      · refine y_iconst Q_X11_findWorlds (k := 51) rfl ?_
        refine y_istore_n (L' := [some (.ref 602), some (.int (iI ((v : Int)))), some (.int (iI (0))), some (.int (iI ((k : Int))))]) Q_X11_findWorlds (k := 52) rfl (by decide) rfl ?_
        refine y_iinc (L' := [some (.ref 602), some (.int (iI ((v : Int)))), some (.int (iI (0))), some (.int (iI ((k : Int) + 1)))]) Q_X11_findWorlds (k := 53) rfl (by decide) rfl rfl ?_
        refine z_goto (tgt := 39) Q_X11_findWorlds (k := 54) rfl (by decide) ?_
        refine y_fg ?_ (ih (k + 1) (by omega) (by omega))
        exact zsb_c rfl (zsb_c rfl (zsb_c (zie (by first | exact knx0 c46 | exact knx1 c46 (Or.inl c58) | exact knx1 c46 (Or.inr (Decidable.of_not_not c74)) | exact knx1 c46 (Or.inr c74) | exact knx2 c58 c74)) (zsb_c (zie (by omega)) zsb_e)))
      · refine z_aload_n Q_X11_findWorlds (k := 29) rfl rfl ?_
        refine z_getR Q_X11_findWorlds (k := 30) rfl F_X11_13 rfl (n_ hS rfl) (k_602 hS) (r_602_1 hS) ?_
        refine y_iconst Q_X11_findWorlds (k := 31) rfl ?_
        refine z_iload_n Q_X11_findWorlds (k := 32) rfl rfl ?_
        refine y_iadd Q_X11_findWorlds (k := 33) rfl ?_
        refine y_ialdN Q_X11_findWorlds (k := 34) rfl (n_ hS rfl) (k_603 hS) (z := (0 + (k : Int))) (j := (0 + k)) (by omega) (by omega) (by decide) ?_
        refine y_iconst Q_X11_findWorlds (k := 35) rfl ?_
        refine y_icmp_eq 77 Q_X11_findWorlds (k := 36) rfl (by decide) (hw0 _ (by omega)) ⟨by decide, by decide⟩ (fun c58 => ?_) (fun c58 => ?_)
        · refine y_iconst Q_X11_findWorlds (k := 49) rfl ?_
          refine z_goto (tgt := 82) Q_X11_findWorlds (k := 50) rfl (by decide) ?_
          refine y_istore_n (L' := [some (.ref 602), some (.int (iI ((v : Int)))), some (.int (iI (1))), some (.int (iI ((k : Int))))]) Q_X11_findWorlds (k := 52) rfl (by decide) rfl ?_
          refine y_iinc (L' := [some (.ref 602), some (.int (iI ((v : Int)))), some (.int (iI (1))), some (.int (iI ((k : Int) + 1)))]) Q_X11_findWorlds (k := 53) rfl (by decide) rfl rfl ?_
          refine z_goto (tgt := 39) Q_X11_findWorlds (k := 54) rfl (by decide) ?_
          refine y_fg ?_ (ih (k + 1) (by omega) (by omega))
          exact zsb_c rfl (zsb_c rfl (zsb_c (zie (by first | exact knx0 c46 | exact knx1 c46 (Or.inl c58) | exact knx1 c46 (Or.inr (Decidable.of_not_not c74)) | exact knx1 c46 (Or.inr c74) | exact knx2 c58 c74)) (zsb_c (zie (by omega)) zsb_e)))
        · refine z_aload_n Q_X11_findWorlds (k := 37) rfl rfl ?_
          refine z_getR Q_X11_findWorlds (k := 38) rfl F_X11_13 rfl (n_ hS rfl) (k_602 hS) (r_602_1 hS) ?_
          refine y_iconst Q_X11_findWorlds (k := 39) rfl ?_
          refine z_iload_n Q_X11_findWorlds (k := 40) rfl rfl ?_
          refine y_iadd Q_X11_findWorlds (k := 41) rfl ?_
          refine y_ialdN Q_X11_findWorlds (k := 42) rfl (n_ hS rfl) (k_603 hS) (z := (0 + (k : Int))) (j := (0 + k)) (by omega) (by omega) (by decide) ?_
          refine z_iload_n Q_X11_findWorlds (k := 43) rfl rfl ?_
          refine z_iload_n Q_X11_findWorlds (k := 44) rfl rfl ?_
          refine y_ishr Q_X11_findWorlds (k := 45) rfl ?_
          refine y_iconst Q_X11_findWorlds (k := 46) rfl ?_
          refine y_iand Q_X11_findWorlds (k := 47) rfl ?_
          refine y_icmp_ne 81 Q_X11_findWorlds (k := 48) rfl (by decide) (hw0 _ (by omega)) (zand_r _ _) (fun c74 => ?_) (fun c74 => ?_)
          · refine y_iconst Q_X11_findWorlds (k := 51) rfl ?_
            refine y_istore_n (L' := [some (.ref 602), some (.int (iI ((v : Int)))), some (.int (iI (0))), some (.int (iI ((k : Int))))]) Q_X11_findWorlds (k := 52) rfl (by decide) rfl ?_
            refine y_iinc (L' := [some (.ref 602), some (.int (iI ((v : Int)))), some (.int (iI (0))), some (.int (iI ((k : Int) + 1)))]) Q_X11_findWorlds (k := 53) rfl (by decide) rfl rfl ?_
            refine z_goto (tgt := 39) Q_X11_findWorlds (k := 54) rfl (by decide) ?_
            refine y_fg ?_ (ih (k + 1) (by omega) (by omega))
            exact zsb_c rfl (zsb_c rfl (zsb_c (zie (by first | exact knx0 c46 | exact knx1 c46 (Or.inl c58) | exact knx1 c46 (Or.inr (Decidable.of_not_not c74)) | exact knx1 c46 (Or.inr c74) | exact knx2 c58 c74)) (zsb_c (zie (by omega)) zsb_e)))
          · refine y_iconst Q_X11_findWorlds (k := 49) rfl ?_
            refine z_goto (tgt := 82) Q_X11_findWorlds (k := 50) rfl (by decide) ?_
            refine y_istore_n (L' := [some (.ref 602), some (.int (iI ((v : Int)))), some (.int (iI (1))), some (.int (iI ((k : Int))))]) Q_X11_findWorlds (k := 52) rfl (by decide) rfl ?_
            refine y_iinc (L' := [some (.ref 602), some (.int (iI ((v : Int)))), some (.int (iI (1))), some (.int (iI ((k : Int) + 1)))]) Q_X11_findWorlds (k := 53) rfl (by decide) rfl rfl ?_
            refine z_goto (tgt := 39) Q_X11_findWorlds (k := 54) rfl (by decide) ?_
            refine y_fg ?_ (ih (k + 1) (by omega) (by omega))
            exact zsb_c rfl (zsb_c rfl (zsb_c (zie (by first | exact knx0 c46 | exact knx1 c46 (Or.inl c58) | exact knx1 c46 (Or.inr (Decidable.of_not_not c74)) | exact knx1 c46 (Or.inr c74) | exact knx2 c58 c74)) (zsb_c (zie (by omega)) zsb_e)))
set_option maxHeartbeats 4000000 in
set_option maxRecDepth 20000 in
theorem lp_fw91 {S : zS} {J : zJ} {Q : zQ} (d : Nat) (hS : zSh S) {V1 : Nat → Nat → Int} {v C : Nat} (hv : v < 1024) (hC : V1 603 593 = (C : Int)) (hC8 : C ≤ 8) (hnz : ∀ j, j < 10 → V1 614 j = 0) (hcz : ∀ j, zr (V1 604 j) ∧ zr (V1 605 j) ∧ zr (V1 614 j)) {ev : Nat → Bool} (hev : ∀ c, c < C → 420 * (3 + c) ≤ (V1 611 c).toNat ∧ 0 ≤ V1 611 c ∧ V1 611 c ≤ 4620 ∧ ∀ s, ∃ r, isoN (V1 604) (V1 605) (fun _ => 0) (v : Int) ((V1 611 c).toNat - 420 * (3 + c)) (420 * (3 + c)) s 0 = some r ∧ zr (r.1 0) ∧ (r.1 0 = 1 ↔ ev c = true)) {b : Bool} (hK : ∀ V, (∀ a j, a ≠ 615 → V a j = V1 a j) → Z M_X11_findWorlds (d + 1) 0 0 132 [some (.ref 602), some (.int (iI ((v : Int)))), some (.int (iI (if cdF ev b C = true then 1 else 0))), none] [] S (zi V) J Q) : ∀ (f : Nat) (c : Nat) (V : Nat → Nat → Int), (∀ a j, a ≠ 615 → V a j = V1 a j) → c ≤ C → C - c < f → Z M_X11_findWorlds (d + 1) 0 0 91 [some (.ref 602), some (.int (iI ((v : Int)))), some (.int (iI (if cdF ev b c = true then 1 else 0))), some (.int (iI ((c : Int))))] [] S (zi V) J (Q) := by
  intro f
  induction f with
  | zero => intro c V hE hc hf; omega
  | succ f ih =>
    intro c V hE hc hf
    refine z_iload_n Q_X11_findWorlds (k := 57) rfl rfl ?_
    refine z_aload_n Q_X11_findWorlds (k := 58) rfl rfl ?_
    refine z_getR Q_X11_findWorlds (k := 59) rfl F_X11_13 rfl (n_ hS rfl) (k_602 hS) (r_602_1 hS) ?_
    refine y_sipush Q_X11_findWorlds (k := 60) rfl (by decide) ?_
    refine y_ialdN Q_X11_findWorlds (k := 61) rfl (n_ hS rfl) (k_603 hS) (z := 593) (j := 593) rfl (by decide) (by decide) ?_
    refine y_as (y := (C : Int)) (by rw [hE 603 593 (by decide)]; exact hC) ?_
    refine y_icmp_ge 132 Q_X11_findWorlds (k := 62) rfl (by decide) ⟨by omega, by omega⟩ ⟨by omega, by omega⟩ (fun c100 => ?_) (fun c100 => ?_)
    · refine y_fg ?_ (hK V hE)
      first | rw [show c = C by omega] | rw [cdx2 hc c104]
      simp [zsb]
    · refine z_iload_n Q_X11_findWorlds (k := 63) rfl rfl ?_
      refine y_if_eq 132 Q_X11_findWorlds (k := 64) rfl (by decide) (bz_r _) (fun c104 => ?_) (fun c104 => ?_)
      · refine y_fg ?_ (hK V hE)
        first | rw [show c = C by omega] | rw [cdx2 hc c104]
        simp [zsb]
      · refine z_aload_n Q_X11_findWorlds (k := 65) rfl rfl ?_
        refine y_sipush Q_X11_findWorlds (k := 66) rfl (by decide) ?_
        refine y_iconst Q_X11_findWorlds (k := 67) rfl ?_
        refine z_iload_n Q_X11_findWorlds (k := 68) rfl rfl ?_
        refine y_iadd Q_X11_findWorlds (k := 69) rfl ?_
        refine y_imul Q_X11_findWorlds (k := 70) rfl ?_
        refine z_aload_n Q_X11_findWorlds (k := 71) rfl rfl ?_
        refine z_getR Q_X11_findWorlds (k := 72) rfl F_X11_38 rfl (n_ hS rfl) (k_602 hS) (r_602_9 hS) ?_
        refine z_iload_n Q_X11_findWorlds (k := 73) rfl rfl ?_
        refine y_ialdN Q_X11_findWorlds (k := 74) rfl (n_ hS rfl) (k_611 hS) (z := (c : Int)) (j := c) (by omega) (by omega) (by decide) ?_
        refine z_iload_n Q_X11_findWorlds (k := 75) rfl rfl ?_
        obtain ⟨he1, he2, he3, he4⟩ := hev c (by omega)
        obtain ⟨r, hr1, hr2, hr3⟩ := he4 (V 615)
        rw [isoN_nm (nm' := V 614) (fun j hj => by rw [hE 614 j (by decide), hnz j hj]), show V1 604 = V 604 from funext fun j => (hE 604 j (by decide)).symm, show V1 605 = V 605 from funext fun j => (hE 605 j (by decide)).symm] at hr1
        have hz4 : ∀ j, zr (V 604 j) ∧ zr (V 605 j) ∧ zr (V 614 j) := fun j => by rw [hE 604 j (by decide), hE 605 j (by decide), hE 614 j (by decide)]; exact hcz j
        have hf := hE 611 c (by decide)
        rw [show V 611 c = ((420 * (3 + c) + ((V1 611 c).toNat - 420 * (3 + c)) : Nat) : Int) by omega, show (420 * (3 + (c : Int))) = ((420 * (3 + c) : Nat) : Int) by omega]
        refine v_callV3 Q_X11_findWorlds (k := 76) rfl rfl K_X11_isSo V_X11_isSo L_X11_203 (n_ hS rfl) (k_602 hS) (by decide) (Nat.le_of_ble_eq_true rfl) rfl (Nat.zero_le _) (Nat.zero_le _) (c_isSo d hS (by omega) hv hz4 hr2 hr1) (fun v122 V122 p122 => ?_)
        obtain ⟨rfl, -, hE122⟩ := p122
        refine y_istore_n (L' := [some (.ref 602), some (.int (iI ((v : Int)))), some (.int (iI (if r.1 0 = 1 then 1 else 0))), some (.int (iI ((c : Int))))]) Q_X11_findWorlds (k := 77) rfl (by decide) rfl ?_
        refine y_iinc (L' := [some (.ref 602), some (.int (iI ((v : Int)))), some (.int (iI (if r.1 0 = 1 then 1 else 0))), some (.int (iI ((c : Int) + 1)))]) Q_X11_findWorlds (k := 78) rfl (by decide) rfl rfl ?_
        refine z_goto (tgt := 91) Q_X11_findWorlds (k := 79) rfl (by decide) ?_
        refine y_fg ?_ (ih (c + 1) V122 (fun a j h => by rw [hE122 a j h]; exact hE a j h) (by omega) (by omega))
        rw [cdx1 c104 hr3]
        simp [zsb]
def fwE (V0 V' : Nat → Nat → Int) : Prop := ∀ a j, a ≠ 614 → a ≠ 615 → a ≠ 616 → ¬ (a = 602 ∧ j = 25) → V' a j = V0 a j
/-- the conditions' code, as it stands in the reference: what each says in each world -/
def cdOk (V : Nat → Nat → Int) (C : Nat) (ev : Nat → Nat → Bool) : Prop := ∀ v : Nat, v < 1024 → ∀ c : Nat, c < C → 420 * (3 + c) ≤ (V 611 c).toNat ∧ 0 ≤ V 611 c ∧ V 611 c ≤ 4620 ∧ ∀ s, ∃ r, isoN (V 604) (V 605) (fun _ => 0) (v : Int) ((V 611 c).toNat - 420 * (3 + c)) (420 * (3 + c)) s 0 = some r ∧ zr (r.1 0) ∧ (r.1 0 = 1 ↔ ev c v = true)
set_option maxHeartbeats 4000000 in
set_option maxRecDepth 20000 in
theorem lp_fw28 {S : zS} {J : zJ} (d : Nat) (hS : zSh S) {V0 : Nat → Nat → Int} {C : Nat} {ev : Nat → Nat → Bool} (hV : ∀ a j, zr (V0 a j)) (hC : V0 603 593 = (C : Int)) (hC8 : C ≤ 8) (hev : cdOk V0 C ev) : ∀ (f : Nat) (v : Nat) (V : Nat → Nat → Int), fwE V0 V → (∀ u, u < v → V 616 u = if wdF (V0 603) ev C u = true then 1 else 0) → V 602 25 = ctF (wdF (V0 603) ev C) v → (∀ j, j < 10 → V 614 j = 0) → (∀ j, zr (V 614 j)) → v ≤ 1024 → 1024 - v < f → Z M_X11_findWorlds (d + 1) 0 0 28 [some (.ref 602), some (.int (iI ((v : Int)))), none, none] [] S (zi V) J (zPq S J (fun r V' => r = none ∧ (∀ u, u < 1024 → V' 616 u = if wdF (V0 603) ev C u = true then 1 else 0) ∧ V' 602 25 = ctF (wdF (V0 603) ev C) 1024 ∧ (∀ j, j < 10 → V' 614 j = 0) ∧ fwE V0 V')) := by
  intro f
  induction f with
  | zero => intro v V hE h616 h25 hnz hz14 hv0 hf; omega
  | succ f ih =>
    intro v V hE h616 h25 hnz hz14 hv0 hf
    refine z_iload_n Q_X11_findWorlds (k := 17) rfl rfl ?_
    refine y_sipush Q_X11_findWorlds (k := 18) rfl (by decide) ?_
    refine y_icmp_ge 163 Q_X11_findWorlds (k := 19) rfl (by decide) ⟨by omega, by omega⟩ ⟨by decide, by decide⟩ (fun c32 => ?_) (fun c32 => ?_)
    · exact z_vret Q_X11_findWorlds (k := 97) rfl rfl (zPq_i ⟨rfl, fun u hu => h616 u (by omega), by rw [h25, show v = 1024 by omega], hnz, hE⟩)
    · refine y_iconst Q_X11_findWorlds (k := 20) rfl ?_
      refine y_istore_n (L' := [some (.ref 602), some (.int (iI ((v : Int)))), some (.int (iI (1))), none]) Q_X11_findWorlds (k := 21) rfl (by decide) rfl ?_
      refine y_iconst Q_X11_findWorlds (k := 22) rfl ?_
      refine y_istore_n (L' := [some (.ref 602), some (.int (iI ((v : Int)))), some (.int (iI (1))), some (.int (iI (0)))]) Q_X11_findWorlds (k := 23) rfl (by decide) rfl ?_
      have hw3 : V 603 = V0 603 := funext fun j => hE 603 j (by decide) (by decide) (by decide) (fun h => absurd h.1 (by decide))
      have hv : v < 1024 := by omega
      refine y_fg (zsb_c rfl (zsb_c rfl (zsb_c rfl (zsb_c rfl zsb_e)))) (lp_fw39 (V := V) (v := v) (d + 1) hS (fun k hk => by rw [hw3]; exact hV _ _) hv ?_ 11 0 (by omega) (by omega))
      refine y_iconst Q_X11_findWorlds (k := 55) rfl ?_
      refine y_istore_n (L' := [some (.ref 602), some (.int (iI ((v : Int)))), some (.int (iI (if knF (V 603) v 10 = true then 1 else 0))), some (.int (iI (0)))]) Q_X11_findWorlds (k := 56) rfl (by decide) rfl ?_
      have e4 : V 604 = V0 604 := funext fun j => hE 604 j (by decide) (by decide) (by decide) (fun h => absurd h.1 (by decide))
      have e5 : V 605 = V0 605 := funext fun j => hE 605 j (by decide) (by decide) (by decide) (fun h => absurd h.1 (by decide))
      have e11 : V 611 = V0 611 := funext fun j => hE 611 j (by decide) (by decide) (by decide) (fun h => absurd h.1 (by decide))
      refine y_fg (zsb_c rfl (zsb_c rfl (zsb_c rfl (zsb_c rfl zsb_e)))) (lp_fw91 (V1 := V) (v := v) (C := C) (ev := fun c => ev c v) (b := knF (V 603) v 10) d hS hv (by rw [hw3]; exact hC) hC8 hnz (fun j => ⟨by rw [e4]; exact hV _ _, by rw [e5]; exact hV _ _, hz14 j⟩) (by rw [e4, e5, e11]; exact hev v hv) ?_ (C + 1) 0 V (fun _ _ _ => rfl) (by omega) (by omega))
      intro V2 hE2
      have hwd : cdF (fun c => ev c v) (knF (V 603) v 10) C = wdF (V0 603) ev C v := by rw [hw3]; rfl
      rw [hwd]
      have h25b : V2 602 25 = ctF (wdF (V0 603) ev C) v := by rw [hE2 602 25 (by decide)]; exact h25
      have hcb := ctF_b (wdF (V0 603) ev C) v
      have hz3 : (if wdF (V0 603) ev C v = true then (1 : Int) else 0) = 0 ∨ (if wdF (V0 603) ev C v = true then (1 : Int) else 0) = 1 := by split <;> simp
      refine z_aload_n Q_X11_findWorlds (k := 80) rfl rfl ?_
      refine z_getR Q_X11_findWorlds (k := 81) rfl F_X11_56 rfl (n_ hS rfl) (k_602 hS) (r_602_24 hS) ?_
      refine z_iload_n Q_X11_findWorlds (k := 82) rfl rfl ?_
      refine z_iload_n Q_X11_findWorlds (k := 83) rfl rfl ?_
      refine y_zastN Q_X11_findWorlds (k := 84) rfl (n_ hS rfl) (k_616 hS) (z := (v : Int)) (j := v) (by omega) (by omega) (by decide) (by first | exact Or.inl rfl | exact Or.inr rfl | omega) ?_
      refine z_aload_n Q_X11_findWorlds (k := 85) rfl rfl ?_
      refine z_dup Q_X11_findWorlds (k := 86) rfl rfl ?_
      refine y_getI Q_X11_findWorlds (k := 87) rfl F_X11_200 rfl (n_ hS rfl) (k_602 hS) ?_
      refine y_as (y := ctF (wdF (V0 603) ev C) v) (by simp [zu, h25b]) ?_
      refine z_iload_n Q_X11_findWorlds (k := 88) rfl rfl ?_
      refine y_if_eq 152 Q_X11_findWorlds (k := 89) rfl (by decide) (bz_r _) (fun c145 => ?_) (fun c145 => ?_)
      · refine y_iconst Q_X11_findWorlds (k := 92) rfl ?_
        refine y_iadd Q_X11_findWorlds (k := 93) rfl ?_
        refine y_putI Q_X11_findWorlds (k := 94) rfl F_X11_200 rfl (n_ hS rfl) (k_602 hS) ?_
        refine y_iinc (L' := [some (.ref 602), some (.int (iI ((v : Int) + 1))), some (.int (iI (if wdF (V0 603) ev C v = true then 1 else 0))), none]) Q_X11_findWorlds (k := 95) rfl (by decide) rfl rfl ?_
        refine z_goto (tgt := 28) Q_X11_findWorlds (k := 96) rfl (by decide) ?_
        refine y_fg (by simp [zsb]) (ih (v + 1) (zu (zu V2 616 (v) (if wdF (V0 603) ev C v = true then 1 else 0)) 602 25 ((ctF (wdF (V0 603) ev C) v + 0))) ?_ ?_ ?_ ?_ ?_ (by omega) (by omega))
        · intro a j h1 h2 h3 h4
          rw [show (zu (zu V2 616 (v) (if wdF (V0 603) ev C v = true then 1 else 0)) 602 25 ((ctF (wdF (V0 603) ev C) v + 0))) a j = V2 a j by simp only [zu]; split <;> simp_all]
          rw [hE2 a j h2]; exact hE a j h1 h2 h3 h4
        · intro u hu
          rcases Nat.lt_or_ge u v with q | q
          · rw [show (zu (zu V2 616 (v) (if wdF (V0 603) ev C v = true then 1 else 0)) 602 25 ((ctF (wdF (V0 603) ev C) v + 0))) 616 u = V2 616 u by simp only [zu]; simp; omega, hE2 616 u (by decide)]; exact h616 u q
          · rw [show u = v by omega]; simp [zu]
        · rw [zu_s]; first | exact ctx1 c145 | exact ctx0 c145
        · intro j hj; rw [show (zu (zu V2 616 (v) (if wdF (V0 603) ev C v = true then 1 else 0)) 602 25 ((ctF (wdF (V0 603) ev C) v + 0))) 614 j = V2 614 j by simp [zu], hE2 614 j (by decide)]; exact hnz j hj
        · intro j; rw [show (zu (zu V2 616 (v) (if wdF (V0 603) ev C v = true then 1 else 0)) 602 25 ((ctF (wdF (V0 603) ev C) v + 0))) 614 j = V2 614 j by simp [zu], hE2 614 j (by decide)]; exact hz14 j
      · refine y_iconst Q_X11_findWorlds (k := 90) rfl ?_
        refine z_goto (tgt := 153) Q_X11_findWorlds (k := 91) rfl (by decide) ?_
        refine y_iadd Q_X11_findWorlds (k := 93) rfl ?_
        refine y_putI Q_X11_findWorlds (k := 94) rfl F_X11_200 rfl (n_ hS rfl) (k_602 hS) ?_
        refine y_iinc (L' := [some (.ref 602), some (.int (iI ((v : Int) + 1))), some (.int (iI (if wdF (V0 603) ev C v = true then 1 else 0))), none]) Q_X11_findWorlds (k := 95) rfl (by decide) rfl rfl ?_
        refine z_goto (tgt := 28) Q_X11_findWorlds (k := 96) rfl (by decide) ?_
        refine y_fg (by simp [zsb]) (ih (v + 1) (zu (zu V2 616 (v) (if wdF (V0 603) ev C v = true then 1 else 0)) 602 25 ((ctF (wdF (V0 603) ev C) v + 1))) ?_ ?_ ?_ ?_ ?_ (by omega) (by omega))
        · intro a j h1 h2 h3 h4
          rw [show (zu (zu V2 616 (v) (if wdF (V0 603) ev C v = true then 1 else 0)) 602 25 ((ctF (wdF (V0 603) ev C) v + 1))) a j = V2 a j by simp only [zu]; split <;> simp_all]
          rw [hE2 a j h2]; exact hE a j h1 h2 h3 h4
        · intro u hu
          rcases Nat.lt_or_ge u v with q | q
          · rw [show (zu (zu V2 616 (v) (if wdF (V0 603) ev C v = true then 1 else 0)) 602 25 ((ctF (wdF (V0 603) ev C) v + 1))) 616 u = V2 616 u by simp only [zu]; simp; omega, hE2 616 u (by decide)]; exact h616 u q
          · rw [show u = v by omega]; simp [zu]
        · rw [zu_s]; first | exact ctx1 c145 | exact ctx0 c145
        · intro j hj; rw [show (zu (zu V2 616 (v) (if wdF (V0 603) ev C v = true then 1 else 0)) 602 25 ((ctF (wdF (V0 603) ev C) v + 1))) 614 j = V2 614 j by simp [zu], hE2 614 j (by decide)]; exact hnz j hj
        · intro j; rw [show (zu (zu V2 616 (v) (if wdF (V0 603) ev C v = true then 1 else 0)) 602 25 ((ctF (wdF (V0 603) ev C) v + 1))) 614 j = V2 614 j by simp [zu], hE2 614 j (by decide)]; exact hz14 j
set_option maxHeartbeats 4000000 in
set_option maxRecDepth 20000 in
theorem lp_fw7 {S : zS} {J : zJ} (d : Nat) (hS : zSh S) {V0 : Nat → Nat → Int} {C : Nat} {ev : Nat → Nat → Bool} (hV : ∀ a j, zr (V0 a j)) (hC : V0 603 593 = (C : Int)) (hC8 : C ≤ 8) (hev : cdOk V0 C ev) : ∀ (f : Nat) (k : Nat) (V : Nat → Nat → Int), fwE V0 V → V 602 25 = 0 → (∀ j, j < k → V 614 j = 0) → (∀ j, zr (V 614 j)) → k ≤ 10 → 10 - k < f → Z M_X11_findWorlds (d + 1) 0 0 7 [some (.ref 602), some (.int (iI ((k : Int)))), none, none] [] S (zi V) J (zPq S J (fun r V' => r = none ∧ (∀ u, u < 1024 → V' 616 u = if wdF (V0 603) ev C u = true then 1 else 0) ∧ V' 602 25 = ctF (wdF (V0 603) ev C) 1024 ∧ (∀ j, j < 10 → V' 614 j = 0) ∧ fwE V0 V')) := by
  intro f
  induction f with
  | zero => intro k V hE h25 hnz hz14 hk0 hf; omega
  | succ f ih =>
    intro k V hE h25 hnz hz14 hk0 hf
    refine z_iload_n Q_X11_findWorlds (k := 5) rfl rfl ?_
    refine y_bipush Q_X11_findWorlds (k := 6) rfl (by decide) ?_
    refine y_icmp_ge 26 Q_X11_findWorlds (k := 7) rfl (by decide) ⟨by omega, by omega⟩ ⟨by decide, by decide⟩ (fun c10 => ?_) (fun c10 => ?_)
    · refine y_iconst Q_X11_findWorlds (k := 15) rfl ?_
      refine y_istore_n (L' := [some (.ref 602), some (.int (iI (0))), none, none]) Q_X11_findWorlds (k := 16) rfl (by decide) rfl ?_
      exact y_fg (by simp [zsb]) (lp_fw28 d hS hV hC hC8 hev 1025 0 V hE (fun u hu => absurd hu (Nat.not_lt_zero u)) h25 (fun j hj => hnz j (by omega)) hz14 (by omega) (by omega))
    · refine z_aload_n Q_X11_findWorlds (k := 8) rfl rfl ?_
      refine z_getR Q_X11_findWorlds (k := 9) rfl F_X11_50 rfl (n_ hS rfl) (k_602 hS) (r_602_22 hS) ?_
      refine z_iload_n Q_X11_findWorlds (k := 10) rfl rfl ?_
      refine y_iconst Q_X11_findWorlds (k := 11) rfl ?_
      refine y_iastN Q_X11_findWorlds (k := 12) rfl (n_ hS rfl) (k_614 hS) (z := (k : Int)) (j := k) (by omega) (by omega) (by decide) ?_
      refine y_iinc (L' := [some (.ref 602), some (.int (iI ((k : Int) + 1))), none, none]) Q_X11_findWorlds (k := 13) rfl (by decide) rfl rfl ?_
      refine z_goto (tgt := 7) Q_X11_findWorlds (k := 14) rfl (by decide) ?_
      exact y_fg (by simp [zsb]) (ih (k + 1) (zu V 614 (k) (0)) (fun a j h1 h2 h3 h4 => by rw [zu_o _ _ h1]; exact hE a j h1 h2 h3 h4) (by rw [zu_o _ _ (by decide)]; exact h25) (fun j hj => by by_cases q : j = k; rw [q, zu_s]; rw [zu_j _ _ q]; exact hnz j (by omega)) (fun j => by by_cases q : j = k; rw [q, zu_s]; exact ⟨by decide, by decide⟩; rw [zu_j _ _ q]; exact hz14 j) (by omega) (by omega))
set_option maxHeartbeats 4000000 in
set_option maxRecDepth 20000 in
theorem c_findWorlds {S : zS} {J : zJ} (d : Nat) (hS : zSh S) {V0 : Nat → Nat → Int} {C : Nat} {ev : Nat → Nat → Bool} (hV : ∀ a j, zr (V0 a j)) (hC : V0 603 593 = (C : Int)) (hC8 : C ≤ 8) (hev : cdOk V0 C ev) : Z M_X11_findWorlds (d + 1) 0 0 0 [some (.ref 602), none, none, none] [] S (zi V0) J (zPq S J (fun r V' => r = none ∧ (∀ u, u < 1024 → V' 616 u = if wdF (V0 603) ev C u = true then 1 else 0) ∧ V' 602 25 = ctF (wdF (V0 603) ev C) 1024 ∧ (∀ j, j < 10 → V' 614 j = 0) ∧ fwE V0 V')) := by
  refine z_aload_n Q_X11_findWorlds (k := 0) rfl rfl ?_
  refine y_iconst Q_X11_findWorlds (k := 1) rfl ?_
  refine y_putI Q_X11_findWorlds (k := 2) rfl F_X11_200 rfl (n_ hS rfl) (k_602 hS) ?_
  refine y_iconst Q_X11_findWorlds (k := 3) rfl ?_
  refine y_istore_n (L' := [some (.ref 602), some (.int (iI (0))), none, none]) Q_X11_findWorlds (k := 4) rfl (by decide) rfl ?_
  exact y_fg (by simp [zsb]) (lp_fw7 d hS hV hC hC8 hev 11 0 (zu V0 602 25 (0)) (fun a j h1 h2 h3 h4 => by simp only [zu]; split; split; exact absurd ⟨by assumption, by assumption⟩ h4; rfl; rfl) (by simp [zu]) (fun j hj => absurd hj (Nat.not_lt_zero j)) (fun j => by simp [zu]; exact hV _ _) (by omega) (by omega))
