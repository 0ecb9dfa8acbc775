/-! the reference: worlds -/
theorem fsF_b (ev : Nat → Bool) : ∀ m i, fsF ev i m = -1 ∨ ((i : Int) ≤ fsF ev i m ∧ fsF ev i m < i + m)
  | 0, i => Or.inl rfl
  | m + 1, i => by
    rw [fsF]
    split
    · refine Or.inr ⟨by omega, by push_cast; omega⟩
    · have h := fsF_b ev m (i + 1)
      rcases h with h | ⟨h1, h2⟩
      · exact Or.inl h
      · refine Or.inr ⟨by push_cast at h1; omega, by push_cast at h2 ⊢; omega⟩
theorem iso1_nm {code cn nm nm' : Nat → Int} (h : ∀ j, j < 10 → nm j = nm' j) (world : Int) (k : Nat) (s : Nat → Int) (n : Nat) : iso1 code cn nm world k s n = iso1 code cn nm' world k s n := by
  unfold iso1
  by_cases h1 : 0 ≤ cn k ∧ cn k < 10
  · rw [h (cn k).toNat (by omega)]
  · have e : (decide (0 ≤ cn k) && decide (cn k < 10)) = false := by
      rcases Int.lt_or_le (cn k) 0 with q | q
      · simp [show ¬ 0 ≤ cn k by omega]
      · simp [show ¬ cn k < 10 by omega]
    have e2 : ∀ b, (decide (0 ≤ cn k) && (decide (cn k < 10) && b)) = false := fun b => by rw [← Bool.and_assoc, e]; rfl
    simp only [e2, Bool.and_false]
    rfl
theorem isoN_nm {code cn nm nm' : Nat → Int} (h : ∀ j, j < 10 → nm j = nm' j) (world : Int) : ∀ (m k : Nat) (s : Nat → Int) (n : Nat), isoN code cn nm world m k s n = isoN code cn nm' world m k s n
  | 0, _, _, _ => rfl
  | m + 1, k, s, n => by
    rw [isoN, isoN, iso1_nm h]
    cases iso1 code cn nm' world k s n with
    | none => rfl
    | some q => exact isoN_nm h world m (k + 1) q.1 q.2
def knF (w : Nat → Int) (v : Nat) : Nat → Bool
  | 0 => true
  | k + 1 => knF w v k && (decide (w k = 2) || decide (w k = zand (zshr (v : Int) (k : Int)) 1))
def cdF (ev : Nat → Bool) (b : Bool) : Nat → Bool
  | 0 => b
  | c + 1 => cdF ev b c && ev c
theorem cdF_f {ev : Nat → Bool} {b : Bool} {c : Nat} (h : cdF ev b c = false) : ∀ m, cdF ev b (c + m) = false
  | 0 => h
  | m + 1 => by rw [← Nat.add_assoc, cdF, cdF_f h m]; rfl
def ctF (wd : Nat → Bool) : Nat → Int
  | 0 => 0
  | v + 1 => ctF wd v + if wd v = true then 1 else 0
theorem ctF_b (wd : Nat → Bool) : ∀ n, 0 ≤ ctF wd n ∧ ctF wd n ≤ n
  | 0 => by simp [ctF]
  | n + 1 => by
    have h := ctF_b wd n
    simp only [ctF]
    split <;> constructor <;> push_cast <;> omega
def wdF (w : Nat → Int) (ev : Nat → Nat → Bool) (C : Nat) (v : Nat) : Bool := cdF (fun c => ev c v) (knF w v 10) C
theorem knx0 {w : Nat → Int} {v k : Nat} (h : (if knF w v k = true then (1 : Int) else 0) = 0) : (0 : Int) = (if knF w v (k + 1) = true then 1 else 0) := by
  rw [knF]
  cases hb : knF w v k with
  | true => rw [hb] at h; exact absurd h (by decide)
  | false => rfl
theorem knx1 {w : Nat → Int} {v k : Nat} (h : ¬ (if knF w v k = true then (1 : Int) else 0) = 0) (h2 : w (0 + k) = 2 ∨ w (0 + k) = zand (zshr (v : Int) (k : Int)) 1) : (1 : Int) = (if knF w v (k + 1) = true then 1 else 0) := by
  rw [Nat.zero_add] at h2
  rw [knF]
  cases hb : knF w v k with
  | true => simp [h2]
  | false => rw [hb] at h; exact absurd rfl h
theorem knx2 {w : Nat → Int} {v k : Nat} (h1 : ¬ w (0 + k) = 2) (h2 : ¬ w (0 + k) = zand (zshr (v : Int) (k : Int)) 1) : (0 : Int) = (if knF w v (k + 1) = true then 1 else 0) := by
  rw [Nat.zero_add] at h1 h2
  rw [knF]
  simp [h1, h2]
theorem cdx1 {ev : Nat → Bool} {b : Bool} {c : Nat} {x : Int} (h : ¬ (if cdF ev b c = true then (1 : Int) else 0) = 0) (h3 : x = 1 ↔ ev c = true) : (if x = 1 then (1 : Int) else 0) = (if cdF ev b (c + 1) = true then 1 else 0) := by
  rw [cdF]
  cases hb : cdF ev b c with
  | true => simp [h3]
  | false => rw [hb] at h; exact absurd rfl h
theorem cdx2 {ev : Nat → Bool} {b : Bool} {c C : Nat} (hc : c ≤ C) (h : (if cdF ev b c = true then (1 : Int) else 0) = 0) : (if cdF ev b c = true then (1 : Int) else 0) = (if cdF ev b C = true then 1 else 0) := by
  cases hb : cdF ev b c with
  | true => rw [hb] at h; exact absurd h (by decide)
  | false =>
    have h1 := cdF_f hb (C - c)
    rw [show c + (C - c) = C by omega] at h1
    rw [h1]
theorem bz_r (b : Bool) : zr (if b = true then 1 else 0) := by split <;> exact ⟨by decide, by decide⟩
set_option maxHeartbeats 4000000 in
set_option maxRecDepth 20000 in
theorem lp_fw39 {S : zS} {J : zJ} {Q : zQ} (d : Nat) (hS : zSh S) {V : Nat → Nat → Int} (hw0 : ∀ k, k < 10 → zr (V 603 k)) {v : Nat} (hv : v < 1024) (hK : Z M_X11_findWorlds d 0 0 89 [some (.ref 602), some (.int (iI ((v : Int)))), some (.int (iI (if knF (V 603) v 10 = true then 1 else 0))), none] [] S (zi V) J Q) : ∀ (f : Nat) (k : Nat), k ≤ 10 → 10 - k < f → Z M_X11_findWorlds d 0 0 39 [some (.ref 602), some (.int (iI ((v : Int)))), some (.int (iI (if knF (V 603) v k = true then 1 else 0))), some (.int (iI ((k : Int))))] [] S (zi V) J (Q) := by
  intro f
  induction f with
  | zero => intro k hk hf; omega
  | succ f ih =>
    intro k hk hf
    refine z_iload_n Q_X11_findWorlds (k := 24) rfl rfl ?_
    refine y_bipush Q_X11_findWorlds (k := 25) rfl (by decide) ?_
    refine y_icmp_ge 89 Q_X11_findWorlds (k := 26) rfl (by decide) ⟨by omega, by omega⟩ ⟨by decide, by decide⟩ (fun c42 => ?_) (fun c42 => ?_)
    · obtain rfl : k = 10 := by omega
      exact y_fg (by simp [zsb]) hK
    · refine z_iload_n Q_X11_findWorlds (k := 27) rfl rfl ?_
      refine y_if_eq 81 Q_X11_findWorlds (k := 28) rfl (by decide) (bz_r _) (fun c46 => ?_) (fun c46 => ?_)
      · refine y_iconst Q_X11_findWorlds (k := 51) rfl ?_
        refine y_istore_n (L' := [some (.ref 602), some (.int (iI ((v : Int)))), some (.int (iI (0))), some (.int (iI ((k : Int))))]) Q_X11_findWorlds (k := 52) rfl (by decide) rfl ?_
        refine y_iinc (L' := [some (.ref 602), some (.int (iI ((v : Int)))), some (.int (iI (0))), some (.int (iI ((k : Int) + 1)))]) Q_X11_findWorlds (k := 53) rfl (by decide) rfl rfl ?_
        refine z_goto (tgt := 39) Q_X11_findWorlds (k := 54) rfl (by decide) ?_
        refine y_fg ?_ (ih (k + 1) (by omega) (by omega))
        exact zsb_c rfl (zsb_c rfl (zsb_c (zie (by first | exact knx0 c46 | exact knx1 c46 (Or.inl c58) | exact knx1 c46 (Or.inr (Decidable.of_not_not c74)) | exact knx1 c46 (Or.inr c74) | exact knx2 c58 c74)) (zsb_c (zie (by omega)) zsb_e)))
      · refine z_aload_n Q_X11_findWorlds (k := 29) rfl rfl ?_
        refine z_getR Q_X11_findWorlds (k := 30) rfl F_X11_13 rfl (n_ hS rfl) (k_602 hS) (r_602_1 hS) ?_
        refine y_iconst Q_X11_findWorlds (k := 31) rfl ?_
        refine z_iload_n Q_X11_findWorlds (k := 32) rfl rfl ?_
        refine y_iadd Q_X11_findWorlds (k := 33) rfl ?_
        refine y_ialdN Q_X11_findWorlds (k := 34) rfl (n_ hS rfl) (k_603 hS) (z := (0 + (k : Int))) (j := (0 + k)) (by omega) (by omega) (by decide) ?_
        refine y_iconst Q_X11_findWorlds (k := 35) rfl ?_
        refine y_icmp_eq 77 Q_X11_findWorlds (k := 36) rfl (by decide) (hw0 _ (by omega)) ⟨by decide, by decide⟩ (fun c58 => ?_) (fun c58 => ?_)
        · refine y_iconst Q_X11_findWorlds (k := 49) rfl ?_
          refine z_goto (tgt := 82) Q_X11_findWorlds (k := 50) rfl (by decide) ?_
          refine y_istore_n (L' := [some (.ref 602), some (.int (iI ((v : Int)))), some (.int (iI (1))), some (.int (iI ((k : Int))))]) Q_X11_findWorlds (k := 52) rfl (by decide) rfl ?_
          refine y_iinc (L' := [some (.ref 602), some (.int (iI ((v : Int)))), some (.int (iI (1))), some (.int (iI ((k : Int) + 1)))]) Q_X11_findWorlds (k := 53) rfl (by decide) rfl rfl ?_
          refine z_goto (tgt := 39) Q_X11_findWorlds (k := 54) rfl (by decide) ?_
          refine y_fg ?_ (ih (k + 1) (by omega) (by omega))
          exact zsb_c rfl (zsb_c rfl (zsb_c (zie (by first | exact knx0 c46 | exact knx1 c46 (Or.inl c58) | exact knx1 c46 (Or.inr (Decidable.of_not_not c74)) | exact knx1 c46 (Or.inr c74) | exact knx2 c58 c74)) (zsb_c (zie (by omega)) zsb_e)))
        · refine z_aload_n Q_X11_findWorlds (k := 37) rfl rfl ?_
          refine z_getR Q_X11_findWorlds (k := 38) rfl F_X11_13 rfl (n_ hS rfl) (k_602 hS) (r_602_1 hS) ?_
          refine y_iconst Q_X11_findWorlds (k := 39) rfl ?_
          refine z_iload_n Q_X11_findWorlds (k := 40) rfl rfl ?_
          refine y_iadd Q_X11_findWorlds (k := 41) rfl ?_
          refine y_ialdN Q_X11_findWorlds (k := 42) rfl (n_ hS rfl) (k_603 hS) (z := (0 + (k : Int))) (j := (0 + k)) (by omega) (by omega) (by decide) ?_
          refine z_iload_n Q_X11_findWorlds (k := 43) rfl rfl ?_
          refine z_iload_n Q_X11_findWorlds (k := 44) rfl rfl ?_
          refine y_ishr Q_X11_findWorlds (k := 45) rfl ?_
          refine y_iconst Q_X11_findWorlds (k := 46) rfl ?_
          refine y_iand Q_X11_findWorlds (k := 47) rfl ?_
          refine y_icmp_ne 81 Q_X11_findWorlds (k := 48) rfl (by decide) (hw0 _ (by omega)) (zand_r _ _) (fun c74 => ?_) (fun c74 => ?_)
          · refine y_iconst Q_X11_findWorlds (k := 51) rfl ?_
            refine y_istore_n (L' := [some (.ref 602), some (.int (iI ((v : Int)))), some (.int (iI (0))), some (.int (iI ((k : Int))))]) Q_X11_findWorlds (k := 52) rfl (by decide) rfl ?_
            refine y_iinc (L' := [some (.ref 602), some (.int (iI ((v : Int)))), some (.int (iI (0))), some (.int (iI ((k : Int) + 1)))]) Q_X11_findWorlds (k := 53) rfl (by decide) rfl rfl ?_
            refine z_goto (tgt := 39) Q_X11_findWorlds (k := 54) rfl (by decide) ?_
            refine y_fg ?_ (ih (k + 1) (by omega) (by omega))
            exact zsb_c rfl (zsb_c rfl (zsb_c (zie (by first | exact knx0 c46 | exact knx1 c46 (Or.inl c58) | exact knx1 c46 (Or.inr (Decidable.of_not_not c74)) | exact knx1 c46 (Or.inr c74) | exact knx2 c58 c74)) (zsb_c (zie (by omega)) zsb_e)))
          · refine y_iconst Q_X11_findWorlds (k := 49) rfl ?_
            refine z_goto (tgt := 82) Q_X11_findWorlds (k := 50) rfl (by decide) ?_
            refine y_istore_n (L' := [some (.ref 602), some (.int (iI ((v : Int)))), some (.int (iI (1))), some (.int (iI ((k : Int))))]) Q_X11_findWorlds (k := 52) rfl (by decide) rfl ?_
            refine y_iinc (L' := [some (.ref 602), some (.int (iI ((v : Int)))), some (.int (iI (1))), some (.int (iI ((k : Int) + 1)))]) Q_X11_findWorlds (k := 53) rfl (by decide) rfl rfl ?_
            refine z_goto (tgt := 39) Q_X11_findWorlds (k := 54) rfl (by decide) ?_
            refine y_fg ?_ (ih (k + 1) (by omega) (by omega))
            exact zsb_c rfl (zsb_c rfl (zsb_c (zie (by first | exact knx0 c46 | exact knx1 c46 (Or.inl c58) | exact knx1 c46 (Or.inr (Decidable.of_not_not c74)) | exact knx1 c46 (Or.inr c74) | exact knx2 c58 c74)) (zsb_c (zie (by omega)) zsb_e)))
set_option maxHeartbeats 4000000 in
set_option maxRecDepth 20000 in
theorem lp_fw91 {S : zS} {J : zJ} {Q : zQ} (d : Nat) (hS : zSh S) {V1 : Nat → Nat → Int} {v C : Nat} (hv : v < 1024) (hC : V1 603 593 = (C : Int)) (hC8 : C ≤ 8) (hnz : ∀ j, j < 10 → V1 614 j = 0) (hcz : ∀ j, zr (V1 604 j) ∧ zr (V1 605 j) ∧ zr (V1 614 j)) {ev : Nat → Bool} (hev : ∀ c, c < C → 420 * (3 + c) ≤ (V1 611 c).toNat ∧ 0 ≤ V1 611 c ∧ V1 611 c ≤ 4620 ∧ ∀ s, ∃ r, isoN (V1 604) (V1 605) (fun _ => 0) (v : Int) ((V1 611 c).toNat - 420 * (3 + c)) (420 * (3 + c)) s 0 = some r ∧ zr (r.1 0) ∧ (r.1 0 = 1 ↔ ev c = true)) {b : Bool} (hK : ∀ V, (∀ a j, a ≠ 615 → V a j = V1 a j) → Z M_X11_findWorlds (d + 1) 0 0 132 [some (.ref 602), some (.int (iI ((v : Int)))), some (.int (iI (if cdF ev b C = true then 1 else 0))), none] [] S (zi V) J Q) : ∀ (f : Nat) (c : Nat) (V : Nat → Nat → Int), (∀ a j, a ≠ 615 → V a j = V1 a j) → c ≤ C → C - c < f → Z M_X11_findWorlds (d + 1) 0 0 91 [some (.ref 602), some (.int (iI ((v : Int)))), some (.int (iI (if cdF ev b c = true then 1 else 0))), some (.int (iI ((c : Int))))] [] S (zi V) J (Q) := by
  intro f
  induction f with
  | zero => intro c V hE hc hf; omega
  | succ f ih =>
    intro c V hE hc hf
    refine z_iload_n Q_X11_findWorlds (k := 57) rfl rfl ?_
    refine z_aload_n Q_X11_findWorlds (k := 58) rfl rfl ?_
    refine z_getR Q_X11_findWorlds (k := 59) rfl F_X11_13 rfl (n_ hS rfl) (k_602 hS) (r_602_1 hS) ?_
    refine y_sipush Q_X11_findWorlds (k := 60) rfl (by decide) ?_
    refine y_ialdN Q_X11_findWorlds (k := 61) rfl (n_ hS rfl) (k_603 hS) (z := 593) (j := 593) rfl (by decide) (by decide) ?_
    refine y_as (y := (C : Int)) (by rw [hE 603 593 (by decide)]; exact hC) ?_
    refine y_icmp_ge 132 Q_X11_findWorlds (k := 62) rfl (by decide) ⟨by omega, by omega⟩ ⟨by omega, by omega⟩ (fun c100 => ?_) (fun c100 => ?_)
    · refine y_fg ?_ (hK V hE)
      first | rw [show c = C by omega] | rw [cdx2 hc c104]
      simp [zsb]
    · refine z_iload_n Q_X11_findWorlds (k := 63) rfl rfl ?_
      refine y_if_eq 132 Q_X11_findWorlds (k := 64) rfl (by decide) (bz_r _) (fun c104 => ?_) (fun c104 => ?_)
      · refine y_fg ?_ (hK V hE)
        first | rw [show c = C by omega] | rw [cdx2 hc c104]
        simp [zsb]
      · refine z_aload_n Q_X11_findWorlds (k := 65) rfl rfl ?_
        refine y_sipush Q_X11_findWorlds (k := 66) rfl (by decide) ?_
        refine y_iconst Q_X11_findWorlds (k := 67) rfl ?_
        refine z_iload_n Q_X11_findWorlds (k := 68) rfl rfl ?_
        refine y_iadd Q_X11_findWorlds (k := 69) rfl ?_
        refine y_imul Q_X11_findWorlds (k := 70) rfl ?_
        refine z_aload_n Q_X11_findWorlds (k := 71) rfl rfl ?_
        refine z_getR Q_X11_findWorlds (k := 72) rfl F_X11_38 rfl (n_ hS rfl) (k_602 hS) (r_602_9 hS) ?_
        refine z_iload_n Q_X11_findWorlds (k := 73) rfl rfl ?_
        refine y_ialdN Q_X11_findWorlds (k := 74) rfl (n_ hS rfl) (k_611 hS) (z := (c : Int)) (j := c) (by omega) (by omega) (by decide) ?_
        refine z_iload_n Q_X11_findWorlds (k := 75) rfl rfl ?_
        obtain ⟨he1, he2, he3, he4⟩ := hev c (by omega)
        obtain ⟨r, hr1, hr2, hr3⟩ := he4 (V 615)
        rw [isoN_nm (nm' := V 614) (fun j hj => by rw [hE 614 j (by decide), hnz j hj]), show V1 604 = V 604 from funext fun j => (hE 604 j (by decide)).symm, show V1 605 = V 605 from funext fun j => (hE 605 j (by decide)).symm] at hr1
        have hz4 : ∀ j, zr (V 604 j) ∧ zr (V 605 j) ∧ zr (V 614 j) := fun j => by rw [hE 604 j (by decide), hE 605 j (by decide), hE 614 j (by decide)]; exact hcz j
        have hf := hE 611 c (by decide)
        rw [show V 611 c = ((420 * (3 + c) + ((V1 611 c).toNat - 420 * (3 + c)) : Nat) : Int) by omega, show (420 * (3 + (c : Int))) = ((420 * (3 + c) : Nat) : Int) by omega]
        refine v_callV3 Q_X11_findWorlds (k := 76) rfl rfl K_X11_isSo V_X11_isSo L_X11_203 (n_ hS rfl) (k_602 hS) (by decide) (Nat.le_of_ble_eq_true rfl) rfl (Nat.zero_le _) (Nat.zero_le _) (c_isSo d hS (by omega) hv hz4 hr2 hr1) (fun v122 V122 p122 => ?_)
        obtain ⟨rfl, -, hE122⟩ := p122
        refine y_istore_n (L' := [some (.ref 602), some (.int (iI ((v : Int)))), some (.int (iI (if r.1 0 = 1 then 1 else 0))), some (.int (iI ((c : Int))))]) Q_X11_findWorlds (k := 77) rfl (by decide) rfl ?_
        refine y_iinc (L' := [some (.ref 602), some (.int (iI ((v : Int)))), some (.int (iI (if r.1 0 = 1 then 1 else 0))), some (.int (iI ((c : Int) + 1)))]) Q_X11_findWorlds (k := 78) rfl (by decide) rfl rfl ?_
        refine z_goto (tgt := 91) Q_X11_findWorlds (k := 79) rfl (by decide) ?_
        refine y_fg ?_ (ih (c + 1) V122 (fun a j h => by rw [hE122 a j h]; exact hE a j h) (by omega) (by omega))
        rw [cdx1 c104 hr3]
        simp [zsb]
