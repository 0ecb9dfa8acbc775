/-! the class: a find -/
def xFi (S : zS) (o : Nat) : Prop := o + 3 < S.2.2 ∧ (S.2.1 o).1 = 1 ∧ S.1 o 10 = some (o + 1) ∧ S.1 o 11 = some (o + 2) ∧ S.1 o 12 = some (o + 3) ∧ S.2.1 (o + 1) = (100, 6) ∧ S.2.1 (o + 2) = (100, 6) ∧ S.2.1 (o + 3) = (100, 6)
theorem xFi_find {S : zS} (hS : zSh S) {j : Nat} (hj : j < 8) : xFi S (54 + 4 * j) := ⟨n_holdTime hS hj, k_find hS hj, r_holdPerson hS hj, r_holdHow hS hj, r_holdTime hS hj, k_holdPerson hS hj, k_holdHow hS hj, k_holdTime hS hj⟩
theorem xFi_probe {S : zS} (hS : zSh S) : xFi S 169 := ⟨n_ hS rfl, k_169 hS, r_169_10 hS, r_169_11 hS, r_169_12 hS, k_170 hS, k_171 hS, k_172 hS⟩
/-- bits, how, time -/
def fb1 (hp hh ht : Nat → Int) (k : Nat) (s : Int × Int × Int) : Int × Int × Int :=
  let s2 : Int × Int × Int := if s.2.1 < hh k ∨ (hh k = s.2.1 ∧ ht k < s.2.2) then (0, hh k, ht k) else s
  if hh k = s2.2.1 ∧ ht k = s2.2.2 then (zor s2.1 (zshl 1 (hp k)), s2.2) else s2
def fbF (hp hh ht : Nat → Int) : Nat → Int × Int × Int
  | 0 => (0, -1, 0)
  | k + 1 => fb1 hp hh ht k (fbF hp hh ht k)
set_option maxHeartbeats 4000000 in
set_option maxRecDepth 20000 in
theorem lp_finderBits {S : zS} {V : Nat → Nat → Int} {J : zJ} (d : Nat) {o : Nat} (hF : xFi S o) (hV : ∀ a j, zr (V a j)) {n : Nat} (hn : V o 9 = (n : Int)) (hn2 : n ≤ 6) : ∀ (f : Nat) (k : Nat) (b h t : Int), zr h → zr t → k ≤ n → fbF (V (o + 1)) (V (o + 2)) (V (o + 3)) k = (b, h, t) → n - k < f → Z M_X1_finderBits d 0 0 9 [some (.ref (o)), some (.int (iI (b))), some (.int (iI (h))), some (.int (iI (t))), some (.int (iI ((k : Int))))] [] S (zi V) J (zRt (some (.int (iI (fbF (V (o + 1)) (V (o + 2)) (V (o + 3)) n).1))) S (zi V) J) := by
  intro f
  induction f with
  | zero => intro k b h t hh ht hk hs hf; omega
  | succ f ih =>
    intro k b h t hh ht hk hs hf
    refine z_iload Q_X1_finderBits (k := 8) rfl rfl ?_
    refine z_aload_n Q_X1_finderBits (k := 9) rfl rfl ?_
    refine y_getI Q_X1_finderBits (k := 10) rfl F_X1_49 rfl (by have := hF.1; omega) hF.2.1 ?_
    refine y_as (y := (n : Int)) (hn) ?_
    refine y_icmp_ge 116 Q_X1_finderBits (k := 11) rfl (by decide) ⟨by omega, by omega⟩ ⟨by omega, by omega⟩ (fun c15 => ?_) (fun c15 => ?_)
    · refine z_iload_n Q_X1_finderBits (k := 68) rfl rfl ?_
      exact y_iret Q_X1_finderBits (k := 69) rfl rfl (by rw [show k = n by omega] at hs; rw [hs]; exact zRt_i _ _ _ _)
    · refine z_iload Q_X1_finderBits (k := 12) rfl rfl ?_
      refine y_bipush Q_X1_finderBits (k := 13) rfl (by decide) ?_
      refine y_icmp_ge 116 Q_X1_finderBits (k := 14) rfl (by decide) ⟨by omega, by omega⟩ ⟨by decide, by decide⟩ (fun c22 => ?_) (fun c22 => ?_)
      · refine z_iload_n Q_X1_finderBits (k := 68) rfl rfl ?_
        exact y_iret Q_X1_finderBits (k := 69) rfl rfl (by rw [show k = n by omega] at hs; rw [hs]; exact zRt_i _ _ _ _)
      · refine z_aload_n Q_X1_finderBits (k := 15) rfl rfl ?_
        refine z_getR Q_X1_finderBits (k := 16) rfl F_X1_22 rfl (by have := hF.1; omega) hF.2.1 hF.2.2.2.1 ?_
        refine z_iload Q_X1_finderBits (k := 17) rfl rfl ?_
        refine y_ialdN Q_X1_finderBits (k := 18) rfl (by have := hF.1; omega) hF.2.2.2.2.2.2.1 (z := (k : Int)) (j := k) (by omega) (by omega) (by decide) ?_
        refine z_iload_n Q_X1_finderBits (k := 19) rfl rfl ?_
        refine y_icmp_gt 58 Q_X1_finderBits (k := 20) rfl (by decide) (hV _ _) hh (fun c33 => ?_) (fun c33 => ?_)
        · refine z_aload_n Q_X1_finderBits (k := 33) rfl rfl ?_
          refine z_getR Q_X1_finderBits (k := 34) rfl F_X1_22 rfl (by have := hF.1; omega) hF.2.1 hF.2.2.2.1 ?_
          refine z_iload Q_X1_finderBits (k := 35) rfl rfl ?_
          refine y_ialdN Q_X1_finderBits (k := 36) rfl (by have := hF.1; omega) hF.2.2.2.2.2.2.1 (z := (k : Int)) (j := k) (by omega) (by omega) (by decide) ?_
          refine y_istore_n (L' := [some (.ref (o)), some (.int (iI (b))), some (.int (iI (V (o + 2) (k)))), some (.int (iI (t))), some (.int (iI ((k : Int))))]) Q_X1_finderBits (k := 37) rfl (by decide) rfl ?_
          refine z_aload_n Q_X1_finderBits (k := 38) rfl rfl ?_
          refine z_getR Q_X1_finderBits (k := 39) rfl F_X1_25 rfl (by have := hF.1; omega) hF.2.1 hF.2.2.2.2.1 ?_
          refine z_iload Q_X1_finderBits (k := 40) rfl rfl ?_
          refine y_ialdN Q_X1_finderBits (k := 41) rfl (by have := hF.1; omega) hF.2.2.2.2.2.2.2 (z := (k : Int)) (j := k) (by omega) (by omega) (by decide) ?_
          refine y_istore_n (L' := [some (.ref (o)), some (.int (iI (b))), some (.int (iI (V (o + 2) (k)))), some (.int (iI (V (o + 3) (k)))), some (.int (iI ((k : Int))))]) Q_X1_finderBits (k := 42) rfl (by decide) rfl ?_
          refine y_iconst Q_X1_finderBits (k := 43) rfl ?_
          refine y_istore_n (L' := [some (.ref (o)), some (.int (iI (0))), some (.int (iI (V (o + 2) (k)))), some (.int (iI (V (o + 3) (k)))), some (.int (iI ((k : Int))))]) Q_X1_finderBits (k := 44) rfl (by decide) rfl ?_
          refine z_aload_n Q_X1_finderBits (k := 45) rfl rfl ?_
          refine z_getR Q_X1_finderBits (k := 46) rfl F_X1_22 rfl (by have := hF.1; omega) hF.2.1 hF.2.2.2.1 ?_
          refine z_iload Q_X1_finderBits (k := 47) rfl rfl ?_
          refine y_ialdN Q_X1_finderBits (k := 48) rfl (by have := hF.1; omega) hF.2.2.2.2.2.2.1 (z := (k : Int)) (j := k) (by omega) (by omega) (by decide) ?_
          refine z_iload_n Q_X1_finderBits (k := 49) rfl rfl ?_
          refine y_icmp_ne 110 Q_X1_finderBits (k := 50) rfl (by decide) (hV _ _) (hV _ _) (fun c84 => ?_) (fun c84 => ?_)
          · refine y_iinc (L' := [some (.ref (o)), some (.int (iI (0))), some (.int (iI (V (o + 2) (k)))), some (.int (iI (V (o + 3) (k)))), some (.int (iI ((k : Int) + 1)))]) Q_X1_finderBits (k := 66) rfl (by decide) rfl rfl ?_
            refine z_goto (tgt := 9) Q_X1_finderBits (k := 67) rfl (by decide) ?_
            refine y_fg ?_ (ih (k + 1) (0) (V (o + 2) (k)) (V (o + 3) (k)) (by first | exact hh | exact hV _ _) (by first | exact ht | exact hV _ _) (by omega) ?_ (by omega))
            exact zsb_c rfl (zsb_c rfl (zsb_c rfl (zsb_c rfl (zsb_c (zie (by omega)) zsb_e))))
            rw [fbF, hs]
            simp only [fb1]
            (try simp only [*, not_true_eq_false, not_false_eq_true, and_true, true_and, or_true, true_or, if_true, and_self, lt_irrefl, Int.lt_irrefl, false_or, or_false, and_false, false_and, if_false])
            all_goals (repeat' split)
            all_goals first | rfl | (exfalso; omega) | omega
          · refine z_aload_n Q_X1_finderBits (k := 51) rfl rfl ?_
            refine z_getR Q_X1_finderBits (k := 52) rfl F_X1_25 rfl (by have := hF.1; omega) hF.2.1 hF.2.2.2.2.1 ?_
            refine z_iload Q_X1_finderBits (k := 53) rfl rfl ?_
            refine y_ialdN Q_X1_finderBits (k := 54) rfl (by have := hF.1; omega) hF.2.2.2.2.2.2.2 (z := (k : Int)) (j := k) (by omega) (by omega) (by decide) ?_
            refine z_iload_n Q_X1_finderBits (k := 55) rfl rfl ?_
            refine y_icmp_ne 110 Q_X1_finderBits (k := 56) rfl (by decide) (hV _ _) (hV _ _) (fun c95 => ?_) (fun c95 => ?_)
            · refine y_iinc (L' := [some (.ref (o)), some (.int (iI (0))), some (.int (iI (V (o + 2) (k)))), some (.int (iI (V (o + 3) (k)))), some (.int (iI ((k : Int) + 1)))]) Q_X1_finderBits (k := 66) rfl (by decide) rfl rfl ?_
              refine z_goto (tgt := 9) Q_X1_finderBits (k := 67) rfl (by decide) ?_
              refine y_fg ?_ (ih (k + 1) (0) (V (o + 2) (k)) (V (o + 3) (k)) (by first | exact hh | exact hV _ _) (by first | exact ht | exact hV _ _) (by omega) ?_ (by omega))
              exact zsb_c rfl (zsb_c rfl (zsb_c rfl (zsb_c rfl (zsb_c (zie (by omega)) zsb_e))))
              rw [fbF, hs]
              simp only [fb1]
              (try simp only [*, not_true_eq_false, not_false_eq_true, and_true, true_and, or_true, true_or, if_true, and_self, lt_irrefl, Int.lt_irrefl, false_or, or_false, and_false, false_and, if_false])
              all_goals (repeat' split)
              all_goals first | rfl | (exfalso; omega) | omega
            · refine z_iload_n Q_X1_finderBits (k := 57) rfl rfl ?_
              refine y_iconst Q_X1_finderBits (k := 58) rfl ?_
              refine z_aload_n Q_X1_finderBits (k := 59) rfl rfl ?_
              refine z_getR Q_X1_finderBits (k := 60) rfl F_X1_18 rfl (by have := hF.1; omega) hF.2.1 hF.2.2.1 ?_
              refine z_iload Q_X1_finderBits (k := 61) rfl rfl ?_
              refine y_ialdN Q_X1_finderBits (k := 62) rfl (by have := hF.1; omega) hF.2.2.2.2.2.1 (z := (k : Int)) (j := k) (by omega) (by omega) (by decide) ?_
              refine y_ishl Q_X1_finderBits (k := 63) rfl ?_
              refine y_ior Q_X1_finderBits (k := 64) rfl ?_
              refine y_istore_n (L' := [some (.ref (o)), some (.int (iI (zor (0) (zshl (1) (V (o + 1) (k)))))), some (.int (iI (V (o + 2) (k)))), some (.int (iI (V (o + 3) (k)))), some (.int (iI ((k : Int))))]) Q_X1_finderBits (k := 65) rfl (by decide) rfl ?_
              refine y_iinc (L' := [some (.ref (o)), some (.int (iI (zor (0) (zshl (1) (V (o + 1) (k)))))), some (.int (iI (V (o + 2) (k)))), some (.int (iI (V (o + 3) (k)))), some (.int (iI ((k : Int) + 1)))]) Q_X1_finderBits (k := 66) rfl (by decide) rfl rfl ?_
              refine z_goto (tgt := 9) Q_X1_finderBits (k := 67) rfl (by decide) ?_
              refine y_fg ?_ (ih (k + 1) (zor (0) (zshl (1) (V (o + 1) (k)))) (V (o + 2) (k)) (V (o + 3) (k)) (by first | exact hh | exact hV _ _) (by first | exact ht | exact hV _ _) (by omega) ?_ (by omega))
              exact zsb_c rfl (zsb_c rfl (zsb_c rfl (zsb_c rfl (zsb_c (zie (by omega)) zsb_e))))
              rw [fbF, hs]
              simp only [fb1]
              (try simp only [*, not_true_eq_false, not_false_eq_true, and_true, true_and, or_true, true_or, if_true, and_self, lt_irrefl, Int.lt_irrefl, false_or, or_false, and_false, false_and, if_false])
              all_goals (repeat' split)
              all_goals first | rfl | (exfalso; omega) | omega
        · refine z_aload_n Q_X1_finderBits (k := 21) rfl rfl ?_
          refine z_getR Q_X1_finderBits (k := 22) rfl F_X1_22 rfl (by have := hF.1; omega) hF.2.1 hF.2.2.2.1 ?_
          refine z_iload Q_X1_finderBits (k := 23) rfl rfl ?_
          refine y_ialdN Q_X1_finderBits (k := 24) rfl (by have := hF.1; omega) hF.2.2.2.2.2.2.1 (z := (k : Int)) (j := k) (by omega) (by omega) (by decide) ?_
          refine z_iload_n Q_X1_finderBits (k := 25) rfl rfl ?_
          refine y_icmp_ne 76 Q_X1_finderBits (k := 26) rfl (by decide) (hV _ _) hh (fun c44 => ?_) (fun c44 => ?_)
          · refine z_aload_n Q_X1_finderBits (k := 45) rfl rfl ?_
            refine z_getR Q_X1_finderBits (k := 46) rfl F_X1_22 rfl (by have := hF.1; omega) hF.2.1 hF.2.2.2.1 ?_
            refine z_iload Q_X1_finderBits (k := 47) rfl rfl ?_
            refine y_ialdN Q_X1_finderBits (k := 48) rfl (by have := hF.1; omega) hF.2.2.2.2.2.2.1 (z := (k : Int)) (j := k) (by omega) (by omega) (by decide) ?_
            refine z_iload_n Q_X1_finderBits (k := 49) rfl rfl ?_
            refine y_icmp_ne 110 Q_X1_finderBits (k := 50) rfl (by decide) (hV _ _) hh (fun c84 => ?_) (fun c84 => ?_)
            · refine y_iinc (L' := [some (.ref (o)), some (.int (iI (b))), some (.int (iI (h))), some (.int (iI (t))), some (.int (iI ((k : Int) + 1)))]) Q_X1_finderBits (k := 66) rfl (by decide) rfl rfl ?_
              refine z_goto (tgt := 9) Q_X1_finderBits (k := 67) rfl (by decide) ?_
              refine y_fg ?_ (ih (k + 1) (b) (h) (t) (by first | exact hh | exact hV _ _) (by first | exact ht | exact hV _ _) (by omega) ?_ (by omega))
              exact zsb_c rfl (zsb_c rfl (zsb_c rfl (zsb_c rfl (zsb_c (zie (by omega)) zsb_e))))
              rw [fbF, hs]
              simp only [fb1]
              (try simp only [*, not_true_eq_false, not_false_eq_true, and_true, true_and, or_true, true_or, if_true, and_self, lt_irrefl, Int.lt_irrefl, false_or, or_false, and_false, false_and, if_false])
              all_goals (repeat' split)
              all_goals first | rfl | (exfalso; omega) | omega
            · refine z_aload_n Q_X1_finderBits (k := 51) rfl rfl ?_
              refine z_getR Q_X1_finderBits (k := 52) rfl F_X1_25 rfl (by have := hF.1; omega) hF.2.1 hF.2.2.2.2.1 ?_
              refine z_iload Q_X1_finderBits (k := 53) rfl rfl ?_
              refine y_ialdN Q_X1_finderBits (k := 54) rfl (by have := hF.1; omega) hF.2.2.2.2.2.2.2 (z := (k : Int)) (j := k) (by omega) (by omega) (by decide) ?_
              refine z_iload_n Q_X1_finderBits (k := 55) rfl rfl ?_
              refine y_icmp_ne 110 Q_X1_finderBits (k := 56) rfl (by decide) (hV _ _) ht (fun c95 => ?_) (fun c95 => ?_)
              · refine y_iinc (L' := [some (.ref (o)), some (.int (iI (b))), some (.int (iI (h))), some (.int (iI (t))), some (.int (iI ((k : Int) + 1)))]) Q_X1_finderBits (k := 66) rfl (by decide) rfl rfl ?_
                refine z_goto (tgt := 9) Q_X1_finderBits (k := 67) rfl (by decide) ?_
                refine y_fg ?_ (ih (k + 1) (b) (h) (t) (by first | exact hh | exact hV _ _) (by first | exact ht | exact hV _ _) (by omega) ?_ (by omega))
                exact zsb_c rfl (zsb_c rfl (zsb_c rfl (zsb_c rfl (zsb_c (zie (by omega)) zsb_e))))
                rw [fbF, hs]
                simp only [fb1]
                (try simp only [*, not_true_eq_false, not_false_eq_true, and_true, true_and, or_true, true_or, if_true, and_self, lt_irrefl, Int.lt_irrefl, false_or, or_false, and_false, false_and, if_false])
                all_goals (repeat' split)
                all_goals first | rfl | (exfalso; omega) | omega
              · refine z_iload_n Q_X1_finderBits (k := 57) rfl rfl ?_
                refine y_iconst Q_X1_finderBits (k := 58) rfl ?_
                refine z_aload_n Q_X1_finderBits (k := 59) rfl rfl ?_
                refine z_getR Q_X1_finderBits (k := 60) rfl F_X1_18 rfl (by have := hF.1; omega) hF.2.1 hF.2.2.1 ?_
                refine z_iload Q_X1_finderBits (k := 61) rfl rfl ?_
                refine y_ialdN Q_X1_finderBits (k := 62) rfl (by have := hF.1; omega) hF.2.2.2.2.2.1 (z := (k : Int)) (j := k) (by omega) (by omega) (by decide) ?_
                refine y_ishl Q_X1_finderBits (k := 63) rfl ?_
                refine y_ior Q_X1_finderBits (k := 64) rfl ?_
                refine y_istore_n (L' := [some (.ref (o)), some (.int (iI (zor (b) (zshl (1) (V (o + 1) (k)))))), some (.int (iI (h))), some (.int (iI (t))), some (.int (iI ((k : Int))))]) Q_X1_finderBits (k := 65) rfl (by decide) rfl ?_
                refine y_iinc (L' := [some (.ref (o)), some (.int (iI (zor (b) (zshl (1) (V (o + 1) (k)))))), some (.int (iI (h))), some (.int (iI (t))), some (.int (iI ((k : Int) + 1)))]) Q_X1_finderBits (k := 66) rfl (by decide) rfl rfl ?_
                refine z_goto (tgt := 9) Q_X1_finderBits (k := 67) rfl (by decide) ?_
                refine y_fg ?_ (ih (k + 1) (zor (b) (zshl (1) (V (o + 1) (k)))) (h) (t) (by first | exact hh | exact hV _ _) (by first | exact ht | exact hV _ _) (by omega) ?_ (by omega))
                exact zsb_c rfl (zsb_c rfl (zsb_c rfl (zsb_c rfl (zsb_c (zie (by omega)) zsb_e))))
                rw [fbF, hs]
                simp only [fb1]
                (try simp only [*, not_true_eq_false, not_false_eq_true, and_true, true_and, or_true, true_or, if_true, and_self, lt_irrefl, Int.lt_irrefl, false_or, or_false, and_false, false_and, if_false])
                all_goals (repeat' split)
                all_goals first | rfl | (exfalso; omega) | omega
          · refine z_aload_n Q_X1_finderBits (k := 27) rfl rfl ?_
            refine z_getR Q_X1_finderBits (k := 28) rfl F_X1_25 rfl (by have := hF.1; omega) hF.2.1 hF.2.2.2.2.1 ?_
            refine z_iload Q_X1_finderBits (k := 29) rfl rfl ?_
            refine y_ialdN Q_X1_finderBits (k := 30) rfl (by have := hF.1; omega) hF.2.2.2.2.2.2.2 (z := (k : Int)) (j := k) (by omega) (by omega) (by decide) ?_
            refine z_iload_n Q_X1_finderBits (k := 31) rfl rfl ?_
            refine y_icmp_ge 76 Q_X1_finderBits (k := 32) rfl (by decide) (hV _ _) ht (fun c55 => ?_) (fun c55 => ?_)
            · refine z_aload_n Q_X1_finderBits (k := 45) rfl rfl ?_
              refine z_getR Q_X1_finderBits (k := 46) rfl F_X1_22 rfl (by have := hF.1; omega) hF.2.1 hF.2.2.2.1 ?_
              refine z_iload Q_X1_finderBits (k := 47) rfl rfl ?_
              refine y_ialdN Q_X1_finderBits (k := 48) rfl (by have := hF.1; omega) hF.2.2.2.2.2.2.1 (z := (k : Int)) (j := k) (by omega) (by omega) (by decide) ?_
              refine z_iload_n Q_X1_finderBits (k := 49) rfl rfl ?_
              refine y_icmp_ne 110 Q_X1_finderBits (k := 50) rfl (by decide) (hV _ _) hh (fun c84 => ?_) (fun c84 => ?_)
              · refine y_iinc (L' := [some (.ref (o)), some (.int (iI (b))), some (.int (iI (h))), some (.int (iI (t))), some (.int (iI ((k : Int) + 1)))]) Q_X1_finderBits (k := 66) rfl (by decide) rfl rfl ?_
                refine z_goto (tgt := 9) Q_X1_finderBits (k := 67) rfl (by decide) ?_
                refine y_fg ?_ (ih (k + 1) (b) (h) (t) (by first | exact hh | exact hV _ _) (by first | exact ht | exact hV _ _) (by omega) ?_ (by omega))
                exact zsb_c rfl (zsb_c rfl (zsb_c rfl (zsb_c rfl (zsb_c (zie (by omega)) zsb_e))))
                rw [fbF, hs]
                simp only [fb1]
                (try simp only [*, not_true_eq_false, not_false_eq_true, and_true, true_and, or_true, true_or, if_true, and_self, lt_irrefl, Int.lt_irrefl, false_or, or_false, and_false, false_and, if_false])
                all_goals (repeat' split)
                all_goals first | rfl | (exfalso; omega) | omega
              · refine z_aload_n Q_X1_finderBits (k := 51) rfl rfl ?_
                refine z_getR Q_X1_finderBits (k := 52) rfl F_X1_25 rfl (by have := hF.1; omega) hF.2.1 hF.2.2.2.2.1 ?_
                refine z_iload Q_X1_finderBits (k := 53) rfl rfl ?_
                refine y_ialdN Q_X1_finderBits (k := 54) rfl (by have := hF.1; omega) hF.2.2.2.2.2.2.2 (z := (k : Int)) (j := k) (by omega) (by omega) (by decide) ?_
                refine z_iload_n Q_X1_finderBits (k := 55) rfl rfl ?_
                refine y_icmp_ne 110 Q_X1_finderBits (k := 56) rfl (by decide) (hV _ _) ht (fun c95 => ?_) (fun c95 => ?_)
                · refine y_iinc (L' := [some (.ref (o)), some (.int (iI (b))), some (.int (iI (h))), some (.int (iI (t))), some (.int (iI ((k : Int) + 1)))]) Q_X1_finderBits (k := 66) rfl (by decide) rfl rfl ?_
                  refine z_goto (tgt := 9) Q_X1_finderBits (k := 67) rfl (by decide) ?_
                  refine y_fg ?_ (ih (k + 1) (b) (h) (t) (by first | exact hh | exact hV _ _) (by first | exact ht | exact hV _ _) (by omega) ?_ (by omega))
                  exact zsb_c rfl (zsb_c rfl (zsb_c rfl (zsb_c rfl (zsb_c (zie (by omega)) zsb_e))))
                  rw [fbF, hs]
                  simp only [fb1]
                  (try simp only [*, not_true_eq_false, not_false_eq_true, and_true, true_and, or_true, true_or, if_true, and_self, lt_irrefl, Int.lt_irrefl, false_or, or_false, and_false, false_and, if_false])
                  all_goals (repeat' split)
                  all_goals first | rfl | (exfalso; omega) | omega
                · refine z_iload_n Q_X1_finderBits (k := 57) rfl rfl ?_
                  refine y_iconst Q_X1_finderBits (k := 58) rfl ?_
                  refine z_aload_n Q_X1_finderBits (k := 59) rfl rfl ?_
                  refine z_getR Q_X1_finderBits (k := 60) rfl F_X1_18 rfl (by have := hF.1; omega) hF.2.1 hF.2.2.1 ?_
                  refine z_iload Q_X1_finderBits (k := 61) rfl rfl ?_
                  refine y_ialdN Q_X1_finderBits (k := 62) rfl (by have := hF.1; omega) hF.2.2.2.2.2.1 (z := (k : Int)) (j := k) (by omega) (by omega) (by decide) ?_
                  refine y_ishl Q_X1_finderBits (k := 63) rfl ?_
                  refine y_ior Q_X1_finderBits (k := 64) rfl ?_
                  refine y_istore_n (L' := [some (.ref (o)), some (.int (iI (zor (b) (zshl (1) (V (o + 1) (k)))))), some (.int (iI (h))), some (.int (iI (t))), some (.int (iI ((k : Int))))]) Q_X1_finderBits (k := 65) rfl (by decide) rfl ?_
                  refine y_iinc (L' := [some (.ref (o)), some (.int (iI (zor (b) (zshl (1) (V (o + 1) (k)))))), some (.int (iI (h))), some (.int (iI (t))), some (.int (iI ((k : Int) + 1)))]) Q_X1_finderBits (k := 66) rfl (by decide) rfl rfl ?_
                  refine z_goto (tgt := 9) Q_X1_finderBits (k := 67) rfl (by decide) ?_
                  refine y_fg ?_ (ih (k + 1) (zor (b) (zshl (1) (V (o + 1) (k)))) (h) (t) (by first | exact hh | exact hV _ _) (by first | exact ht | exact hV _ _) (by omega) ?_ (by omega))
                  exact zsb_c rfl (zsb_c rfl (zsb_c rfl (zsb_c rfl (zsb_c (zie (by omega)) zsb_e))))
                  rw [fbF, hs]
                  simp only [fb1]
                  (try simp only [*, not_true_eq_false, not_false_eq_true, and_true, true_and, or_true, true_or, if_true, and_self, lt_irrefl, Int.lt_irrefl, false_or, or_false, and_false, false_and, if_false])
                  all_goals (repeat' split)
                  all_goals first | rfl | (exfalso; omega) | omega
            · refine z_aload_n Q_X1_finderBits (k := 33) rfl rfl ?_
              refine z_getR Q_X1_finderBits (k := 34) rfl F_X1_22 rfl (by have := hF.1; omega) hF.2.1 hF.2.2.2.1 ?_
              refine z_iload Q_X1_finderBits (k := 35) rfl rfl ?_
              refine y_ialdN Q_X1_finderBits (k := 36) rfl (by have := hF.1; omega) hF.2.2.2.2.2.2.1 (z := (k : Int)) (j := k) (by omega) (by omega) (by decide) ?_
              refine y_istore_n (L' := [some (.ref (o)), some (.int (iI (b))), some (.int (iI (V (o + 2) (k)))), some (.int (iI (t))), some (.int (iI ((k : Int))))]) Q_X1_finderBits (k := 37) rfl (by decide) rfl ?_
              refine z_aload_n Q_X1_finderBits (k := 38) rfl rfl ?_
              refine z_getR Q_X1_finderBits (k := 39) rfl F_X1_25 rfl (by have := hF.1; omega) hF.2.1 hF.2.2.2.2.1 ?_
              refine z_iload Q_X1_finderBits (k := 40) rfl rfl ?_
              refine y_ialdN Q_X1_finderBits (k := 41) rfl (by have := hF.1; omega) hF.2.2.2.2.2.2.2 (z := (k : Int)) (j := k) (by omega) (by omega) (by decide) ?_
              refine y_istore_n (L' := [some (.ref (o)), some (.int (iI (b))), some (.int (iI (V (o + 2) (k)))), some (.int (iI (V (o + 3) (k)))), some (.int (iI ((k : Int))))]) Q_X1_finderBits (k := 42) rfl (by decide) rfl ?_
              refine y_iconst Q_X1_finderBits (k := 43) rfl ?_
              refine y_istore_n (L' := [some (.ref (o)), some (.int (iI (0))), some (.int (iI (V (o + 2) (k)))), some (.int (iI (V (o + 3) (k)))), some (.int (iI ((k : Int))))]) Q_X1_finderBits (k := 44) rfl (by decide) rfl ?_
              refine z_aload_n Q_X1_finderBits (k := 45) rfl rfl ?_
              refine z_getR Q_X1_finderBits (k := 46) rfl F_X1_22 rfl (by have := hF.1; omega) hF.2.1 hF.2.2.2.1 ?_
              refine z_iload Q_X1_finderBits (k := 47) rfl rfl ?_
              refine y_ialdN Q_X1_finderBits (k := 48) rfl (by have := hF.1; omega) hF.2.2.2.2.2.2.1 (z := (k : Int)) (j := k) (by omega) (by omega) (by decide) ?_
              refine z_iload_n Q_X1_finderBits (k := 49) rfl rfl ?_
              refine y_icmp_ne 110 Q_X1_finderBits (k := 50) rfl (by decide) (hV _ _) (hV _ _) (fun c84 => ?_) (fun c84 => ?_)
              · refine y_iinc (L' := [some (.ref (o)), some (.int (iI (0))), some (.int (iI (V (o + 2) (k)))), some (.int (iI (V (o + 3) (k)))), some (.int (iI ((k : Int) + 1)))]) Q_X1_finderBits (k := 66) rfl (by decide) rfl rfl ?_
                refine z_goto (tgt := 9) Q_X1_finderBits (k := 67) rfl (by decide) ?_
                refine y_fg ?_ (ih (k + 1) (0) (V (o + 2) (k)) (V (o + 3) (k)) (by first | exact hh | exact hV _ _) (by first | exact ht | exact hV _ _) (by omega) ?_ (by omega))
                exact zsb_c rfl (zsb_c rfl (zsb_c rfl (zsb_c rfl (zsb_c (zie (by omega)) zsb_e))))
                rw [fbF, hs]
                simp only [fb1]
                (try simp only [*, not_true_eq_false, not_false_eq_true, and_true, true_and, or_true, true_or, if_true, and_self, lt_irrefl, Int.lt_irrefl, false_or, or_false, and_false, false_and, if_false])
                all_goals (repeat' split)
                all_goals first | rfl | (exfalso; omega) | omega
              · refine z_aload_n Q_X1_finderBits (k := 51) rfl rfl ?_
                refine z_getR Q_X1_finderBits (k := 52) rfl F_X1_25 rfl (by have := hF.1; omega) hF.2.1 hF.2.2.2.2.1 ?_
                refine z_iload Q_X1_finderBits (k := 53) rfl rfl ?_
                refine y_ialdN Q_X1_finderBits (k := 54) rfl (by have := hF.1; omega) hF.2.2.2.2.2.2.2 (z := (k : Int)) (j := k) (by omega) (by omega) (by decide) ?_
                refine z_iload_n Q_X1_finderBits (k := 55) rfl rfl ?_
                refine y_icmp_ne 110 Q_X1_finderBits (k := 56) rfl (by decide) (hV _ _) (hV _ _) (fun c95 => ?_) (fun c95 => ?_)
                · refine y_iinc (L' := [some (.ref (o)), some (.int (iI (0))), some (.int (iI (V (o + 2) (k)))), some (.int (iI (V (o + 3) (k)))), some (.int (iI ((k : Int) + 1)))]) Q_X1_finderBits (k := 66) rfl (by decide) rfl rfl ?_
                  refine z_goto (tgt := 9) Q_X1_finderBits (k := 67) rfl (by decide) ?_
                  refine y_fg ?_ (ih (k + 1) (0) (V (o + 2) (k)) (V (o + 3) (k)) (by first | exact hh | exact hV _ _) (by first | exact ht | exact hV _ _) (by omega) ?_ (by omega))
                  exact zsb_c rfl (zsb_c rfl (zsb_c rfl (zsb_c rfl (zsb_c (zie (by omega)) zsb_e))))
                  rw [fbF, hs]
                  simp only [fb1]
                  (try simp only [*, not_true_eq_false, not_false_eq_true, and_true, true_and, or_true, true_or, if_true, and_self, lt_irrefl, Int.lt_irrefl, false_or, or_false, and_false, false_and, if_false])
                  all_goals (repeat' split)
                  all_goals first | rfl | (exfalso; omega) | omega
                · refine z_iload_n Q_X1_finderBits (k := 57) rfl rfl ?_
                  refine y_iconst Q_X1_finderBits (k := 58) rfl ?_
                  refine z_aload_n Q_X1_finderBits (k := 59) rfl rfl ?_
                  refine z_getR Q_X1_finderBits (k := 60) rfl F_X1_18 rfl (by have := hF.1; omega) hF.2.1 hF.2.2.1 ?_
                  refine z_iload Q_X1_finderBits (k := 61) rfl rfl ?_
                  refine y_ialdN Q_X1_finderBits (k := 62) rfl (by have := hF.1; omega) hF.2.2.2.2.2.1 (z := (k : Int)) (j := k) (by omega) (by omega) (by decide) ?_
                  refine y_ishl Q_X1_finderBits (k := 63) rfl ?_
                  refine y_ior Q_X1_finderBits (k := 64) rfl ?_
                  refine y_istore_n (L' := [some (.ref (o)), some (.int (iI (zor (0) (zshl (1) (V (o + 1) (k)))))), some (.int (iI (V (o + 2) (k)))), some (.int (iI (V (o + 3) (k)))), some (.int (iI ((k : Int))))]) Q_X1_finderBits (k := 65) rfl (by decide) rfl ?_
                  refine y_iinc (L' := [some (.ref (o)), some (.int (iI (zor (0) (zshl (1) (V (o + 1) (k)))))), some (.int (iI (V (o + 2) (k)))), some (.int (iI (V (o + 3) (k)))), some (.int (iI ((k : Int) + 1)))]) Q_X1_finderBits (k := 66) rfl (by decide) rfl rfl ?_
                  refine z_goto (tgt := 9) Q_X1_finderBits (k := 67) rfl (by decide) ?_
                  refine y_fg ?_ (ih (k + 1) (zor (0) (zshl (1) (V (o + 1) (k)))) (V (o + 2) (k)) (V (o + 3) (k)) (by first | exact hh | exact hV _ _) (by first | exact ht | exact hV _ _) (by omega) ?_ (by omega))
                  exact zsb_c rfl (zsb_c rfl (zsb_c rfl (zsb_c rfl (zsb_c (zie (by omega)) zsb_e))))
                  rw [fbF, hs]
                  simp only [fb1]
                  (try simp only [*, not_true_eq_false, not_false_eq_true, and_true, true_and, or_true, true_or, if_true, and_self, lt_irrefl, Int.lt_irrefl, false_or, or_false, and_false, false_and, if_false])
                  all_goals (repeat' split)
                  all_goals first | rfl | (exfalso; omega) | omega
set_option maxHeartbeats 4000000 in
set_option maxRecDepth 20000 in
theorem c_finderBits {S : zS} {V : Nat → Nat → Int} {J : zJ} (d : Nat) {o : Nat} (hF : xFi S o) (hV : ∀ a j, zr (V a j)) {n : Nat} (hn : V o 9 = (n : Int)) (hn2 : n ≤ 6) : Z M_X1_finderBits d 0 0 0 [some (.ref (o)), none, none, none, none] [] S (zi V) J (zRt (some (.int (iI (fbF (V (o + 1)) (V (o + 2)) (V (o + 3)) n).1))) S (zi V) J) := by
  refine y_iconst Q_X1_finderBits (k := 0) rfl ?_
  refine y_istore_n (L' := [some (.ref (o)), some (.int (iI (0))), none, none, none]) Q_X1_finderBits (k := 1) rfl (by decide) rfl ?_
  refine y_iconst Q_X1_finderBits (k := 2) rfl ?_
  refine y_istore_n (L' := [some (.ref (o)), some (.int (iI (0))), some (.int (iI ((-1)))), none, none]) Q_X1_finderBits (k := 3) rfl (by decide) rfl ?_
  refine y_iconst Q_X1_finderBits (k := 4) rfl ?_
  refine y_istore_n (L' := [some (.ref (o)), some (.int (iI (0))), some (.int (iI ((-1)))), some (.int (iI (0))), none]) Q_X1_finderBits (k := 5) rfl (by decide) rfl ?_
  refine y_iconst Q_X1_finderBits (k := 6) rfl ?_
  refine y_istore (L' := [some (.ref (o)), some (.int (iI (0))), some (.int (iI ((-1)))), some (.int (iI (0))), some (.int (iI (0)))]) Q_X1_finderBits (k := 7) rfl (by decide) rfl ?_
  exact lp_finderBits d hF hV hn hn2 (n + 1) 0 0 (-1) 0 ⟨by decide, by decide⟩ ⟨by decide, by decide⟩ (by omega) rfl (by omega)
set_option maxHeartbeats 4000000 in
set_option maxRecDepth 20000 in
theorem c_hadBy {S : zS} {V : Nat → Nat → Int} {J : zJ} (d : Nat) {o : Nat} (hF : xFi S o) (hV : ∀ a j, zr (V a j)) {n : Nat} (hn : V o 9 = (n : Int)) (hn2 : n ≤ 6) : Z M_X1_hadBy (d + 1) 0 0 0 [some (.ref (o))] [] S (zi V) J (zRt (some (.int (iI (if V o 8 = -1 then (fbF (V (o + 1)) (V (o + 2)) (V (o + 3)) n).1 else zshl 1 (V o 8))))) S (zi V) J) := by
  refine z_aload_n Q_X1_hadBy (k := 0) rfl rfl ?_
  refine y_getI Q_X1_hadBy (k := 1) rfl F_X1_15 rfl (by have := hF.1; omega) hF.2.1 ?_
  refine y_iconst Q_X1_hadBy (k := 2) rfl ?_
  refine y_icmp_ne 15 Q_X1_hadBy (k := 3) rfl (by decide) (hV _ _) ⟨by decide, by decide⟩ (fun c5 => ?_) (fun c5 => ?_)
  · refine y_iconst Q_X1_hadBy (k := 7) rfl ?_
    refine z_aload_n Q_X1_hadBy (k := 8) rfl rfl ?_
    refine y_getI Q_X1_hadBy (k := 9) rfl F_X1_15 rfl (by have := hF.1; omega) hF.2.1 ?_
    refine y_ishl Q_X1_hadBy (k := 10) rfl ?_
    exact y_iret Q_X1_hadBy (k := 11) rfl rfl (by rw [if_neg c5]; exact zRt_i _ _ _ _)
  · refine z_aload_n Q_X1_hadBy (k := 4) rfl rfl ?_
    refine y_callV0 Q_X1_hadBy (k := 5) rfl rfl K_X1_finderBits V_X1_finderBits L_X1_62 (by have := hF.1; omega) hF.2.1 (by decide) (Nat.le_of_ble_eq_true rfl) rfl (Nat.zero_le _) (Nat.zero_le _) rfl (c_finderBits d hF hV hn hn2) ?_
    refine z_goto (tgt := 21) Q_X1_hadBy (k := 6) rfl (by decide) ?_
    exact y_iret Q_X1_hadBy (k := 11) rfl rfl (by rw [if_pos (by omega)]; exact zRt_i _ _ _ _)
set_option maxHeartbeats 4000000 in
set_option maxRecDepth 20000 in
theorem c_leftOn {S : zS} {V : Nat → Nat → Int} {J : zJ} (d : Nat) {o : Nat} (hF : xFi S o) (hV : ∀ a j, zr (V a j)) {x : Int} (hx : zr x) (hz : zr (V o 2 - V o 4 * (x - V o 5))) : Z M_X1_leftOn d 0 0 0 [some (.ref (o)), some (.int (iI (x)))] [] S (zi V) J (zRt (some (.int (iI (max 0 (V o 2 - V o 4 * (x - V o 5)))))) S (zi V) J) := by
  refine y_iconst Q_X1_leftOn (k := 0) rfl ?_
  refine z_aload_n Q_X1_leftOn (k := 1) rfl rfl ?_
  refine y_getI Q_X1_leftOn (k := 2) rfl F_X1_34 rfl (by have := hF.1; omega) hF.2.1 ?_
  refine z_aload_n Q_X1_leftOn (k := 3) rfl rfl ?_
  refine y_getI Q_X1_leftOn (k := 4) rfl F_X1_43 rfl (by have := hF.1; omega) hF.2.1 ?_
  refine z_iload_n Q_X1_leftOn (k := 5) rfl rfl ?_
  refine z_aload_n Q_X1_leftOn (k := 6) rfl rfl ?_
  refine y_getI Q_X1_leftOn (k := 7) rfl F_X1_37 rfl (by have := hF.1; omega) hF.2.1 ?_
  refine y_isub Q_X1_leftOn (k := 8) rfl ?_
  refine y_imul Q_X1_leftOn (k := 9) rfl ?_
  refine y_isub Q_X1_leftOn (k := 10) rfl ?_
  refine y_max Q_X1_leftOn (k := 11) rfl L_X1_66 G_max (by decide) ⟨by decide, by decide⟩ ⟨by omega, by omega⟩ ?_
  exact y_iret Q_X1_leftOn (k := 12) rfl rfl (⟨rfl, rfl, rfl, rfl⟩)
set_option maxHeartbeats 4000000 in
set_option maxRecDepth 20000 in
theorem c_addHold {S : zS} {V : Nat → Nat → Int} {J : zJ} (d : Nat) {o : Nat} (hF : xFi S o) (hV : ∀ a j, zr (V a j)) {n : Nat} (hn : V o 9 = (n : Int)) (hn2 : n ≤ 6) {p h t : Int} : Z M_X1_addHold d 0 0 0 [some (.ref (o)), some (.int (iI (p))), some (.int (iI (h))), some (.int (iI (t)))] [] S (zi V) J (zRt (some (.int (iI (if n < 6 then (n : Int) + 1 else -1)))) S (zi (if n < 6 then zu (zu (zu (zu V (o + 1) n p) (o + 2) n h) (o + 3) n t) o 9 ((n : Int) + 1) else V)) J) := by
  refine z_aload_n Q_X1_addHold (k := 0) rfl rfl ?_
  refine y_getI Q_X1_addHold (k := 1) rfl F_X1_49 rfl (by have := hF.1; omega) hF.2.1 ?_
  refine y_as (y := (n : Int)) (hn) ?_
  refine y_bipush Q_X1_addHold (k := 2) rfl (by decide) ?_
  refine y_icmp_lt 11 Q_X1_addHold (k := 3) rfl (by decide) ⟨by omega, by omega⟩ ⟨by decide, by decide⟩ (fun c6 => ?_) (fun c6 => ?_)
  · refine z_aload_n Q_X1_addHold (k := 6) rfl rfl ?_
    refine z_getR Q_X1_addHold (k := 7) rfl F_X1_18 rfl (by have := hF.1; omega) hF.2.1 hF.2.2.1 ?_
    refine z_aload_n Q_X1_addHold (k := 8) rfl rfl ?_
    refine y_getI Q_X1_addHold (k := 9) rfl F_X1_49 rfl (by have := hF.1; omega) hF.2.1 ?_
    refine y_as (y := (n : Int)) (hn) ?_
    refine z_iload_n Q_X1_addHold (k := 10) rfl rfl ?_
    refine y_iastN Q_X1_addHold (k := 11) rfl (by have := hF.1; omega) hF.2.2.2.2.2.1 (z := (n : Int)) (j := n) (by omega) (by omega) (by decide) ?_
    refine z_aload_n Q_X1_addHold (k := 12) rfl rfl ?_
    refine z_getR Q_X1_addHold (k := 13) rfl F_X1_22 rfl (by have := hF.1; omega) hF.2.1 hF.2.2.2.1 ?_
    refine z_aload_n Q_X1_addHold (k := 14) rfl rfl ?_
    refine y_getI Q_X1_addHold (k := 15) rfl F_X1_49 rfl (by have := hF.1; omega) hF.2.1 ?_
    refine y_as (y := (n : Int)) (by simp [zu]; exact hn) ?_
    refine z_iload_n Q_X1_addHold (k := 16) rfl rfl ?_
    refine y_iastN Q_X1_addHold (k := 17) rfl (by have := hF.1; omega) hF.2.2.2.2.2.2.1 (z := (n : Int)) (j := n) (by omega) (by omega) (by decide) ?_
    refine z_aload_n Q_X1_addHold (k := 18) rfl rfl ?_
    refine z_getR Q_X1_addHold (k := 19) rfl F_X1_25 rfl (by have := hF.1; omega) hF.2.1 hF.2.2.2.2.1 ?_
    refine z_aload_n Q_X1_addHold (k := 20) rfl rfl ?_
    refine y_getI Q_X1_addHold (k := 21) rfl F_X1_49 rfl (by have := hF.1; omega) hF.2.1 ?_
    refine y_as (y := (n : Int)) (by simp [zu]; exact hn) ?_
    refine z_iload_n Q_X1_addHold (k := 22) rfl rfl ?_
    refine y_iastN Q_X1_addHold (k := 23) rfl (by have := hF.1; omega) hF.2.2.2.2.2.2.2 (z := (n : Int)) (j := n) (by omega) (by omega) (by decide) ?_
    refine z_aload_n Q_X1_addHold (k := 24) rfl rfl ?_
    refine z_dup Q_X1_addHold (k := 25) rfl rfl ?_
    refine y_getI Q_X1_addHold (k := 26) rfl F_X1_49 rfl (by have := hF.1; omega) hF.2.1 ?_
    refine y_as (y := (n : Int)) (by simp [zu]; exact hn) ?_
    refine y_iconst Q_X1_addHold (k := 27) rfl ?_
    refine y_iadd Q_X1_addHold (k := 28) rfl ?_
    refine y_putI Q_X1_addHold (k := 29) rfl F_X1_49 rfl (by have := hF.1; omega) hF.2.1 ?_
    refine z_aload_n Q_X1_addHold (k := 30) rfl rfl ?_
    refine y_getI Q_X1_addHold (k := 31) rfl F_X1_49 rfl (by have := hF.1; omega) hF.2.1 ?_
    refine y_as (y := (n : Int) + 1) (by simp [zu]) ?_
    exact y_iret Q_X1_addHold (k := 32) rfl rfl (⟨by rw [if_pos (by omega)], rfl, by rw [if_pos (by omega)], rfl⟩)
  · refine y_iconst Q_X1_addHold (k := 4) rfl ?_
    exact y_iret Q_X1_addHold (k := 5) rfl rfl (⟨by rw [if_neg (by omega)], rfl, by rw [if_neg (by omega)], rfl⟩)
set_option maxHeartbeats 4000000 in
set_option maxRecDepth 20000 in
theorem c_fbegin {S : zS} {V : Nat → Nat → Int} {J : zJ} (d : Nat) {o : Nat} (hF : xFi S o) (hV : ∀ a j, zr (V a j)) {a b c e : Int} : Z M_X1_begin d 0 0 0 [some (.ref (o)), some (.int (iI (a))), some (.int (iI (b))), some (.int (iI (c))), some (.int (iI (e)))] [] S (zi V) J (zRt none S (zi (zu (zu (zu (zu (zu (zu (zu (zu (zu (zu V o 0 a) o 1 b) o 2 c) o 5 e) o 3 0) o 4 0) o 6 0) o 7 (-1)) o 8 (-1)) o 9 0)) J) := by
  refine z_aload_n Q_X1_begin (k := 0) rfl rfl ?_
  refine z_iload_n Q_X1_begin (k := 1) rfl rfl ?_
  refine y_putI Q_X1_begin (k := 2) rfl F_X1_28 rfl (by have := hF.1; omega) hF.2.1 ?_
  refine z_aload_n Q_X1_begin (k := 3) rfl rfl ?_
  refine z_iload_n Q_X1_begin (k := 4) rfl rfl ?_
  refine y_putI Q_X1_begin (k := 5) rfl F_X1_31 rfl (by have := hF.1; omega) hF.2.1 ?_
  refine z_aload_n Q_X1_begin (k := 6) rfl rfl ?_
  refine z_iload_n Q_X1_begin (k := 7) rfl rfl ?_
  refine y_putI Q_X1_begin (k := 8) rfl F_X1_34 rfl (by have := hF.1; omega) hF.2.1 ?_
  refine z_aload_n Q_X1_begin (k := 9) rfl rfl ?_
  refine z_iload Q_X1_begin (k := 10) rfl rfl ?_
  refine y_putI Q_X1_begin (k := 11) rfl F_X1_37 rfl (by have := hF.1; omega) hF.2.1 ?_
  refine z_aload_n Q_X1_begin (k := 12) rfl rfl ?_
  refine y_iconst Q_X1_begin (k := 13) rfl ?_
  refine y_putI Q_X1_begin (k := 14) rfl F_X1_40 rfl (by have := hF.1; omega) hF.2.1 ?_
  refine z_aload_n Q_X1_begin (k := 15) rfl rfl ?_
  refine y_iconst Q_X1_begin (k := 16) rfl ?_
  refine y_putI Q_X1_begin (k := 17) rfl F_X1_43 rfl (by have := hF.1; omega) hF.2.1 ?_
  refine z_aload_n Q_X1_begin (k := 18) rfl rfl ?_
  refine y_iconst Q_X1_begin (k := 19) rfl ?_
  refine y_putI Q_X1_begin (k := 20) rfl F_X1_46 rfl (by have := hF.1; omega) hF.2.1 ?_
  refine z_aload_n Q_X1_begin (k := 21) rfl rfl ?_
  refine y_iconst Q_X1_begin (k := 22) rfl ?_
  refine y_putI Q_X1_begin (k := 23) rfl F_X1_9 rfl (by have := hF.1; omega) hF.2.1 ?_
  refine z_aload_n Q_X1_begin (k := 24) rfl rfl ?_
  refine y_iconst Q_X1_begin (k := 25) rfl ?_
  refine y_putI Q_X1_begin (k := 26) rfl F_X1_15 rfl (by have := hF.1; omega) hF.2.1 ?_
  refine z_aload_n Q_X1_begin (k := 27) rfl rfl ?_
  refine y_iconst Q_X1_begin (k := 28) rfl ?_
  refine y_putI Q_X1_begin (k := 29) rfl F_X1_49 rfl (by have := hF.1; omega) hF.2.1 ?_
  exact z_vret Q_X1_begin (k := 30) rfl rfl (⟨rfl, rfl, rfl, rfl⟩)
set_option maxHeartbeats 4000000 in
set_option maxRecDepth 20000 in
theorem c_cbegin {S : zS} {V : Nat → Nat → Int} {J : zJ} (d : Nat) {o : Nat} (hlt : o < S.2.2) (hk : (S.2.1 o).1 = 0) {a b c : Int} : Z M_X0_begin d 0 0 0 [some (.ref (o)), some (.int (iI (a))), some (.int (iI (b))), some (.int (iI (c)))] [] S (zi V) J (zRt none S (zi (zu (zu (zu V o 0 a) o 1 b) o 2 c)) J) := by
  refine z_aload_n Q_X0_begin (k := 0) rfl rfl ?_
  refine z_iload_n Q_X0_begin (k := 1) rfl rfl ?_
  refine y_putI Q_X0_begin (k := 2) rfl F_X0_7 rfl hlt hk ?_
  refine z_aload_n Q_X0_begin (k := 3) rfl rfl ?_
  refine z_iload_n Q_X0_begin (k := 4) rfl rfl ?_
  refine y_putI Q_X0_begin (k := 5) rfl F_X0_13 rfl hlt hk ?_
  refine z_aload_n Q_X0_begin (k := 6) rfl rfl ?_
  refine z_iload_n Q_X0_begin (k := 7) rfl rfl ?_
  refine y_putI Q_X0_begin (k := 8) rfl F_X0_16 rfl hlt hk ?_
  exact z_vret Q_X0_begin (k := 9) rfl rfl (⟨rfl, rfl, rfl, rfl⟩)
set_option maxHeartbeats 4000000 in
set_option maxRecDepth 20000 in
theorem c_pbegin {S : zS} {V : Nat → Nat → Int} {J : zJ} (d : Nat) {o : Nat} (hlt : o < S.2.2) (hk : (S.2.1 o).1 = 4) {a b c e : Int} : Z M_X4_begin d 0 0 0 [some (.ref (o)), some (.int (iI (a))), some (.int (iI (b))), some (.int (iI (c))), some (.int (iI (e)))] [] S (zi V) J (zRt none S (zi (zu (zu (zu (zu V o 0 a) o 1 b) o 2 c) o 3 e)) J) := by
  refine z_aload_n Q_X4_begin (k := 0) rfl rfl ?_
  refine z_iload_n Q_X4_begin (k := 1) rfl rfl ?_
  refine y_putI Q_X4_begin (k := 2) rfl F_X4_7 rfl hlt hk ?_
  refine z_aload_n Q_X4_begin (k := 3) rfl rfl ?_
  refine z_iload_n Q_X4_begin (k := 4) rfl rfl ?_
  refine y_putI Q_X4_begin (k := 5) rfl F_X4_13 rfl hlt hk ?_
  refine z_aload_n Q_X4_begin (k := 6) rfl rfl ?_
  refine z_iload_n Q_X4_begin (k := 7) rfl rfl ?_
  refine y_putI Q_X4_begin (k := 8) rfl F_X4_16 rfl hlt hk ?_
  refine z_aload_n Q_X4_begin (k := 9) rfl rfl ?_
  refine z_iload Q_X4_begin (k := 10) rfl rfl ?_
  refine y_putI Q_X4_begin (k := 11) rfl F_X4_19 rfl hlt hk ?_
  exact z_vret Q_X4_begin (k := 12) rfl rfl (⟨rfl, rfl, rfl, rfl⟩)
