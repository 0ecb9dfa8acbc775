/-! methods keep their predicates -/
set_option maxHeartbeats 4000000 in
set_option maxRecDepth 20000 in
theorem w_X11_passes {S : zS} {V : qV} {J : qJ} {Q : Int → qV → Prop} (d : Nat) (hB : qB S V) {a1 : Int} (z1 : zr a1) {a2 : Int} (z2 : zr a2) {a3 : Int} (z3 : zr a3) (h : W_X11_passes a1 a2 a3 V Q) : Z M_X11_passes (d + 2) 0 0 0 [some (.ref 602), some (.int (iI a1)), some (.int (iI a2)), some (.int (iI a3)), none] [] S (qi V) (qj J) (qP_iV S J Q) := by
  unfold W_X11_passes at h
  refine z_aload_n Q_X11_passes (k := 0) rfl rfl ?_
  refine y_iconst Q_X11_passes (k := 1) rfl ?_
  refine q_putI (o := 602) (z := 0) Q_X11_passes (k := 2) rfl F_X11_1 rfl rfl rfl (n_ hB.1 rfl) (k_602 hB.1) ?_
  have hB1 := qB.u (a := 602) (j := 0) (x := 0) hB ⟨by decide, by decide⟩ (Or.inl (by decide))
  refine z_aload_n Q_X11_passes (k := 3) rfl rfl ?_
  refine z_iload_n Q_X11_passes (k := 4) rfl rfl ?_
  refine y_iconst Q_X11_passes (k := 5) rfl ?_
  refine q_callV2_zV Q_X11_passes (k := 6) rfl rfl K_X11_isPerson V_X11_isPerson L_X11_223 (n_ hB1.1 rfl) (k_602 hB1.1) (Nat.le_of_ble_eq_true rfl) (Nat.le_of_ble_eq_true rfl) rfl (Nat.zero_le _) (Nat.zero_le _) (w_X11_isPerson d hB1 z1 ⟨by decide, by decide⟩ h) (fun r2 V2 hB2 hz2 hb2 h => ?_)
  refine y_if_eq 44 Q_X11_passes (k := 7) rfl (by decide) hz2 (fun c => ?_) (fun c => ?_)
  · replace h := h.1 c
    refine y_iconst Q_X11_passes (k := 23) rfl ?_
    exact y_iret Q_X11_passes (k := 24) rfl rfl (qI_iV hB2 ⟨by decide, by decide⟩ h)
  · replace h := h.2 c
    refine z_aload_n Q_X11_passes (k := 8) rfl rfl ?_
    refine z_iload_n Q_X11_passes (k := 9) rfl rfl ?_
    refine q_callS1_z Q_X11_passes (k := 10) rfl rfl K_X11_isPlace S_X11_isPlace L_X11_227 (Nat.le_of_ble_eq_true rfl) (Nat.le_of_ble_eq_true rfl) rfl (Nat.zero_le _) (Nat.zero_le _) (w_X11_isPlace d hB2 z2 h) (fun r3 hz3 hb3 h => ?_)
    refine y_if_eq 36 Q_X11_passes (k := 11) rfl (by decide) hz3 (fun c => ?_) (fun c => ?_)
    · replace h := h.1 c
      refine y_iconst Q_X11_passes (k := 19) rfl ?_
      refine y_iconst Q_X11_passes (k := 20) rfl ?_
      refine q_callV2_zV Q_X11_passes (k := 21) rfl rfl K_X11_may V_X11_may L_X11_187 (n_ hB2.1 rfl) (k_602 hB2.1) (Nat.le_of_ble_eq_true rfl) (Nat.le_of_ble_eq_true rfl) rfl (Nat.zero_le _) (Nat.zero_le _) (w_X11_may (d + 1) hB2 ⟨by decide, by decide⟩ (Or.inl rfl) ⟨by decide, by decide⟩ h) (fun r4 V4 hB4 hz4 hb4 h => ?_)
      refine y_if_ne 46 Q_X11_passes (k := 22) rfl (by decide) hz4 (fun c => ?_) (fun c => ?_)
      · replace h := h.2 c
        refine z_aload_n Q_X11_passes (k := 25) rfl rfl ?_
        refine z_getR (b := 603) Q_X11_passes (k := 26) rfl F_X11_13 rfl (n_ hB4.1 rfl) (k_602 hB4.1) (r_602_1 hB4.1) ?_
        refine y_bipush Q_X11_passes (k := 27) rfl (by decide) ?_
        refine y_iconst Q_X11_passes (k := 28) rfl ?_
        refine z_iload_n Q_X11_passes (k := 29) rfl rfl ?_
        obtain ⟨q5, h⟩ := h
        refine y_imul Q_X11_passes (k := 30) rfl ?_
        obtain ⟨q6, h⟩ := h
        refine y_iadd Q_X11_passes (k := 31) rfl ?_
        refine z_iload_n Q_X11_passes (k := 32) rfl rfl ?_
        obtain ⟨q7, h⟩ := h
        refine y_iadd Q_X11_passes (k := 33) rfl ?_
        obtain ⟨q8, h⟩ := h
        refine q_iald (o := 603) (N := 594) Q_X11_passes (k := 34) rfl rfl (n_ hB4.1 rfl) (k_603 hB4.1) rfl q8 (by decide) ?_
        refine y_istore (L' := [some (.ref 602), some (.int (iI a1)), some (.int (iI a2)), some (.int (iI a3)), some (.int (iI (V4 603 ((70 + (4 * a1)) + a2))))]) Q_X11_passes (k := 35) rfl (by decide) rfl ?_
        refine z_aload_n Q_X11_passes (k := 36) rfl rfl ?_
        refine z_getR (b := 603) Q_X11_passes (k := 37) rfl F_X11_13 rfl (n_ hB4.1 rfl) (k_602 hB4.1) (r_602_1 hB4.1) ?_
        refine y_bipush Q_X11_passes (k := 38) rfl (by decide) ?_
        refine y_iconst Q_X11_passes (k := 39) rfl ?_
        refine z_iload_n Q_X11_passes (k := 40) rfl rfl ?_
        obtain ⟨q9, h⟩ := h
        refine y_imul Q_X11_passes (k := 41) rfl ?_
        obtain ⟨q10, h⟩ := h
        refine y_iadd Q_X11_passes (k := 42) rfl ?_
        refine z_iload_n Q_X11_passes (k := 43) rfl rfl ?_
        obtain ⟨q11, h⟩ := h
        refine y_iadd Q_X11_passes (k := 44) rfl ?_
        refine z_iload_n Q_X11_passes (k := 45) rfl rfl ?_
        obtain ⟨q12, h⟩ := h
        refine q_iast (o := 603) (N := 594) Q_X11_passes (k := 46) rfl rfl (n_ hB4.1 rfl) (k_603 hB4.1) rfl q12 (by decide) ?_
        have hB13 := qB.u (a := 603) (j := (70 + (4 * a1)) + a2) (x := a3) hB4 z3 (Or.inl (by decide))
        refine z_iload Q_X11_passes (k := 47) rfl rfl ?_
        exact y_iret Q_X11_passes (k := 48) rfl rfl (qI_iV hB13 (hB4.2.1 _ _) h)
      · replace h := h.1 c
        refine y_iconst Q_X11_passes (k := 23) rfl ?_
        exact y_iret Q_X11_passes (k := 24) rfl rfl (qI_iV hB4 ⟨by decide, by decide⟩ h)
    · replace h := h.2 c
      refine z_iload_n Q_X11_passes (k := 12) rfl rfl ?_
      refine y_iconst Q_X11_passes (k := 13) rfl ?_
      refine y_bipush Q_X11_passes (k := 14) rfl (by decide) ?_
      refine q_callS3_z Q_X11_passes (k := 15) rfl rfl K_X11_within S_X11_within L_X11_207 (Nat.le_of_ble_eq_true rfl) (Nat.le_of_ble_eq_true rfl) rfl (Nat.zero_le _) (Nat.zero_le _) (w_X11_within (d + 1) hB2 z3 ⟨by decide, by decide⟩ ⟨by decide, by decide⟩ h) (fun r14 hz14 hb14 h => ?_)
      refine y_if_eq 36 Q_X11_passes (k := 16) rfl (by decide) hz14 (fun c => ?_) (fun c => ?_)
      · replace h := h.1 c
        refine y_iconst Q_X11_passes (k := 19) rfl ?_
        refine y_iconst Q_X11_passes (k := 20) rfl ?_
        refine q_callV2_zV Q_X11_passes (k := 21) rfl rfl K_X11_may V_X11_may L_X11_187 (n_ hB2.1 rfl) (k_602 hB2.1) (Nat.le_of_ble_eq_true rfl) (Nat.le_of_ble_eq_true rfl) rfl (Nat.zero_le _) (Nat.zero_le _) (w_X11_may (d + 1) hB2 ⟨by decide, by decide⟩ (Or.inl rfl) ⟨by decide, by decide⟩ h) (fun r15 V15 hB15 hz15 hb15 h => ?_)
        refine y_if_ne 46 Q_X11_passes (k := 22) rfl (by decide) hz15 (fun c => ?_) (fun c => ?_)
        · replace h := h.2 c
          refine z_aload_n Q_X11_passes (k := 25) rfl rfl ?_
          refine z_getR (b := 603) Q_X11_passes (k := 26) rfl F_X11_13 rfl (n_ hB15.1 rfl) (k_602 hB15.1) (r_602_1 hB15.1) ?_
          refine y_bipush Q_X11_passes (k := 27) rfl (by decide) ?_
          refine y_iconst Q_X11_passes (k := 28) rfl ?_
          refine z_iload_n Q_X11_passes (k := 29) rfl rfl ?_
          obtain ⟨q16, h⟩ := h
          refine y_imul Q_X11_passes (k := 30) rfl ?_
          obtain ⟨q17, h⟩ := h
          refine y_iadd Q_X11_passes (k := 31) rfl ?_
          refine z_iload_n Q_X11_passes (k := 32) rfl rfl ?_
          obtain ⟨q18, h⟩ := h
          refine y_iadd Q_X11_passes (k := 33) rfl ?_
          obtain ⟨q19, h⟩ := h
          refine q_iald (o := 603) (N := 594) Q_X11_passes (k := 34) rfl rfl (n_ hB15.1 rfl) (k_603 hB15.1) rfl q19 (by decide) ?_
          refine y_istore (L' := [some (.ref 602), some (.int (iI a1)), some (.int (iI a2)), some (.int (iI a3)), some (.int (iI (V15 603 ((70 + (4 * a1)) + a2))))]) Q_X11_passes (k := 35) rfl (by decide) rfl ?_
          refine z_aload_n Q_X11_passes (k := 36) rfl rfl ?_
          refine z_getR (b := 603) Q_X11_passes (k := 37) rfl F_X11_13 rfl (n_ hB15.1 rfl) (k_602 hB15.1) (r_602_1 hB15.1) ?_
          refine y_bipush Q_X11_passes (k := 38) rfl (by decide) ?_
          refine y_iconst Q_X11_passes (k := 39) rfl ?_
          refine z_iload_n Q_X11_passes (k := 40) rfl rfl ?_
          obtain ⟨q20, h⟩ := h
          refine y_imul Q_X11_passes (k := 41) rfl ?_
          obtain ⟨q21, h⟩ := h
          refine y_iadd Q_X11_passes (k := 42) rfl ?_
          refine z_iload_n Q_X11_passes (k := 43) rfl rfl ?_
          obtain ⟨q22, h⟩ := h
          refine y_iadd Q_X11_passes (k := 44) rfl ?_
          refine z_iload_n Q_X11_passes (k := 45) rfl rfl ?_
          obtain ⟨q23, h⟩ := h
          refine q_iast (o := 603) (N := 594) Q_X11_passes (k := 46) rfl rfl (n_ hB15.1 rfl) (k_603 hB15.1) rfl q23 (by decide) ?_
          have hB24 := qB.u (a := 603) (j := (70 + (4 * a1)) + a2) (x := a3) hB15 z3 (Or.inl (by decide))
          refine z_iload Q_X11_passes (k := 47) rfl rfl ?_
          exact y_iret Q_X11_passes (k := 48) rfl rfl (qI_iV hB24 (hB15.2.1 _ _) h)
        · replace h := h.1 c
          refine y_iconst Q_X11_passes (k := 23) rfl ?_
          exact y_iret Q_X11_passes (k := 24) rfl rfl (qI_iV hB15 ⟨by decide, by decide⟩ h)
      · replace h := h.2 c
        refine y_iconst Q_X11_passes (k := 17) rfl ?_
        refine z_goto (tgt := 37) Q_X11_passes (k := 18) rfl (by decide) ?_
        refine y_iconst Q_X11_passes (k := 20) rfl ?_
        refine q_callV2_zV Q_X11_passes (k := 21) rfl rfl K_X11_may V_X11_may L_X11_187 (n_ hB2.1 rfl) (k_602 hB2.1) (Nat.le_of_ble_eq_true rfl) (Nat.le_of_ble_eq_true rfl) rfl (Nat.zero_le _) (Nat.zero_le _) (w_X11_may (d + 1) hB2 ⟨by decide, by decide⟩ (Or.inr rfl) ⟨by decide, by decide⟩ h) (fun r25 V25 hB25 hz25 hb25 h => ?_)
        refine y_if_ne 46 Q_X11_passes (k := 22) rfl (by decide) hz25 (fun c => ?_) (fun c => ?_)
        · replace h := h.2 c
          refine z_aload_n Q_X11_passes (k := 25) rfl rfl ?_
          refine z_getR (b := 603) Q_X11_passes (k := 26) rfl F_X11_13 rfl (n_ hB25.1 rfl) (k_602 hB25.1) (r_602_1 hB25.1) ?_
          refine y_bipush Q_X11_passes (k := 27) rfl (by decide) ?_
          refine y_iconst Q_X11_passes (k := 28) rfl ?_
          refine z_iload_n Q_X11_passes (k := 29) rfl rfl ?_
          obtain ⟨q26, h⟩ := h
          refine y_imul Q_X11_passes (k := 30) rfl ?_
          obtain ⟨q27, h⟩ := h
          refine y_iadd Q_X11_passes (k := 31) rfl ?_
          refine z_iload_n Q_X11_passes (k := 32) rfl rfl ?_
          obtain ⟨q28, h⟩ := h
          refine y_iadd Q_X11_passes (k := 33) rfl ?_
          obtain ⟨q29, h⟩ := h
          refine q_iald (o := 603) (N := 594) Q_X11_passes (k := 34) rfl rfl (n_ hB25.1 rfl) (k_603 hB25.1) rfl q29 (by decide) ?_
          refine y_istore (L' := [some (.ref 602), some (.int (iI a1)), some (.int (iI a2)), some (.int (iI a3)), some (.int (iI (V25 603 ((70 + (4 * a1)) + a2))))]) Q_X11_passes (k := 35) rfl (by decide) rfl ?_
          refine z_aload_n Q_X11_passes (k := 36) rfl rfl ?_
          refine z_getR (b := 603) Q_X11_passes (k := 37) rfl F_X11_13 rfl (n_ hB25.1 rfl) (k_602 hB25.1) (r_602_1 hB25.1) ?_
          refine y_bipush Q_X11_passes (k := 38) rfl (by decide) ?_
          refine y_iconst Q_X11_passes (k := 39) rfl ?_
          refine z_iload_n Q_X11_passes (k := 40) rfl rfl ?_
          obtain ⟨q30, h⟩ := h
          refine y_imul Q_X11_passes (k := 41) rfl ?_
          obtain ⟨q31, h⟩ := h
          refine y_iadd Q_X11_passes (k := 42) rfl ?_
          refine z_iload_n Q_X11_passes (k := 43) rfl rfl ?_
          obtain ⟨q32, h⟩ := h
          refine y_iadd Q_X11_passes (k := 44) rfl ?_
          refine z_iload_n Q_X11_passes (k := 45) rfl rfl ?_
          obtain ⟨q33, h⟩ := h
          refine q_iast (o := 603) (N := 594) Q_X11_passes (k := 46) rfl rfl (n_ hB25.1 rfl) (k_603 hB25.1) rfl q33 (by decide) ?_
          have hB34 := qB.u (a := 603) (j := (70 + (4 * a1)) + a2) (x := a3) hB25 z3 (Or.inl (by decide))
          refine z_iload Q_X11_passes (k := 47) rfl rfl ?_
          exact y_iret Q_X11_passes (k := 48) rfl rfl (qI_iV hB34 (hB25.2.1 _ _) h)
        · replace h := h.1 c
          refine y_iconst Q_X11_passes (k := 23) rfl ?_
          exact y_iret Q_X11_passes (k := 24) rfl rfl (qI_iV hB25 ⟨by decide, by decide⟩ h)
set_option maxHeartbeats 4000000 in
set_option maxRecDepth 20000 in
theorem w_X11_ground {S : zS} {V : qV} {J : qJ} {Q : Int → qV → Prop} (d : Nat) (hB : qB S V) {a1 : Int} (z1 : zr a1) {a2 : Int} (z2 : zr a2) (b2 : a2 = 0 ∨ a2 = 1) {a3 : Int} (z3 : zr a3) (h : W_X11_ground a1 a2 a3 V Q) : Z M_X11_ground (d + 2) 0 0 0 [some (.ref 602), some (.int (iI a1)), some (.int (iI a2)), some (.int (iI a3)), none] [] S (qi V) (qj J) (qP_iV S J Q) := by
  unfold W_X11_ground at h
  refine z_aload_n Q_X11_ground (k := 0) rfl rfl ?_
  refine y_iconst Q_X11_ground (k := 1) rfl ?_
  refine q_putI (o := 602) (z := 0) Q_X11_ground (k := 2) rfl F_X11_1 rfl rfl rfl (n_ hB.1 rfl) (k_602 hB.1) ?_
  have hB1 := qB.u (a := 602) (j := 0) (x := 0) hB ⟨by decide, by decide⟩ (Or.inl (by decide))
  refine z_aload_n Q_X11_ground (k := 3) rfl rfl ?_
  refine z_iload_n Q_X11_ground (k := 4) rfl rfl ?_
  refine q_callS1_z Q_X11_ground (k := 5) rfl rfl K_X11_isPlace S_X11_isPlace L_X11_227 (Nat.le_of_ble_eq_true rfl) (Nat.le_of_ble_eq_true rfl) rfl (Nat.zero_le _) (Nat.zero_le _) (w_X11_isPlace d hB1 z1 h) (fun r2 hz2 hb2 h => ?_)
  refine y_iconst Q_X11_ground (k := 6) rfl ?_
  refine q_callV2_zV Q_X11_ground (k := 7) rfl rfl K_X11_may V_X11_may L_X11_187 (n_ hB1.1 rfl) (k_602 hB1.1) (Nat.le_of_ble_eq_true rfl) (Nat.le_of_ble_eq_true rfl) rfl (Nat.zero_le _) (Nat.zero_le _) (w_X11_may (d + 1) hB1 hz2 hb2 ⟨by decide, by decide⟩ h) (fun r3 V3 hB3 hz3 hb3 h => ?_)
  refine y_if_eq 31 Q_X11_ground (k := 8) rfl (by decide) hz3 (fun c => ?_) (fun c => ?_)
  · replace h := h.1 c
    refine y_iconst Q_X11_ground (k := 17) rfl ?_
    exact y_iret Q_X11_ground (k := 18) rfl rfl (qI_iV hB3 ⟨by decide, by decide⟩ h)
  · replace h := h.2 c
    refine z_iload_n Q_X11_ground (k := 9) rfl rfl ?_
    refine y_iconst Q_X11_ground (k := 10) rfl ?_
    refine y_icmp_eq 33 Q_X11_ground (k := 11) rfl (by decide) z3 ⟨by decide, by decide⟩ (fun c => ?_) (fun c => ?_)
    · replace h := h.1 c
      refine z_aload_n Q_X11_ground (k := 19) rfl rfl ?_
      refine z_getR (b := 603) Q_X11_ground (k := 20) rfl F_X11_13 rfl (n_ hB3.1 rfl) (k_602 hB3.1) (r_602_1 hB3.1) ?_
      refine y_sipush Q_X11_ground (k := 21) rfl (by decide) ?_
      refine z_iload_n Q_X11_ground (k := 22) rfl rfl ?_
      obtain ⟨q4, h⟩ := h
      refine y_iadd Q_X11_ground (k := 23) rfl ?_
      obtain ⟨q5, h⟩ := h
      refine q_iald (o := 603) (N := 594) Q_X11_ground (k := 24) rfl rfl (n_ hB3.1 rfl) (k_603 hB3.1) rfl q5 (by decide) ?_
      refine y_istore (L' := [some (.ref 602), some (.int (iI a1)), some (.int (iI a2)), some (.int (iI a3)), some (.int (iI (V3 603 (138 + a1))))]) Q_X11_ground (k := 25) rfl (by decide) rfl ?_
      refine z_aload_n Q_X11_ground (k := 26) rfl rfl ?_
      refine z_getR (b := 603) Q_X11_ground (k := 27) rfl F_X11_13 rfl (n_ hB3.1 rfl) (k_602 hB3.1) (r_602_1 hB3.1) ?_
      refine y_sipush Q_X11_ground (k := 28) rfl (by decide) ?_
      refine z_iload_n Q_X11_ground (k := 29) rfl rfl ?_
      obtain ⟨q6, h⟩ := h
      refine y_iadd Q_X11_ground (k := 30) rfl ?_
      refine z_iload_n Q_X11_ground (k := 31) rfl rfl ?_
      refine y_if_eq 62 Q_X11_ground (k := 32) rfl (by decide) z2 (fun c => ?_) (fun c => ?_)
      · replace h := h.1 c
        refine y_iconst Q_X11_ground (k := 35) rfl ?_
        obtain ⟨q7, h⟩ := h
        refine q_iast (o := 603) (N := 594) Q_X11_ground (k := 36) rfl rfl (n_ hB3.1 rfl) (k_603 hB3.1) rfl q7 (by decide) ?_
        have hB8 := qB.u (a := 603) (j := 134 + a1) (x := 0) hB3 ⟨by decide, by decide⟩ (Or.inl (by decide))
        refine z_aload_n Q_X11_ground (k := 37) rfl rfl ?_
        refine z_getR (b := 603) Q_X11_ground (k := 38) rfl F_X11_13 rfl (n_ hB8.1 rfl) (k_602 hB8.1) (r_602_1 hB8.1) ?_
        refine y_sipush Q_X11_ground (k := 39) rfl (by decide) ?_
        refine z_iload_n Q_X11_ground (k := 40) rfl rfl ?_
        obtain ⟨q9, h⟩ := h
        refine y_iadd Q_X11_ground (k := 41) rfl ?_
        refine z_iload_n Q_X11_ground (k := 42) rfl rfl ?_
        obtain ⟨q10, h⟩ := h
        refine q_iast (o := 603) (N := 594) Q_X11_ground (k := 43) rfl rfl (n_ hB8.1 rfl) (k_603 hB8.1) rfl q10 (by decide) ?_
        have hB11 := qB.u (a := 603) (j := 138 + a1) (x := a3) hB8 z3 (Or.inl (by decide))
        refine z_iload Q_X11_ground (k := 44) rfl rfl ?_
        exact y_iret Q_X11_ground (k := 45) rfl rfl (qI_iV hB11 (hB3.2.1 _ _) h)
      · replace h := h.2 c
        refine y_iconst Q_X11_ground (k := 33) rfl ?_
        refine z_goto (tgt := 63) Q_X11_ground (k := 34) rfl (by decide) ?_
        obtain ⟨q12, h⟩ := h
        refine q_iast (o := 603) (N := 594) Q_X11_ground (k := 36) rfl rfl (n_ hB3.1 rfl) (k_603 hB3.1) rfl q12 (by decide) ?_
        have hB13 := qB.u (a := 603) (j := 134 + a1) (x := 1) hB3 ⟨by decide, by decide⟩ (Or.inl (by decide))
        refine z_aload_n Q_X11_ground (k := 37) rfl rfl ?_
        refine z_getR (b := 603) Q_X11_ground (k := 38) rfl F_X11_13 rfl (n_ hB13.1 rfl) (k_602 hB13.1) (r_602_1 hB13.1) ?_
        refine y_sipush Q_X11_ground (k := 39) rfl (by decide) ?_
        refine z_iload_n Q_X11_ground (k := 40) rfl rfl ?_
        obtain ⟨q14, h⟩ := h
        refine y_iadd Q_X11_ground (k := 41) rfl ?_
        refine z_iload_n Q_X11_ground (k := 42) rfl rfl ?_
        obtain ⟨q15, h⟩ := h
        refine q_iast (o := 603) (N := 594) Q_X11_ground (k := 43) rfl rfl (n_ hB13.1 rfl) (k_603 hB13.1) rfl q15 (by decide) ?_
        have hB16 := qB.u (a := 603) (j := 138 + a1) (x := a3) hB13 z3 (Or.inl (by decide))
        refine z_iload Q_X11_ground (k := 44) rfl rfl ?_
        exact y_iret Q_X11_ground (k := 45) rfl rfl (qI_iV hB16 (hB3.2.1 _ _) h)
    · replace h := h.2 c
      refine z_aload_n Q_X11_ground (k := 12) rfl rfl ?_
      refine z_iload_n Q_X11_ground (k := 13) rfl rfl ?_
      refine y_iconst Q_X11_ground (k := 14) rfl ?_
      refine q_callV2_zV Q_X11_ground (k := 15) rfl rfl K_X11_isPerson V_X11_isPerson L_X11_223 (n_ hB3.1 rfl) (k_602 hB3.1) (Nat.le_of_ble_eq_true rfl) (Nat.le_of_ble_eq_true rfl) rfl (Nat.zero_le _) (Nat.zero_le _) (w_X11_isPerson d hB3 z3 ⟨by decide, by decide⟩ h) (fun r17 V17 hB17 hz17 hb17 h => ?_)
      refine y_if_ne 33 Q_X11_ground (k := 16) rfl (by decide) hz17 (fun c => ?_) (fun c => ?_)
      · replace h := h.2 c
        refine z_aload_n Q_X11_ground (k := 19) rfl rfl ?_
        refine z_getR (b := 603) Q_X11_ground (k := 20) rfl F_X11_13 rfl (n_ hB17.1 rfl) (k_602 hB17.1) (r_602_1 hB17.1) ?_
        refine y_sipush Q_X11_ground (k := 21) rfl (by decide) ?_
        refine z_iload_n Q_X11_ground (k := 22) rfl rfl ?_
        obtain ⟨q18, h⟩ := h
        refine y_iadd Q_X11_ground (k := 23) rfl ?_
        obtain ⟨q19, h⟩ := h
        refine q_iald (o := 603) (N := 594) Q_X11_ground (k := 24) rfl rfl (n_ hB17.1 rfl) (k_603 hB17.1) rfl q19 (by decide) ?_
        refine y_istore (L' := [some (.ref 602), some (.int (iI a1)), some (.int (iI a2)), some (.int (iI a3)), some (.int (iI (V17 603 (138 + a1))))]) Q_X11_ground (k := 25) rfl (by decide) rfl ?_
        refine z_aload_n Q_X11_ground (k := 26) rfl rfl ?_
        refine z_getR (b := 603) Q_X11_ground (k := 27) rfl F_X11_13 rfl (n_ hB17.1 rfl) (k_602 hB17.1) (r_602_1 hB17.1) ?_
        refine y_sipush Q_X11_ground (k := 28) rfl (by decide) ?_
        refine z_iload_n Q_X11_ground (k := 29) rfl rfl ?_
        obtain ⟨q20, h⟩ := h
        refine y_iadd Q_X11_ground (k := 30) rfl ?_
        refine z_iload_n Q_X11_ground (k := 31) rfl rfl ?_
        refine y_if_eq 62 Q_X11_ground (k := 32) rfl (by decide) z2 (fun c => ?_) (fun c => ?_)
        · replace h := h.1 c
          refine y_iconst Q_X11_ground (k := 35) rfl ?_
          obtain ⟨q21, h⟩ := h
          refine q_iast (o := 603) (N := 594) Q_X11_ground (k := 36) rfl rfl (n_ hB17.1 rfl) (k_603 hB17.1) rfl q21 (by decide) ?_
          have hB22 := qB.u (a := 603) (j := 134 + a1) (x := 0) hB17 ⟨by decide, by decide⟩ (Or.inl (by decide))
          refine z_aload_n Q_X11_ground (k := 37) rfl rfl ?_
          refine z_getR (b := 603) Q_X11_ground (k := 38) rfl F_X11_13 rfl (n_ hB22.1 rfl) (k_602 hB22.1) (r_602_1 hB22.1) ?_
          refine y_sipush Q_X11_ground (k := 39) rfl (by decide) ?_
          refine z_iload_n Q_X11_ground (k := 40) rfl rfl ?_
          obtain ⟨q23, h⟩ := h
          refine y_iadd Q_X11_ground (k := 41) rfl ?_
          refine z_iload_n Q_X11_ground (k := 42) rfl rfl ?_
          obtain ⟨q24, h⟩ := h
          refine q_iast (o := 603) (N := 594) Q_X11_ground (k := 43) rfl rfl (n_ hB22.1 rfl) (k_603 hB22.1) rfl q24 (by decide) ?_
          have hB25 := qB.u (a := 603) (j := 138 + a1) (x := a3) hB22 z3 (Or.inl (by decide))
          refine z_iload Q_X11_ground (k := 44) rfl rfl ?_
          exact y_iret Q_X11_ground (k := 45) rfl rfl (qI_iV hB25 (hB17.2.1 _ _) h)
        · replace h := h.2 c
          refine y_iconst Q_X11_ground (k := 33) rfl ?_
          refine z_goto (tgt := 63) Q_X11_ground (k := 34) rfl (by decide) ?_
          obtain ⟨q26, h⟩ := h
          refine q_iast (o := 603) (N := 594) Q_X11_ground (k := 36) rfl rfl (n_ hB17.1 rfl) (k_603 hB17.1) rfl q26 (by decide) ?_
          have hB27 := qB.u (a := 603) (j := 134 + a1) (x := 1) hB17 ⟨by decide, by decide⟩ (Or.inl (by decide))
          refine z_aload_n Q_X11_ground (k := 37) rfl rfl ?_
          refine z_getR (b := 603) Q_X11_ground (k := 38) rfl F_X11_13 rfl (n_ hB27.1 rfl) (k_602 hB27.1) (r_602_1 hB27.1) ?_
          refine y_sipush Q_X11_ground (k := 39) rfl (by decide) ?_
          refine z_iload_n Q_X11_ground (k := 40) rfl rfl ?_
          obtain ⟨q28, h⟩ := h
          refine y_iadd Q_X11_ground (k := 41) rfl ?_
          refine z_iload_n Q_X11_ground (k := 42) rfl rfl ?_
          obtain ⟨q29, h⟩ := h
          refine q_iast (o := 603) (N := 594) Q_X11_ground (k := 43) rfl rfl (n_ hB27.1 rfl) (k_603 hB27.1) rfl q29 (by decide) ?_
          have hB30 := qB.u (a := 603) (j := 138 + a1) (x := a3) hB27 z3 (Or.inl (by decide))
          refine z_iload Q_X11_ground (k := 44) rfl rfl ?_
          exact y_iret Q_X11_ground (k := 45) rfl rfl (qI_iV hB30 (hB17.2.1 _ _) h)
      · replace h := h.1 c
        refine y_iconst Q_X11_ground (k := 17) rfl ?_
        exact y_iret Q_X11_ground (k := 18) rfl rfl (qI_iV hB17 ⟨by decide, by decide⟩ h)
set_option maxHeartbeats 4000000 in
set_option maxRecDepth 20000 in
theorem w_X11_days {S : zS} {V : qV} {J : qJ} {Q : Int → qV → Prop} (d : Nat) (hB : qB S V) {a1 : Int} (z1 : zr a1) (h : W_X11_days a1 V Q) : Z M_X11_days (d + 1) 0 0 0 [some (.ref 602), some (.int (iI a1))] [] S (qi V) (qj J) (qP_iV S J Q) := by
  unfold W_X11_days at h
  refine z_aload_n Q_X11_days (k := 0) rfl rfl ?_
  refine y_iconst Q_X11_days (k := 1) rfl ?_
  refine q_putI (o := 602) (z := 0) Q_X11_days (k := 2) rfl F_X11_1 rfl rfl rfl (n_ hB.1 rfl) (k_602 hB.1) ?_
  have hB1 := qB.u (a := 602) (j := 0) (x := 0) hB ⟨by decide, by decide⟩ (Or.inl (by decide))
  refine z_aload_n Q_X11_days (k := 3) rfl rfl ?_
  refine z_iload_n Q_X11_days (k := 4) rfl rfl ?_
  refine y_iconst Q_X11_days (k := 5) rfl ?_
  refine y_sipush Q_X11_days (k := 6) rfl (by decide) ?_
  refine q_callS3_z Q_X11_days (k := 7) rfl rfl K_X11_within S_X11_within L_X11_207 (Nat.le_of_ble_eq_true rfl) (Nat.le_of_ble_eq_true rfl) rfl (Nat.zero_le _) (Nat.zero_le _) (w_X11_within d hB1 z1 ⟨by decide, by decide⟩ ⟨by decide, by decide⟩ h) (fun r2 hz2 hb2 h => ?_)
  refine y_iconst Q_X11_days (k := 8) rfl ?_
  refine q_callV2_zV Q_X11_days (k := 9) rfl rfl K_X11_may V_X11_may L_X11_187 (n_ hB1.1 rfl) (k_602 hB1.1) (Nat.le_of_ble_eq_true rfl) (Nat.le_of_ble_eq_true rfl) rfl (Nat.zero_le _) (Nat.zero_le _) (w_X11_may d hB1 hz2 hb2 ⟨by decide, by decide⟩ h) (fun r3 V3 hB3 hz3 hb3 h => ?_)
  refine y_if_eq 49 Q_X11_days (k := 10) rfl (by decide) hz3 (fun c => ?_) (fun c => ?_)
  · replace h := h.1 c
    refine y_iconst Q_X11_days (k := 26) rfl ?_
    exact y_iret Q_X11_days (k := 27) rfl rfl (qI_iV hB3 ⟨by decide, by decide⟩ h)
  · replace h := h.2 c
    refine z_aload_n Q_X11_days (k := 11) rfl rfl ?_
    refine z_aload_n Q_X11_days (k := 12) rfl rfl ?_
    refine z_getR (b := 603) Q_X11_days (k := 13) rfl F_X11_13 rfl (n_ hB3.1 rfl) (k_602 hB3.1) (r_602_1 hB3.1) ?_
    refine y_bipush Q_X11_days (k := 14) rfl (by decide) ?_
    refine q_iald (o := 603) (N := 594) Q_X11_days (k := 15) rfl rfl (n_ hB3.1 rfl) (k_603 hB3.1) rfl ⟨by decide, by decide⟩ (by decide) ?_
    refine z_iload_n Q_X11_days (k := 16) rfl rfl ?_
    obtain ⟨q4, h⟩ := h
    refine y_iadd Q_X11_days (k := 17) rfl ?_
    refine y_sipush Q_X11_days (k := 18) rfl (by decide) ?_
    refine y_icmp_gt 41 Q_X11_days (k := 19) rfl (by decide) q4 ⟨by decide, by decide⟩ (fun c => ?_) (fun c => ?_)
    · replace h := h.1 c
      refine y_iconst Q_X11_days (k := 22) rfl ?_
      refine y_iconst Q_X11_days (k := 23) rfl ?_
      refine q_callV2_zV Q_X11_days (k := 24) rfl rfl K_X11_may V_X11_may L_X11_187 (n_ hB3.1 rfl) (k_602 hB3.1) (Nat.le_of_ble_eq_true rfl) (Nat.le_of_ble_eq_true rfl) rfl (Nat.zero_le _) (Nat.zero_le _) (w_X11_may d hB3 ⟨by decide, by decide⟩ (Or.inl rfl) ⟨by decide, by decide⟩ h) (fun r5 V5 hB5 hz5 hb5 h => ?_)
      refine y_if_ne 51 Q_X11_days (k := 25) rfl (by decide) hz5 (fun c => ?_) (fun c => ?_)
      · replace h := h.2 c
        refine z_aload_n Q_X11_days (k := 28) rfl rfl ?_
        refine z_getR (b := 603) Q_X11_days (k := 29) rfl F_X11_13 rfl (n_ hB5.1 rfl) (k_602 hB5.1) (r_602_1 hB5.1) ?_
        refine y_bipush Q_X11_days (k := 30) rfl (by decide) ?_
        refine z_dup2 Q_X11_days (k := 31) rfl rfl rfl ?_
        refine q_iald (o := 603) (N := 594) Q_X11_days (k := 32) rfl rfl (n_ hB5.1 rfl) (k_603 hB5.1) rfl ⟨by decide, by decide⟩ (by decide) ?_
        refine z_iload_n Q_X11_days (k := 33) rfl rfl ?_
        obtain ⟨q6, h⟩ := h
        refine y_iadd Q_X11_days (k := 34) rfl ?_
        refine q_iast (o := 603) (N := 594) Q_X11_days (k := 35) rfl rfl (n_ hB5.1 rfl) (k_603 hB5.1) rfl ⟨by decide, by decide⟩ (by decide) ?_
        have hB7 := qB.u (a := 603) (j := 20) (x := (V5 603 20) + a1) hB5 q6 (Or.inl (by decide))
        refine z_aload_n Q_X11_days (k := 36) rfl rfl ?_
        refine z_getR (b := 603) Q_X11_days (k := 37) rfl F_X11_13 rfl (n_ hB7.1 rfl) (k_602 hB7.1) (r_602_1 hB7.1) ?_
        refine y_bipush Q_X11_days (k := 38) rfl (by decide) ?_
        refine q_iald (o := 603) (N := 594) Q_X11_days (k := 39) rfl rfl (n_ hB7.1 rfl) (k_603 hB7.1) rfl ⟨by decide, by decide⟩ (by decide) ?_
        exact y_iret Q_X11_days (k := 40) rfl rfl (qI_iV hB7 (hB7.2.1 _ _) h)
      · replace h := h.1 c
        refine y_iconst Q_X11_days (k := 26) rfl ?_
        exact y_iret Q_X11_days (k := 27) rfl rfl (qI_iV hB5 ⟨by decide, by decide⟩ h)
    · replace h := h.2 c
      refine y_iconst Q_X11_days (k := 20) rfl ?_
      refine z_goto (tgt := 42) Q_X11_days (k := 21) rfl (by decide) ?_
      refine y_iconst Q_X11_days (k := 23) rfl ?_
      refine q_callV2_zV Q_X11_days (k := 24) rfl rfl K_X11_may V_X11_may L_X11_187 (n_ hB3.1 rfl) (k_602 hB3.1) (Nat.le_of_ble_eq_true rfl) (Nat.le_of_ble_eq_true rfl) rfl (Nat.zero_le _) (Nat.zero_le _) (w_X11_may d hB3 ⟨by decide, by decide⟩ (Or.inr rfl) ⟨by decide, by decide⟩ h) (fun r8 V8 hB8 hz8 hb8 h => ?_)
      refine y_if_ne 51 Q_X11_days (k := 25) rfl (by decide) hz8 (fun c => ?_) (fun c => ?_)
      · replace h := h.2 c
        refine z_aload_n Q_X11_days (k := 28) rfl rfl ?_
        refine z_getR (b := 603) Q_X11_days (k := 29) rfl F_X11_13 rfl (n_ hB8.1 rfl) (k_602 hB8.1) (r_602_1 hB8.1) ?_
        refine y_bipush Q_X11_days (k := 30) rfl (by decide) ?_
        refine z_dup2 Q_X11_days (k := 31) rfl rfl rfl ?_
        refine q_iald (o := 603) (N := 594) Q_X11_days (k := 32) rfl rfl (n_ hB8.1 rfl) (k_603 hB8.1) rfl ⟨by decide, by decide⟩ (by decide) ?_
        refine z_iload_n Q_X11_days (k := 33) rfl rfl ?_
        obtain ⟨q9, h⟩ := h
        refine y_iadd Q_X11_days (k := 34) rfl ?_
        refine q_iast (o := 603) (N := 594) Q_X11_days (k := 35) rfl rfl (n_ hB8.1 rfl) (k_603 hB8.1) rfl ⟨by decide, by decide⟩ (by decide) ?_
        have hB10 := qB.u (a := 603) (j := 20) (x := (V8 603 20) + a1) hB8 q9 (Or.inl (by decide))
        refine z_aload_n Q_X11_days (k := 36) rfl rfl ?_
        refine z_getR (b := 603) Q_X11_days (k := 37) rfl F_X11_13 rfl (n_ hB10.1 rfl) (k_602 hB10.1) (r_602_1 hB10.1) ?_
        refine y_bipush Q_X11_days (k := 38) rfl (by decide) ?_
        refine q_iald (o := 603) (N := 594) Q_X11_days (k := 39) rfl rfl (n_ hB10.1 rfl) (k_603 hB10.1) rfl ⟨by decide, by decide⟩ (by decide) ?_
        exact y_iret Q_X11_days (k := 40) rfl rfl (qI_iV hB10 (hB10.2.1 _ _) h)
      · replace h := h.1 c
        refine y_iconst Q_X11_days (k := 26) rfl ?_
        exact y_iret Q_X11_days (k := 27) rfl rfl (qI_iV hB8 ⟨by decide, by decide⟩ h)
set_option maxHeartbeats 4000000 in
set_option maxRecDepth 20000 in
theorem w_X11_find {S : zS} {V : qV} {J : qJ} {Q : Int → qV → Prop} (d : Nat) (hB : qB S V) {a1 : Int} (z1 : zr a1) {a2 : Int} (z2 : zr a2) {a3 : Int} (z3 : zr a3) {a4 : Int} (z4 : zr a4) {a5 : Int} (z5 : zr a5) (h : W_X11_find a1 a2 a3 a4 a5 V Q) : Z M_X11_find (d + 2) 0 0 0 [some (.ref 602), some (.int (iI a1)), some (.int (iI a2)), some (.int (iI a3)), some (.int (iI a4)), some (.int (iI a5)), none] [] S (qi V) (qj J) (qP_iV S J Q) := by
  unfold W_X11_find at h
  refine z_aload_n Q_X11_find (k := 0) rfl rfl ?_
  refine y_iconst Q_X11_find (k := 1) rfl ?_
  refine q_putI (o := 602) (z := 0) Q_X11_find (k := 2) rfl F_X11_1 rfl rfl rfl (n_ hB.1 rfl) (k_602 hB.1) ?_
  have hB1 := qB.u (a := 602) (j := 0) (x := 0) hB ⟨by decide, by decide⟩ (Or.inl (by decide))
  refine z_aload_n Q_X11_find (k := 3) rfl rfl ?_
  refine z_iload_n Q_X11_find (k := 4) rfl rfl ?_
  refine y_iconst Q_X11_find (k := 5) rfl ?_
  refine y_iconst Q_X11_find (k := 6) rfl ?_
  refine q_callS3_z Q_X11_find (k := 7) rfl rfl K_X11_within S_X11_within L_X11_207 (Nat.le_of_ble_eq_true rfl) (Nat.le_of_ble_eq_true rfl) rfl (Nat.zero_le _) (Nat.zero_le _) (w_X11_within (d + 1) hB1 z1 ⟨by decide, by decide⟩ ⟨by decide, by decide⟩ h) (fun r2 hz2 hb2 h => ?_)
  refine y_if_eq 56 Q_X11_find (k := 8) rfl (by decide) hz2 (fun c => ?_) (fun c => ?_)
  · replace h := h.1 c
    refine y_iconst Q_X11_find (k := 27) rfl ?_
    refine y_iconst Q_X11_find (k := 28) rfl ?_
    refine q_callV2_zV Q_X11_find (k := 29) rfl rfl K_X11_may V_X11_may L_X11_187 (n_ hB1.1 rfl) (k_602 hB1.1) (Nat.le_of_ble_eq_true rfl) (Nat.le_of_ble_eq_true rfl) rfl (Nat.zero_le _) (Nat.zero_le _) (w_X11_may (d + 1) hB1 ⟨by decide, by decide⟩ (Or.inl rfl) ⟨by decide, by decide⟩ h) (fun r3 V3 hB3 hz3 hb3 h => ?_)
    refine y_if_ne 66 Q_X11_find (k := 30) rfl (by decide) hz3 (fun c => ?_) (fun c => ?_)
    · replace h := h.2 c
      refine z_aload_n Q_X11_find (k := 33) rfl rfl ?_
      refine z_getR (b := 603) Q_X11_find (k := 34) rfl F_X11_13 rfl (n_ hB3.1 rfl) (k_602 hB3.1) (r_602_1 hB3.1) ?_
      refine y_sipush Q_X11_find (k := 35) rfl (by decide) ?_
      refine q_iald (o := 603) (N := 594) Q_X11_find (k := 36) rfl rfl (n_ hB3.1 rfl) (k_603 hB3.1) rfl ⟨by decide, by decide⟩ (by decide) ?_
      refine y_bipush Q_X11_find (k := 37) rfl (by decide) ?_
      refine y_icmp_ne 81 Q_X11_find (k := 38) rfl (by decide) (hB3.2.1 _ _) ⟨by decide, by decide⟩ (fun c => ?_) (fun c => ?_)
      · replace h := h.2 c
        refine y_sipush Q_X11_find (k := 41) rfl (by decide) ?_
        refine y_bipush Q_X11_find (k := 42) rfl (by decide) ?_
        refine z_aload_n Q_X11_find (k := 43) rfl rfl ?_
        refine z_getR (b := 603) Q_X11_find (k := 44) rfl F_X11_13 rfl (n_ hB3.1 rfl) (k_602 hB3.1) (r_602_1 hB3.1) ?_
        refine y_sipush Q_X11_find (k := 45) rfl (by decide) ?_
        refine q_iald (o := 603) (N := 594) Q_X11_find (k := 46) rfl rfl (n_ hB3.1 rfl) (k_603 hB3.1) rfl ⟨by decide, by decide⟩ (by decide) ?_
        obtain ⟨q4, h⟩ := h
        refine y_imul Q_X11_find (k := 47) rfl ?_
        obtain ⟨q5, h⟩ := h
        refine y_iadd Q_X11_find (k := 48) rfl ?_
        refine y_istore (L' := [some (.ref 602), some (.int (iI a1)), some (.int (iI a2)), some (.int (iI a3)), some (.int (iI a4)), some (.int (iI a5)), some (.int (iI (143 + (27 * (V3 603 142)))))]) Q_X11_find (k := 49) rfl (by decide) rfl ?_
        refine z_aload_n Q_X11_find (k := 50) rfl rfl ?_
        refine z_getR (b := 603) Q_X11_find (k := 51) rfl F_X11_13 rfl (n_ hB3.1 rfl) (k_602 hB3.1) (r_602_1 hB3.1) ?_
        refine z_iload Q_X11_find (k := 52) rfl rfl ?_
        refine y_iconst Q_X11_find (k := 53) rfl ?_
        obtain ⟨q6, h⟩ := h
        refine y_iadd Q_X11_find (k := 54) rfl ?_
        refine z_iload_n Q_X11_find (k := 55) rfl rfl ?_
        obtain ⟨q7, h⟩ := h
        refine q_iast (o := 603) (N := 594) Q_X11_find (k := 56) rfl rfl (n_ hB3.1 rfl) (k_603 hB3.1) rfl q7 (by decide) ?_
        have hB8 := qB.u (a := 603) (j := (143 + (27 * (V3 603 142))) + 0) (x := a1) hB3 z1 (Or.inl (by decide))
        refine z_aload_n Q_X11_find (k := 57) rfl rfl ?_
        refine z_getR (b := 603) Q_X11_find (k := 58) rfl F_X11_13 rfl (n_ hB8.1 rfl) (k_602 hB8.1) (r_602_1 hB8.1) ?_
        refine z_iload Q_X11_find (k := 59) rfl rfl ?_
        refine y_iconst Q_X11_find (k := 60) rfl ?_
        obtain ⟨q9, h⟩ := h
        refine y_iadd Q_X11_find (k := 61) rfl ?_
        refine z_iload_n Q_X11_find (k := 62) rfl rfl ?_
        obtain ⟨q10, h⟩ := h
        refine q_iast (o := 603) (N := 594) Q_X11_find (k := 63) rfl rfl (n_ hB8.1 rfl) (k_603 hB8.1) rfl q10 (by decide) ?_
        have hB11 := qB.u (a := 603) (j := (143 + (27 * (V3 603 142))) + 1) (x := a2) hB8 z2 (Or.inl (by decide))
        refine z_aload_n Q_X11_find (k := 64) rfl rfl ?_
        refine z_getR (b := 603) Q_X11_find (k := 65) rfl F_X11_13 rfl (n_ hB11.1 rfl) (k_602 hB11.1) (r_602_1 hB11.1) ?_
        refine z_iload Q_X11_find (k := 66) rfl rfl ?_
        refine y_iconst Q_X11_find (k := 67) rfl ?_
        obtain ⟨q12, h⟩ := h
        refine y_iadd Q_X11_find (k := 68) rfl ?_
        refine z_iload_n Q_X11_find (k := 69) rfl rfl ?_
        obtain ⟨q13, h⟩ := h
        refine q_iast (o := 603) (N := 594) Q_X11_find (k := 70) rfl rfl (n_ hB11.1 rfl) (k_603 hB11.1) rfl q13 (by decide) ?_
        have hB14 := qB.u (a := 603) (j := (143 + (27 * (V3 603 142))) + 2) (x := a3) hB11 z3 (Or.inl (by decide))
        refine z_aload_n Q_X11_find (k := 71) rfl rfl ?_
        refine z_getR (b := 603) Q_X11_find (k := 72) rfl F_X11_13 rfl (n_ hB14.1 rfl) (k_602 hB14.1) (r_602_1 hB14.1) ?_
        refine z_iload Q_X11_find (k := 73) rfl rfl ?_
        refine y_iconst Q_X11_find (k := 74) rfl ?_
        obtain ⟨q15, h⟩ := h
        refine y_iadd Q_X11_find (k := 75) rfl ?_
        refine z_iload Q_X11_find (k := 76) rfl rfl ?_
        obtain ⟨q16, h⟩ := h
        refine q_iast (o := 603) (N := 594) Q_X11_find (k := 77) rfl rfl (n_ hB14.1 rfl) (k_603 hB14.1) rfl q16 (by decide) ?_
        have hB17 := qB.u (a := 603) (j := (143 + (27 * (V3 603 142))) + 3) (x := a4) hB14 z4 (Or.inl (by decide))
        refine z_aload_n Q_X11_find (k := 78) rfl rfl ?_
        refine z_getR (b := 603) Q_X11_find (k := 79) rfl F_X11_13 rfl (n_ hB17.1 rfl) (k_602 hB17.1) (r_602_1 hB17.1) ?_
        refine z_iload Q_X11_find (k := 80) rfl rfl ?_
        refine y_iconst Q_X11_find (k := 81) rfl ?_
        obtain ⟨q18, h⟩ := h
        refine y_iadd Q_X11_find (k := 82) rfl ?_
        refine z_iload Q_X11_find (k := 83) rfl rfl ?_
        obtain ⟨q19, h⟩ := h
        refine q_iast (o := 603) (N := 594) Q_X11_find (k := 84) rfl rfl (n_ hB17.1 rfl) (k_603 hB17.1) rfl q19 (by decide) ?_
        have hB20 := qB.u (a := 603) (j := (143 + (27 * (V3 603 142))) + 4) (x := a5) hB17 z5 (Or.inl (by decide))
        refine z_aload_n Q_X11_find (k := 85) rfl rfl ?_
        refine z_getR (b := 603) Q_X11_find (k := 86) rfl F_X11_13 rfl (n_ hB20.1 rfl) (k_602 hB20.1) (r_602_1 hB20.1) ?_
        refine z_iload Q_X11_find (k := 87) rfl rfl ?_
        refine y_iconst Q_X11_find (k := 88) rfl ?_
        obtain ⟨q21, h⟩ := h
        refine y_iadd Q_X11_find (k := 89) rfl ?_
        refine z_aload_n Q_X11_find (k := 90) rfl rfl ?_
        refine z_getR (b := 603) Q_X11_find (k := 91) rfl F_X11_13 rfl (n_ hB20.1 rfl) (k_602 hB20.1) (r_602_1 hB20.1) ?_
        refine y_bipush Q_X11_find (k := 92) rfl (by decide) ?_
        refine q_iald (o := 603) (N := 594) Q_X11_find (k := 93) rfl rfl (n_ hB20.1 rfl) (k_603 hB20.1) rfl ⟨by decide, by decide⟩ (by decide) ?_
        obtain ⟨q22, h⟩ := h
        refine q_iast (o := 603) (N := 594) Q_X11_find (k := 94) rfl rfl (n_ hB20.1 rfl) (k_603 hB20.1) rfl q22 (by decide) ?_
        have hB23 := qB.u (a := 603) (j := (143 + (27 * (V3 603 142))) + 5) (x := (qu (qu (qu (qu (qu V3 603 ((143 + (27 * (V3 603 142))) + 0) a1) 603 ((143 + (27 * (V3 603 142))) + 1) a2) 603 ((143 + (27 * (V3 603 142))) + 2) a3) 603 ((143 + (27 * (V3 603 142))) + 3) a4) 603 ((143 + (27 * (V3 603 142))) + 4) a5) 603 20) hB20 (hB20.2.1 _ _) (Or.inl (by decide))
        refine z_aload_n Q_X11_find (k := 95) rfl rfl ?_
        refine z_getR (b := 603) Q_X11_find (k := 96) rfl F_X11_13 rfl (n_ hB23.1 rfl) (k_602 hB23.1) (r_602_1 hB23.1) ?_
        refine z_iload Q_X11_find (k := 97) rfl rfl ?_
        refine y_bipush Q_X11_find (k := 98) rfl (by decide) ?_
        obtain ⟨q24, h⟩ := h
        refine y_iadd Q_X11_find (k := 99) rfl ?_
        refine y_iconst Q_X11_find (k := 100) rfl ?_
        obtain ⟨q25, h⟩ := h
        refine q_iast (o := 603) (N := 594) Q_X11_find (k := 101) rfl rfl (n_ hB23.1 rfl) (k_603 hB23.1) rfl q25 (by decide) ?_
        have hB26 := qB.u (a := 603) (j := (143 + (27 * (V3 603 142))) + 6) (x := 0) hB23 ⟨by decide, by decide⟩ (Or.inl (by decide))
        refine z_aload_n Q_X11_find (k := 102) rfl rfl ?_
        refine z_getR (b := 603) Q_X11_find (k := 103) rfl F_X11_13 rfl (n_ hB26.1 rfl) (k_602 hB26.1) (r_602_1 hB26.1) ?_
        refine z_iload Q_X11_find (k := 104) rfl rfl ?_
        refine y_bipush Q_X11_find (k := 105) rfl (by decide) ?_
        obtain ⟨q27, h⟩ := h
        refine y_iadd Q_X11_find (k := 106) rfl ?_
        refine y_iconst Q_X11_find (k := 107) rfl ?_
        obtain ⟨q28, h⟩ := h
        refine q_iast (o := 603) (N := 594) Q_X11_find (k := 108) rfl rfl (n_ hB26.1 rfl) (k_603 hB26.1) rfl q28 (by decide) ?_
        have hB29 := qB.u (a := 603) (j := (143 + (27 * (V3 603 142))) + 7) (x := (-1)) hB26 ⟨by decide, by decide⟩ (Or.inl (by decide))
        refine z_aload_n Q_X11_find (k := 109) rfl rfl ?_
        refine z_getR (b := 603) Q_X11_find (k := 110) rfl F_X11_13 rfl (n_ hB29.1 rfl) (k_602 hB29.1) (r_602_1 hB29.1) ?_
        refine z_iload Q_X11_find (k := 111) rfl rfl ?_
        refine y_bipush Q_X11_find (k := 112) rfl (by decide) ?_
        obtain ⟨q30, h⟩ := h
        refine y_iadd Q_X11_find (k := 113) rfl ?_
        refine y_iconst Q_X11_find (k := 114) rfl ?_
        obtain ⟨q31, h⟩ := h
        refine q_iast (o := 603) (N := 594) Q_X11_find (k := 115) rfl rfl (n_ hB29.1 rfl) (k_603 hB29.1) rfl q31 (by decide) ?_
        have hB32 := qB.u (a := 603) (j := (143 + (27 * (V3 603 142))) + 8) (x := 0) hB29 ⟨by decide, by decide⟩ (Or.inl (by decide))
        refine z_aload_n Q_X11_find (k := 116) rfl rfl ?_
        refine z_getR (b := 603) Q_X11_find (k := 117) rfl F_X11_13 rfl (n_ hB32.1 rfl) (k_602 hB32.1) (r_602_1 hB32.1) ?_
        refine y_sipush Q_X11_find (k := 118) rfl (by decide) ?_
        refine z_dup2 Q_X11_find (k := 119) rfl rfl rfl ?_
        refine q_iald (o := 603) (N := 594) Q_X11_find (k := 120) rfl rfl (n_ hB32.1 rfl) (k_603 hB32.1) rfl ⟨by decide, by decide⟩ (by decide) ?_
        refine y_iconst Q_X11_find (k := 121) rfl ?_
        obtain ⟨q33, h⟩ := h
        refine y_iadd Q_X11_find (k := 122) rfl ?_
        refine q_iast (o := 603) (N := 594) Q_X11_find (k := 123) rfl rfl (n_ hB32.1 rfl) (k_603 hB32.1) rfl ⟨by decide, by decide⟩ (by decide) ?_
        have hB34 := qB.u (a := 603) (j := 142) (x := ((qu (qu (qu (qu (qu (qu (qu (qu (qu V3 603 ((143 + (27 * (V3 603 142))) + 0) a1) 603 ((143 + (27 * (V3 603 142))) + 1) a2) 603 ((143 + (27 * (V3 603 142))) + 2) a3) 603 ((143 + (27 * (V3 603 142))) + 3) a4) 603 ((143 + (27 * (V3 603 142))) + 4) a5) 603 ((143 + (27 * (V3 603 142))) + 5) ((qu (qu (qu (qu (qu V3 603 ((143 + (27 * (V3 603 142))) + 0) a1) 603 ((143 + (27 * (V3 603 142))) + 1) a2) 603 ((143 + (27 * (V3 603 142))) + 2) a3) 603 ((143 + (27 * (V3 603 142))) + 3) a4) 603 ((143 + (27 * (V3 603 142))) + 4) a5) 603 20)) 603 ((143 + (27 * (V3 603 142))) + 6) 0) 603 ((143 + (27 * (V3 603 142))) + 7) (-1)) 603 ((143 + (27 * (V3 603 142))) + 8) 0) 603 142) + 1) hB32 q33 (Or.inl (by decide))
        refine z_aload_n Q_X11_find (k := 124) rfl rfl ?_
        refine z_getR (b := 603) Q_X11_find (k := 125) rfl F_X11_13 rfl (n_ hB34.1 rfl) (k_602 hB34.1) (r_602_1 hB34.1) ?_
        refine y_sipush Q_X11_find (k := 126) rfl (by decide) ?_
        refine q_iald (o := 603) (N := 594) Q_X11_find (k := 127) rfl rfl (n_ hB34.1 rfl) (k_603 hB34.1) rfl ⟨by decide, by decide⟩ (by decide) ?_
        refine y_iconst Q_X11_find (k := 128) rfl ?_
        obtain ⟨q35, h⟩ := h
        refine y_isub Q_X11_find (k := 129) rfl ?_
        exact y_iret Q_X11_find (k := 130) rfl rfl (qI_iV hB34 q35 h)
      · replace h := h.1 c
        refine y_iconst Q_X11_find (k := 39) rfl ?_
        exact y_iret Q_X11_find (k := 40) rfl rfl (qI_iV hB3 ⟨by decide, by decide⟩ h)
    · replace h := h.1 c
      refine y_iconst Q_X11_find (k := 31) rfl ?_
      exact y_iret Q_X11_find (k := 32) rfl rfl (qI_iV hB3 ⟨by decide, by decide⟩ h)
  · replace h := h.2 c
    refine z_iload_n Q_X11_find (k := 9) rfl rfl ?_
    refine q_callS1_z Q_X11_find (k := 10) rfl rfl K_X11_isPlace S_X11_isPlace L_X11_227 (Nat.le_of_ble_eq_true rfl) (Nat.le_of_ble_eq_true rfl) rfl (Nat.zero_le _) (Nat.zero_le _) (w_X11_isPlace d hB1 z2 h) (fun r36 hz36 hb36 h => ?_)
    refine y_if_eq 56 Q_X11_find (k := 11) rfl (by decide) hz36 (fun c => ?_) (fun c => ?_)
    · replace h := h.1 c
      refine y_iconst Q_X11_find (k := 27) rfl ?_
      refine y_iconst Q_X11_find (k := 28) rfl ?_
      refine q_callV2_zV Q_X11_find (k := 29) rfl rfl K_X11_may V_X11_may L_X11_187 (n_ hB1.1 rfl) (k_602 hB1.1) (Nat.le_of_ble_eq_true rfl) (Nat.le_of_ble_eq_true rfl) rfl (Nat.zero_le _) (Nat.zero_le _) (w_X11_may (d + 1) hB1 ⟨by decide, by decide⟩ (Or.inl rfl) ⟨by decide, by decide⟩ h) (fun r37 V37 hB37 hz37 hb37 h => ?_)
      refine y_if_ne 66 Q_X11_find (k := 30) rfl (by decide) hz37 (fun c => ?_) (fun c => ?_)
      · replace h := h.2 c
        refine z_aload_n Q_X11_find (k := 33) rfl rfl ?_
        refine z_getR (b := 603) Q_X11_find (k := 34) rfl F_X11_13 rfl (n_ hB37.1 rfl) (k_602 hB37.1) (r_602_1 hB37.1) ?_
        refine y_sipush Q_X11_find (k := 35) rfl (by decide) ?_
        refine q_iald (o := 603) (N := 594) Q_X11_find (k := 36) rfl rfl (n_ hB37.1 rfl) (k_603 hB37.1) rfl ⟨by decide, by decide⟩ (by decide) ?_
        refine y_bipush Q_X11_find (k := 37) rfl (by decide) ?_
        refine y_icmp_ne 81 Q_X11_find (k := 38) rfl (by decide) (hB37.2.1 _ _) ⟨by decide, by decide⟩ (fun c => ?_) (fun c => ?_)
        · replace h := h.2 c
          refine y_sipush Q_X11_find (k := 41) rfl (by decide) ?_
          refine y_bipush Q_X11_find (k := 42) rfl (by decide) ?_
          refine z_aload_n Q_X11_find (k := 43) rfl rfl ?_
          refine z_getR (b := 603) Q_X11_find (k := 44) rfl F_X11_13 rfl (n_ hB37.1 rfl) (k_602 hB37.1) (r_602_1 hB37.1) ?_
          refine y_sipush Q_X11_find (k := 45) rfl (by decide) ?_
          refine q_iald (o := 603) (N := 594) Q_X11_find (k := 46) rfl rfl (n_ hB37.1 rfl) (k_603 hB37.1) rfl ⟨by decide, by decide⟩ (by decide) ?_
          obtain ⟨q38, h⟩ := h
          refine y_imul Q_X11_find (k := 47) rfl ?_
          obtain ⟨q39, h⟩ := h
          refine y_iadd Q_X11_find (k := 48) rfl ?_
          refine y_istore (L' := [some (.ref 602), some (.int (iI a1)), some (.int (iI a2)), some (.int (iI a3)), some (.int (iI a4)), some (.int (iI a5)), some (.int (iI (143 + (27 * (V37 603 142)))))]) Q_X11_find (k := 49) rfl (by decide) rfl ?_
          refine z_aload_n Q_X11_find (k := 50) rfl rfl ?_
          refine z_getR (b := 603) Q_X11_find (k := 51) rfl F_X11_13 rfl (n_ hB37.1 rfl) (k_602 hB37.1) (r_602_1 hB37.1) ?_
          refine z_iload Q_X11_find (k := 52) rfl rfl ?_
          refine y_iconst Q_X11_find (k := 53) rfl ?_
          obtain ⟨q40, h⟩ := h
          refine y_iadd Q_X11_find (k := 54) rfl ?_
          refine z_iload_n Q_X11_find (k := 55) rfl rfl ?_
          obtain ⟨q41, h⟩ := h
          refine q_iast (o := 603) (N := 594) Q_X11_find (k := 56) rfl rfl (n_ hB37.1 rfl) (k_603 hB37.1) rfl q41 (by decide) ?_
          have hB42 := qB.u (a := 603) (j := (143 + (27 * (V37 603 142))) + 0) (x := a1) hB37 z1 (Or.inl (by decide))
          refine z_aload_n Q_X11_find (k := 57) rfl rfl ?_
          refine z_getR (b := 603) Q_X11_find (k := 58) rfl F_X11_13 rfl (n_ hB42.1 rfl) (k_602 hB42.1) (r_602_1 hB42.1) ?_
          refine z_iload Q_X11_find (k := 59) rfl rfl ?_
          refine y_iconst Q_X11_find (k := 60) rfl ?_
          obtain ⟨q43, h⟩ := h
          refine y_iadd Q_X11_find (k := 61) rfl ?_
          refine z_iload_n Q_X11_find (k := 62) rfl rfl ?_
          obtain ⟨q44, h⟩ := h
          refine q_iast (o := 603) (N := 594) Q_X11_find (k := 63) rfl rfl (n_ hB42.1 rfl) (k_603 hB42.1) rfl q44 (by decide) ?_
          have hB45 := qB.u (a := 603) (j := (143 + (27 * (V37 603 142))) + 1) (x := a2) hB42 z2 (Or.inl (by decide))
          refine z_aload_n Q_X11_find (k := 64) rfl rfl ?_
          refine z_getR (b := 603) Q_X11_find (k := 65) rfl F_X11_13 rfl (n_ hB45.1 rfl) (k_602 hB45.1) (r_602_1 hB45.1) ?_
          refine z_iload Q_X11_find (k := 66) rfl rfl ?_
          refine y_iconst Q_X11_find (k := 67) rfl ?_
          obtain ⟨q46, h⟩ := h
          refine y_iadd Q_X11_find (k := 68) rfl ?_
          refine z_iload_n Q_X11_find (k := 69) rfl rfl ?_
          obtain ⟨q47, h⟩ := h
          refine q_iast (o := 603) (N := 594) Q_X11_find (k := 70) rfl rfl (n_ hB45.1 rfl) (k_603 hB45.1) rfl q47 (by decide) ?_
          have hB48 := qB.u (a := 603) (j := (143 + (27 * (V37 603 142))) + 2) (x := a3) hB45 z3 (Or.inl (by decide))
          refine z_aload_n Q_X11_find (k := 71) rfl rfl ?_
          refine z_getR (b := 603) Q_X11_find (k := 72) rfl F_X11_13 rfl (n_ hB48.1 rfl) (k_602 hB48.1) (r_602_1 hB48.1) ?_
          refine z_iload Q_X11_find (k := 73) rfl rfl ?_
          refine y_iconst Q_X11_find (k := 74) rfl ?_
          obtain ⟨q49, h⟩ := h
          refine y_iadd Q_X11_find (k := 75) rfl ?_
          refine z_iload Q_X11_find (k := 76) rfl rfl ?_
          obtain ⟨q50, h⟩ := h
          refine q_iast (o := 603) (N := 594) Q_X11_find (k := 77) rfl rfl (n_ hB48.1 rfl) (k_603 hB48.1) rfl q50 (by decide) ?_
          have hB51 := qB.u (a := 603) (j := (143 + (27 * (V37 603 142))) + 3) (x := a4) hB48 z4 (Or.inl (by decide))
          refine z_aload_n Q_X11_find (k := 78) rfl rfl ?_
          refine z_getR (b := 603) Q_X11_find (k := 79) rfl F_X11_13 rfl (n_ hB51.1 rfl) (k_602 hB51.1) (r_602_1 hB51.1) ?_
          refine z_iload Q_X11_find (k := 80) rfl rfl ?_
          refine y_iconst Q_X11_find (k := 81) rfl ?_
          obtain ⟨q52, h⟩ := h
          refine y_iadd Q_X11_find (k := 82) rfl ?_
          refine z_iload Q_X11_find (k := 83) rfl rfl ?_
          obtain ⟨q53, h⟩ := h
          refine q_iast (o := 603) (N := 594) Q_X11_find (k := 84) rfl rfl (n_ hB51.1 rfl) (k_603 hB51.1) rfl q53 (by decide) ?_
          have hB54 := qB.u (a := 603) (j := (143 + (27 * (V37 603 142))) + 4) (x := a5) hB51 z5 (Or.inl (by decide))
          refine z_aload_n Q_X11_find (k := 85) rfl rfl ?_
          refine z_getR (b := 603) Q_X11_find (k := 86) rfl F_X11_13 rfl (n_ hB54.1 rfl) (k_602 hB54.1) (r_602_1 hB54.1) ?_
          refine z_iload Q_X11_find (k := 87) rfl rfl ?_
          refine y_iconst Q_X11_find (k := 88) rfl ?_
          obtain ⟨q55, h⟩ := h
          refine y_iadd Q_X11_find (k := 89) rfl ?_
          refine z_aload_n Q_X11_find (k := 90) rfl rfl ?_
          refine z_getR (b := 603) Q_X11_find (k := 91) rfl F_X11_13 rfl (n_ hB54.1 rfl) (k_602 hB54.1) (r_602_1 hB54.1) ?_
          refine y_bipush Q_X11_find (k := 92) rfl (by decide) ?_
          refine q_iald (o := 603) (N := 594) Q_X11_find (k := 93) rfl rfl (n_ hB54.1 rfl) (k_603 hB54.1) rfl ⟨by decide, by decide⟩ (by decide) ?_
          obtain ⟨q56, h⟩ := h
          refine q_iast (o := 603) (N := 594) Q_X11_find (k := 94) rfl rfl (n_ hB54.1 rfl) (k_603 hB54.1) rfl q56 (by decide) ?_
          have hB57 := qB.u (a := 603) (j := (143 + (27 * (V37 603 142))) + 5) (x := (qu (qu (qu (qu (qu V37 603 ((143 + (27 * (V37 603 142))) + 0) a1) 603 ((143 + (27 * (V37 603 142))) + 1) a2) 603 ((143 + (27 * (V37 603 142))) + 2) a3) 603 ((143 + (27 * (V37 603 142))) + 3) a4) 603 ((143 + (27 * (V37 603 142))) + 4) a5) 603 20) hB54 (hB54.2.1 _ _) (Or.inl (by decide))
          refine z_aload_n Q_X11_find (k := 95) rfl rfl ?_
          refine z_getR (b := 603) Q_X11_find (k := 96) rfl F_X11_13 rfl (n_ hB57.1 rfl) (k_602 hB57.1) (r_602_1 hB57.1) ?_
          refine z_iload Q_X11_find (k := 97) rfl rfl ?_
          refine y_bipush Q_X11_find (k := 98) rfl (by decide) ?_
          obtain ⟨q58, h⟩ := h
          refine y_iadd Q_X11_find (k := 99) rfl ?_
          refine y_iconst Q_X11_find (k := 100) rfl ?_
          obtain ⟨q59, h⟩ := h
          refine q_iast (o := 603) (N := 594) Q_X11_find (k := 101) rfl rfl (n_ hB57.1 rfl) (k_603 hB57.1) rfl q59 (by decide) ?_
          have hB60 := qB.u (a := 603) (j := (143 + (27 * (V37 603 142))) + 6) (x := 0) hB57 ⟨by decide, by decide⟩ (Or.inl (by decide))
          refine z_aload_n Q_X11_find (k := 102) rfl rfl ?_
          refine z_getR (b := 603) Q_X11_find (k := 103) rfl F_X11_13 rfl (n_ hB60.1 rfl) (k_602 hB60.1) (r_602_1 hB60.1) ?_
          refine z_iload Q_X11_find (k := 104) rfl rfl ?_
          refine y_bipush Q_X11_find (k := 105) rfl (by decide) ?_
          obtain ⟨q61, h⟩ := h
          refine y_iadd Q_X11_find (k := 106) rfl ?_
          refine y_iconst Q_X11_find (k := 107) rfl ?_
          obtain ⟨q62, h⟩ := h
          refine q_iast (o := 603) (N := 594) Q_X11_find (k := 108) rfl rfl (n_ hB60.1 rfl) (k_603 hB60.1) rfl q62 (by decide) ?_
          have hB63 := qB.u (a := 603) (j := (143 + (27 * (V37 603 142))) + 7) (x := (-1)) hB60 ⟨by decide, by decide⟩ (Or.inl (by decide))
          refine z_aload_n Q_X11_find (k := 109) rfl rfl ?_
          refine z_getR (b := 603) Q_X11_find (k := 110) rfl F_X11_13 rfl (n_ hB63.1 rfl) (k_602 hB63.1) (r_602_1 hB63.1) ?_
          refine z_iload Q_X11_find (k := 111) rfl rfl ?_
          refine y_bipush Q_X11_find (k := 112) rfl (by decide) ?_
          obtain ⟨q64, h⟩ := h
          refine y_iadd Q_X11_find (k := 113) rfl ?_
          refine y_iconst Q_X11_find (k := 114) rfl ?_
          obtain ⟨q65, h⟩ := h
          refine q_iast (o := 603) (N := 594) Q_X11_find (k := 115) rfl rfl (n_ hB63.1 rfl) (k_603 hB63.1) rfl q65 (by decide) ?_
          have hB66 := qB.u (a := 603) (j := (143 + (27 * (V37 603 142))) + 8) (x := 0) hB63 ⟨by decide, by decide⟩ (Or.inl (by decide))
          refine z_aload_n Q_X11_find (k := 116) rfl rfl ?_
          refine z_getR (b := 603) Q_X11_find (k := 117) rfl F_X11_13 rfl (n_ hB66.1 rfl) (k_602 hB66.1) (r_602_1 hB66.1) ?_
          refine y_sipush Q_X11_find (k := 118) rfl (by decide) ?_
          refine z_dup2 Q_X11_find (k := 119) rfl rfl rfl ?_
          refine q_iald (o := 603) (N := 594) Q_X11_find (k := 120) rfl rfl (n_ hB66.1 rfl) (k_603 hB66.1) rfl ⟨by decide, by decide⟩ (by decide) ?_
          refine y_iconst Q_X11_find (k := 121) rfl ?_
          obtain ⟨q67, h⟩ := h
          refine y_iadd Q_X11_find (k := 122) rfl ?_
          refine q_iast (o := 603) (N := 594) Q_X11_find (k := 123) rfl rfl (n_ hB66.1 rfl) (k_603 hB66.1) rfl ⟨by decide, by decide⟩ (by decide) ?_
          have hB68 := qB.u (a := 603) (j := 142) (x := ((qu (qu (qu (qu (qu (qu (qu (qu (qu V37 603 ((143 + (27 * (V37 603 142))) + 0) a1) 603 ((143 + (27 * (V37 603 142))) + 1) a2) 603 ((143 + (27 * (V37 603 142))) + 2) a3) 603 ((143 + (27 * (V37 603 142))) + 3) a4) 603 ((143 + (27 * (V37 603 142))) + 4) a5) 603 ((143 + (27 * (V37 603 142))) + 5) ((qu (qu (qu (qu (qu V37 603 ((143 + (27 * (V37 603 142))) + 0) a1) 603 ((143 + (27 * (V37 603 142))) + 1) a2) 603 ((143 + (27 * (V37 603 142))) + 2) a3) 603 ((143 + (27 * (V37 603 142))) + 3) a4) 603 ((143 + (27 * (V37 603 142))) + 4) a5) 603 20)) 603 ((143 + (27 * (V37 603 142))) + 6) 0) 603 ((143 + (27 * (V37 603 142))) + 7) (-1)) 603 ((143 + (27 * (V37 603 142))) + 8) 0) 603 142) + 1) hB66 q67 (Or.inl (by decide))
          refine z_aload_n Q_X11_find (k := 124) rfl rfl ?_
          refine z_getR (b := 603) Q_X11_find (k := 125) rfl F_X11_13 rfl (n_ hB68.1 rfl) (k_602 hB68.1) (r_602_1 hB68.1) ?_
          refine y_sipush Q_X11_find (k := 126) rfl (by decide) ?_
          refine q_iald (o := 603) (N := 594) Q_X11_find (k := 127) rfl rfl (n_ hB68.1 rfl) (k_603 hB68.1) rfl ⟨by decide, by decide⟩ (by decide) ?_
          refine y_iconst Q_X11_find (k := 128) rfl ?_
          obtain ⟨q69, h⟩ := h
          refine y_isub Q_X11_find (k := 129) rfl ?_
          exact y_iret Q_X11_find (k := 130) rfl rfl (qI_iV hB68 q69 h)
        · replace h := h.1 c
          refine y_iconst Q_X11_find (k := 39) rfl ?_
          exact y_iret Q_X11_find (k := 40) rfl rfl (qI_iV hB37 ⟨by decide, by decide⟩ h)
      · replace h := h.1 c
        refine y_iconst Q_X11_find (k := 31) rfl ?_
        exact y_iret Q_X11_find (k := 32) rfl rfl (qI_iV hB37 ⟨by decide, by decide⟩ h)
    · replace h := h.2 c
      refine z_iload_n Q_X11_find (k := 12) rfl rfl ?_
      refine y_iconst Q_X11_find (k := 13) rfl ?_
      refine y_sipush Q_X11_find (k := 14) rfl (by decide) ?_
      refine q_callS3_z Q_X11_find (k := 15) rfl rfl K_X11_within S_X11_within L_X11_207 (Nat.le_of_ble_eq_true rfl) (Nat.le_of_ble_eq_true rfl) rfl (Nat.zero_le _) (Nat.zero_le _) (w_X11_within (d + 1) hB1 z3 ⟨by decide, by decide⟩ ⟨by decide, by decide⟩ h) (fun r70 hz70 hb70 h => ?_)
      refine y_if_eq 56 Q_X11_find (k := 16) rfl (by decide) hz70 (fun c => ?_) (fun c => ?_)
      · replace h := h.1 c
        refine y_iconst Q_X11_find (k := 27) rfl ?_
        refine y_iconst Q_X11_find (k := 28) rfl ?_
        refine q_callV2_zV Q_X11_find (k := 29) rfl rfl K_X11_may V_X11_may L_X11_187 (n_ hB1.1 rfl) (k_602 hB1.1) (Nat.le_of_ble_eq_true rfl) (Nat.le_of_ble_eq_true rfl) rfl (Nat.zero_le _) (Nat.zero_le _) (w_X11_may (d + 1) hB1 ⟨by decide, by decide⟩ (Or.inl rfl) ⟨by decide, by decide⟩ h) (fun r71 V71 hB71 hz71 hb71 h => ?_)
        refine y_if_ne 66 Q_X11_find (k := 30) rfl (by decide) hz71 (fun c => ?_) (fun c => ?_)
        · replace h := h.2 c
          refine z_aload_n Q_X11_find (k := 33) rfl rfl ?_
          refine z_getR (b := 603) Q_X11_find (k := 34) rfl F_X11_13 rfl (n_ hB71.1 rfl) (k_602 hB71.1) (r_602_1 hB71.1) ?_
          refine y_sipush Q_X11_find (k := 35) rfl (by decide) ?_
          refine q_iald (o := 603) (N := 594) Q_X11_find (k := 36) rfl rfl (n_ hB71.1 rfl) (k_603 hB71.1) rfl ⟨by decide, by decide⟩ (by decide) ?_
          refine y_bipush Q_X11_find (k := 37) rfl (by decide) ?_
          refine y_icmp_ne 81 Q_X11_find (k := 38) rfl (by decide) (hB71.2.1 _ _) ⟨by decide, by decide⟩ (fun c => ?_) (fun c => ?_)
          · replace h := h.2 c
            refine y_sipush Q_X11_find (k := 41) rfl (by decide) ?_
            refine y_bipush Q_X11_find (k := 42) rfl (by decide) ?_
            refine z_aload_n Q_X11_find (k := 43) rfl rfl ?_
            refine z_getR (b := 603) Q_X11_find (k := 44) rfl F_X11_13 rfl (n_ hB71.1 rfl) (k_602 hB71.1) (r_602_1 hB71.1) ?_
            refine y_sipush Q_X11_find (k := 45) rfl (by decide) ?_
            refine q_iald (o := 603) (N := 594) Q_X11_find (k := 46) rfl rfl (n_ hB71.1 rfl) (k_603 hB71.1) rfl ⟨by decide, by decide⟩ (by decide) ?_
            obtain ⟨q72, h⟩ := h
            refine y_imul Q_X11_find (k := 47) rfl ?_
            obtain ⟨q73, h⟩ := h
            refine y_iadd Q_X11_find (k := 48) rfl ?_
            refine y_istore (L' := [some (.ref 602), some (.int (iI a1)), some (.int (iI a2)), some (.int (iI a3)), some (.int (iI a4)), some (.int (iI a5)), some (.int (iI (143 + (27 * (V71 603 142)))))]) Q_X11_find (k := 49) rfl (by decide) rfl ?_
            refine z_aload_n Q_X11_find (k := 50) rfl rfl ?_
            refine z_getR (b := 603) Q_X11_find (k := 51) rfl F_X11_13 rfl (n_ hB71.1 rfl) (k_602 hB71.1) (r_602_1 hB71.1) ?_
            refine z_iload Q_X11_find (k := 52) rfl rfl ?_
            refine y_iconst Q_X11_find (k := 53) rfl ?_
            obtain ⟨q74, h⟩ := h
            refine y_iadd Q_X11_find (k := 54) rfl ?_
            refine z_iload_n Q_X11_find (k := 55) rfl rfl ?_
            obtain ⟨q75, h⟩ := h
            refine q_iast (o := 603) (N := 594) Q_X11_find (k := 56) rfl rfl (n_ hB71.1 rfl) (k_603 hB71.1) rfl q75 (by decide) ?_
            have hB76 := qB.u (a := 603) (j := (143 + (27 * (V71 603 142))) + 0) (x := a1) hB71 z1 (Or.inl (by decide))
            refine z_aload_n Q_X11_find (k := 57) rfl rfl ?_
            refine z_getR (b := 603) Q_X11_find (k := 58) rfl F_X11_13 rfl (n_ hB76.1 rfl) (k_602 hB76.1) (r_602_1 hB76.1) ?_
            refine z_iload Q_X11_find (k := 59) rfl rfl ?_
            refine y_iconst Q_X11_find (k := 60) rfl ?_
            obtain ⟨q77, h⟩ := h
            refine y_iadd Q_X11_find (k := 61) rfl ?_
            refine z_iload_n Q_X11_find (k := 62) rfl rfl ?_
            obtain ⟨q78, h⟩ := h
            refine q_iast (o := 603) (N := 594) Q_X11_find (k := 63) rfl rfl (n_ hB76.1 rfl) (k_603 hB76.1) rfl q78 (by decide) ?_
            have hB79 := qB.u (a := 603) (j := (143 + (27 * (V71 603 142))) + 1) (x := a2) hB76 z2 (Or.inl (by decide))
            refine z_aload_n Q_X11_find (k := 64) rfl rfl ?_
            refine z_getR (b := 603) Q_X11_find (k := 65) rfl F_X11_13 rfl (n_ hB79.1 rfl) (k_602 hB79.1) (r_602_1 hB79.1) ?_
            refine z_iload Q_X11_find (k := 66) rfl rfl ?_
            refine y_iconst Q_X11_find (k := 67) rfl ?_
            obtain ⟨q80, h⟩ := h
            refine y_iadd Q_X11_find (k := 68) rfl ?_
            refine z_iload_n Q_X11_find (k := 69) rfl rfl ?_
            obtain ⟨q81, h⟩ := h
            refine q_iast (o := 603) (N := 594) Q_X11_find (k := 70) rfl rfl (n_ hB79.1 rfl) (k_603 hB79.1) rfl q81 (by decide) ?_
            have hB82 := qB.u (a := 603) (j := (143 + (27 * (V71 603 142))) + 2) (x := a3) hB79 z3 (Or.inl (by decide))
            refine z_aload_n Q_X11_find (k := 71) rfl rfl ?_
            refine z_getR (b := 603) Q_X11_find (k := 72) rfl F_X11_13 rfl (n_ hB82.1 rfl) (k_602 hB82.1) (r_602_1 hB82.1) ?_
            refine z_iload Q_X11_find (k := 73) rfl rfl ?_
            refine y_iconst Q_X11_find (k := 74) rfl ?_
            obtain ⟨q83, h⟩ := h
            refine y_iadd Q_X11_find (k := 75) rfl ?_
            refine z_iload Q_X11_find (k := 76) rfl rfl ?_
            obtain ⟨q84, h⟩ := h
            refine q_iast (o := 603) (N := 594) Q_X11_find (k := 77) rfl rfl (n_ hB82.1 rfl) (k_603 hB82.1) rfl q84 (by decide) ?_
            have hB85 := qB.u (a := 603) (j := (143 + (27 * (V71 603 142))) + 3) (x := a4) hB82 z4 (Or.inl (by decide))
            refine z_aload_n Q_X11_find (k := 78) rfl rfl ?_
            refine z_getR (b := 603) Q_X11_find (k := 79) rfl F_X11_13 rfl (n_ hB85.1 rfl) (k_602 hB85.1) (r_602_1 hB85.1) ?_
            refine z_iload Q_X11_find (k := 80) rfl rfl ?_
            refine y_iconst Q_X11_find (k := 81) rfl ?_
            obtain ⟨q86, h⟩ := h
            refine y_iadd Q_X11_find (k := 82) rfl ?_
            refine z_iload Q_X11_find (k := 83) rfl rfl ?_
            obtain ⟨q87, h⟩ := h
            refine q_iast (o := 603) (N := 594) Q_X11_find (k := 84) rfl rfl (n_ hB85.1 rfl) (k_603 hB85.1) rfl q87 (by decide) ?_
            have hB88 := qB.u (a := 603) (j := (143 + (27 * (V71 603 142))) + 4) (x := a5) hB85 z5 (Or.inl (by decide))
            refine z_aload_n Q_X11_find (k := 85) rfl rfl ?_
            refine z_getR (b := 603) Q_X11_find (k := 86) rfl F_X11_13 rfl (n_ hB88.1 rfl) (k_602 hB88.1) (r_602_1 hB88.1) ?_
            refine z_iload Q_X11_find (k := 87) rfl rfl ?_
            refine y_iconst Q_X11_find (k := 88) rfl ?_
            obtain ⟨q89, h⟩ := h
            refine y_iadd Q_X11_find (k := 89) rfl ?_
            refine z_aload_n Q_X11_find (k := 90) rfl rfl ?_
            refine z_getR (b := 603) Q_X11_find (k := 91) rfl F_X11_13 rfl (n_ hB88.1 rfl) (k_602 hB88.1) (r_602_1 hB88.1) ?_
            refine y_bipush Q_X11_find (k := 92) rfl (by decide) ?_
            refine q_iald (o := 603) (N := 594) Q_X11_find (k := 93) rfl rfl (n_ hB88.1 rfl) (k_603 hB88.1) rfl ⟨by decide, by decide⟩ (by decide) ?_
            obtain ⟨q90, h⟩ := h
            refine q_iast (o := 603) (N := 594) Q_X11_find (k := 94) rfl rfl (n_ hB88.1 rfl) (k_603 hB88.1) rfl q90 (by decide) ?_
            have hB91 := qB.u (a := 603) (j := (143 + (27 * (V71 603 142))) + 5) (x := (qu (qu (qu (qu (qu V71 603 ((143 + (27 * (V71 603 142))) + 0) a1) 603 ((143 + (27 * (V71 603 142))) + 1) a2) 603 ((143 + (27 * (V71 603 142))) + 2) a3) 603 ((143 + (27 * (V71 603 142))) + 3) a4) 603 ((143 + (27 * (V71 603 142))) + 4) a5) 603 20) hB88 (hB88.2.1 _ _) (Or.inl (by decide))
            refine z_aload_n Q_X11_find (k := 95) rfl rfl ?_
            refine z_getR (b := 603) Q_X11_find (k := 96) rfl F_X11_13 rfl (n_ hB91.1 rfl) (k_602 hB91.1) (r_602_1 hB91.1) ?_
            refine z_iload Q_X11_find (k := 97) rfl rfl ?_
            refine y_bipush Q_X11_find (k := 98) rfl (by decide) ?_
            obtain ⟨q92, h⟩ := h
            refine y_iadd Q_X11_find (k := 99) rfl ?_
            refine y_iconst Q_X11_find (k := 100) rfl ?_
            obtain ⟨q93, h⟩ := h
            refine q_iast (o := 603) (N := 594) Q_X11_find (k := 101) rfl rfl (n_ hB91.1 rfl) (k_603 hB91.1) rfl q93 (by decide) ?_
            have hB94 := qB.u (a := 603) (j := (143 + (27 * (V71 603 142))) + 6) (x := 0) hB91 ⟨by decide, by decide⟩ (Or.inl (by decide))
            refine z_aload_n Q_X11_find (k := 102) rfl rfl ?_
            refine z_getR (b := 603) Q_X11_find (k := 103) rfl F_X11_13 rfl (n_ hB94.1 rfl) (k_602 hB94.1) (r_602_1 hB94.1) ?_
            refine z_iload Q_X11_find (k := 104) rfl rfl ?_
            refine y_bipush Q_X11_find (k := 105) rfl (by decide) ?_
            obtain ⟨q95, h⟩ := h
            refine y_iadd Q_X11_find (k := 106) rfl ?_
            refine y_iconst Q_X11_find (k := 107) rfl ?_
            obtain ⟨q96, h⟩ := h
            refine q_iast (o := 603) (N := 594) Q_X11_find (k := 108) rfl rfl (n_ hB94.1 rfl) (k_603 hB94.1) rfl q96 (by decide) ?_
            have hB97 := qB.u (a := 603) (j := (143 + (27 * (V71 603 142))) + 7) (x := (-1)) hB94 ⟨by decide, by decide⟩ (Or.inl (by decide))
            refine z_aload_n Q_X11_find (k := 109) rfl rfl ?_
            refine z_getR (b := 603) Q_X11_find (k := 110) rfl F_X11_13 rfl (n_ hB97.1 rfl) (k_602 hB97.1) (r_602_1 hB97.1) ?_
            refine z_iload Q_X11_find (k := 111) rfl rfl ?_
            refine y_bipush Q_X11_find (k := 112) rfl (by decide) ?_
            obtain ⟨q98, h⟩ := h
            refine y_iadd Q_X11_find (k := 113) rfl ?_
            refine y_iconst Q_X11_find (k := 114) rfl ?_
            obtain ⟨q99, h⟩ := h
            refine q_iast (o := 603) (N := 594) Q_X11_find (k := 115) rfl rfl (n_ hB97.1 rfl) (k_603 hB97.1) rfl q99 (by decide) ?_
            have hB100 := qB.u (a := 603) (j := (143 + (27 * (V71 603 142))) + 8) (x := 0) hB97 ⟨by decide, by decide⟩ (Or.inl (by decide))
            refine z_aload_n Q_X11_find (k := 116) rfl rfl ?_
            refine z_getR (b := 603) Q_X11_find (k := 117) rfl F_X11_13 rfl (n_ hB100.1 rfl) (k_602 hB100.1) (r_602_1 hB100.1) ?_
            refine y_sipush Q_X11_find (k := 118) rfl (by decide) ?_
            refine z_dup2 Q_X11_find (k := 119) rfl rfl rfl ?_
            refine q_iald (o := 603) (N := 594) Q_X11_find (k := 120) rfl rfl (n_ hB100.1 rfl) (k_603 hB100.1) rfl ⟨by decide, by decide⟩ (by decide) ?_
            refine y_iconst Q_X11_find (k := 121) rfl ?_
            obtain ⟨q101, h⟩ := h
            refine y_iadd Q_X11_find (k := 122) rfl ?_
            refine q_iast (o := 603) (N := 594) Q_X11_find (k := 123) rfl rfl (n_ hB100.1 rfl) (k_603 hB100.1) rfl ⟨by decide, by decide⟩ (by decide) ?_
            have hB102 := qB.u (a := 603) (j := 142) (x := ((qu (qu (qu (qu (qu (qu (qu (qu (qu V71 603 ((143 + (27 * (V71 603 142))) + 0) a1) 603 ((143 + (27 * (V71 603 142))) + 1) a2) 603 ((143 + (27 * (V71 603 142))) + 2) a3) 603 ((143 + (27 * (V71 603 142))) + 3) a4) 603 ((143 + (27 * (V71 603 142))) + 4) a5) 603 ((143 + (27 * (V71 603 142))) + 5) ((qu (qu (qu (qu (qu V71 603 ((143 + (27 * (V71 603 142))) + 0) a1) 603 ((143 + (27 * (V71 603 142))) + 1) a2) 603 ((143 + (27 * (V71 603 142))) + 2) a3) 603 ((143 + (27 * (V71 603 142))) + 3) a4) 603 ((143 + (27 * (V71 603 142))) + 4) a5) 603 20)) 603 ((143 + (27 * (V71 603 142))) + 6) 0) 603 ((143 + (27 * (V71 603 142))) + 7) (-1)) 603 ((143 + (27 * (V71 603 142))) + 8) 0) 603 142) + 1) hB100 q101 (Or.inl (by decide))
            refine z_aload_n Q_X11_find (k := 124) rfl rfl ?_
            refine z_getR (b := 603) Q_X11_find (k := 125) rfl F_X11_13 rfl (n_ hB102.1 rfl) (k_602 hB102.1) (r_602_1 hB102.1) ?_
            refine y_sipush Q_X11_find (k := 126) rfl (by decide) ?_
            refine q_iald (o := 603) (N := 594) Q_X11_find (k := 127) rfl rfl (n_ hB102.1 rfl) (k_603 hB102.1) rfl ⟨by decide, by decide⟩ (by decide) ?_
            refine y_iconst Q_X11_find (k := 128) rfl ?_
            obtain ⟨q103, h⟩ := h
            refine y_isub Q_X11_find (k := 129) rfl ?_
            exact y_iret Q_X11_find (k := 130) rfl rfl (qI_iV hB102 q103 h)
          · replace h := h.1 c
            refine y_iconst Q_X11_find (k := 39) rfl ?_
            exact y_iret Q_X11_find (k := 40) rfl rfl (qI_iV hB71 ⟨by decide, by decide⟩ h)
        · replace h := h.1 c
          refine y_iconst Q_X11_find (k := 31) rfl ?_
          exact y_iret Q_X11_find (k := 32) rfl rfl (qI_iV hB71 ⟨by decide, by decide⟩ h)
      · replace h := h.2 c
        refine z_iload Q_X11_find (k := 17) rfl rfl ?_
        refine q_callS1_z Q_X11_find (k := 18) rfl rfl K_X11_isMarks S_X11_isMarks L_X11_220 (Nat.le_of_ble_eq_true rfl) (Nat.le_of_ble_eq_true rfl) rfl (Nat.zero_le _) (Nat.zero_le _) (w_X11_isMarks d hB1 z4 h) (fun r104 hz104 hb104 h => ?_)
        refine y_if_eq 56 Q_X11_find (k := 19) rfl (by decide) hz104 (fun c => ?_) (fun c => ?_)
        · replace h := h.1 c
          refine y_iconst Q_X11_find (k := 27) rfl ?_
          refine y_iconst Q_X11_find (k := 28) rfl ?_
          refine q_callV2_zV Q_X11_find (k := 29) rfl rfl K_X11_may V_X11_may L_X11_187 (n_ hB1.1 rfl) (k_602 hB1.1) (Nat.le_of_ble_eq_true rfl) (Nat.le_of_ble_eq_true rfl) rfl (Nat.zero_le _) (Nat.zero_le _) (w_X11_may (d + 1) hB1 ⟨by decide, by decide⟩ (Or.inl rfl) ⟨by decide, by decide⟩ h) (fun r105 V105 hB105 hz105 hb105 h => ?_)
          refine y_if_ne 66 Q_X11_find (k := 30) rfl (by decide) hz105 (fun c => ?_) (fun c => ?_)
          · replace h := h.2 c
            refine z_aload_n Q_X11_find (k := 33) rfl rfl ?_
            refine z_getR (b := 603) Q_X11_find (k := 34) rfl F_X11_13 rfl (n_ hB105.1 rfl) (k_602 hB105.1) (r_602_1 hB105.1) ?_
            refine y_sipush Q_X11_find (k := 35) rfl (by decide) ?_
            refine q_iald (o := 603) (N := 594) Q_X11_find (k := 36) rfl rfl (n_ hB105.1 rfl) (k_603 hB105.1) rfl ⟨by decide, by decide⟩ (by decide) ?_
            refine y_bipush Q_X11_find (k := 37) rfl (by decide) ?_
            refine y_icmp_ne 81 Q_X11_find (k := 38) rfl (by decide) (hB105.2.1 _ _) ⟨by decide, by decide⟩ (fun c => ?_) (fun c => ?_)
            · replace h := h.2 c
              refine y_sipush Q_X11_find (k := 41) rfl (by decide) ?_
              refine y_bipush Q_X11_find (k := 42) rfl (by decide) ?_
              refine z_aload_n Q_X11_find (k := 43) rfl rfl ?_
              refine z_getR (b := 603) Q_X11_find (k := 44) rfl F_X11_13 rfl (n_ hB105.1 rfl) (k_602 hB105.1) (r_602_1 hB105.1) ?_
              refine y_sipush Q_X11_find (k := 45) rfl (by decide) ?_
              refine q_iald (o := 603) (N := 594) Q_X11_find (k := 46) rfl rfl (n_ hB105.1 rfl) (k_603 hB105.1) rfl ⟨by decide, by decide⟩ (by decide) ?_
              obtain ⟨q106, h⟩ := h
              refine y_imul Q_X11_find (k := 47) rfl ?_
              obtain ⟨q107, h⟩ := h
              refine y_iadd Q_X11_find (k := 48) rfl ?_
              refine y_istore (L' := [some (.ref 602), some (.int (iI a1)), some (.int (iI a2)), some (.int (iI a3)), some (.int (iI a4)), some (.int (iI a5)), some (.int (iI (143 + (27 * (V105 603 142)))))]) Q_X11_find (k := 49) rfl (by decide) rfl ?_
              refine z_aload_n Q_X11_find (k := 50) rfl rfl ?_
              refine z_getR (b := 603) Q_X11_find (k := 51) rfl F_X11_13 rfl (n_ hB105.1 rfl) (k_602 hB105.1) (r_602_1 hB105.1) ?_
              refine z_iload Q_X11_find (k := 52) rfl rfl ?_
              refine y_iconst Q_X11_find (k := 53) rfl ?_
              obtain ⟨q108, h⟩ := h
              refine y_iadd Q_X11_find (k := 54) rfl ?_
              refine z_iload_n Q_X11_find (k := 55) rfl rfl ?_
              obtain ⟨q109, h⟩ := h
              refine q_iast (o := 603) (N := 594) Q_X11_find (k := 56) rfl rfl (n_ hB105.1 rfl) (k_603 hB105.1) rfl q109 (by decide) ?_
              have hB110 := qB.u (a := 603) (j := (143 + (27 * (V105 603 142))) + 0) (x := a1) hB105 z1 (Or.inl (by decide))
              refine z_aload_n Q_X11_find (k := 57) rfl rfl ?_
              refine z_getR (b := 603) Q_X11_find (k := 58) rfl F_X11_13 rfl (n_ hB110.1 rfl) (k_602 hB110.1) (r_602_1 hB110.1) ?_
              refine z_iload Q_X11_find (k := 59) rfl rfl ?_
              refine y_iconst Q_X11_find (k := 60) rfl ?_
              obtain ⟨q111, h⟩ := h
              refine y_iadd Q_X11_find (k := 61) rfl ?_
              refine z_iload_n Q_X11_find (k := 62) rfl rfl ?_
              obtain ⟨q112, h⟩ := h
              refine q_iast (o := 603) (N := 594) Q_X11_find (k := 63) rfl rfl (n_ hB110.1 rfl) (k_603 hB110.1) rfl q112 (by decide) ?_
              have hB113 := qB.u (a := 603) (j := (143 + (27 * (V105 603 142))) + 1) (x := a2) hB110 z2 (Or.inl (by decide))
              refine z_aload_n Q_X11_find (k := 64) rfl rfl ?_
              refine z_getR (b := 603) Q_X11_find (k := 65) rfl F_X11_13 rfl (n_ hB113.1 rfl) (k_602 hB113.1) (r_602_1 hB113.1) ?_
              refine z_iload Q_X11_find (k := 66) rfl rfl ?_
              refine y_iconst Q_X11_find (k := 67) rfl ?_
              obtain ⟨q114, h⟩ := h
              refine y_iadd Q_X11_find (k := 68) rfl ?_
              refine z_iload_n Q_X11_find (k := 69) rfl rfl ?_
              obtain ⟨q115, h⟩ := h
              refine q_iast (o := 603) (N := 594) Q_X11_find (k := 70) rfl rfl (n_ hB113.1 rfl) (k_603 hB113.1) rfl q115 (by decide) ?_
              have hB116 := qB.u (a := 603) (j := (143 + (27 * (V105 603 142))) + 2) (x := a3) hB113 z3 (Or.inl (by decide))
              refine z_aload_n Q_X11_find (k := 71) rfl rfl ?_
              refine z_getR (b := 603) Q_X11_find (k := 72) rfl F_X11_13 rfl (n_ hB116.1 rfl) (k_602 hB116.1) (r_602_1 hB116.1) ?_
              refine z_iload Q_X11_find (k := 73) rfl rfl ?_
              refine y_iconst Q_X11_find (k := 74) rfl ?_
              obtain ⟨q117, h⟩ := h
              refine y_iadd Q_X11_find (k := 75) rfl ?_
              refine z_iload Q_X11_find (k := 76) rfl rfl ?_
              obtain ⟨q118, h⟩ := h
              refine q_iast (o := 603) (N := 594) Q_X11_find (k := 77) rfl rfl (n_ hB116.1 rfl) (k_603 hB116.1) rfl q118 (by decide) ?_
              have hB119 := qB.u (a := 603) (j := (143 + (27 * (V105 603 142))) + 3) (x := a4) hB116 z4 (Or.inl (by decide))
              refine z_aload_n Q_X11_find (k := 78) rfl rfl ?_
              refine z_getR (b := 603) Q_X11_find (k := 79) rfl F_X11_13 rfl (n_ hB119.1 rfl) (k_602 hB119.1) (r_602_1 hB119.1) ?_
              refine z_iload Q_X11_find (k := 80) rfl rfl ?_
              refine y_iconst Q_X11_find (k := 81) rfl ?_
              obtain ⟨q120, h⟩ := h
              refine y_iadd Q_X11_find (k := 82) rfl ?_
              refine z_iload Q_X11_find (k := 83) rfl rfl ?_
              obtain ⟨q121, h⟩ := h
              refine q_iast (o := 603) (N := 594) Q_X11_find (k := 84) rfl rfl (n_ hB119.1 rfl) (k_603 hB119.1) rfl q121 (by decide) ?_
              have hB122 := qB.u (a := 603) (j := (143 + (27 * (V105 603 142))) + 4) (x := a5) hB119 z5 (Or.inl (by decide))
              refine z_aload_n Q_X11_find (k := 85) rfl rfl ?_
              refine z_getR (b := 603) Q_X11_find (k := 86) rfl F_X11_13 rfl (n_ hB122.1 rfl) (k_602 hB122.1) (r_602_1 hB122.1) ?_
              refine z_iload Q_X11_find (k := 87) rfl rfl ?_
              refine y_iconst Q_X11_find (k := 88) rfl ?_
              obtain ⟨q123, h⟩ := h
              refine y_iadd Q_X11_find (k := 89) rfl ?_
              refine z_aload_n Q_X11_find (k := 90) rfl rfl ?_
              refine z_getR (b := 603) Q_X11_find (k := 91) rfl F_X11_13 rfl (n_ hB122.1 rfl) (k_602 hB122.1) (r_602_1 hB122.1) ?_
              refine y_bipush Q_X11_find (k := 92) rfl (by decide) ?_
              refine q_iald (o := 603) (N := 594) Q_X11_find (k := 93) rfl rfl (n_ hB122.1 rfl) (k_603 hB122.1) rfl ⟨by decide, by decide⟩ (by decide) ?_
              obtain ⟨q124, h⟩ := h
              refine q_iast (o := 603) (N := 594) Q_X11_find (k := 94) rfl rfl (n_ hB122.1 rfl) (k_603 hB122.1) rfl q124 (by decide) ?_
              have hB125 := qB.u (a := 603) (j := (143 + (27 * (V105 603 142))) + 5) (x := (qu (qu (qu (qu (qu V105 603 ((143 + (27 * (V105 603 142))) + 0) a1) 603 ((143 + (27 * (V105 603 142))) + 1) a2) 603 ((143 + (27 * (V105 603 142))) + 2) a3) 603 ((143 + (27 * (V105 603 142))) + 3) a4) 603 ((143 + (27 * (V105 603 142))) + 4) a5) 603 20) hB122 (hB122.2.1 _ _) (Or.inl (by decide))
              refine z_aload_n Q_X11_find (k := 95) rfl rfl ?_
              refine z_getR (b := 603) Q_X11_find (k := 96) rfl F_X11_13 rfl (n_ hB125.1 rfl) (k_602 hB125.1) (r_602_1 hB125.1) ?_
              refine z_iload Q_X11_find (k := 97) rfl rfl ?_
              refine y_bipush Q_X11_find (k := 98) rfl (by decide) ?_
              obtain ⟨q126, h⟩ := h
              refine y_iadd Q_X11_find (k := 99) rfl ?_
              refine y_iconst Q_X11_find (k := 100) rfl ?_
              obtain ⟨q127, h⟩ := h
              refine q_iast (o := 603) (N := 594) Q_X11_find (k := 101) rfl rfl (n_ hB125.1 rfl) (k_603 hB125.1) rfl q127 (by decide) ?_
              have hB128 := qB.u (a := 603) (j := (143 + (27 * (V105 603 142))) + 6) (x := 0) hB125 ⟨by decide, by decide⟩ (Or.inl (by decide))
              refine z_aload_n Q_X11_find (k := 102) rfl rfl ?_
              refine z_getR (b := 603) Q_X11_find (k := 103) rfl F_X11_13 rfl (n_ hB128.1 rfl) (k_602 hB128.1) (r_602_1 hB128.1) ?_
              refine z_iload Q_X11_find (k := 104) rfl rfl ?_
              refine y_bipush Q_X11_find (k := 105) rfl (by decide) ?_
              obtain ⟨q129, h⟩ := h
              refine y_iadd Q_X11_find (k := 106) rfl ?_
              refine y_iconst Q_X11_find (k := 107) rfl ?_
              obtain ⟨q130, h⟩ := h
              refine q_iast (o := 603) (N := 594) Q_X11_find (k := 108) rfl rfl (n_ hB128.1 rfl) (k_603 hB128.1) rfl q130 (by decide) ?_
              have hB131 := qB.u (a := 603) (j := (143 + (27 * (V105 603 142))) + 7) (x := (-1)) hB128 ⟨by decide, by decide⟩ (Or.inl (by decide))
              refine z_aload_n Q_X11_find (k := 109) rfl rfl ?_
              refine z_getR (b := 603) Q_X11_find (k := 110) rfl F_X11_13 rfl (n_ hB131.1 rfl) (k_602 hB131.1) (r_602_1 hB131.1) ?_
              refine z_iload Q_X11_find (k := 111) rfl rfl ?_
              refine y_bipush Q_X11_find (k := 112) rfl (by decide) ?_
              obtain ⟨q132, h⟩ := h
              refine y_iadd Q_X11_find (k := 113) rfl ?_
              refine y_iconst Q_X11_find (k := 114) rfl ?_
              obtain ⟨q133, h⟩ := h
              refine q_iast (o := 603) (N := 594) Q_X11_find (k := 115) rfl rfl (n_ hB131.1 rfl) (k_603 hB131.1) rfl q133 (by decide) ?_
              have hB134 := qB.u (a := 603) (j := (143 + (27 * (V105 603 142))) + 8) (x := 0) hB131 ⟨by decide, by decide⟩ (Or.inl (by decide))
              refine z_aload_n Q_X11_find (k := 116) rfl rfl ?_
              refine z_getR (b := 603) Q_X11_find (k := 117) rfl F_X11_13 rfl (n_ hB134.1 rfl) (k_602 hB134.1) (r_602_1 hB134.1) ?_
              refine y_sipush Q_X11_find (k := 118) rfl (by decide) ?_
              refine z_dup2 Q_X11_find (k := 119) rfl rfl rfl ?_
              refine q_iald (o := 603) (N := 594) Q_X11_find (k := 120) rfl rfl (n_ hB134.1 rfl) (k_603 hB134.1) rfl ⟨by decide, by decide⟩ (by decide) ?_
              refine y_iconst Q_X11_find (k := 121) rfl ?_
              obtain ⟨q135, h⟩ := h
              refine y_iadd Q_X11_find (k := 122) rfl ?_
              refine q_iast (o := 603) (N := 594) Q_X11_find (k := 123) rfl rfl (n_ hB134.1 rfl) (k_603 hB134.1) rfl ⟨by decide, by decide⟩ (by decide) ?_
              have hB136 := qB.u (a := 603) (j := 142) (x := ((qu (qu (qu (qu (qu (qu (qu (qu (qu V105 603 ((143 + (27 * (V105 603 142))) + 0) a1) 603 ((143 + (27 * (V105 603 142))) + 1) a2) 603 ((143 + (27 * (V105 603 142))) + 2) a3) 603 ((143 + (27 * (V105 603 142))) + 3) a4) 603 ((143 + (27 * (V105 603 142))) + 4) a5) 603 ((143 + (27 * (V105 603 142))) + 5) ((qu (qu (qu (qu (qu V105 603 ((143 + (27 * (V105 603 142))) + 0) a1) 603 ((143 + (27 * (V105 603 142))) + 1) a2) 603 ((143 + (27 * (V105 603 142))) + 2) a3) 603 ((143 + (27 * (V105 603 142))) + 3) a4) 603 ((143 + (27 * (V105 603 142))) + 4) a5) 603 20)) 603 ((143 + (27 * (V105 603 142))) + 6) 0) 603 ((143 + (27 * (V105 603 142))) + 7) (-1)) 603 ((143 + (27 * (V105 603 142))) + 8) 0) 603 142) + 1) hB134 q135 (Or.inl (by decide))
              refine z_aload_n Q_X11_find (k := 124) rfl rfl ?_
              refine z_getR (b := 603) Q_X11_find (k := 125) rfl F_X11_13 rfl (n_ hB136.1 rfl) (k_602 hB136.1) (r_602_1 hB136.1) ?_
              refine y_sipush Q_X11_find (k := 126) rfl (by decide) ?_
              refine q_iald (o := 603) (N := 594) Q_X11_find (k := 127) rfl rfl (n_ hB136.1 rfl) (k_603 hB136.1) rfl ⟨by decide, by decide⟩ (by decide) ?_
              refine y_iconst Q_X11_find (k := 128) rfl ?_
              obtain ⟨q137, h⟩ := h
              refine y_isub Q_X11_find (k := 129) rfl ?_
              exact y_iret Q_X11_find (k := 130) rfl rfl (qI_iV hB136 q137 h)
            · replace h := h.1 c
              refine y_iconst Q_X11_find (k := 39) rfl ?_
              exact y_iret Q_X11_find (k := 40) rfl rfl (qI_iV hB105 ⟨by decide, by decide⟩ h)
          · replace h := h.1 c
            refine y_iconst Q_X11_find (k := 31) rfl ?_
            exact y_iret Q_X11_find (k := 32) rfl rfl (qI_iV hB105 ⟨by decide, by decide⟩ h)
        · replace h := h.2 c
          refine z_iload Q_X11_find (k := 20) rfl rfl ?_
          refine y_iconst Q_X11_find (k := 21) rfl ?_
          refine y_bipush Q_X11_find (k := 22) rfl (by decide) ?_
          refine q_callS3_z Q_X11_find (k := 23) rfl rfl K_X11_within S_X11_within L_X11_207 (Nat.le_of_ble_eq_true rfl) (Nat.le_of_ble_eq_true rfl) rfl (Nat.zero_le _) (Nat.zero_le _) (w_X11_within (d + 1) hB1 z5 ⟨by decide, by decide⟩ ⟨by decide, by decide⟩ h) (fun r138 hz138 hb138 h => ?_)
          refine y_if_eq 56 Q_X11_find (k := 24) rfl (by decide) hz138 (fun c => ?_) (fun c => ?_)
          · replace h := h.1 c
            refine y_iconst Q_X11_find (k := 27) rfl ?_
            refine y_iconst Q_X11_find (k := 28) rfl ?_
            refine q_callV2_zV Q_X11_find (k := 29) rfl rfl K_X11_may V_X11_may L_X11_187 (n_ hB1.1 rfl) (k_602 hB1.1) (Nat.le_of_ble_eq_true rfl) (Nat.le_of_ble_eq_true rfl) rfl (Nat.zero_le _) (Nat.zero_le _) (w_X11_may (d + 1) hB1 ⟨by decide, by decide⟩ (Or.inl rfl) ⟨by decide, by decide⟩ h) (fun r139 V139 hB139 hz139 hb139 h => ?_)
            refine y_if_ne 66 Q_X11_find (k := 30) rfl (by decide) hz139 (fun c => ?_) (fun c => ?_)
            · replace h := h.2 c
              refine z_aload_n Q_X11_find (k := 33) rfl rfl ?_
              refine z_getR (b := 603) Q_X11_find (k := 34) rfl F_X11_13 rfl (n_ hB139.1 rfl) (k_602 hB139.1) (r_602_1 hB139.1) ?_
              refine y_sipush Q_X11_find (k := 35) rfl (by decide) ?_
              refine q_iald (o := 603) (N := 594) Q_X11_find (k := 36) rfl rfl (n_ hB139.1 rfl) (k_603 hB139.1) rfl ⟨by decide, by decide⟩ (by decide) ?_
              refine y_bipush Q_X11_find (k := 37) rfl (by decide) ?_
              refine y_icmp_ne 81 Q_X11_find (k := 38) rfl (by decide) (hB139.2.1 _ _) ⟨by decide, by decide⟩ (fun c => ?_) (fun c => ?_)
              · replace h := h.2 c
                refine y_sipush Q_X11_find (k := 41) rfl (by decide) ?_
                refine y_bipush Q_X11_find (k := 42) rfl (by decide) ?_
                refine z_aload_n Q_X11_find (k := 43) rfl rfl ?_
                refine z_getR (b := 603) Q_X11_find (k := 44) rfl F_X11_13 rfl (n_ hB139.1 rfl) (k_602 hB139.1) (r_602_1 hB139.1) ?_
                refine y_sipush Q_X11_find (k := 45) rfl (by decide) ?_
                refine q_iald (o := 603) (N := 594) Q_X11_find (k := 46) rfl rfl (n_ hB139.1 rfl) (k_603 hB139.1) rfl ⟨by decide, by decide⟩ (by decide) ?_
                obtain ⟨q140, h⟩ := h
                refine y_imul Q_X11_find (k := 47) rfl ?_
                obtain ⟨q141, h⟩ := h
                refine y_iadd Q_X11_find (k := 48) rfl ?_
                refine y_istore (L' := [some (.ref 602), some (.int (iI a1)), some (.int (iI a2)), some (.int (iI a3)), some (.int (iI a4)), some (.int (iI a5)), some (.int (iI (143 + (27 * (V139 603 142)))))]) Q_X11_find (k := 49) rfl (by decide) rfl ?_
                refine z_aload_n Q_X11_find (k := 50) rfl rfl ?_
                refine z_getR (b := 603) Q_X11_find (k := 51) rfl F_X11_13 rfl (n_ hB139.1 rfl) (k_602 hB139.1) (r_602_1 hB139.1) ?_
                refine z_iload Q_X11_find (k := 52) rfl rfl ?_
                refine y_iconst Q_X11_find (k := 53) rfl ?_
                obtain ⟨q142, h⟩ := h
                refine y_iadd Q_X11_find (k := 54) rfl ?_
                refine z_iload_n Q_X11_find (k := 55) rfl rfl ?_
                obtain ⟨q143, h⟩ := h
                refine q_iast (o := 603) (N := 594) Q_X11_find (k := 56) rfl rfl (n_ hB139.1 rfl) (k_603 hB139.1) rfl q143 (by decide) ?_
                have hB144 := qB.u (a := 603) (j := (143 + (27 * (V139 603 142))) + 0) (x := a1) hB139 z1 (Or.inl (by decide))
                refine z_aload_n Q_X11_find (k := 57) rfl rfl ?_
                refine z_getR (b := 603) Q_X11_find (k := 58) rfl F_X11_13 rfl (n_ hB144.1 rfl) (k_602 hB144.1) (r_602_1 hB144.1) ?_
                refine z_iload Q_X11_find (k := 59) rfl rfl ?_
                refine y_iconst Q_X11_find (k := 60) rfl ?_
                obtain ⟨q145, h⟩ := h
                refine y_iadd Q_X11_find (k := 61) rfl ?_
                refine z_iload_n Q_X11_find (k := 62) rfl rfl ?_
                obtain ⟨q146, h⟩ := h
                refine q_iast (o := 603) (N := 594) Q_X11_find (k := 63) rfl rfl (n_ hB144.1 rfl) (k_603 hB144.1) rfl q146 (by decide) ?_
                have hB147 := qB.u (a := 603) (j := (143 + (27 * (V139 603 142))) + 1) (x := a2) hB144 z2 (Or.inl (by decide))
                refine z_aload_n Q_X11_find (k := 64) rfl rfl ?_
                refine z_getR (b := 603) Q_X11_find (k := 65) rfl F_X11_13 rfl (n_ hB147.1 rfl) (k_602 hB147.1) (r_602_1 hB147.1) ?_
                refine z_iload Q_X11_find (k := 66) rfl rfl ?_
                refine y_iconst Q_X11_find (k := 67) rfl ?_
                obtain ⟨q148, h⟩ := h
                refine y_iadd Q_X11_find (k := 68) rfl ?_
                refine z_iload_n Q_X11_find (k := 69) rfl rfl ?_
                obtain ⟨q149, h⟩ := h
                refine q_iast (o := 603) (N := 594) Q_X11_find (k := 70) rfl rfl (n_ hB147.1 rfl) (k_603 hB147.1) rfl q149 (by decide) ?_
                have hB150 := qB.u (a := 603) (j := (143 + (27 * (V139 603 142))) + 2) (x := a3) hB147 z3 (Or.inl (by decide))
                refine z_aload_n Q_X11_find (k := 71) rfl rfl ?_
                refine z_getR (b := 603) Q_X11_find (k := 72) rfl F_X11_13 rfl (n_ hB150.1 rfl) (k_602 hB150.1) (r_602_1 hB150.1) ?_
                refine z_iload Q_X11_find (k := 73) rfl rfl ?_
                refine y_iconst Q_X11_find (k := 74) rfl ?_
                obtain ⟨q151, h⟩ := h
                refine y_iadd Q_X11_find (k := 75) rfl ?_
                refine z_iload Q_X11_find (k := 76) rfl rfl ?_
                obtain ⟨q152, h⟩ := h
                refine q_iast (o := 603) (N := 594) Q_X11_find (k := 77) rfl rfl (n_ hB150.1 rfl) (k_603 hB150.1) rfl q152 (by decide) ?_
                have hB153 := qB.u (a := 603) (j := (143 + (27 * (V139 603 142))) + 3) (x := a4) hB150 z4 (Or.inl (by decide))
                refine z_aload_n Q_X11_find (k := 78) rfl rfl ?_
                refine z_getR (b := 603) Q_X11_find (k := 79) rfl F_X11_13 rfl (n_ hB153.1 rfl) (k_602 hB153.1) (r_602_1 hB153.1) ?_
                refine z_iload Q_X11_find (k := 80) rfl rfl ?_
                refine y_iconst Q_X11_find (k := 81) rfl ?_
                obtain ⟨q154, h⟩ := h
                refine y_iadd Q_X11_find (k := 82) rfl ?_
                refine z_iload Q_X11_find (k := 83) rfl rfl ?_
                obtain ⟨q155, h⟩ := h
                refine q_iast (o := 603) (N := 594) Q_X11_find (k := 84) rfl rfl (n_ hB153.1 rfl) (k_603 hB153.1) rfl q155 (by decide) ?_
                have hB156 := qB.u (a := 603) (j := (143 + (27 * (V139 603 142))) + 4) (x := a5) hB153 z5 (Or.inl (by decide))
                refine z_aload_n Q_X11_find (k := 85) rfl rfl ?_
                refine z_getR (b := 603) Q_X11_find (k := 86) rfl F_X11_13 rfl (n_ hB156.1 rfl) (k_602 hB156.1) (r_602_1 hB156.1) ?_
                refine z_iload Q_X11_find (k := 87) rfl rfl ?_
                refine y_iconst Q_X11_find (k := 88) rfl ?_
                obtain ⟨q157, h⟩ := h
                refine y_iadd Q_X11_find (k := 89) rfl ?_
                refine z_aload_n Q_X11_find (k := 90) rfl rfl ?_
                refine z_getR (b := 603) Q_X11_find (k := 91) rfl F_X11_13 rfl (n_ hB156.1 rfl) (k_602 hB156.1) (r_602_1 hB156.1) ?_
                refine y_bipush Q_X11_find (k := 92) rfl (by decide) ?_
                refine q_iald (o := 603) (N := 594) Q_X11_find (k := 93) rfl rfl (n_ hB156.1 rfl) (k_603 hB156.1) rfl ⟨by decide, by decide⟩ (by decide) ?_
                obtain ⟨q158, h⟩ := h
                refine q_iast (o := 603) (N := 594) Q_X11_find (k := 94) rfl rfl (n_ hB156.1 rfl) (k_603 hB156.1) rfl q158 (by decide) ?_
                have hB159 := qB.u (a := 603) (j := (143 + (27 * (V139 603 142))) + 5) (x := (qu (qu (qu (qu (qu V139 603 ((143 + (27 * (V139 603 142))) + 0) a1) 603 ((143 + (27 * (V139 603 142))) + 1) a2) 603 ((143 + (27 * (V139 603 142))) + 2) a3) 603 ((143 + (27 * (V139 603 142))) + 3) a4) 603 ((143 + (27 * (V139 603 142))) + 4) a5) 603 20) hB156 (hB156.2.1 _ _) (Or.inl (by decide))
                refine z_aload_n Q_X11_find (k := 95) rfl rfl ?_
                refine z_getR (b := 603) Q_X11_find (k := 96) rfl F_X11_13 rfl (n_ hB159.1 rfl) (k_602 hB159.1) (r_602_1 hB159.1) ?_
                refine z_iload Q_X11_find (k := 97) rfl rfl ?_
                refine y_bipush Q_X11_find (k := 98) rfl (by decide) ?_
                obtain ⟨q160, h⟩ := h
                refine y_iadd Q_X11_find (k := 99) rfl ?_
                refine y_iconst Q_X11_find (k := 100) rfl ?_
                obtain ⟨q161, h⟩ := h
                refine q_iast (o := 603) (N := 594) Q_X11_find (k := 101) rfl rfl (n_ hB159.1 rfl) (k_603 hB159.1) rfl q161 (by decide) ?_
                have hB162 := qB.u (a := 603) (j := (143 + (27 * (V139 603 142))) + 6) (x := 0) hB159 ⟨by decide, by decide⟩ (Or.inl (by decide))
                refine z_aload_n Q_X11_find (k := 102) rfl rfl ?_
                refine z_getR (b := 603) Q_X11_find (k := 103) rfl F_X11_13 rfl (n_ hB162.1 rfl) (k_602 hB162.1) (r_602_1 hB162.1) ?_
                refine z_iload Q_X11_find (k := 104) rfl rfl ?_
                refine y_bipush Q_X11_find (k := 105) rfl (by decide) ?_
                obtain ⟨q163, h⟩ := h
                refine y_iadd Q_X11_find (k := 106) rfl ?_
                refine y_iconst Q_X11_find (k := 107) rfl ?_
                obtain ⟨q164, h⟩ := h
                refine q_iast (o := 603) (N := 594) Q_X11_find (k := 108) rfl rfl (n_ hB162.1 rfl) (k_603 hB162.1) rfl q164 (by decide) ?_
                have hB165 := qB.u (a := 603) (j := (143 + (27 * (V139 603 142))) + 7) (x := (-1)) hB162 ⟨by decide, by decide⟩ (Or.inl (by decide))
                refine z_aload_n Q_X11_find (k := 109) rfl rfl ?_
                refine z_getR (b := 603) Q_X11_find (k := 110) rfl F_X11_13 rfl (n_ hB165.1 rfl) (k_602 hB165.1) (r_602_1 hB165.1) ?_
                refine z_iload Q_X11_find (k := 111) rfl rfl ?_
                refine y_bipush Q_X11_find (k := 112) rfl (by decide) ?_
                obtain ⟨q166, h⟩ := h
                refine y_iadd Q_X11_find (k := 113) rfl ?_
                refine y_iconst Q_X11_find (k := 114) rfl ?_
                obtain ⟨q167, h⟩ := h
                refine q_iast (o := 603) (N := 594) Q_X11_find (k := 115) rfl rfl (n_ hB165.1 rfl) (k_603 hB165.1) rfl q167 (by decide) ?_
                have hB168 := qB.u (a := 603) (j := (143 + (27 * (V139 603 142))) + 8) (x := 0) hB165 ⟨by decide, by decide⟩ (Or.inl (by decide))
                refine z_aload_n Q_X11_find (k := 116) rfl rfl ?_
                refine z_getR (b := 603) Q_X11_find (k := 117) rfl F_X11_13 rfl (n_ hB168.1 rfl) (k_602 hB168.1) (r_602_1 hB168.1) ?_
                refine y_sipush Q_X11_find (k := 118) rfl (by decide) ?_
                refine z_dup2 Q_X11_find (k := 119) rfl rfl rfl ?_
                refine q_iald (o := 603) (N := 594) Q_X11_find (k := 120) rfl rfl (n_ hB168.1 rfl) (k_603 hB168.1) rfl ⟨by decide, by decide⟩ (by decide) ?_
                refine y_iconst Q_X11_find (k := 121) rfl ?_
                obtain ⟨q169, h⟩ := h
                refine y_iadd Q_X11_find (k := 122) rfl ?_
                refine q_iast (o := 603) (N := 594) Q_X11_find (k := 123) rfl rfl (n_ hB168.1 rfl) (k_603 hB168.1) rfl ⟨by decide, by decide⟩ (by decide) ?_
                have hB170 := qB.u (a := 603) (j := 142) (x := ((qu (qu (qu (qu (qu (qu (qu (qu (qu V139 603 ((143 + (27 * (V139 603 142))) + 0) a1) 603 ((143 + (27 * (V139 603 142))) + 1) a2) 603 ((143 + (27 * (V139 603 142))) + 2) a3) 603 ((143 + (27 * (V139 603 142))) + 3) a4) 603 ((143 + (27 * (V139 603 142))) + 4) a5) 603 ((143 + (27 * (V139 603 142))) + 5) ((qu (qu (qu (qu (qu V139 603 ((143 + (27 * (V139 603 142))) + 0) a1) 603 ((143 + (27 * (V139 603 142))) + 1) a2) 603 ((143 + (27 * (V139 603 142))) + 2) a3) 603 ((143 + (27 * (V139 603 142))) + 3) a4) 603 ((143 + (27 * (V139 603 142))) + 4) a5) 603 20)) 603 ((143 + (27 * (V139 603 142))) + 6) 0) 603 ((143 + (27 * (V139 603 142))) + 7) (-1)) 603 ((143 + (27 * (V139 603 142))) + 8) 0) 603 142) + 1) hB168 q169 (Or.inl (by decide))
                refine z_aload_n Q_X11_find (k := 124) rfl rfl ?_
                refine z_getR (b := 603) Q_X11_find (k := 125) rfl F_X11_13 rfl (n_ hB170.1 rfl) (k_602 hB170.1) (r_602_1 hB170.1) ?_
                refine y_sipush Q_X11_find (k := 126) rfl (by decide) ?_
                refine q_iald (o := 603) (N := 594) Q_X11_find (k := 127) rfl rfl (n_ hB170.1 rfl) (k_603 hB170.1) rfl ⟨by decide, by decide⟩ (by decide) ?_
                refine y_iconst Q_X11_find (k := 128) rfl ?_
                obtain ⟨q171, h⟩ := h
                refine y_isub Q_X11_find (k := 129) rfl ?_
                exact y_iret Q_X11_find (k := 130) rfl rfl (qI_iV hB170 q171 h)
              · replace h := h.1 c
                refine y_iconst Q_X11_find (k := 39) rfl ?_
                exact y_iret Q_X11_find (k := 40) rfl rfl (qI_iV hB139 ⟨by decide, by decide⟩ h)
            · replace h := h.1 c
              refine y_iconst Q_X11_find (k := 31) rfl ?_
              exact y_iret Q_X11_find (k := 32) rfl rfl (qI_iV hB139 ⟨by decide, by decide⟩ h)
          · replace h := h.2 c
            refine y_iconst Q_X11_find (k := 25) rfl ?_
            refine z_goto (tgt := 57) Q_X11_find (k := 26) rfl (by decide) ?_
            refine y_iconst Q_X11_find (k := 28) rfl ?_
            refine q_callV2_zV Q_X11_find (k := 29) rfl rfl K_X11_may V_X11_may L_X11_187 (n_ hB1.1 rfl) (k_602 hB1.1) (Nat.le_of_ble_eq_true rfl) (Nat.le_of_ble_eq_true rfl) rfl (Nat.zero_le _) (Nat.zero_le _) (w_X11_may (d + 1) hB1 ⟨by decide, by decide⟩ (Or.inr rfl) ⟨by decide, by decide⟩ h) (fun r172 V172 hB172 hz172 hb172 h => ?_)
            refine y_if_ne 66 Q_X11_find (k := 30) rfl (by decide) hz172 (fun c => ?_) (fun c => ?_)
            · replace h := h.2 c
              refine z_aload_n Q_X11_find (k := 33) rfl rfl ?_
              refine z_getR (b := 603) Q_X11_find (k := 34) rfl F_X11_13 rfl (n_ hB172.1 rfl) (k_602 hB172.1) (r_602_1 hB172.1) ?_
              refine y_sipush Q_X11_find (k := 35) rfl (by decide) ?_
              refine q_iald (o := 603) (N := 594) Q_X11_find (k := 36) rfl rfl (n_ hB172.1 rfl) (k_603 hB172.1) rfl ⟨by decide, by decide⟩ (by decide) ?_
              refine y_bipush Q_X11_find (k := 37) rfl (by decide) ?_
              refine y_icmp_ne 81 Q_X11_find (k := 38) rfl (by decide) (hB172.2.1 _ _) ⟨by decide, by decide⟩ (fun c => ?_) (fun c => ?_)
              · replace h := h.2 c
                refine y_sipush Q_X11_find (k := 41) rfl (by decide) ?_
                refine y_bipush Q_X11_find (k := 42) rfl (by decide) ?_
                refine z_aload_n Q_X11_find (k := 43) rfl rfl ?_
                refine z_getR (b := 603) Q_X11_find (k := 44) rfl F_X11_13 rfl (n_ hB172.1 rfl) (k_602 hB172.1) (r_602_1 hB172.1) ?_
                refine y_sipush Q_X11_find (k := 45) rfl (by decide) ?_
                refine q_iald (o := 603) (N := 594) Q_X11_find (k := 46) rfl rfl (n_ hB172.1 rfl) (k_603 hB172.1) rfl ⟨by decide, by decide⟩ (by decide) ?_
                obtain ⟨q173, h⟩ := h
                refine y_imul Q_X11_find (k := 47) rfl ?_
                obtain ⟨q174, h⟩ := h
                refine y_iadd Q_X11_find (k := 48) rfl ?_
                refine y_istore (L' := [some (.ref 602), some (.int (iI a1)), some (.int (iI a2)), some (.int (iI a3)), some (.int (iI a4)), some (.int (iI a5)), some (.int (iI (143 + (27 * (V172 603 142)))))]) Q_X11_find (k := 49) rfl (by decide) rfl ?_
                refine z_aload_n Q_X11_find (k := 50) rfl rfl ?_
                refine z_getR (b := 603) Q_X11_find (k := 51) rfl F_X11_13 rfl (n_ hB172.1 rfl) (k_602 hB172.1) (r_602_1 hB172.1) ?_
                refine z_iload Q_X11_find (k := 52) rfl rfl ?_
                refine y_iconst Q_X11_find (k := 53) rfl ?_
                obtain ⟨q175, h⟩ := h
                refine y_iadd Q_X11_find (k := 54) rfl ?_
                refine z_iload_n Q_X11_find (k := 55) rfl rfl ?_
                obtain ⟨q176, h⟩ := h
                refine q_iast (o := 603) (N := 594) Q_X11_find (k := 56) rfl rfl (n_ hB172.1 rfl) (k_603 hB172.1) rfl q176 (by decide) ?_
                have hB177 := qB.u (a := 603) (j := (143 + (27 * (V172 603 142))) + 0) (x := a1) hB172 z1 (Or.inl (by decide))
                refine z_aload_n Q_X11_find (k := 57) rfl rfl ?_
                refine z_getR (b := 603) Q_X11_find (k := 58) rfl F_X11_13 rfl (n_ hB177.1 rfl) (k_602 hB177.1) (r_602_1 hB177.1) ?_
                refine z_iload Q_X11_find (k := 59) rfl rfl ?_
                refine y_iconst Q_X11_find (k := 60) rfl ?_
                obtain ⟨q178, h⟩ := h
                refine y_iadd Q_X11_find (k := 61) rfl ?_
                refine z_iload_n Q_X11_find (k := 62) rfl rfl ?_
                obtain ⟨q179, h⟩ := h
                refine q_iast (o := 603) (N := 594) Q_X11_find (k := 63) rfl rfl (n_ hB177.1 rfl) (k_603 hB177.1) rfl q179 (by decide) ?_
                have hB180 := qB.u (a := 603) (j := (143 + (27 * (V172 603 142))) + 1) (x := a2) hB177 z2 (Or.inl (by decide))
                refine z_aload_n Q_X11_find (k := 64) rfl rfl ?_
                refine z_getR (b := 603) Q_X11_find (k := 65) rfl F_X11_13 rfl (n_ hB180.1 rfl) (k_602 hB180.1) (r_602_1 hB180.1) ?_
                refine z_iload Q_X11_find (k := 66) rfl rfl ?_
                refine y_iconst Q_X11_find (k := 67) rfl ?_
                obtain ⟨q181, h⟩ := h
                refine y_iadd Q_X11_find (k := 68) rfl ?_
                refine z_iload_n Q_X11_find (k := 69) rfl rfl ?_
                obtain ⟨q182, h⟩ := h
                refine q_iast (o := 603) (N := 594) Q_X11_find (k := 70) rfl rfl (n_ hB180.1 rfl) (k_603 hB180.1) rfl q182 (by decide) ?_
                have hB183 := qB.u (a := 603) (j := (143 + (27 * (V172 603 142))) + 2) (x := a3) hB180 z3 (Or.inl (by decide))
                refine z_aload_n Q_X11_find (k := 71) rfl rfl ?_
                refine z_getR (b := 603) Q_X11_find (k := 72) rfl F_X11_13 rfl (n_ hB183.1 rfl) (k_602 hB183.1) (r_602_1 hB183.1) ?_
                refine z_iload Q_X11_find (k := 73) rfl rfl ?_
                refine y_iconst Q_X11_find (k := 74) rfl ?_
                obtain ⟨q184, h⟩ := h
                refine y_iadd Q_X11_find (k := 75) rfl ?_
                refine z_iload Q_X11_find (k := 76) rfl rfl ?_
                obtain ⟨q185, h⟩ := h
                refine q_iast (o := 603) (N := 594) Q_X11_find (k := 77) rfl rfl (n_ hB183.1 rfl) (k_603 hB183.1) rfl q185 (by decide) ?_
                have hB186 := qB.u (a := 603) (j := (143 + (27 * (V172 603 142))) + 3) (x := a4) hB183 z4 (Or.inl (by decide))
                refine z_aload_n Q_X11_find (k := 78) rfl rfl ?_
                refine z_getR (b := 603) Q_X11_find (k := 79) rfl F_X11_13 rfl (n_ hB186.1 rfl) (k_602 hB186.1) (r_602_1 hB186.1) ?_
                refine z_iload Q_X11_find (k := 80) rfl rfl ?_
                refine y_iconst Q_X11_find (k := 81) rfl ?_
                obtain ⟨q187, h⟩ := h
                refine y_iadd Q_X11_find (k := 82) rfl ?_
                refine z_iload Q_X11_find (k := 83) rfl rfl ?_
                obtain ⟨q188, h⟩ := h
                refine q_iast (o := 603) (N := 594) Q_X11_find (k := 84) rfl rfl (n_ hB186.1 rfl) (k_603 hB186.1) rfl q188 (by decide) ?_
                have hB189 := qB.u (a := 603) (j := (143 + (27 * (V172 603 142))) + 4) (x := a5) hB186 z5 (Or.inl (by decide))
                refine z_aload_n Q_X11_find (k := 85) rfl rfl ?_
                refine z_getR (b := 603) Q_X11_find (k := 86) rfl F_X11_13 rfl (n_ hB189.1 rfl) (k_602 hB189.1) (r_602_1 hB189.1) ?_
                refine z_iload Q_X11_find (k := 87) rfl rfl ?_
                refine y_iconst Q_X11_find (k := 88) rfl ?_
                obtain ⟨q190, h⟩ := h
                refine y_iadd Q_X11_find (k := 89) rfl ?_
                refine z_aload_n Q_X11_find (k := 90) rfl rfl ?_
                refine z_getR (b := 603) Q_X11_find (k := 91) rfl F_X11_13 rfl (n_ hB189.1 rfl) (k_602 hB189.1) (r_602_1 hB189.1) ?_
                refine y_bipush Q_X11_find (k := 92) rfl (by decide) ?_
                refine q_iald (o := 603) (N := 594) Q_X11_find (k := 93) rfl rfl (n_ hB189.1 rfl) (k_603 hB189.1) rfl ⟨by decide, by decide⟩ (by decide) ?_
                obtain ⟨q191, h⟩ := h
                refine q_iast (o := 603) (N := 594) Q_X11_find (k := 94) rfl rfl (n_ hB189.1 rfl) (k_603 hB189.1) rfl q191 (by decide) ?_
                have hB192 := qB.u (a := 603) (j := (143 + (27 * (V172 603 142))) + 5) (x := (qu (qu (qu (qu (qu V172 603 ((143 + (27 * (V172 603 142))) + 0) a1) 603 ((143 + (27 * (V172 603 142))) + 1) a2) 603 ((143 + (27 * (V172 603 142))) + 2) a3) 603 ((143 + (27 * (V172 603 142))) + 3) a4) 603 ((143 + (27 * (V172 603 142))) + 4) a5) 603 20) hB189 (hB189.2.1 _ _) (Or.inl (by decide))
                refine z_aload_n Q_X11_find (k := 95) rfl rfl ?_
                refine z_getR (b := 603) Q_X11_find (k := 96) rfl F_X11_13 rfl (n_ hB192.1 rfl) (k_602 hB192.1) (r_602_1 hB192.1) ?_
                refine z_iload Q_X11_find (k := 97) rfl rfl ?_
                refine y_bipush Q_X11_find (k := 98) rfl (by decide) ?_
                obtain ⟨q193, h⟩ := h
                refine y_iadd Q_X11_find (k := 99) rfl ?_
                refine y_iconst Q_X11_find (k := 100) rfl ?_
                obtain ⟨q194, h⟩ := h
                refine q_iast (o := 603) (N := 594) Q_X11_find (k := 101) rfl rfl (n_ hB192.1 rfl) (k_603 hB192.1) rfl q194 (by decide) ?_
                have hB195 := qB.u (a := 603) (j := (143 + (27 * (V172 603 142))) + 6) (x := 0) hB192 ⟨by decide, by decide⟩ (Or.inl (by decide))
                refine z_aload_n Q_X11_find (k := 102) rfl rfl ?_
                refine z_getR (b := 603) Q_X11_find (k := 103) rfl F_X11_13 rfl (n_ hB195.1 rfl) (k_602 hB195.1) (r_602_1 hB195.1) ?_
                refine z_iload Q_X11_find (k := 104) rfl rfl ?_
                refine y_bipush Q_X11_find (k := 105) rfl (by decide) ?_
                obtain ⟨q196, h⟩ := h
                refine y_iadd Q_X11_find (k := 106) rfl ?_
                refine y_iconst Q_X11_find (k := 107) rfl ?_
                obtain ⟨q197, h⟩ := h
                refine q_iast (o := 603) (N := 594) Q_X11_find (k := 108) rfl rfl (n_ hB195.1 rfl) (k_603 hB195.1) rfl q197 (by decide) ?_
                have hB198 := qB.u (a := 603) (j := (143 + (27 * (V172 603 142))) + 7) (x := (-1)) hB195 ⟨by decide, by decide⟩ (Or.inl (by decide))
                refine z_aload_n Q_X11_find (k := 109) rfl rfl ?_
                refine z_getR (b := 603) Q_X11_find (k := 110) rfl F_X11_13 rfl (n_ hB198.1 rfl) (k_602 hB198.1) (r_602_1 hB198.1) ?_
                refine z_iload Q_X11_find (k := 111) rfl rfl ?_
                refine y_bipush Q_X11_find (k := 112) rfl (by decide) ?_
                obtain ⟨q199, h⟩ := h
                refine y_iadd Q_X11_find (k := 113) rfl ?_
                refine y_iconst Q_X11_find (k := 114) rfl ?_
                obtain ⟨q200, h⟩ := h
                refine q_iast (o := 603) (N := 594) Q_X11_find (k := 115) rfl rfl (n_ hB198.1 rfl) (k_603 hB198.1) rfl q200 (by decide) ?_
                have hB201 := qB.u (a := 603) (j := (143 + (27 * (V172 603 142))) + 8) (x := 0) hB198 ⟨by decide, by decide⟩ (Or.inl (by decide))
                refine z_aload_n Q_X11_find (k := 116) rfl rfl ?_
                refine z_getR (b := 603) Q_X11_find (k := 117) rfl F_X11_13 rfl (n_ hB201.1 rfl) (k_602 hB201.1) (r_602_1 hB201.1) ?_
                refine y_sipush Q_X11_find (k := 118) rfl (by decide) ?_
                refine z_dup2 Q_X11_find (k := 119) rfl rfl rfl ?_
                refine q_iald (o := 603) (N := 594) Q_X11_find (k := 120) rfl rfl (n_ hB201.1 rfl) (k_603 hB201.1) rfl ⟨by decide, by decide⟩ (by decide) ?_
                refine y_iconst Q_X11_find (k := 121) rfl ?_
                obtain ⟨q202, h⟩ := h
                refine y_iadd Q_X11_find (k := 122) rfl ?_
                refine q_iast (o := 603) (N := 594) Q_X11_find (k := 123) rfl rfl (n_ hB201.1 rfl) (k_603 hB201.1) rfl ⟨by decide, by decide⟩ (by decide) ?_
                have hB203 := qB.u (a := 603) (j := 142) (x := ((qu (qu (qu (qu (qu (qu (qu (qu (qu V172 603 ((143 + (27 * (V172 603 142))) + 0) a1) 603 ((143 + (27 * (V172 603 142))) + 1) a2) 603 ((143 + (27 * (V172 603 142))) + 2) a3) 603 ((143 + (27 * (V172 603 142))) + 3) a4) 603 ((143 + (27 * (V172 603 142))) + 4) a5) 603 ((143 + (27 * (V172 603 142))) + 5) ((qu (qu (qu (qu (qu V172 603 ((143 + (27 * (V172 603 142))) + 0) a1) 603 ((143 + (27 * (V172 603 142))) + 1) a2) 603 ((143 + (27 * (V172 603 142))) + 2) a3) 603 ((143 + (27 * (V172 603 142))) + 3) a4) 603 ((143 + (27 * (V172 603 142))) + 4) a5) 603 20)) 603 ((143 + (27 * (V172 603 142))) + 6) 0) 603 ((143 + (27 * (V172 603 142))) + 7) (-1)) 603 ((143 + (27 * (V172 603 142))) + 8) 0) 603 142) + 1) hB201 q202 (Or.inl (by decide))
                refine z_aload_n Q_X11_find (k := 124) rfl rfl ?_
                refine z_getR (b := 603) Q_X11_find (k := 125) rfl F_X11_13 rfl (n_ hB203.1 rfl) (k_602 hB203.1) (r_602_1 hB203.1) ?_
                refine y_sipush Q_X11_find (k := 126) rfl (by decide) ?_
                refine q_iald (o := 603) (N := 594) Q_X11_find (k := 127) rfl rfl (n_ hB203.1 rfl) (k_603 hB203.1) rfl ⟨by decide, by decide⟩ (by decide) ?_
                refine y_iconst Q_X11_find (k := 128) rfl ?_
                obtain ⟨q204, h⟩ := h
                refine y_isub Q_X11_find (k := 129) rfl ?_
                exact y_iret Q_X11_find (k := 130) rfl rfl (qI_iV hB203 q204 h)
              · replace h := h.1 c
                refine y_iconst Q_X11_find (k := 39) rfl ?_
                exact y_iret Q_X11_find (k := 40) rfl rfl (qI_iV hB172 ⟨by decide, by decide⟩ h)
            · replace h := h.1 c
              refine y_iconst Q_X11_find (k := 31) rfl ?_
              exact y_iret Q_X11_find (k := 32) rfl rfl (qI_iV hB172 ⟨by decide, by decide⟩ h)
set_option maxHeartbeats 4000000 in
set_option maxRecDepth 20000 in
theorem w_X11_isFind {S : zS} {V : qV} {J : qJ} {Q : Int → qV → Prop} (d : Nat) (hB : qB S V) {a1 : Int} (z1 : zr a1) (h : W_X11_isFind a1 V Q) : Z M_X11_isFind (d + 1) 0 0 0 [some (.ref 602), some (.int (iI a1))] [] S (qi V) (qj J) (qP_zV S J Q) := by
  unfold W_X11_isFind at h
  refine z_aload_n Q_X11_isFind (k := 0) rfl rfl ?_
  refine z_iload_n Q_X11_isFind (k := 1) rfl rfl ?_
  refine y_iconst Q_X11_isFind (k := 2) rfl ?_
  refine z_aload_n Q_X11_isFind (k := 3) rfl rfl ?_
  refine z_getR (b := 603) Q_X11_isFind (k := 4) rfl F_X11_13 rfl (n_ hB.1 rfl) (k_602 hB.1) (r_602_1 hB.1) ?_
  refine y_sipush Q_X11_isFind (k := 5) rfl (by decide) ?_
  refine q_iald (o := 603) (N := 594) Q_X11_isFind (k := 6) rfl rfl (n_ hB.1 rfl) (k_603 hB.1) rfl ⟨by decide, by decide⟩ (by decide) ?_
  refine y_iconst Q_X11_isFind (k := 7) rfl ?_
  obtain ⟨q1, h⟩ := h
  refine y_isub Q_X11_isFind (k := 8) rfl ?_
  refine q_callS3_z Q_X11_isFind (k := 9) rfl rfl K_X11_within S_X11_within L_X11_207 (Nat.le_of_ble_eq_true rfl) (Nat.le_of_ble_eq_true rfl) rfl (Nat.zero_le _) (Nat.zero_le _) (w_X11_within d hB z1 ⟨by decide, by decide⟩ q1 h) (fun r2 hz2 hb2 h => ?_)
  refine y_iconst Q_X11_isFind (k := 10) rfl ?_
  refine q_callV2_zV Q_X11_isFind (k := 11) rfl rfl K_X11_may V_X11_may L_X11_187 (n_ hB.1 rfl) (k_602 hB.1) (Nat.le_of_ble_eq_true rfl) (Nat.le_of_ble_eq_true rfl) rfl (Nat.zero_le _) (Nat.zero_le _) (w_X11_may d hB hz2 hb2 ⟨by decide, by decide⟩ h) (fun r3 V3 hB3 hz3 hb3 h => ?_)
  exact y_zret Q_X11_isFind (k := 12) rfl rfl hb3 (qI_zV hB3 hz3 hb3 h)
set_option maxHeartbeats 4000000 in
set_option maxRecDepth 20000 in
theorem w_X11_find_ {S : zS} {V : qV} {J : qJ} {Q : Int → Prop} (d : Nat) (hB : qB S V) {a0 : Int} (z0 : zr a0) (h : W_X11_find_ a0 V Q) : Z M_X11_find_ d 0 0 0 [some (.int (iI a0))] [] S (qi V) (qj J) (qP_i S V J Q) := by
  unfold W_X11_find_ at h
  refine y_sipush Q_X11_find_ (k := 0) rfl (by decide) ?_
  refine y_bipush Q_X11_find_ (k := 1) rfl (by decide) ?_
  refine z_iload_n Q_X11_find_ (k := 2) rfl rfl ?_
  obtain ⟨q1, h⟩ := h
  refine y_imul Q_X11_find_ (k := 3) rfl ?_
  obtain ⟨q2, h⟩ := h
  refine y_iadd Q_X11_find_ (k := 4) rfl ?_
  exact y_iret Q_X11_find_ (k := 5) rfl rfl (qI_i q2 h)
set_option maxHeartbeats 4000000 in
set_option maxRecDepth 20000 in
theorem v_X11_bitsOf_4 {S : zS} {V : qV} {J : qJ} {K : Int → Int → Prop} {Q : Int → Prop} {kc ks : Nat} (d : Nat) (hB : qB S V) {l0 : Int} (z0 : zr l0) (hK : ∀ (l1 : Int) (l2 : Int), zr l1 → zr l2 → K l1 l2 → Z M_X11_bitsOf d kc ks 24 [some (.int (iI l0)), some (.int (iI l1)), some (.int (iI l2))] [] S (qi V) (qj J) (qP_i S V J Q)) : ∀ (f : Nat) (l1 : Int) (l2 : Int), zr l1 → zr l2 → lp_X11_bitsOf_4 l0 V K f l1 l2 → Z M_X11_bitsOf d kc ks 4 [some (.int (iI l0)), some (.int (iI l1)), some (.int (iI l2))] [] S (qi V) (qj J) (qP_i S V J Q) := by
  intro f
  induction f with
  | zero =>
    intro l1 l2 z1 z2 h
    exact h.elim
  | succ f ih =>
    intro l1 l2 z1 z2 h
    rw [lp_X11_bitsOf_4] at h
    refine z_iload_n Q_X11_bitsOf (k := 4) rfl rfl ?_
    refine y_bipush Q_X11_bitsOf (k := 5) rfl (by decide) ?_
    refine y_icmp_ge 24 Q_X11_bitsOf (k := 6) rfl (by decide) z2 ⟨by decide, by decide⟩ (fun c => ?_) (fun c => ?_)
    · replace h := h.1 c
      exact y_fg (zsb_c rfl (zsb_c rfl (zsb_c rfl zsb_e))) (hK l1 l2 z1 z2 h)
    · replace h := h.2 c
      refine z_iload_n Q_X11_bitsOf (k := 7) rfl rfl ?_
      refine z_iload_n Q_X11_bitsOf (k := 8) rfl rfl ?_
      refine z_iload_n Q_X11_bitsOf (k := 9) rfl rfl ?_
      refine y_ishr Q_X11_bitsOf (k := 10) rfl ?_
      refine y_iconst Q_X11_bitsOf (k := 11) rfl ?_
      refine y_iand Q_X11_bitsOf (k := 12) rfl ?_
      obtain ⟨q1, h⟩ := h
      refine y_iadd Q_X11_bitsOf (k := 13) rfl ?_
      refine y_istore_n (L' := [some (.int (iI l0)), some (.int (iI (l1 + (zand (zshr l0 l2) 1)))), some (.int (iI l2))]) Q_X11_bitsOf (k := 14) rfl (by decide) rfl ?_
      obtain ⟨q2, h⟩ := h
      refine y_iinc (L' := [some (.int (iI l0)), some (.int (iI (l1 + (zand (zshr l0 l2) 1)))), some (.int (iI (l2 + 1)))]) Q_X11_bitsOf (k := 15) rfl (by decide) rfl rfl ?_
      refine z_goto (tgt := 4) Q_X11_bitsOf (k := 16) rfl (by decide) ?_
      exact y_fg (zsb_c rfl (zsb_c rfl (zsb_c rfl zsb_e))) (ih (l1 + (zand (zshr l0 l2) 1)) (l2 + 1) q1 q2 h)
set_option maxHeartbeats 4000000 in
set_option maxRecDepth 20000 in
theorem w_X11_bitsOf {S : zS} {V : qV} {J : qJ} {Q : Int → Prop} (d : Nat) (hB : qB S V) {a0 : Int} (z0 : zr a0) (h : W_X11_bitsOf a0 V Q) : Z M_X11_bitsOf d 0 0 0 [some (.int (iI a0)), none, none] [] S (qi V) (qj J) (qP_i S V J Q) := by
  unfold W_X11_bitsOf at h
  refine y_iconst Q_X11_bitsOf (k := 0) rfl ?_
  refine y_istore_n (L' := [some (.int (iI a0)), some (.int (iI 0)), none]) Q_X11_bitsOf (k := 1) rfl (by decide) rfl ?_
  refine y_iconst Q_X11_bitsOf (k := 2) rfl ?_
  refine y_istore_n (L' := [some (.int (iI a0)), some (.int (iI 0)), some (.int (iI 0))]) Q_X11_bitsOf (k := 3) rfl (by decide) rfl ?_
  refine y_fg (zsb_c rfl (zsb_c rfl (zsb_c rfl zsb_e))) (v_X11_bitsOf_4 d hB z0 (fun l1x3 l2x3 zl1x3 zl2x3 h => ?_) 100000 0 0 ⟨by decide, by decide⟩ ⟨by decide, by decide⟩ h)
  refine z_iload_n Q_X11_bitsOf (k := 17) rfl rfl ?_
  exact y_iret Q_X11_bitsOf (k := 18) rfl rfl (qI_i zl1x3 h)
set_option maxHeartbeats 4000000 in
set_option maxRecDepth 20000 in
theorem v_X11_have_4 {S : zS} {V : qV} {J : qJ} {K : Int → Int → Prop} {Q : Int → Prop} {kc ks : Nat} (d : Nat) (hB : qB S V) {l1 : Int} (z1 : zr l1) (hK : ∀ (l2 : Int) (l3 : Int), zr l2 → zr l3 → K l2 l3 → Z M_X11_have d kc ks 44 [some (.ref 602), some (.int (iI l1)), some (.int (iI l2)), some (.int (iI l3))] [] S (qi V) (qj J) (qP_i S V J Q)) : ∀ (f : Nat) (l2 : Int) (l3 : Int), zr l2 → zr l3 → lp_X11_have_4 l1 V K f l2 l3 → Z M_X11_have d kc ks 4 [some (.ref 602), some (.int (iI l1)), some (.int (iI l2)), some (.int (iI l3))] [] S (qi V) (qj J) (qP_i S V J Q) := by
  intro f
  induction f with
  | zero =>
    intro l2 l3 z2 z3 h
    exact h.elim
  | succ f ih =>
    intro l2 l3 z2 z3 h
    rw [lp_X11_have_4] at h
    refine z_iload_n Q_X11_have (k := 4) rfl rfl ?_
    refine z_aload_n Q_X11_have (k := 5) rfl rfl ?_
    refine z_getR (b := 603) Q_X11_have (k := 6) rfl F_X11_13 rfl (n_ hB.1 rfl) (k_602 hB.1) (r_602_1 hB.1) ?_
    refine y_bipush Q_X11_have (k := 7) rfl (by decide) ?_
    refine q_iald (o := 603) (N := 594) Q_X11_have (k := 8) rfl rfl (n_ hB.1 rfl) (k_603 hB.1) rfl ⟨by decide, by decide⟩ (by decide) ?_
    refine y_icmp_ge 44 Q_X11_have (k := 9) rfl (by decide) z3 (hB.2.1 _ _) (fun c => ?_) (fun c => ?_)
    · replace h := h.1 c
      exact y_fg (zsb_c rfl (zsb_c rfl (zsb_c rfl (zsb_c rfl zsb_e)))) (hK l2 l3 z2 z3 h)
    · replace h := h.2 c
      refine z_iload_n Q_X11_have (k := 10) rfl rfl ?_
      refine z_aload_n Q_X11_have (k := 11) rfl rfl ?_
      refine z_getR (b := 603) Q_X11_have (k := 12) rfl F_X11_13 rfl (n_ hB.1 rfl) (k_602 hB.1) (r_602_1 hB.1) ?_
      refine y_bipush Q_X11_have (k := 13) rfl (by decide) ?_
      refine z_iload_n Q_X11_have (k := 14) rfl rfl ?_
      obtain ⟨q1, h⟩ := h
      refine y_iadd Q_X11_have (k := 15) rfl ?_
      obtain ⟨q2, h⟩ := h
      refine q_iald (o := 603) (N := 594) Q_X11_have (k := 16) rfl rfl (n_ hB.1 rfl) (k_603 hB.1) rfl q2 (by decide) ?_
      refine z_iload_n Q_X11_have (k := 17) rfl rfl ?_
      refine y_iand Q_X11_have (k := 18) rfl ?_
      refine z_iload_n Q_X11_have (k := 19) rfl rfl ?_
      refine y_icmp_ne 35 Q_X11_have (k := 20) rfl (by decide) (zand_r _ _) z1 (fun c => ?_) (fun c => ?_)
      · replace h := h.2 c
        refine y_iconst Q_X11_have (k := 23) rfl ?_
        obtain ⟨q3, h⟩ := h
        refine y_iadd Q_X11_have (k := 24) rfl ?_
        refine y_istore_n (L' := [some (.ref 602), some (.int (iI l1)), some (.int (iI (l2 + 0))), some (.int (iI l3))]) Q_X11_have (k := 25) rfl (by decide) rfl ?_
        obtain ⟨q4, h⟩ := h
        refine y_iinc (L' := [some (.ref 602), some (.int (iI l1)), some (.int (iI (l2 + 0))), some (.int (iI (l3 + 1)))]) Q_X11_have (k := 26) rfl (by decide) rfl rfl ?_
        refine z_goto (tgt := 4) Q_X11_have (k := 27) rfl (by decide) ?_
        exact y_fg (zsb_c rfl (zsb_c rfl (zsb_c rfl (zsb_c rfl zsb_e)))) (ih (l2 + 0) (l3 + 1) q3 q4 h)
      · replace h := h.1 c
        refine y_iconst Q_X11_have (k := 21) rfl ?_
        refine z_goto (tgt := 36) Q_X11_have (k := 22) rfl (by decide) ?_
        obtain ⟨q5, h⟩ := h
        refine y_iadd Q_X11_have (k := 24) rfl ?_
        refine y_istore_n (L' := [some (.ref 602), some (.int (iI l1)), some (.int (iI (l2 + 1))), some (.int (iI l3))]) Q_X11_have (k := 25) rfl (by decide) rfl ?_
        obtain ⟨q6, h⟩ := h
        refine y_iinc (L' := [some (.ref 602), some (.int (iI l1)), some (.int (iI (l2 + 1))), some (.int (iI (l3 + 1)))]) Q_X11_have (k := 26) rfl (by decide) rfl rfl ?_
        refine z_goto (tgt := 4) Q_X11_have (k := 27) rfl (by decide) ?_
        exact y_fg (zsb_c rfl (zsb_c rfl (zsb_c rfl (zsb_c rfl zsb_e)))) (ih (l2 + 1) (l3 + 1) q5 q6 h)
set_option maxHeartbeats 4000000 in
set_option maxRecDepth 20000 in
theorem w_X11_have {S : zS} {V : qV} {J : qJ} {Q : Int → Prop} (d : Nat) (hB : qB S V) {a1 : Int} (z1 : zr a1) (h : W_X11_have a1 V Q) : Z M_X11_have d 0 0 0 [some (.ref 602), some (.int (iI a1)), none, none] [] S (qi V) (qj J) (qP_i S V J Q) := by
  unfold W_X11_have at h
  refine y_iconst Q_X11_have (k := 0) rfl ?_
  refine y_istore_n (L' := [some (.ref 602), some (.int (iI a1)), some (.int (iI 0)), none]) Q_X11_have (k := 1) rfl (by decide) rfl ?_
  refine y_iconst Q_X11_have (k := 2) rfl ?_
  refine y_istore_n (L' := [some (.ref 602), some (.int (iI a1)), some (.int (iI 0)), some (.int (iI 0))]) Q_X11_have (k := 3) rfl (by decide) rfl ?_
  refine y_fg (zsb_c rfl (zsb_c rfl (zsb_c rfl (zsb_c rfl zsb_e)))) (v_X11_have_4 d hB z1 (fun l2x7 l3x7 zl2x7 zl3x7 h => ?_) 100000 0 0 ⟨by decide, by decide⟩ ⟨by decide, by decide⟩ h)
  refine z_iload_n Q_X11_have (k := 28) rfl rfl ?_
  exact y_iret Q_X11_have (k := 29) rfl rfl (qI_i zl2x7 h)
set_option maxHeartbeats 4000000 in
set_option maxRecDepth 20000 in
theorem v_X11_ownOf_7 {S : zS} {V : qV} {J : qJ} {K : Int → Int → Int → Prop} {Q : Int → Prop} {kc ks : Nat} (d : Nat) (hB : qB S V) {l1 : Int} (z1 : zr l1) (hK : ∀ (l2 : Int) (l3 : Int) (l4 : Int), zr l2 → zr l3 → zr l4 → K l2 l3 l4 → Z M_X11_ownOf d kc ks 76 [some (.ref 602), some (.int (iI l1)), some (.int (iI l2)), some (.int (iI l3)), some (.int (iI l4))] [] S (qi V) (qj J) (qP_i S V J Q)) : ∀ (f : Nat) (l2 : Int) (l3 : Int) (l4 : Int), zr l2 → zr l3 → zr l4 → lp_X11_ownOf_7 l1 V K f l2 l3 l4 → Z M_X11_ownOf d kc ks 7 [some (.ref 602), some (.int (iI l1)), some (.int (iI l2)), some (.int (iI l3)), some (.int (iI l4))] [] S (qi V) (qj J) (qP_i S V J Q) := by
  intro f
  induction f with
  | zero =>
    intro l2 l3 l4 z2 z3 z4 h
    exact h.elim
  | succ f ih =>
    intro l2 l3 l4 z2 z3 z4 h
    rw [lp_X11_ownOf_7] at h
    refine z_iload Q_X11_ownOf (k := 6) rfl rfl ?_
    refine z_aload_n Q_X11_ownOf (k := 7) rfl rfl ?_
    refine z_getR (b := 603) Q_X11_ownOf (k := 8) rfl F_X11_13 rfl (n_ hB.1 rfl) (k_602 hB.1) (r_602_1 hB.1) ?_
    refine y_bipush Q_X11_ownOf (k := 9) rfl (by decide) ?_
    refine q_iald (o := 603) (N := 594) Q_X11_ownOf (k := 10) rfl rfl (n_ hB.1 rfl) (k_603 hB.1) rfl ⟨by decide, by decide⟩ (by decide) ?_
    refine y_icmp_ge 76 Q_X11_ownOf (k := 11) rfl (by decide) z4 (hB.2.1 _ _) (fun c => ?_) (fun c => ?_)
    · replace h := h.1 c
      exact y_fg (zsb_c rfl (zsb_c rfl (zsb_c rfl (zsb_c rfl (zsb_c rfl zsb_e))))) (hK l2 l3 l4 z2 z3 z4 h)
    · replace h := h.2 c
      refine z_iload_n Q_X11_ownOf (k := 12) rfl rfl ?_
      refine z_aload_n Q_X11_ownOf (k := 13) rfl rfl ?_
      refine z_getR (b := 603) Q_X11_ownOf (k := 14) rfl F_X11_13 rfl (n_ hB.1 rfl) (k_602 hB.1) (r_602_1 hB.1) ?_
      refine y_bipush Q_X11_ownOf (k := 15) rfl (by decide) ?_
      refine y_iconst Q_X11_ownOf (k := 16) rfl ?_
      refine z_iload Q_X11_ownOf (k := 17) rfl rfl ?_
      obtain ⟨q1, h⟩ := h
      refine y_imul Q_X11_ownOf (k := 18) rfl ?_
      obtain ⟨q2, h⟩ := h
      refine y_iadd Q_X11_ownOf (k := 19) rfl ?_
      refine z_iload_n Q_X11_ownOf (k := 20) rfl rfl ?_
      obtain ⟨q3, h⟩ := h
      refine y_iadd Q_X11_ownOf (k := 21) rfl ?_
      obtain ⟨q4, h⟩ := h
      refine q_iald (o := 603) (N := 594) Q_X11_ownOf (k := 22) rfl rfl (n_ hB.1 rfl) (k_603 hB.1) rfl q4 (by decide) ?_
      obtain ⟨q5, h⟩ := h
      refine y_iadd Q_X11_ownOf (k := 23) rfl ?_
      refine y_istore_n (L' := [some (.ref 602), some (.int (iI l1)), some (.int (iI (l2 + (V 603 ((70 + (4 * l4)) + l1))))), some (.int (iI l3)), some (.int (iI l4))]) Q_X11_ownOf (k := 24) rfl (by decide) rfl ?_
      refine z_iload_n Q_X11_ownOf (k := 25) rfl rfl ?_
      refine z_aload_n Q_X11_ownOf (k := 26) rfl rfl ?_
      refine z_getR (b := 603) Q_X11_ownOf (k := 27) rfl F_X11_13 rfl (n_ hB.1 rfl) (k_602 hB.1) (r_602_1 hB.1) ?_
      refine y_bipush Q_X11_ownOf (k := 28) rfl (by decide) ?_
      refine z_iload Q_X11_ownOf (k := 29) rfl rfl ?_
      obtain ⟨q6, h⟩ := h
      refine y_iadd Q_X11_ownOf (k := 30) rfl ?_
      obtain ⟨q7, h⟩ := h
      refine q_iald (o := 603) (N := 594) Q_X11_ownOf (k := 31) rfl rfl (n_ hB.1 rfl) (k_603 hB.1) rfl q7 (by decide) ?_
      refine y_if_ne 67 Q_X11_ownOf (k := 32) rfl (by decide) (hB.2.1 _ _) (fun c => ?_) (fun c => ?_)
      · replace h := h.2 c
        refine y_iconst Q_X11_ownOf (k := 44) rfl ?_
        obtain ⟨q8, h⟩ := h
        refine y_iadd Q_X11_ownOf (k := 45) rfl ?_
        refine y_istore_n (L' := [some (.ref 602), some (.int (iI l1)), some (.int (iI (l2 + (V 603 ((70 + (4 * l4)) + l1))))), some (.int (iI (l3 + 0))), some (.int (iI l4))]) Q_X11_ownOf (k := 46) rfl (by decide) rfl ?_
        obtain ⟨q9, h⟩ := h
        refine y_iinc (L' := [some (.ref 602), some (.int (iI l1)), some (.int (iI (l2 + (V 603 ((70 + (4 * l4)) + l1))))), some (.int (iI (l3 + 0))), some (.int (iI (l4 + 1)))]) Q_X11_ownOf (k := 47) rfl (by decide) rfl rfl ?_
        refine z_goto (tgt := 7) Q_X11_ownOf (k := 48) rfl (by decide) ?_
        exact y_fg (zsb_c rfl (zsb_c rfl (zsb_c rfl (zsb_c rfl (zsb_c rfl zsb_e))))) (ih (l2 + (V 603 ((70 + (4 * l4)) + l1))) (l3 + 0) (l4 + 1) q5 q8 q9 h)
      · replace h := h.1 c
        refine z_aload_n Q_X11_ownOf (k := 33) rfl rfl ?_
        refine z_getR (b := 603) Q_X11_ownOf (k := 34) rfl F_X11_13 rfl (n_ hB.1 rfl) (k_602 hB.1) (r_602_1 hB.1) ?_
        refine y_bipush Q_X11_ownOf (k := 35) rfl (by decide) ?_
        refine y_iconst Q_X11_ownOf (k := 36) rfl ?_
        refine z_iload Q_X11_ownOf (k := 37) rfl rfl ?_
        obtain ⟨q10, h⟩ := h
        refine y_imul Q_X11_ownOf (k := 38) rfl ?_
        obtain ⟨q11, h⟩ := h
        refine y_iadd Q_X11_ownOf (k := 39) rfl ?_
        refine z_iload_n Q_X11_ownOf (k := 40) rfl rfl ?_
        obtain ⟨q12, h⟩ := h
        refine y_iadd Q_X11_ownOf (k := 41) rfl ?_
        obtain ⟨q13, h⟩ := h
        refine q_iald (o := 603) (N := 594) Q_X11_ownOf (k := 42) rfl rfl (n_ hB.1 rfl) (k_603 hB.1) rfl q13 (by decide) ?_
        refine z_goto (tgt := 68) Q_X11_ownOf (k := 43) rfl (by decide) ?_
        obtain ⟨q14, h⟩ := h
        refine y_iadd Q_X11_ownOf (k := 45) rfl ?_
        refine y_istore_n (L' := [some (.ref 602), some (.int (iI l1)), some (.int (iI (l2 + (V 603 ((70 + (4 * l4)) + l1))))), some (.int (iI (l3 + (V 603 ((70 + (4 * l4)) + l1))))), some (.int (iI l4))]) Q_X11_ownOf (k := 46) rfl (by decide) rfl ?_
        obtain ⟨q15, h⟩ := h
        refine y_iinc (L' := [some (.ref 602), some (.int (iI l1)), some (.int (iI (l2 + (V 603 ((70 + (4 * l4)) + l1))))), some (.int (iI (l3 + (V 603 ((70 + (4 * l4)) + l1))))), some (.int (iI (l4 + 1)))]) Q_X11_ownOf (k := 47) rfl (by decide) rfl rfl ?_
        refine z_goto (tgt := 7) Q_X11_ownOf (k := 48) rfl (by decide) ?_
        exact y_fg (zsb_c rfl (zsb_c rfl (zsb_c rfl (zsb_c rfl (zsb_c rfl zsb_e))))) (ih (l2 + (V 603 ((70 + (4 * l4)) + l1))) (l3 + (V 603 ((70 + (4 * l4)) + l1))) (l4 + 1) q5 q14 q15 h)
set_option maxHeartbeats 4000000 in
set_option maxRecDepth 20000 in
theorem w_X11_ownOf {S : zS} {V : qV} {J : qJ} {Q : Int → Prop} (d : Nat) (hB : qB S V) {a1 : Int} (z1 : zr a1) (h : W_X11_ownOf a1 V Q) : Z M_X11_ownOf d 0 0 0 [some (.ref 602), some (.int (iI a1)), none, none, none] [] S (qi V) (qj J) (qP_i S V J Q) := by
  unfold W_X11_ownOf at h
  refine y_iconst Q_X11_ownOf (k := 0) rfl ?_
  refine y_istore_n (L' := [some (.ref 602), some (.int (iI a1)), some (.int (iI 0)), none, none]) Q_X11_ownOf (k := 1) rfl (by decide) rfl ?_
  refine y_iconst Q_X11_ownOf (k := 2) rfl ?_
  refine y_istore_n (L' := [some (.ref 602), some (.int (iI a1)), some (.int (iI 0)), some (.int (iI 0)), none]) Q_X11_ownOf (k := 3) rfl (by decide) rfl ?_
  refine y_iconst Q_X11_ownOf (k := 4) rfl ?_
  refine y_istore (L' := [some (.ref 602), some (.int (iI a1)), some (.int (iI 0)), some (.int (iI 0)), some (.int (iI 0))]) Q_X11_ownOf (k := 5) rfl (by decide) rfl ?_
  refine y_fg (zsb_c rfl (zsb_c rfl (zsb_c rfl (zsb_c rfl (zsb_c rfl zsb_e))))) (v_X11_ownOf_7 d hB z1 (fun l2x16 l3x16 l4x16 zl2x16 zl3x16 zl4x16 h => ?_) 100000 0 0 0 ⟨by decide, by decide⟩ ⟨by decide, by decide⟩ ⟨by decide, by decide⟩ h)
  refine z_iload_n Q_X11_ownOf (k := 49) rfl rfl ?_
  refine y_if_ne 84 Q_X11_ownOf (k := 50) rfl (by decide) zl2x16 (fun c => ?_) (fun c => ?_)
  · replace h := h.2 c
    refine y_bipush Q_X11_ownOf (k := 53) rfl (by decide) ?_
    refine z_iload_n Q_X11_ownOf (k := 54) rfl rfl ?_
    obtain ⟨q17, h⟩ := h
    refine y_imul Q_X11_ownOf (k := 55) rfl ?_
    refine z_iload_n Q_X11_ownOf (k := 56) rfl rfl ?_
    obtain ⟨q18, h⟩ := h
    refine y_idiv Q_X11_ownOf (k := 57) rfl q17 q18 zl2x16 ?_
    exact y_iret Q_X11_ownOf (k := 58) rfl rfl (qI_i (q_tdiv q17 q18) h)
  · replace h := h.1 c
    refine y_iconst Q_X11_ownOf (k := 51) rfl ?_
    refine z_goto (tgt := 90) Q_X11_ownOf (k := 52) rfl (by decide) ?_
    exact y_iret Q_X11_ownOf (k := 58) rfl rfl (qI_i ⟨by decide, by decide⟩ h)
set_option maxHeartbeats 4000000 in
set_option maxRecDepth 20000 in
theorem w_X11_isFirstMark {S : zS} {V : qV} {J : qJ} {Q : Int → Prop} (d : Nat) (hB : qB S V) {a0 : Int} (z0 : zr a0) {a1 : Int} (z1 : zr a1) (h : W_X11_isFirstMark a0 a1 V Q) : Z M_X11_isFirstMark d 0 0 0 [some (.int (iI a0)), some (.int (iI a1))] [] S (qi V) (qj J) (qP_z S V J Q) := by
  unfold W_X11_isFirstMark at h
  refine z_iload_n Q_X11_isFirstMark (k := 0) rfl rfl ?_
  refine z_iload_n Q_X11_isFirstMark (k := 1) rfl rfl ?_
  refine y_ishr Q_X11_isFirstMark (k := 2) rfl ?_
  refine y_iconst Q_X11_isFirstMark (k := 3) rfl ?_
  refine y_icmp_ne 11 Q_X11_isFirstMark (k := 4) rfl (by decide) (zshr_r _ _) ⟨by decide, by decide⟩ (fun c => ?_) (fun c => ?_)
  · replace h := h.2 c
    refine y_iconst Q_X11_isFirstMark (k := 7) rfl ?_
    exact y_zret Q_X11_isFirstMark (k := 8) rfl rfl (Or.inl rfl) (qI_z ⟨by decide, by decide⟩ (Or.inl rfl) h)
  · replace h := h.1 c
    refine y_iconst Q_X11_isFirstMark (k := 5) rfl ?_
    refine z_goto (tgt := 12) Q_X11_isFirstMark (k := 6) rfl (by decide) ?_
    exact y_zret Q_X11_isFirstMark (k := 8) rfl rfl (Or.inr rfl) (qI_z ⟨by decide, by decide⟩ (Or.inr rfl) h)
set_option maxHeartbeats 4000000 in
set_option maxRecDepth 20000 in
theorem v_X11_nameFind_97 {S : zS} {J : qJ} {K : Int → qV → Prop} {Q : qV → Prop} {kc ks : Nat} (d : Nat) {l1 : Int} (z1 : zr l1) {l2 : Int} (z2 : zr l2) (hK : ∀ (l3 : Int) (V : qV), qB S V → zr l3 → K l3 V → Z M_X11_nameFind (d + 1) kc ks 167 [some (.ref 602), some (.int (iI l1)), some (.int (iI l2)), some (.int (iI l3))] [] S (qi V) (qj J) (qP_uV S J Q)) : ∀ (f : Nat) (l3 : Int) (V : qV), qB S V → zr l3 → lp_X11_nameFind_97 l1 l2 K f l3 V → Z M_X11_nameFind (d + 1) kc ks 97 [some (.ref 602), some (.int (iI l1)), some (.int (iI l2)), some (.int (iI l3))] [] S (qi V) (qj J) (qP_uV S J Q) := by
  intro f
  induction f with
  | zero =>
    intro l3 V hB z3 h
    exact h.elim
  | succ f ih =>
    intro l3 V hB z3 h
    rw [lp_X11_nameFind_97] at h
    refine z_iload_n Q_X11_nameFind (k := 66) rfl rfl ?_
    refine y_if_lt 167 Q_X11_nameFind (k := 67) rfl (by decide) z3 (fun c => ?_) (fun c => ?_)
    · replace h := h.1 c
      exact y_fg (zsb_c rfl (zsb_c rfl (zsb_c rfl (zsb_c rfl zsb_e)))) (hK l3 V hB z3 h)
    · replace h := h.2 c
      refine z_aload_n Q_X11_nameFind (k := 68) rfl rfl ?_
      refine z_getR (b := 603) Q_X11_nameFind (k := 69) rfl F_X11_13 rfl (n_ hB.1 rfl) (k_602 hB.1) (r_602_1 hB.1) ?_
      refine z_iload_n Q_X11_nameFind (k := 70) rfl rfl ?_
      refine y_iconst Q_X11_nameFind (k := 71) rfl ?_
      obtain ⟨q21, h⟩ := h
      refine y_iadd Q_X11_nameFind (k := 72) rfl ?_
      obtain ⟨q22, h⟩ := h
      refine q_iald (o := 603) (N := 594) Q_X11_nameFind (k := 73) rfl rfl (n_ hB.1 rfl) (k_603 hB.1) rfl q22 (by decide) ?_
      refine z_iload_n Q_X11_nameFind (k := 74) rfl rfl ?_
      refine y_ishr Q_X11_nameFind (k := 75) rfl ?_
      refine y_iconst Q_X11_nameFind (k := 76) rfl ?_
      refine y_iand Q_X11_nameFind (k := 77) rfl ?_
      refine y_iconst Q_X11_nameFind (k := 78) rfl ?_
      refine y_icmp_ne 161 Q_X11_nameFind (k := 79) rfl (by decide) (zand_r _ _) ⟨by decide, by decide⟩ (fun c => ?_) (fun c => ?_)
      · replace h := h.2 c
        obtain ⟨q23, h⟩ := h
        refine y_iinc (L' := [some (.ref 602), some (.int (iI l1)), some (.int (iI l2)), some (.int (iI (l3 + (-1))))]) Q_X11_nameFind (k := 108) rfl (by decide) rfl rfl ?_
        refine z_goto (tgt := 97) Q_X11_nameFind (k := 109) rfl (by decide) ?_
        exact y_fg (zsb_c rfl (zsb_c rfl (zsb_c rfl (zsb_c rfl zsb_e)))) (ih (l3 + (-1)) V hB q23 h)
      · replace h := h.1 c
        refine z_aload_n Q_X11_nameFind (k := 80) rfl rfl ?_
        refine z_getR (b := 603) Q_X11_nameFind (k := 81) rfl F_X11_13 rfl (n_ hB.1 rfl) (k_602 hB.1) (r_602_1 hB.1) ?_
        refine z_iload_n Q_X11_nameFind (k := 82) rfl rfl ?_
        refine y_iconst Q_X11_nameFind (k := 83) rfl ?_
        obtain ⟨q24, h⟩ := h
        refine y_iadd Q_X11_nameFind (k := 84) rfl ?_
        obtain ⟨q25, h⟩ := h
        refine q_iald (o := 603) (N := 594) Q_X11_nameFind (k := 85) rfl rfl (n_ hB.1 rfl) (k_603 hB.1) rfl q25 (by decide) ?_
        refine z_iload_n Q_X11_nameFind (k := 86) rfl rfl ?_
        refine q_callS2_z Q_X11_nameFind (k := 87) rfl rfl K_X11_isFirstMark S_X11_isFirstMark L_X11_236 (Nat.le_of_ble_eq_true rfl) (Nat.le_of_ble_eq_true rfl) rfl (Nat.zero_le _) (Nat.zero_le _) (w_X11_isFirstMark d hB (hB.2.1 _ _) z3 h) (fun r26 hz26 hb26 h => ?_)
        refine y_if_ne 148 Q_X11_nameFind (k := 88) rfl (by decide) hz26 (fun c => ?_) (fun c => ?_)
        · replace h := h.2 c
          refine z_aload_n Q_X11_nameFind (k := 99) rfl rfl ?_
          refine z_getR (b := 614) Q_X11_nameFind (k := 100) rfl F_X11_50 rfl (n_ hB.1 rfl) (k_602 hB.1) (r_602_22 hB.1) ?_
          refine y_iconst Q_X11_nameFind (k := 101) rfl ?_
          refine z_aload_n Q_X11_nameFind (k := 102) rfl rfl ?_
          refine y_iconst Q_X11_nameFind (k := 103) rfl ?_
          refine z_iload_n Q_X11_nameFind (k := 104) rfl rfl ?_
          refine y_ishl Q_X11_nameFind (k := 105) rfl ?_
          refine q_callV1_i Q_X11_nameFind (k := 106) rfl rfl K_X11_have V_X11_have L_X11_239 (n_ hB.1 rfl) (k_602 hB.1) (Nat.le_of_ble_eq_true rfl) (Nat.le_of_ble_eq_true rfl) rfl (Nat.zero_le _) (Nat.zero_le _) (w_X11_have d hB (zshl_r _ _) h) (fun r27 hz27 h => ?_)
          refine q_iast (o := 614) (N := 10) Q_X11_nameFind (k := 107) rfl rfl (n_ hB.1 rfl) (k_614 hB.1) rfl ⟨by decide, by decide⟩ (by decide) ?_
          have hB28 := qB.u (a := 614) (j := 5) (x := r27) hB hz27 (Or.inl (by decide))
          obtain ⟨q29, h⟩ := h
          refine y_iinc (L' := [some (.ref 602), some (.int (iI l1)), some (.int (iI l2)), some (.int (iI (l3 + (-1))))]) Q_X11_nameFind (k := 108) rfl (by decide) rfl rfl ?_
          refine z_goto (tgt := 97) Q_X11_nameFind (k := 109) rfl (by decide) ?_
          exact y_fg (zsb_c rfl (zsb_c rfl (zsb_c rfl (zsb_c rfl zsb_e)))) (ih (l3 + (-1)) (qu V 614 5 r27) hB28 q29 h)
        · replace h := h.1 c
          refine z_aload_n Q_X11_nameFind (k := 89) rfl rfl ?_
          refine y_iconst Q_X11_nameFind (k := 90) rfl ?_
          refine z_iload_n Q_X11_nameFind (k := 91) rfl rfl ?_
          refine y_ishl Q_X11_nameFind (k := 92) rfl ?_
          refine q_callV1_i Q_X11_nameFind (k := 93) rfl rfl K_X11_have V_X11_have L_X11_239 (n_ hB.1 rfl) (k_602 hB.1) (Nat.le_of_ble_eq_true rfl) (Nat.le_of_ble_eq_true rfl) rfl (Nat.zero_le _) (Nat.zero_le _) (w_X11_have d hB (zshl_r _ _) h) (fun r30 hz30 h => ?_)
          refine z_aload_n Q_X11_nameFind (k := 94) rfl rfl ?_
          refine z_getR (b := 614) Q_X11_nameFind (k := 95) rfl F_X11_50 rfl (n_ hB.1 rfl) (k_602 hB.1) (r_602_22 hB.1) ?_
          refine y_iconst Q_X11_nameFind (k := 96) rfl ?_
          refine q_iald (o := 614) (N := 10) Q_X11_nameFind (k := 97) rfl rfl (n_ hB.1 rfl) (k_614 hB.1) rfl ⟨by decide, by decide⟩ (by decide) ?_
          refine y_icmp_ge 161 Q_X11_nameFind (k := 98) rfl (by decide) hz30 (hB.2.1 _ _) (fun c => ?_) (fun c => ?_)
          · replace h := h.1 c
            obtain ⟨q31, h⟩ := h
            refine y_iinc (L' := [some (.ref 602), some (.int (iI l1)), some (.int (iI l2)), some (.int (iI (l3 + (-1))))]) Q_X11_nameFind (k := 108) rfl (by decide) rfl rfl ?_
            refine z_goto (tgt := 97) Q_X11_nameFind (k := 109) rfl (by decide) ?_
            exact y_fg (zsb_c rfl (zsb_c rfl (zsb_c rfl (zsb_c rfl zsb_e)))) (ih (l3 + (-1)) V hB q31 h)
          · replace h := h.2 c
            refine z_aload_n Q_X11_nameFind (k := 99) rfl rfl ?_
            refine z_getR (b := 614) Q_X11_nameFind (k := 100) rfl F_X11_50 rfl (n_ hB.1 rfl) (k_602 hB.1) (r_602_22 hB.1) ?_
            refine y_iconst Q_X11_nameFind (k := 101) rfl ?_
            refine z_aload_n Q_X11_nameFind (k := 102) rfl rfl ?_
            refine y_iconst Q_X11_nameFind (k := 103) rfl ?_
            refine z_iload_n Q_X11_nameFind (k := 104) rfl rfl ?_
            refine y_ishl Q_X11_nameFind (k := 105) rfl ?_
            refine q_callV1_i Q_X11_nameFind (k := 106) rfl rfl K_X11_have V_X11_have L_X11_239 (n_ hB.1 rfl) (k_602 hB.1) (Nat.le_of_ble_eq_true rfl) (Nat.le_of_ble_eq_true rfl) rfl (Nat.zero_le _) (Nat.zero_le _) (w_X11_have d hB (zshl_r _ _) h) (fun r32 hz32 h => ?_)
            refine q_iast (o := 614) (N := 10) Q_X11_nameFind (k := 107) rfl rfl (n_ hB.1 rfl) (k_614 hB.1) rfl ⟨by decide, by decide⟩ (by decide) ?_
            have hB33 := qB.u (a := 614) (j := 5) (x := r32) hB hz32 (Or.inl (by decide))
            obtain ⟨q34, h⟩ := h
            refine y_iinc (L' := [some (.ref 602), some (.int (iI l1)), some (.int (iI l2)), some (.int (iI (l3 + (-1))))]) Q_X11_nameFind (k := 108) rfl (by decide) rfl rfl ?_
            refine z_goto (tgt := 97) Q_X11_nameFind (k := 109) rfl (by decide) ?_
            exact y_fg (zsb_c rfl (zsb_c rfl (zsb_c rfl (zsb_c rfl zsb_e)))) (ih (l3 + (-1)) (qu V 614 5 r32) hB33 q34 h)
set_option maxHeartbeats 4000000 in
set_option maxRecDepth 20000 in
theorem v_X11_nameFind_235 {S : zS} {J : qJ} {K : Int → qV → Prop} {Q : qV → Prop} {kc ks : Nat} (d : Nat) {l1 : Int} (z1 : zr l1) (hK : ∀ (l3 : Int) (V : qV), qB S V → zr l3 → K l3 V → Z M_X11_nameFind (d + 1) kc ks 284 [some (.ref 602), some (.int (iI l1)), none, some (.int (iI l3))] [] S (qi V) (qj J) (qP_uV S J Q)) : ∀ (f : Nat) (l3 : Int) (V : qV), qB S V → zr l3 → lp_X11_nameFind_235 l1 K f l3 V → Z M_X11_nameFind (d + 1) kc ks 235 [some (.ref 602), some (.int (iI l1)), none, some (.int (iI l3))] [] S (qi V) (qj J) (qP_uV S J Q) := by
  intro f
  induction f with
  | zero =>
    intro l3 V hB z3 h
    exact h.elim
  | succ f ih =>
    intro l3 V hB z3 h
    rw [lp_X11_nameFind_235] at h
    refine z_iload_n Q_X11_nameFind (k := 154) rfl rfl ?_
    refine z_aload_n Q_X11_nameFind (k := 155) rfl rfl ?_
    refine z_getR (b := 603) Q_X11_nameFind (k := 156) rfl F_X11_13 rfl (n_ hB.1 rfl) (k_602 hB.1) (r_602_1 hB.1) ?_
    refine y_sipush Q_X11_nameFind (k := 157) rfl (by decide) ?_
    refine q_iald (o := 603) (N := 594) Q_X11_nameFind (k := 158) rfl rfl (n_ hB.1 rfl) (k_603 hB.1) rfl ⟨by decide, by decide⟩ (by decide) ?_
    refine y_icmp_ge 284 Q_X11_nameFind (k := 159) rfl (by decide) z3 (hB.2.1 _ _) (fun c => ?_) (fun c => ?_)
    · replace h := h.1 c
      exact y_fg (zsb_c rfl (zsb_c rfl (zsb_n (zsb_c rfl zsb_e)))) (hK l3 V hB z3 h)
    · replace h := h.2 c
      refine z_aload_n Q_X11_nameFind (k := 160) rfl rfl ?_
      refine z_getR (b := 614) Q_X11_nameFind (k := 161) rfl F_X11_50 rfl (n_ hB.1 rfl) (k_602 hB.1) (r_602_22 hB.1) ?_
      refine y_bipush Q_X11_nameFind (k := 162) rfl (by decide) ?_
      refine z_dup2 Q_X11_nameFind (k := 163) rfl rfl rfl ?_
      refine q_iald (o := 614) (N := 10) Q_X11_nameFind (k := 164) rfl rfl (n_ hB.1 rfl) (k_614 hB.1) rfl ⟨by decide, by decide⟩ (by decide) ?_
      refine z_aload_n Q_X11_nameFind (k := 165) rfl rfl ?_
      refine z_getR (b := 603) Q_X11_nameFind (k := 166) rfl F_X11_13 rfl (n_ hB.1 rfl) (k_602 hB.1) (r_602_1 hB.1) ?_
      refine y_sipush Q_X11_nameFind (k := 167) rfl (by decide) ?_
      refine y_iconst Q_X11_nameFind (k := 168) rfl ?_
      refine z_iload_n Q_X11_nameFind (k := 169) rfl rfl ?_
      obtain ⟨q48, h⟩ := h
      refine y_imul Q_X11_nameFind (k := 170) rfl ?_
      obtain ⟨q49, h⟩ := h
      refine y_iadd Q_X11_nameFind (k := 171) rfl ?_
      obtain ⟨q50, h⟩ := h
      refine q_iald (o := 603) (N := 594) Q_X11_nameFind (k := 172) rfl rfl (n_ hB.1 rfl) (k_603 hB.1) rfl q50 (by decide) ?_
      refine z_iload_n Q_X11_nameFind (k := 173) rfl rfl ?_
      refine y_icmp_ne 275 Q_X11_nameFind (k := 174) rfl (by decide) (hB.2.1 _ _) z1 (fun c => ?_) (fun c => ?_)
      · replace h := h.2 c
        refine y_iconst Q_X11_nameFind (k := 177) rfl ?_
        obtain ⟨q51, h⟩ := h
        refine y_iadd Q_X11_nameFind (k := 178) rfl ?_
        refine q_iast (o := 614) (N := 10) Q_X11_nameFind (k := 179) rfl rfl (n_ hB.1 rfl) (k_614 hB.1) rfl ⟨by decide, by decide⟩ (by decide) ?_
        have hB52 := qB.u (a := 614) (j := 9) (x := (V 614 9) + 0) hB q51 (Or.inl (by decide))
        obtain ⟨q53, h⟩ := h
        refine y_iinc (L' := [some (.ref 602), some (.int (iI l1)), none, some (.int (iI (l3 + 1)))]) Q_X11_nameFind (k := 180) rfl (by decide) rfl rfl ?_
        refine z_goto (tgt := 235) Q_X11_nameFind (k := 181) rfl (by decide) ?_
        exact y_fg (zsb_c rfl (zsb_c rfl (zsb_n (zsb_c rfl zsb_e)))) (ih (l3 + 1) (qu V 614 9 ((V 614 9) + 0)) hB52 q53 h)
      · replace h := h.1 c
        refine y_iconst Q_X11_nameFind (k := 175) rfl ?_
        refine z_goto (tgt := 276) Q_X11_nameFind (k := 176) rfl (by decide) ?_
        obtain ⟨q54, h⟩ := h
        refine y_iadd Q_X11_nameFind (k := 178) rfl ?_
        refine q_iast (o := 614) (N := 10) Q_X11_nameFind (k := 179) rfl rfl (n_ hB.1 rfl) (k_614 hB.1) rfl ⟨by decide, by decide⟩ (by decide) ?_
        have hB55 := qB.u (a := 614) (j := 9) (x := (V 614 9) + 1) hB q54 (Or.inl (by decide))
        obtain ⟨q56, h⟩ := h
        refine y_iinc (L' := [some (.ref 602), some (.int (iI l1)), none, some (.int (iI (l3 + 1)))]) Q_X11_nameFind (k := 180) rfl (by decide) rfl rfl ?_
        refine z_goto (tgt := 235) Q_X11_nameFind (k := 181) rfl (by decide) ?_
        exact y_fg (zsb_c rfl (zsb_c rfl (zsb_n (zsb_c rfl zsb_e)))) (ih (l3 + 1) (qu V 614 9 ((V 614 9) + 1)) hB55 q56 h)
set_option maxHeartbeats 4000000 in
set_option maxRecDepth 20000 in
theorem w_X11_nameFind {S : zS} {V : qV} {J : qJ} {Q : qV → Prop} (d : Nat) (hB : qB S V) {a1 : Int} (z1 : zr a1) (h : W_X11_nameFind a1 V Q) : Z M_X11_nameFind (d + 1) 0 0 0 [some (.ref 602), some (.int (iI a1)), none, none] [] S (qi V) (qj J) (qP_uV S J Q) := by
  unfold W_X11_nameFind at h
  refine z_iload_n Q_X11_nameFind (k := 0) rfl rfl ?_
  refine q_callS1_i Q_X11_nameFind (k := 1) rfl rfl K_X11_find_ S_X11_find_ L_X11_230 (Nat.le_of_ble_eq_true rfl) (Nat.le_of_ble_eq_true rfl) rfl (Nat.zero_le _) (Nat.zero_le _) (w_X11_find_ d hB z1 h) (fun r1 hz1 h => ?_)
  refine y_istore_n (L' := [some (.ref 602), some (.int (iI a1)), some (.int (iI r1)), none]) Q_X11_nameFind (k := 2) rfl (by decide) rfl ?_
  refine z_aload_n Q_X11_nameFind (k := 3) rfl rfl ?_
  refine z_getR (b := 614) Q_X11_nameFind (k := 4) rfl F_X11_50 rfl (n_ hB.1 rfl) (k_602 hB.1) (r_602_22 hB.1) ?_
  refine y_iconst Q_X11_nameFind (k := 5) rfl ?_
  refine z_aload_n Q_X11_nameFind (k := 6) rfl rfl ?_
  refine z_getR (b := 603) Q_X11_nameFind (k := 7) rfl F_X11_13 rfl (n_ hB.1 rfl) (k_602 hB.1) (r_602_1 hB.1) ?_
  refine z_iload_n Q_X11_nameFind (k := 8) rfl rfl ?_
  refine y_iconst Q_X11_nameFind (k := 9) rfl ?_
  obtain ⟨q2, h⟩ := h
  refine y_iadd Q_X11_nameFind (k := 10) rfl ?_
  obtain ⟨q3, h⟩ := h
  refine q_iald (o := 603) (N := 594) Q_X11_nameFind (k := 11) rfl rfl (n_ hB.1 rfl) (k_603 hB.1) rfl q3 (by decide) ?_
  refine q_iast (o := 614) (N := 10) Q_X11_nameFind (k := 12) rfl rfl (n_ hB.1 rfl) (k_614 hB.1) rfl ⟨by decide, by decide⟩ (by decide) ?_
  have hB4 := qB.u (a := 614) (j := 0) (x := V 603 (r1 + 0)) hB (hB.2.1 _ _) (Or.inl (by decide))
  refine z_aload_n Q_X11_nameFind (k := 13) rfl rfl ?_
  refine z_getR (b := 614) Q_X11_nameFind (k := 14) rfl F_X11_50 rfl (n_ hB4.1 rfl) (k_602 hB4.1) (r_602_22 hB4.1) ?_
  refine y_iconst Q_X11_nameFind (k := 15) rfl ?_
  refine z_aload_n Q_X11_nameFind (k := 16) rfl rfl ?_
  refine z_getR (b := 603) Q_X11_nameFind (k := 17) rfl F_X11_13 rfl (n_ hB4.1 rfl) (k_602 hB4.1) (r_602_1 hB4.1) ?_
  refine z_iload_n Q_X11_nameFind (k := 18) rfl rfl ?_
  refine y_iconst Q_X11_nameFind (k := 19) rfl ?_
  obtain ⟨q5, h⟩ := h
  refine y_iadd Q_X11_nameFind (k := 20) rfl ?_
  obtain ⟨q6, h⟩ := h
  refine q_iald (o := 603) (N := 594) Q_X11_nameFind (k := 21) rfl rfl (n_ hB4.1 rfl) (k_603 hB4.1) rfl q6 (by decide) ?_
  refine q_iast (o := 614) (N := 10) Q_X11_nameFind (k := 22) rfl rfl (n_ hB4.1 rfl) (k_614 hB4.1) rfl ⟨by decide, by decide⟩ (by decide) ?_
  have hB7 := qB.u (a := 614) (j := 1) (x := (qu V 614 0 (V 603 (r1 + 0))) 603 (r1 + 1)) hB4 (hB4.2.1 _ _) (Or.inl (by decide))
  refine z_aload_n Q_X11_nameFind (k := 23) rfl rfl ?_
  refine z_getR (b := 614) Q_X11_nameFind (k := 24) rfl F_X11_50 rfl (n_ hB7.1 rfl) (k_602 hB7.1) (r_602_22 hB7.1) ?_
  refine y_iconst Q_X11_nameFind (k := 25) rfl ?_
  refine z_aload_n Q_X11_nameFind (k := 26) rfl rfl ?_
  refine z_getR (b := 603) Q_X11_nameFind (k := 27) rfl F_X11_13 rfl (n_ hB7.1 rfl) (k_602 hB7.1) (r_602_1 hB7.1) ?_
  refine z_iload_n Q_X11_nameFind (k := 28) rfl rfl ?_
  refine y_iconst Q_X11_nameFind (k := 29) rfl ?_
  obtain ⟨q8, h⟩ := h
  refine y_iadd Q_X11_nameFind (k := 30) rfl ?_
  obtain ⟨q9, h⟩ := h
  refine q_iald (o := 603) (N := 594) Q_X11_nameFind (k := 31) rfl rfl (n_ hB7.1 rfl) (k_603 hB7.1) rfl q9 (by decide) ?_
  refine q_iast (o := 614) (N := 10) Q_X11_nameFind (k := 32) rfl rfl (n_ hB7.1 rfl) (k_614 hB7.1) rfl ⟨by decide, by decide⟩ (by decide) ?_
  have hB10 := qB.u (a := 614) (j := 2) (x := (qu (qu V 614 0 (V 603 (r1 + 0))) 614 1 ((qu V 614 0 (V 603 (r1 + 0))) 603 (r1 + 1))) 603 (r1 + 2)) hB7 (hB7.2.1 _ _) (Or.inl (by decide))
  refine z_aload_n Q_X11_nameFind (k := 33) rfl rfl ?_
  refine z_getR (b := 614) Q_X11_nameFind (k := 34) rfl F_X11_50 rfl (n_ hB10.1 rfl) (k_602 hB10.1) (r_602_22 hB10.1) ?_
  refine y_iconst Q_X11_nameFind (k := 35) rfl ?_
  refine z_aload_n Q_X11_nameFind (k := 36) rfl rfl ?_
  refine z_getR (b := 603) Q_X11_nameFind (k := 37) rfl F_X11_13 rfl (n_ hB10.1 rfl) (k_602 hB10.1) (r_602_1 hB10.1) ?_
  refine y_sipush Q_X11_nameFind (k := 38) rfl (by decide) ?_
  refine z_aload_n Q_X11_nameFind (k := 39) rfl rfl ?_
  refine z_getR (b := 603) Q_X11_nameFind (k := 40) rfl F_X11_13 rfl (n_ hB10.1 rfl) (k_602 hB10.1) (r_602_1 hB10.1) ?_
  refine z_iload_n Q_X11_nameFind (k := 41) rfl rfl ?_
  refine y_iconst Q_X11_nameFind (k := 42) rfl ?_
  obtain ⟨q11, h⟩ := h
  refine y_iadd Q_X11_nameFind (k := 43) rfl ?_
  obtain ⟨q12, h⟩ := h
  refine q_iald (o := 603) (N := 594) Q_X11_nameFind (k := 44) rfl rfl (n_ hB10.1 rfl) (k_603 hB10.1) rfl q12 (by decide) ?_
  obtain ⟨q13, h⟩ := h
  refine y_iadd Q_X11_nameFind (k := 45) rfl ?_
  obtain ⟨q14, h⟩ := h
  refine q_iald (o := 603) (N := 594) Q_X11_nameFind (k := 46) rfl rfl (n_ hB10.1 rfl) (k_603 hB10.1) rfl q14 (by decide) ?_
  refine q_iast (o := 614) (N := 10) Q_X11_nameFind (k := 47) rfl rfl (n_ hB10.1 rfl) (k_614 hB10.1) rfl ⟨by decide, by decide⟩ (by decide) ?_
  have hB15 := qB.u (a := 614) (j := 3) (x := (qu (qu (qu V 614 0 (V 603 (r1 + 0))) 614 1 ((qu V 614 0 (V 603 (r1 + 0))) 603 (r1 + 1))) 614 2 ((qu (qu V 614 0 (V 603 (r1 + 0))) 614 1 ((qu V 614 0 (V 603 (r1 + 0))) 603 (r1 + 1))) 603 (r1 + 2))) 603 (134 + ((qu (qu (qu V 614 0 (V 603 (r1 + 0))) 614 1 ((qu V 614 0 (V 603 (r1 + 0))) 603 (r1 + 1))) 614 2 ((qu (qu V 614 0 (V 603 (r1 + 0))) 614 1 ((qu V 614 0 (V 603 (r1 + 0))) 603 (r1 + 1))) 603 (r1 + 2))) 603 (r1 + 1)))) hB10 (hB10.2.1 _ _) (Or.inl (by decide))
  refine z_aload_n Q_X11_nameFind (k := 48) rfl rfl ?_
  refine z_getR (b := 614) Q_X11_nameFind (k := 49) rfl F_X11_50 rfl (n_ hB15.1 rfl) (k_602 hB15.1) (r_602_22 hB15.1) ?_
  refine y_iconst Q_X11_nameFind (k := 50) rfl ?_
  refine z_aload_n Q_X11_nameFind (k := 51) rfl rfl ?_
  refine z_getR (b := 603) Q_X11_nameFind (k := 52) rfl F_X11_13 rfl (n_ hB15.1 rfl) (k_602 hB15.1) (r_602_1 hB15.1) ?_
  refine z_iload_n Q_X11_nameFind (k := 53) rfl rfl ?_
  refine y_iconst Q_X11_nameFind (k := 54) rfl ?_
  obtain ⟨q16, h⟩ := h
  refine y_iadd Q_X11_nameFind (k := 55) rfl ?_
  obtain ⟨q17, h⟩ := h
  refine q_iald (o := 603) (N := 594) Q_X11_nameFind (k := 56) rfl rfl (n_ hB15.1 rfl) (k_603 hB15.1) rfl q17 (by decide) ?_
  refine q_callS1_i Q_X11_nameFind (k := 57) rfl rfl K_X11_bitsOf S_X11_bitsOf L_X11_233 (Nat.le_of_ble_eq_true rfl) (Nat.le_of_ble_eq_true rfl) rfl (Nat.zero_le _) (Nat.zero_le _) (w_X11_bitsOf d hB15 (hB15.2.1 _ _) h) (fun r18 hz18 h => ?_)
  refine q_iast (o := 614) (N := 10) Q_X11_nameFind (k := 58) rfl rfl (n_ hB15.1 rfl) (k_614 hB15.1) rfl ⟨by decide, by decide⟩ (by decide) ?_
  have hB19 := qB.u (a := 614) (j := 4) (x := r18) hB15 hz18 (Or.inl (by decide))
  refine z_aload_n Q_X11_nameFind (k := 59) rfl rfl ?_
  refine z_getR (b := 614) Q_X11_nameFind (k := 60) rfl F_X11_50 rfl (n_ hB19.1 rfl) (k_602 hB19.1) (r_602_22 hB19.1) ?_
  refine y_iconst Q_X11_nameFind (k := 61) rfl ?_
  refine y_iconst Q_X11_nameFind (k := 62) rfl ?_
  refine q_iast (o := 614) (N := 10) Q_X11_nameFind (k := 63) rfl rfl (n_ hB19.1 rfl) (k_614 hB19.1) rfl ⟨by decide, by decide⟩ (by decide) ?_
  have hB20 := qB.u (a := 614) (j := 5) (x := 0) hB19 ⟨by decide, by decide⟩ (Or.inl (by decide))
  refine y_bipush Q_X11_nameFind (k := 64) rfl (by decide) ?_
  refine y_istore_n (L' := [some (.ref 602), some (.int (iI a1)), some (.int (iI r1)), some (.int (iI 11))]) Q_X11_nameFind (k := 65) rfl (by decide) rfl ?_
  refine y_fg (zsb_c rfl (zsb_c rfl (zsb_c rfl (zsb_c rfl zsb_e)))) (v_X11_nameFind_97 d z1 hz1 (fun l3x35 V35 hB35 zl3x35 h => ?_) 100000 11 (qu (qu (qu (qu (qu (qu V 614 0 (V 603 (r1 + 0))) 614 1 ((qu V 614 0 (V 603 (r1 + 0))) 603 (r1 + 1))) 614 2 ((qu (qu V 614 0 (V 603 (r1 + 0))) 614 1 ((qu V 614 0 (V 603 (r1 + 0))) 603 (r1 + 1))) 603 (r1 + 2))) 614 3 ((qu (qu (qu V 614 0 (V 603 (r1 + 0))) 614 1 ((qu V 614 0 (V 603 (r1 + 0))) 603 (r1 + 1))) 614 2 ((qu (qu V 614 0 (V 603 (r1 + 0))) 614 1 ((qu V 614 0 (V 603 (r1 + 0))) 603 (r1 + 1))) 603 (r1 + 2))) 603 (134 + ((qu (qu (qu V 614 0 (V 603 (r1 + 0))) 614 1 ((qu V 614 0 (V 603 (r1 + 0))) 603 (r1 + 1))) 614 2 ((qu (qu V 614 0 (V 603 (r1 + 0))) 614 1 ((qu V 614 0 (V 603 (r1 + 0))) 603 (r1 + 1))) 603 (r1 + 2))) 603 (r1 + 1))))) 614 4 r18) 614 5 0) hB20 ⟨by decide, by decide⟩ h)
  refine z_aload_n Q_X11_nameFind (k := 110) rfl rfl ?_
  refine z_getR (b := 614) Q_X11_nameFind (k := 111) rfl F_X11_50 rfl (n_ hB35.1 rfl) (k_602 hB35.1) (r_602_22 hB35.1) ?_
  refine y_bipush Q_X11_nameFind (k := 112) rfl (by decide) ?_
  refine z_aload_n Q_X11_nameFind (k := 113) rfl rfl ?_
  refine z_aload_n Q_X11_nameFind (k := 114) rfl rfl ?_
  refine z_getR (b := 603) Q_X11_nameFind (k := 115) rfl F_X11_13 rfl (n_ hB35.1 rfl) (k_602 hB35.1) (r_602_1 hB35.1) ?_
  refine z_iload_n Q_X11_nameFind (k := 116) rfl rfl ?_
  refine y_iconst Q_X11_nameFind (k := 117) rfl ?_
  obtain ⟨q36, h⟩ := h
  refine y_iadd Q_X11_nameFind (k := 118) rfl ?_
  obtain ⟨q37, h⟩ := h
  refine q_iald (o := 603) (N := 594) Q_X11_nameFind (k := 119) rfl rfl (n_ hB35.1 rfl) (k_603 hB35.1) rfl q37 (by decide) ?_
  refine q_callV1_i Q_X11_nameFind (k := 120) rfl rfl K_X11_ownOf V_X11_ownOf L_X11_242 (n_ hB35.1 rfl) (k_602 hB35.1) (Nat.le_of_ble_eq_true rfl) (Nat.le_of_ble_eq_true rfl) rfl (Nat.zero_le _) (Nat.zero_le _) (w_X11_ownOf d hB35 (hB35.2.1 _ _) h) (fun r38 hz38 h => ?_)
  refine q_iast (o := 614) (N := 10) Q_X11_nameFind (k := 121) rfl rfl (n_ hB35.1 rfl) (k_614 hB35.1) rfl ⟨by decide, by decide⟩ (by decide) ?_
  have hB39 := qB.u (a := 614) (j := 6) (x := r38) hB35 hz38 (Or.inl (by decide))
  refine z_aload_n Q_X11_nameFind (k := 122) rfl rfl ?_
  refine z_getR (b := 614) Q_X11_nameFind (k := 123) rfl F_X11_50 rfl (n_ hB39.1 rfl) (k_602 hB39.1) (r_602_22 hB39.1) ?_
  refine y_bipush Q_X11_nameFind (k := 124) rfl (by decide) ?_
  refine z_aload_n Q_X11_nameFind (k := 125) rfl rfl ?_
  refine z_getR (b := 603) Q_X11_nameFind (k := 126) rfl F_X11_13 rfl (n_ hB39.1 rfl) (k_602 hB39.1) (r_602_1 hB39.1) ?_
  refine y_bipush Q_X11_nameFind (k := 127) rfl (by decide) ?_
  refine q_iald (o := 603) (N := 594) Q_X11_nameFind (k := 128) rfl rfl (n_ hB39.1 rfl) (k_603 hB39.1) rfl ⟨by decide, by decide⟩ (by decide) ?_
  refine z_aload_n Q_X11_nameFind (k := 129) rfl rfl ?_
  refine z_getR (b := 603) Q_X11_nameFind (k := 130) rfl F_X11_13 rfl (n_ hB39.1 rfl) (k_602 hB39.1) (r_602_1 hB39.1) ?_
  refine z_iload_n Q_X11_nameFind (k := 131) rfl rfl ?_
  refine y_iconst Q_X11_nameFind (k := 132) rfl ?_
  obtain ⟨q40, h⟩ := h
  refine y_iadd Q_X11_nameFind (k := 133) rfl ?_
  obtain ⟨q41, h⟩ := h
  refine q_iald (o := 603) (N := 594) Q_X11_nameFind (k := 134) rfl rfl (n_ hB39.1 rfl) (k_603 hB39.1) rfl q41 (by decide) ?_
  obtain ⟨q42, h⟩ := h
  refine y_isub Q_X11_nameFind (k := 135) rfl ?_
  refine q_iast (o := 614) (N := 10) Q_X11_nameFind (k := 136) rfl rfl (n_ hB39.1 rfl) (k_614 hB39.1) rfl ⟨by decide, by decide⟩ (by decide) ?_
  have hB43 := qB.u (a := 614) (j := 7) (x := ((qu V35 614 6 r38) 603 20) - ((qu V35 614 6 r38) 603 (r1 + 5))) hB39 q42 (Or.inl (by decide))
  refine z_aload_n Q_X11_nameFind (k := 137) rfl rfl ?_
  refine z_getR (b := 614) Q_X11_nameFind (k := 138) rfl F_X11_50 rfl (n_ hB43.1 rfl) (k_602 hB43.1) (r_602_22 hB43.1) ?_
  refine y_bipush Q_X11_nameFind (k := 139) rfl (by decide) ?_
  refine z_aload_n Q_X11_nameFind (k := 140) rfl rfl ?_
  refine z_getR (b := 603) Q_X11_nameFind (k := 141) rfl F_X11_13 rfl (n_ hB43.1 rfl) (k_602 hB43.1) (r_602_1 hB43.1) ?_
  refine z_iload_n Q_X11_nameFind (k := 142) rfl rfl ?_
  refine y_bipush Q_X11_nameFind (k := 143) rfl (by decide) ?_
  obtain ⟨q44, h⟩ := h
  refine y_iadd Q_X11_nameFind (k := 144) rfl ?_
  obtain ⟨q45, h⟩ := h
  refine q_iald (o := 603) (N := 594) Q_X11_nameFind (k := 145) rfl rfl (n_ hB43.1 rfl) (k_603 hB43.1) rfl q45 (by decide) ?_
  refine q_iast (o := 614) (N := 10) Q_X11_nameFind (k := 146) rfl rfl (n_ hB43.1 rfl) (k_614 hB43.1) rfl ⟨by decide, by decide⟩ (by decide) ?_
  have hB46 := qB.u (a := 614) (j := 8) (x := (qu (qu V35 614 6 r38) 614 7 (((qu V35 614 6 r38) 603 20) - ((qu V35 614 6 r38) 603 (r1 + 5)))) 603 (r1 + 6)) hB43 (hB43.2.1 _ _) (Or.inl (by decide))
  refine z_aload_n Q_X11_nameFind (k := 147) rfl rfl ?_
  refine z_getR (b := 614) Q_X11_nameFind (k := 148) rfl F_X11_50 rfl (n_ hB46.1 rfl) (k_602 hB46.1) (r_602_22 hB46.1) ?_
  refine y_bipush Q_X11_nameFind (k := 149) rfl (by decide) ?_
  refine y_iconst Q_X11_nameFind (k := 150) rfl ?_
  refine q_iast (o := 614) (N := 10) Q_X11_nameFind (k := 151) rfl rfl (n_ hB46.1 rfl) (k_614 hB46.1) rfl ⟨by decide, by decide⟩ (by decide) ?_
  have hB47 := qB.u (a := 614) (j := 9) (x := 0) hB46 ⟨by decide, by decide⟩ (Or.inl (by decide))
  refine y_iconst Q_X11_nameFind (k := 152) rfl ?_
  refine y_istore_n (L' := [some (.ref 602), some (.int (iI a1)), some (.int (iI r1)), some (.int (iI 0))]) Q_X11_nameFind (k := 153) rfl (by decide) rfl ?_
  refine y_fg (zsb_c rfl (zsb_c rfl (zsb_n (zsb_c rfl zsb_e)))) (v_X11_nameFind_235 d z1 (fun l3x57 V57 hB57 zl3x57 h => ?_) 100000 0 (qu (qu (qu (qu V35 614 6 r38) 614 7 (((qu V35 614 6 r38) 603 20) - ((qu V35 614 6 r38) 603 (r1 + 5)))) 614 8 ((qu (qu V35 614 6 r38) 614 7 (((qu V35 614 6 r38) 603 20) - ((qu V35 614 6 r38) 603 (r1 + 5)))) 603 (r1 + 6))) 614 9 0) hB47 ⟨by decide, by decide⟩ h)
  exact z_vret Q_X11_nameFind (k := 182) rfl rfl (qI_uV hB57 h)
set_option maxHeartbeats 4000000 in
set_option maxRecDepth 20000 in
theorem w_X11_name {S : zS} {V : qV} {J : qJ} {Q : Int → qV → Prop} (d : Nat) (hB : qB S V) {a1 : Int} (z1 : zr a1) {a2 : Int} (z2 : zr a2) (h : W_X11_name a1 a2 V Q) : Z M_X11_name (d + 2) 0 0 0 [some (.ref 602), some (.int (iI a1)), some (.int (iI a2))] [] S (qi V) (qj J) (qP_iV S J Q) := by
  unfold W_X11_name at h
  refine z_aload_n Q_X11_name (k := 0) rfl rfl ?_
  refine y_iconst Q_X11_name (k := 1) rfl ?_
  refine q_putI (o := 602) (z := 0) Q_X11_name (k := 2) rfl F_X11_1 rfl rfl rfl (n_ hB.1 rfl) (k_602 hB.1) ?_
  have hB1 := qB.u (a := 602) (j := 0) (x := 0) hB ⟨by decide, by decide⟩ (Or.inl (by decide))
  refine z_aload_n Q_X11_name (k := 3) rfl rfl ?_
  refine z_iload_n Q_X11_name (k := 4) rfl rfl ?_
  refine q_callV1_zV Q_X11_name (k := 5) rfl rfl K_X11_isFind V_X11_isFind L_X11_245 (n_ hB1.1 rfl) (k_602 hB1.1) (Nat.le_of_ble_eq_true rfl) (Nat.le_of_ble_eq_true rfl) rfl (Nat.zero_le _) (Nat.zero_le _) (w_X11_isFind d hB1 z1 h) (fun r2 V2 hB2 hz2 hb2 h => ?_)
  refine y_if_eq 28 Q_X11_name (k := 6) rfl (by decide) hz2 (fun c => ?_) (fun c => ?_)
  · replace h := h.1 c
    refine y_iconst Q_X11_name (k := 15) rfl ?_
    exact y_iret Q_X11_name (k := 16) rfl rfl (qI_iV hB2 ⟨by decide, by decide⟩ h)
  · replace h := h.2 c
    refine z_aload_n Q_X11_name (k := 7) rfl rfl ?_
    refine z_iload_n Q_X11_name (k := 8) rfl rfl ?_
    refine y_iconst Q_X11_name (k := 9) rfl ?_
    refine y_bipush Q_X11_name (k := 10) rfl (by decide) ?_
    refine q_callS3_z Q_X11_name (k := 11) rfl rfl K_X11_within S_X11_within L_X11_207 (Nat.le_of_ble_eq_true rfl) (Nat.le_of_ble_eq_true rfl) rfl (Nat.zero_le _) (Nat.zero_le _) (w_X11_within (d + 1) hB2 z2 ⟨by decide, by decide⟩ ⟨by decide, by decide⟩ h) (fun r3 hz3 hb3 h => ?_)
    refine y_iconst Q_X11_name (k := 12) rfl ?_
    refine q_callV2_zV Q_X11_name (k := 13) rfl rfl K_X11_may V_X11_may L_X11_187 (n_ hB2.1 rfl) (k_602 hB2.1) (Nat.le_of_ble_eq_true rfl) (Nat.le_of_ble_eq_true rfl) rfl (Nat.zero_le _) (Nat.zero_le _) (w_X11_may (d + 1) hB2 hz3 hb3 ⟨by decide, by decide⟩ h) (fun r4 V4 hB4 hz4 hb4 h => ?_)
    refine y_if_ne 30 Q_X11_name (k := 14) rfl (by decide) hz4 (fun c => ?_) (fun c => ?_)
    · replace h := h.2 c
      refine z_aload_n Q_X11_name (k := 17) rfl rfl ?_
      refine z_iload_n Q_X11_name (k := 18) rfl rfl ?_
      refine q_callV1_uV Q_X11_name (k := 19) rfl rfl K_X11_nameFind V_X11_nameFind L_X11_248 (n_ hB4.1 rfl) (k_602 hB4.1) (Nat.le_of_ble_eq_true rfl) (Nat.le_of_ble_eq_true rfl) rfl (Nat.zero_le _) (Nat.zero_le _) (w_X11_nameFind d hB4 z1 h) (fun V5 hB5 h => ?_)
      refine z_aload_n Q_X11_name (k := 20) rfl rfl ?_
      refine z_getR (b := 614) Q_X11_name (k := 21) rfl F_X11_50 rfl (n_ hB5.1 rfl) (k_602 hB5.1) (r_602_22 hB5.1) ?_
      refine z_iload_n Q_X11_name (k := 22) rfl rfl ?_
      obtain ⟨q6, h⟩ := h
      refine q_iald (o := 614) (N := 10) Q_X11_name (k := 23) rfl rfl (n_ hB5.1 rfl) (k_614 hB5.1) rfl q6 (by decide) ?_
      exact y_iret Q_X11_name (k := 24) rfl rfl (qI_iV hB5 (hB5.2.1 _ _) h)
    · replace h := h.1 c
      refine y_iconst Q_X11_name (k := 15) rfl ?_
      exact y_iret Q_X11_name (k := 16) rfl rfl (qI_iV hB4 ⟨by decide, by decide⟩ h)
set_option maxHeartbeats 4000000 in
set_option maxRecDepth 20000 in
theorem w_X11_hold {S : zS} {V : qV} {J : qJ} {Q : Int → qV → Prop} (d : Nat) (hB : qB S V) {a1 : Int} (z1 : zr a1) {a2 : Int} (z2 : zr a2) {a3 : Int} (z3 : zr a3) {a4 : Int} (z4 : zr a4) (h : W_X11_hold a1 a2 a3 a4 V Q) : Z M_X11_hold (d + 2) 0 0 0 [some (.ref 602), some (.int (iI a1)), some (.int (iI a2)), some (.int (iI a3)), some (.int (iI a4)), none, none] [] S (qi V) (qj J) (qP_iV S J Q) := by
  unfold W_X11_hold at h
  refine z_aload_n Q_X11_hold (k := 0) rfl rfl ?_
  refine y_iconst Q_X11_hold (k := 1) rfl ?_
  refine q_putI (o := 602) (z := 0) Q_X11_hold (k := 2) rfl F_X11_1 rfl rfl rfl (n_ hB.1 rfl) (k_602 hB.1) ?_
  have hB1 := qB.u (a := 602) (j := 0) (x := 0) hB ⟨by decide, by decide⟩ (Or.inl (by decide))
  refine z_aload_n Q_X11_hold (k := 3) rfl rfl ?_
  refine z_iload_n Q_X11_hold (k := 4) rfl rfl ?_
  refine q_callV1_zV Q_X11_hold (k := 5) rfl rfl K_X11_isFind V_X11_isFind L_X11_245 (n_ hB1.1 rfl) (k_602 hB1.1) (Nat.le_of_ble_eq_true rfl) (Nat.le_of_ble_eq_true rfl) rfl (Nat.zero_le _) (Nat.zero_le _) (w_X11_isFind d hB1 z1 h) (fun r2 V2 hB2 hz2 hb2 h => ?_)
  refine y_if_eq 56 Q_X11_hold (k := 6) rfl (by decide) hz2 (fun c => ?_) (fun c => ?_)
  · replace h := h.1 c
    refine y_iconst Q_X11_hold (k := 29) rfl ?_
    exact y_iret Q_X11_hold (k := 30) rfl rfl (qI_iV hB2 ⟨by decide, by decide⟩ h)
  · replace h := h.2 c
    refine z_aload_n Q_X11_hold (k := 7) rfl rfl ?_
    refine z_iload_n Q_X11_hold (k := 8) rfl rfl ?_
    refine y_iconst Q_X11_hold (k := 9) rfl ?_
    refine q_callV2_zV Q_X11_hold (k := 10) rfl rfl K_X11_isPerson V_X11_isPerson L_X11_223 (n_ hB2.1 rfl) (k_602 hB2.1) (Nat.le_of_ble_eq_true rfl) (Nat.le_of_ble_eq_true rfl) rfl (Nat.zero_le _) (Nat.zero_le _) (w_X11_isPerson d hB2 z2 ⟨by decide, by decide⟩ h) (fun r3 V3 hB3 hz3 hb3 h => ?_)
    refine y_if_eq 56 Q_X11_hold (k := 11) rfl (by decide) hz3 (fun c => ?_) (fun c => ?_)
    · replace h := h.1 c
      refine y_iconst Q_X11_hold (k := 29) rfl ?_
      exact y_iret Q_X11_hold (k := 30) rfl rfl (qI_iV hB3 ⟨by decide, by decide⟩ h)
    · replace h := h.2 c
      refine z_aload_n Q_X11_hold (k := 12) rfl rfl ?_
      refine z_iload_n Q_X11_hold (k := 13) rfl rfl ?_
      refine y_iconst Q_X11_hold (k := 14) rfl ?_
      refine y_iconst Q_X11_hold (k := 15) rfl ?_
      refine q_callS3_z Q_X11_hold (k := 16) rfl rfl K_X11_within S_X11_within L_X11_207 (Nat.le_of_ble_eq_true rfl) (Nat.le_of_ble_eq_true rfl) rfl (Nat.zero_le _) (Nat.zero_le _) (w_X11_within (d + 1) hB3 z3 ⟨by decide, by decide⟩ ⟨by decide, by decide⟩ h) (fun r4 hz4 hb4 h => ?_)
      refine y_if_eq 48 Q_X11_hold (k := 17) rfl (by decide) hz4 (fun c => ?_) (fun c => ?_)
      · replace h := h.1 c
        refine y_iconst Q_X11_hold (k := 25) rfl ?_
        refine y_iconst Q_X11_hold (k := 26) rfl ?_
        refine q_callV2_zV Q_X11_hold (k := 27) rfl rfl K_X11_may V_X11_may L_X11_187 (n_ hB3.1 rfl) (k_602 hB3.1) (Nat.le_of_ble_eq_true rfl) (Nat.le_of_ble_eq_true rfl) rfl (Nat.zero_le _) (Nat.zero_le _) (w_X11_may (d + 1) hB3 ⟨by decide, by decide⟩ (Or.inl rfl) ⟨by decide, by decide⟩ h) (fun r5 V5 hB5 hz5 hb5 h => ?_)
        refine y_if_ne 58 Q_X11_hold (k := 28) rfl (by decide) hz5 (fun c => ?_) (fun c => ?_)
        · replace h := h.2 c
          refine z_iload_n Q_X11_hold (k := 31) rfl rfl ?_
          refine q_callS1_i Q_X11_hold (k := 32) rfl rfl K_X11_find_ S_X11_find_ L_X11_230 (Nat.le_of_ble_eq_true rfl) (Nat.le_of_ble_eq_true rfl) rfl (Nat.zero_le _) (Nat.zero_le _) (w_X11_find_ (d + 1) hB5 z1 h) (fun r6 hz6 h => ?_)
          refine y_istore (L' := [some (.ref 602), some (.int (iI a1)), some (.int (iI a2)), some (.int (iI a3)), some (.int (iI a4)), some (.int (iI r6)), none]) Q_X11_hold (k := 33) rfl (by decide) rfl ?_
          refine z_aload_n Q_X11_hold (k := 34) rfl rfl ?_
          refine z_getR (b := 603) Q_X11_hold (k := 35) rfl F_X11_13 rfl (n_ hB5.1 rfl) (k_602 hB5.1) (r_602_1 hB5.1) ?_
          refine z_iload Q_X11_hold (k := 36) rfl rfl ?_
          refine y_bipush Q_X11_hold (k := 37) rfl (by decide) ?_
          obtain ⟨q7, h⟩ := h
          refine y_iadd Q_X11_hold (k := 38) rfl ?_
          obtain ⟨q8, h⟩ := h
          refine q_iald (o := 603) (N := 594) Q_X11_hold (k := 39) rfl rfl (n_ hB5.1 rfl) (k_603 hB5.1) rfl q8 (by decide) ?_
          refine y_bipush Q_X11_hold (k := 40) rfl (by decide) ?_
          refine y_icmp_ne 81 Q_X11_hold (k := 41) rfl (by decide) (hB5.2.1 _ _) ⟨by decide, by decide⟩ (fun c => ?_) (fun c => ?_)
          · replace h := h.2 c
            refine z_iload Q_X11_hold (k := 44) rfl rfl ?_
            refine y_bipush Q_X11_hold (k := 45) rfl (by decide) ?_
            obtain ⟨q9, h⟩ := h
            refine y_iadd Q_X11_hold (k := 46) rfl ?_
            refine y_iconst Q_X11_hold (k := 47) rfl ?_
            refine z_aload_n Q_X11_hold (k := 48) rfl rfl ?_
            refine z_getR (b := 603) Q_X11_hold (k := 49) rfl F_X11_13 rfl (n_ hB5.1 rfl) (k_602 hB5.1) (r_602_1 hB5.1) ?_
            refine z_iload Q_X11_hold (k := 50) rfl rfl ?_
            refine y_bipush Q_X11_hold (k := 51) rfl (by decide) ?_
            obtain ⟨q10, h⟩ := h
            refine y_iadd Q_X11_hold (k := 52) rfl ?_
            obtain ⟨q11, h⟩ := h
            refine q_iald (o := 603) (N := 594) Q_X11_hold (k := 53) rfl rfl (n_ hB5.1 rfl) (k_603 hB5.1) rfl q11 (by decide) ?_
            obtain ⟨q12, h⟩ := h
            refine y_imul Q_X11_hold (k := 54) rfl ?_
            obtain ⟨q13, h⟩ := h
            refine y_iadd Q_X11_hold (k := 55) rfl ?_
            refine y_istore (L' := [some (.ref 602), some (.int (iI a1)), some (.int (iI a2)), some (.int (iI a3)), some (.int (iI a4)), some (.int (iI r6)), some (.int (iI ((r6 + 9) + (3 * (V5 603 (r6 + 8))))))]) Q_X11_hold (k := 56) rfl (by decide) rfl ?_
            refine z_aload_n Q_X11_hold (k := 57) rfl rfl ?_
            refine z_getR (b := 603) Q_X11_hold (k := 58) rfl F_X11_13 rfl (n_ hB5.1 rfl) (k_602 hB5.1) (r_602_1 hB5.1) ?_
            refine z_iload Q_X11_hold (k := 59) rfl rfl ?_
            refine z_iload_n Q_X11_hold (k := 60) rfl rfl ?_
            obtain ⟨q14, h⟩ := h
            refine q_iast (o := 603) (N := 594) Q_X11_hold (k := 61) rfl rfl (n_ hB5.1 rfl) (k_603 hB5.1) rfl q14 (by decide) ?_
            have hB15 := qB.u (a := 603) (j := (r6 + 9) + (3 * (V5 603 (r6 + 8)))) (x := a2) hB5 z2 (Or.inl (by decide))
            refine z_aload_n Q_X11_hold (k := 62) rfl rfl ?_
            refine z_getR (b := 603) Q_X11_hold (k := 63) rfl F_X11_13 rfl (n_ hB15.1 rfl) (k_602 hB15.1) (r_602_1 hB15.1) ?_
            refine z_iload Q_X11_hold (k := 64) rfl rfl ?_
            refine y_iconst Q_X11_hold (k := 65) rfl ?_
            obtain ⟨q16, h⟩ := h
            refine y_iadd Q_X11_hold (k := 66) rfl ?_
            refine z_iload_n Q_X11_hold (k := 67) rfl rfl ?_
            obtain ⟨q17, h⟩ := h
            refine q_iast (o := 603) (N := 594) Q_X11_hold (k := 68) rfl rfl (n_ hB15.1 rfl) (k_603 hB15.1) rfl q17 (by decide) ?_
            have hB18 := qB.u (a := 603) (j := ((r6 + 9) + (3 * (V5 603 (r6 + 8)))) + 1) (x := a3) hB15 z3 (Or.inl (by decide))
            refine z_aload_n Q_X11_hold (k := 69) rfl rfl ?_
            refine z_getR (b := 603) Q_X11_hold (k := 70) rfl F_X11_13 rfl (n_ hB18.1 rfl) (k_602 hB18.1) (r_602_1 hB18.1) ?_
            refine z_iload Q_X11_hold (k := 71) rfl rfl ?_
            refine y_iconst Q_X11_hold (k := 72) rfl ?_
            obtain ⟨q19, h⟩ := h
            refine y_iadd Q_X11_hold (k := 73) rfl ?_
            refine z_iload Q_X11_hold (k := 74) rfl rfl ?_
            obtain ⟨q20, h⟩ := h
            refine q_iast (o := 603) (N := 594) Q_X11_hold (k := 75) rfl rfl (n_ hB18.1 rfl) (k_603 hB18.1) rfl q20 (by decide) ?_
            have hB21 := qB.u (a := 603) (j := ((r6 + 9) + (3 * (V5 603 (r6 + 8)))) + 2) (x := a4) hB18 z4 (Or.inl (by decide))
            refine z_aload_n Q_X11_hold (k := 76) rfl rfl ?_
            refine z_getR (b := 603) Q_X11_hold (k := 77) rfl F_X11_13 rfl (n_ hB21.1 rfl) (k_602 hB21.1) (r_602_1 hB21.1) ?_
            refine z_iload Q_X11_hold (k := 78) rfl rfl ?_
            refine y_bipush Q_X11_hold (k := 79) rfl (by decide) ?_
            obtain ⟨q22, h⟩ := h
            refine y_iadd Q_X11_hold (k := 80) rfl ?_
            refine z_dup2 Q_X11_hold (k := 81) rfl rfl rfl ?_
            obtain ⟨q23, h⟩ := h
            refine q_iald (o := 603) (N := 594) Q_X11_hold (k := 82) rfl rfl (n_ hB21.1 rfl) (k_603 hB21.1) rfl q23 (by decide) ?_
            refine y_iconst Q_X11_hold (k := 83) rfl ?_
            obtain ⟨q24, h⟩ := h
            refine y_iadd Q_X11_hold (k := 84) rfl ?_
            obtain ⟨q25, h⟩ := h
            refine q_iast (o := 603) (N := 594) Q_X11_hold (k := 85) rfl rfl (n_ hB21.1 rfl) (k_603 hB21.1) rfl q25 (by decide) ?_
            have hB26 := qB.u (a := 603) (j := r6 + 8) (x := ((qu (qu (qu V5 603 ((r6 + 9) + (3 * (V5 603 (r6 + 8)))) a2) 603 (((r6 + 9) + (3 * (V5 603 (r6 + 8)))) + 1) a3) 603 (((r6 + 9) + (3 * (V5 603 (r6 + 8)))) + 2) a4) 603 (r6 + 8)) + 1) hB21 q24 (Or.inl (by decide))
            refine z_aload_n Q_X11_hold (k := 86) rfl rfl ?_
            refine z_getR (b := 603) Q_X11_hold (k := 87) rfl F_X11_13 rfl (n_ hB26.1 rfl) (k_602 hB26.1) (r_602_1 hB26.1) ?_
            refine z_iload Q_X11_hold (k := 88) rfl rfl ?_
            refine y_bipush Q_X11_hold (k := 89) rfl (by decide) ?_
            obtain ⟨q27, h⟩ := h
            refine y_iadd Q_X11_hold (k := 90) rfl ?_
            obtain ⟨q28, h⟩ := h
            refine q_iald (o := 603) (N := 594) Q_X11_hold (k := 91) rfl rfl (n_ hB26.1 rfl) (k_603 hB26.1) rfl q28 (by decide) ?_
            exact y_iret Q_X11_hold (k := 92) rfl rfl (qI_iV hB26 (hB26.2.1 _ _) h)
          · replace h := h.1 c
            refine y_iconst Q_X11_hold (k := 42) rfl ?_
            exact y_iret Q_X11_hold (k := 43) rfl rfl (qI_iV hB5 ⟨by decide, by decide⟩ h)
        · replace h := h.1 c
          refine y_iconst Q_X11_hold (k := 29) rfl ?_
          exact y_iret Q_X11_hold (k := 30) rfl rfl (qI_iV hB5 ⟨by decide, by decide⟩ h)
      · replace h := h.2 c
        refine z_iload Q_X11_hold (k := 18) rfl rfl ?_
        refine y_iconst Q_X11_hold (k := 19) rfl ?_
        refine y_sipush Q_X11_hold (k := 20) rfl (by decide) ?_
        refine q_callS3_z Q_X11_hold (k := 21) rfl rfl K_X11_within S_X11_within L_X11_207 (Nat.le_of_ble_eq_true rfl) (Nat.le_of_ble_eq_true rfl) rfl (Nat.zero_le _) (Nat.zero_le _) (w_X11_within (d + 1) hB3 z4 ⟨by decide, by decide⟩ ⟨by decide, by decide⟩ h) (fun r29 hz29 hb29 h => ?_)
        refine y_if_eq 48 Q_X11_hold (k := 22) rfl (by decide) hz29 (fun c => ?_) (fun c => ?_)
        · replace h := h.1 c
          refine y_iconst Q_X11_hold (k := 25) rfl ?_
          refine y_iconst Q_X11_hold (k := 26) rfl ?_
          refine q_callV2_zV Q_X11_hold (k := 27) rfl rfl K_X11_may V_X11_may L_X11_187 (n_ hB3.1 rfl) (k_602 hB3.1) (Nat.le_of_ble_eq_true rfl) (Nat.le_of_ble_eq_true rfl) rfl (Nat.zero_le _) (Nat.zero_le _) (w_X11_may (d + 1) hB3 ⟨by decide, by decide⟩ (Or.inl rfl) ⟨by decide, by decide⟩ h) (fun r30 V30 hB30 hz30 hb30 h => ?_)
          refine y_if_ne 58 Q_X11_hold (k := 28) rfl (by decide) hz30 (fun c => ?_) (fun c => ?_)
          · replace h := h.2 c
            refine z_iload_n Q_X11_hold (k := 31) rfl rfl ?_
            refine q_callS1_i Q_X11_hold (k := 32) rfl rfl K_X11_find_ S_X11_find_ L_X11_230 (Nat.le_of_ble_eq_true rfl) (Nat.le_of_ble_eq_true rfl) rfl (Nat.zero_le _) (Nat.zero_le _) (w_X11_find_ (d + 1) hB30 z1 h) (fun r31 hz31 h => ?_)
            refine y_istore (L' := [some (.ref 602), some (.int (iI a1)), some (.int (iI a2)), some (.int (iI a3)), some (.int (iI a4)), some (.int (iI r31)), none]) Q_X11_hold (k := 33) rfl (by decide) rfl ?_
            refine z_aload_n Q_X11_hold (k := 34) rfl rfl ?_
            refine z_getR (b := 603) Q_X11_hold (k := 35) rfl F_X11_13 rfl (n_ hB30.1 rfl) (k_602 hB30.1) (r_602_1 hB30.1) ?_
            refine z_iload Q_X11_hold (k := 36) rfl rfl ?_
            refine y_bipush Q_X11_hold (k := 37) rfl (by decide) ?_
            obtain ⟨q32, h⟩ := h
            refine y_iadd Q_X11_hold (k := 38) rfl ?_
            obtain ⟨q33, h⟩ := h
            refine q_iald (o := 603) (N := 594) Q_X11_hold (k := 39) rfl rfl (n_ hB30.1 rfl) (k_603 hB30.1) rfl q33 (by decide) ?_
            refine y_bipush Q_X11_hold (k := 40) rfl (by decide) ?_
            refine y_icmp_ne 81 Q_X11_hold (k := 41) rfl (by decide) (hB30.2.1 _ _) ⟨by decide, by decide⟩ (fun c => ?_) (fun c => ?_)
            · replace h := h.2 c
              refine z_iload Q_X11_hold (k := 44) rfl rfl ?_
              refine y_bipush Q_X11_hold (k := 45) rfl (by decide) ?_
              obtain ⟨q34, h⟩ := h
              refine y_iadd Q_X11_hold (k := 46) rfl ?_
              refine y_iconst Q_X11_hold (k := 47) rfl ?_
              refine z_aload_n Q_X11_hold (k := 48) rfl rfl ?_
              refine z_getR (b := 603) Q_X11_hold (k := 49) rfl F_X11_13 rfl (n_ hB30.1 rfl) (k_602 hB30.1) (r_602_1 hB30.1) ?_
              refine z_iload Q_X11_hold (k := 50) rfl rfl ?_
              refine y_bipush Q_X11_hold (k := 51) rfl (by decide) ?_
              obtain ⟨q35, h⟩ := h
              refine y_iadd Q_X11_hold (k := 52) rfl ?_
              obtain ⟨q36, h⟩ := h
              refine q_iald (o := 603) (N := 594) Q_X11_hold (k := 53) rfl rfl (n_ hB30.1 rfl) (k_603 hB30.1) rfl q36 (by decide) ?_
              obtain ⟨q37, h⟩ := h
              refine y_imul Q_X11_hold (k := 54) rfl ?_
              obtain ⟨q38, h⟩ := h
              refine y_iadd Q_X11_hold (k := 55) rfl ?_
              refine y_istore (L' := [some (.ref 602), some (.int (iI a1)), some (.int (iI a2)), some (.int (iI a3)), some (.int (iI a4)), some (.int (iI r31)), some (.int (iI ((r31 + 9) + (3 * (V30 603 (r31 + 8))))))]) Q_X11_hold (k := 56) rfl (by decide) rfl ?_
              refine z_aload_n Q_X11_hold (k := 57) rfl rfl ?_
              refine z_getR (b := 603) Q_X11_hold (k := 58) rfl F_X11_13 rfl (n_ hB30.1 rfl) (k_602 hB30.1) (r_602_1 hB30.1) ?_
              refine z_iload Q_X11_hold (k := 59) rfl rfl ?_
              refine z_iload_n Q_X11_hold (k := 60) rfl rfl ?_
              obtain ⟨q39, h⟩ := h
              refine q_iast (o := 603) (N := 594) Q_X11_hold (k := 61) rfl rfl (n_ hB30.1 rfl) (k_603 hB30.1) rfl q39 (by decide) ?_
              have hB40 := qB.u (a := 603) (j := (r31 + 9) + (3 * (V30 603 (r31 + 8)))) (x := a2) hB30 z2 (Or.inl (by decide))
              refine z_aload_n Q_X11_hold (k := 62) rfl rfl ?_
              refine z_getR (b := 603) Q_X11_hold (k := 63) rfl F_X11_13 rfl (n_ hB40.1 rfl) (k_602 hB40.1) (r_602_1 hB40.1) ?_
              refine z_iload Q_X11_hold (k := 64) rfl rfl ?_
              refine y_iconst Q_X11_hold (k := 65) rfl ?_
              obtain ⟨q41, h⟩ := h
              refine y_iadd Q_X11_hold (k := 66) rfl ?_
              refine z_iload_n Q_X11_hold (k := 67) rfl rfl ?_
              obtain ⟨q42, h⟩ := h
              refine q_iast (o := 603) (N := 594) Q_X11_hold (k := 68) rfl rfl (n_ hB40.1 rfl) (k_603 hB40.1) rfl q42 (by decide) ?_
              have hB43 := qB.u (a := 603) (j := ((r31 + 9) + (3 * (V30 603 (r31 + 8)))) + 1) (x := a3) hB40 z3 (Or.inl (by decide))
              refine z_aload_n Q_X11_hold (k := 69) rfl rfl ?_
              refine z_getR (b := 603) Q_X11_hold (k := 70) rfl F_X11_13 rfl (n_ hB43.1 rfl) (k_602 hB43.1) (r_602_1 hB43.1) ?_
              refine z_iload Q_X11_hold (k := 71) rfl rfl ?_
              refine y_iconst Q_X11_hold (k := 72) rfl ?_
              obtain ⟨q44, h⟩ := h
              refine y_iadd Q_X11_hold (k := 73) rfl ?_
              refine z_iload Q_X11_hold (k := 74) rfl rfl ?_
              obtain ⟨q45, h⟩ := h
              refine q_iast (o := 603) (N := 594) Q_X11_hold (k := 75) rfl rfl (n_ hB43.1 rfl) (k_603 hB43.1) rfl q45 (by decide) ?_
              have hB46 := qB.u (a := 603) (j := ((r31 + 9) + (3 * (V30 603 (r31 + 8)))) + 2) (x := a4) hB43 z4 (Or.inl (by decide))
              refine z_aload_n Q_X11_hold (k := 76) rfl rfl ?_
              refine z_getR (b := 603) Q_X11_hold (k := 77) rfl F_X11_13 rfl (n_ hB46.1 rfl) (k_602 hB46.1) (r_602_1 hB46.1) ?_
              refine z_iload Q_X11_hold (k := 78) rfl rfl ?_
              refine y_bipush Q_X11_hold (k := 79) rfl (by decide) ?_
              obtain ⟨q47, h⟩ := h
              refine y_iadd Q_X11_hold (k := 80) rfl ?_
              refine z_dup2 Q_X11_hold (k := 81) rfl rfl rfl ?_
              obtain ⟨q48, h⟩ := h
              refine q_iald (o := 603) (N := 594) Q_X11_hold (k := 82) rfl rfl (n_ hB46.1 rfl) (k_603 hB46.1) rfl q48 (by decide) ?_
              refine y_iconst Q_X11_hold (k := 83) rfl ?_
              obtain ⟨q49, h⟩ := h
              refine y_iadd Q_X11_hold (k := 84) rfl ?_
              obtain ⟨q50, h⟩ := h
              refine q_iast (o := 603) (N := 594) Q_X11_hold (k := 85) rfl rfl (n_ hB46.1 rfl) (k_603 hB46.1) rfl q50 (by decide) ?_
              have hB51 := qB.u (a := 603) (j := r31 + 8) (x := ((qu (qu (qu V30 603 ((r31 + 9) + (3 * (V30 603 (r31 + 8)))) a2) 603 (((r31 + 9) + (3 * (V30 603 (r31 + 8)))) + 1) a3) 603 (((r31 + 9) + (3 * (V30 603 (r31 + 8)))) + 2) a4) 603 (r31 + 8)) + 1) hB46 q49 (Or.inl (by decide))
              refine z_aload_n Q_X11_hold (k := 86) rfl rfl ?_
              refine z_getR (b := 603) Q_X11_hold (k := 87) rfl F_X11_13 rfl (n_ hB51.1 rfl) (k_602 hB51.1) (r_602_1 hB51.1) ?_
              refine z_iload Q_X11_hold (k := 88) rfl rfl ?_
              refine y_bipush Q_X11_hold (k := 89) rfl (by decide) ?_
              obtain ⟨q52, h⟩ := h
              refine y_iadd Q_X11_hold (k := 90) rfl ?_
              obtain ⟨q53, h⟩ := h
              refine q_iald (o := 603) (N := 594) Q_X11_hold (k := 91) rfl rfl (n_ hB51.1 rfl) (k_603 hB51.1) rfl q53 (by decide) ?_
              exact y_iret Q_X11_hold (k := 92) rfl rfl (qI_iV hB51 (hB51.2.1 _ _) h)
            · replace h := h.1 c
              refine y_iconst Q_X11_hold (k := 42) rfl ?_
              exact y_iret Q_X11_hold (k := 43) rfl rfl (qI_iV hB30 ⟨by decide, by decide⟩ h)
          · replace h := h.1 c
            refine y_iconst Q_X11_hold (k := 29) rfl ?_
            exact y_iret Q_X11_hold (k := 30) rfl rfl (qI_iV hB30 ⟨by decide, by decide⟩ h)
        · replace h := h.2 c
          refine y_iconst Q_X11_hold (k := 23) rfl ?_
          refine z_goto (tgt := 49) Q_X11_hold (k := 24) rfl (by decide) ?_
          refine y_iconst Q_X11_hold (k := 26) rfl ?_
          refine q_callV2_zV Q_X11_hold (k := 27) rfl rfl K_X11_may V_X11_may L_X11_187 (n_ hB3.1 rfl) (k_602 hB3.1) (Nat.le_of_ble_eq_true rfl) (Nat.le_of_ble_eq_true rfl) rfl (Nat.zero_le _) (Nat.zero_le _) (w_X11_may (d + 1) hB3 ⟨by decide, by decide⟩ (Or.inr rfl) ⟨by decide, by decide⟩ h) (fun r54 V54 hB54 hz54 hb54 h => ?_)
          refine y_if_ne 58 Q_X11_hold (k := 28) rfl (by decide) hz54 (fun c => ?_) (fun c => ?_)
          · replace h := h.2 c
            refine z_iload_n Q_X11_hold (k := 31) rfl rfl ?_
            refine q_callS1_i Q_X11_hold (k := 32) rfl rfl K_X11_find_ S_X11_find_ L_X11_230 (Nat.le_of_ble_eq_true rfl) (Nat.le_of_ble_eq_true rfl) rfl (Nat.zero_le _) (Nat.zero_le _) (w_X11_find_ (d + 1) hB54 z1 h) (fun r55 hz55 h => ?_)
            refine y_istore (L' := [some (.ref 602), some (.int (iI a1)), some (.int (iI a2)), some (.int (iI a3)), some (.int (iI a4)), some (.int (iI r55)), none]) Q_X11_hold (k := 33) rfl (by decide) rfl ?_
            refine z_aload_n Q_X11_hold (k := 34) rfl rfl ?_
            refine z_getR (b := 603) Q_X11_hold (k := 35) rfl F_X11_13 rfl (n_ hB54.1 rfl) (k_602 hB54.1) (r_602_1 hB54.1) ?_
            refine z_iload Q_X11_hold (k := 36) rfl rfl ?_
            refine y_bipush Q_X11_hold (k := 37) rfl (by decide) ?_
            obtain ⟨q56, h⟩ := h
            refine y_iadd Q_X11_hold (k := 38) rfl ?_
            obtain ⟨q57, h⟩ := h
            refine q_iald (o := 603) (N := 594) Q_X11_hold (k := 39) rfl rfl (n_ hB54.1 rfl) (k_603 hB54.1) rfl q57 (by decide) ?_
            refine y_bipush Q_X11_hold (k := 40) rfl (by decide) ?_
            refine y_icmp_ne 81 Q_X11_hold (k := 41) rfl (by decide) (hB54.2.1 _ _) ⟨by decide, by decide⟩ (fun c => ?_) (fun c => ?_)
            · replace h := h.2 c
              refine z_iload Q_X11_hold (k := 44) rfl rfl ?_
              refine y_bipush Q_X11_hold (k := 45) rfl (by decide) ?_
              obtain ⟨q58, h⟩ := h
              refine y_iadd Q_X11_hold (k := 46) rfl ?_
              refine y_iconst Q_X11_hold (k := 47) rfl ?_
              refine z_aload_n Q_X11_hold (k := 48) rfl rfl ?_
              refine z_getR (b := 603) Q_X11_hold (k := 49) rfl F_X11_13 rfl (n_ hB54.1 rfl) (k_602 hB54.1) (r_602_1 hB54.1) ?_
              refine z_iload Q_X11_hold (k := 50) rfl rfl ?_
              refine y_bipush Q_X11_hold (k := 51) rfl (by decide) ?_
              obtain ⟨q59, h⟩ := h
              refine y_iadd Q_X11_hold (k := 52) rfl ?_
              obtain ⟨q60, h⟩ := h
              refine q_iald (o := 603) (N := 594) Q_X11_hold (k := 53) rfl rfl (n_ hB54.1 rfl) (k_603 hB54.1) rfl q60 (by decide) ?_
              obtain ⟨q61, h⟩ := h
              refine y_imul Q_X11_hold (k := 54) rfl ?_
              obtain ⟨q62, h⟩ := h
              refine y_iadd Q_X11_hold (k := 55) rfl ?_
              refine y_istore (L' := [some (.ref 602), some (.int (iI a1)), some (.int (iI a2)), some (.int (iI a3)), some (.int (iI a4)), some (.int (iI r55)), some (.int (iI ((r55 + 9) + (3 * (V54 603 (r55 + 8))))))]) Q_X11_hold (k := 56) rfl (by decide) rfl ?_
              refine z_aload_n Q_X11_hold (k := 57) rfl rfl ?_
              refine z_getR (b := 603) Q_X11_hold (k := 58) rfl F_X11_13 rfl (n_ hB54.1 rfl) (k_602 hB54.1) (r_602_1 hB54.1) ?_
              refine z_iload Q_X11_hold (k := 59) rfl rfl ?_
              refine z_iload_n Q_X11_hold (k := 60) rfl rfl ?_
              obtain ⟨q63, h⟩ := h
              refine q_iast (o := 603) (N := 594) Q_X11_hold (k := 61) rfl rfl (n_ hB54.1 rfl) (k_603 hB54.1) rfl q63 (by decide) ?_
              have hB64 := qB.u (a := 603) (j := (r55 + 9) + (3 * (V54 603 (r55 + 8)))) (x := a2) hB54 z2 (Or.inl (by decide))
              refine z_aload_n Q_X11_hold (k := 62) rfl rfl ?_
              refine z_getR (b := 603) Q_X11_hold (k := 63) rfl F_X11_13 rfl (n_ hB64.1 rfl) (k_602 hB64.1) (r_602_1 hB64.1) ?_
              refine z_iload Q_X11_hold (k := 64) rfl rfl ?_
              refine y_iconst Q_X11_hold (k := 65) rfl ?_
              obtain ⟨q65, h⟩ := h
              refine y_iadd Q_X11_hold (k := 66) rfl ?_
              refine z_iload_n Q_X11_hold (k := 67) rfl rfl ?_
              obtain ⟨q66, h⟩ := h
              refine q_iast (o := 603) (N := 594) Q_X11_hold (k := 68) rfl rfl (n_ hB64.1 rfl) (k_603 hB64.1) rfl q66 (by decide) ?_
              have hB67 := qB.u (a := 603) (j := ((r55 + 9) + (3 * (V54 603 (r55 + 8)))) + 1) (x := a3) hB64 z3 (Or.inl (by decide))
              refine z_aload_n Q_X11_hold (k := 69) rfl rfl ?_
              refine z_getR (b := 603) Q_X11_hold (k := 70) rfl F_X11_13 rfl (n_ hB67.1 rfl) (k_602 hB67.1) (r_602_1 hB67.1) ?_
              refine z_iload Q_X11_hold (k := 71) rfl rfl ?_
              refine y_iconst Q_X11_hold (k := 72) rfl ?_
              obtain ⟨q68, h⟩ := h
              refine y_iadd Q_X11_hold (k := 73) rfl ?_
              refine z_iload Q_X11_hold (k := 74) rfl rfl ?_
              obtain ⟨q69, h⟩ := h
              refine q_iast (o := 603) (N := 594) Q_X11_hold (k := 75) rfl rfl (n_ hB67.1 rfl) (k_603 hB67.1) rfl q69 (by decide) ?_
              have hB70 := qB.u (a := 603) (j := ((r55 + 9) + (3 * (V54 603 (r55 + 8)))) + 2) (x := a4) hB67 z4 (Or.inl (by decide))
              refine z_aload_n Q_X11_hold (k := 76) rfl rfl ?_
              refine z_getR (b := 603) Q_X11_hold (k := 77) rfl F_X11_13 rfl (n_ hB70.1 rfl) (k_602 hB70.1) (r_602_1 hB70.1) ?_
              refine z_iload Q_X11_hold (k := 78) rfl rfl ?_
              refine y_bipush Q_X11_hold (k := 79) rfl (by decide) ?_
              obtain ⟨q71, h⟩ := h
              refine y_iadd Q_X11_hold (k := 80) rfl ?_
              refine z_dup2 Q_X11_hold (k := 81) rfl rfl rfl ?_
              obtain ⟨q72, h⟩ := h
              refine q_iald (o := 603) (N := 594) Q_X11_hold (k := 82) rfl rfl (n_ hB70.1 rfl) (k_603 hB70.1) rfl q72 (by decide) ?_
              refine y_iconst Q_X11_hold (k := 83) rfl ?_
              obtain ⟨q73, h⟩ := h
              refine y_iadd Q_X11_hold (k := 84) rfl ?_
              obtain ⟨q74, h⟩ := h
              refine q_iast (o := 603) (N := 594) Q_X11_hold (k := 85) rfl rfl (n_ hB70.1 rfl) (k_603 hB70.1) rfl q74 (by decide) ?_
              have hB75 := qB.u (a := 603) (j := r55 + 8) (x := ((qu (qu (qu V54 603 ((r55 + 9) + (3 * (V54 603 (r55 + 8)))) a2) 603 (((r55 + 9) + (3 * (V54 603 (r55 + 8)))) + 1) a3) 603 (((r55 + 9) + (3 * (V54 603 (r55 + 8)))) + 2) a4) 603 (r55 + 8)) + 1) hB70 q73 (Or.inl (by decide))
              refine z_aload_n Q_X11_hold (k := 86) rfl rfl ?_
              refine z_getR (b := 603) Q_X11_hold (k := 87) rfl F_X11_13 rfl (n_ hB75.1 rfl) (k_602 hB75.1) (r_602_1 hB75.1) ?_
              refine z_iload Q_X11_hold (k := 88) rfl rfl ?_
              refine y_bipush Q_X11_hold (k := 89) rfl (by decide) ?_
              obtain ⟨q76, h⟩ := h
              refine y_iadd Q_X11_hold (k := 90) rfl ?_
              obtain ⟨q77, h⟩ := h
              refine q_iald (o := 603) (N := 594) Q_X11_hold (k := 91) rfl rfl (n_ hB75.1 rfl) (k_603 hB75.1) rfl q77 (by decide) ?_
              exact y_iret Q_X11_hold (k := 92) rfl rfl (qI_iV hB75 (hB75.2.1 _ _) h)
            · replace h := h.1 c
              refine y_iconst Q_X11_hold (k := 42) rfl ?_
              exact y_iret Q_X11_hold (k := 43) rfl rfl (qI_iV hB54 ⟨by decide, by decide⟩ h)
          · replace h := h.1 c
            refine y_iconst Q_X11_hold (k := 29) rfl ?_
            exact y_iret Q_X11_hold (k := 30) rfl rfl (qI_iV hB54 ⟨by decide, by decide⟩ h)
set_option maxHeartbeats 4000000 in
set_option maxRecDepth 20000 in
theorem v_X11_findersOf_13 {S : zS} {V : qV} {J : qJ} {K : Int → Int → Int → Prop} {Q : Int → Prop} {kc ks : Nat} (d : Nat) (hB : qB S V) {l2 : Int} (z2 : zr l2) (hK : ∀ (l3 : Int) (l4 : Int) (l5 : Int), zr l3 → zr l4 → zr l5 → K l3 l4 l5 → Z M_X11_findersOf (d + 1) kc ks 105 [some (.ref 602), none, some (.int (iI l2)), some (.int (iI l3)), some (.int (iI l4)), some (.int (iI l5)), none, none] [] S (qi V) (qj J) (qP_i S V J Q)) : ∀ (f : Nat) (l3 : Int) (l4 : Int) (l5 : Int), zr l3 → zr l4 → zr l5 → lp_X11_findersOf_13 l2 V K f l3 l4 l5 → Z M_X11_findersOf (d + 1) kc ks 13 [some (.ref 602), none, some (.int (iI l2)), some (.int (iI l3)), some (.int (iI l4)), some (.int (iI l5)), none, none] [] S (qi V) (qj J) (qP_i S V J Q) := by
  intro f
  induction f with
  | zero =>
    intro l3 l4 l5 z3 z4 z5 h
    exact h.elim
  | succ f ih =>
    intro l3 l4 l5 z3 z4 z5 h
    rw [lp_X11_findersOf_13] at h
    refine z_iload Q_X11_findersOf (k := 9) rfl rfl ?_
    refine z_aload_n Q_X11_findersOf (k := 10) rfl rfl ?_
    refine z_getR (b := 603) Q_X11_findersOf (k := 11) rfl F_X11_13 rfl (n_ hB.1 rfl) (k_602 hB.1) (r_602_1 hB.1) ?_
    refine z_iload_n Q_X11_findersOf (k := 12) rfl rfl ?_
    refine y_bipush Q_X11_findersOf (k := 13) rfl (by decide) ?_
    obtain ⟨q2, h⟩ := h
    refine y_iadd Q_X11_findersOf (k := 14) rfl ?_
    obtain ⟨q3, h⟩ := h
    refine q_iald (o := 603) (N := 594) Q_X11_findersOf (k := 15) rfl rfl (n_ hB.1 rfl) (k_603 hB.1) rfl q3 (by decide) ?_
    refine y_icmp_ge 105 Q_X11_findersOf (k := 16) rfl (by decide) z5 (hB.2.1 _ _) (fun c => ?_) (fun c => ?_)
    · replace h := h.1 c
      exact y_fg (zsb_c rfl (zsb_n (zsb_c rfl (zsb_c rfl (zsb_c rfl (zsb_c rfl (zsb_n (zsb_n zsb_e)))))))) (hK l3 l4 l5 z3 z4 z5 h)
    · replace h := h.2 c
      refine z_iload_n Q_X11_findersOf (k := 17) rfl rfl ?_
      refine y_bipush Q_X11_findersOf (k := 18) rfl (by decide) ?_
      obtain ⟨q4, h⟩ := h
      refine y_iadd Q_X11_findersOf (k := 19) rfl ?_
      refine y_iconst Q_X11_findersOf (k := 20) rfl ?_
      refine z_iload Q_X11_findersOf (k := 21) rfl rfl ?_
      obtain ⟨q5, h⟩ := h
      refine y_imul Q_X11_findersOf (k := 22) rfl ?_
      obtain ⟨q6, h⟩ := h
      refine y_iadd Q_X11_findersOf (k := 23) rfl ?_
      refine y_istore (L' := [some (.ref 602), none, some (.int (iI l2)), some (.int (iI l3)), some (.int (iI l4)), some (.int (iI l5)), some (.int (iI ((l2 + 9) + (3 * l5)))), none]) Q_X11_findersOf (k := 24) rfl (by decide) rfl ?_
      refine y_sipush Q_X11_findersOf (k := 25) rfl (by decide) ?_
      refine z_aload_n Q_X11_findersOf (k := 26) rfl rfl ?_
      refine z_getR (b := 603) Q_X11_findersOf (k := 27) rfl F_X11_13 rfl (n_ hB.1 rfl) (k_602 hB.1) (r_602_1 hB.1) ?_
      refine z_iload Q_X11_findersOf (k := 28) rfl rfl ?_
      refine y_iconst Q_X11_findersOf (k := 29) rfl ?_
      obtain ⟨q7, h⟩ := h
      refine y_iadd Q_X11_findersOf (k := 30) rfl ?_
      obtain ⟨q8, h⟩ := h
      refine q_iald (o := 603) (N := 594) Q_X11_findersOf (k := 31) rfl rfl (n_ hB.1 rfl) (k_603 hB.1) rfl q8 (by decide) ?_
      obtain ⟨q9, h⟩ := h
      refine y_imul Q_X11_findersOf (k := 32) rfl ?_
      refine y_sipush Q_X11_findersOf (k := 33) rfl (by decide) ?_
      obtain ⟨q10, h⟩ := h
      refine y_iadd Q_X11_findersOf (k := 34) rfl ?_
      refine z_aload_n Q_X11_findersOf (k := 35) rfl rfl ?_
      refine z_getR (b := 603) Q_X11_findersOf (k := 36) rfl F_X11_13 rfl (n_ hB.1 rfl) (k_602 hB.1) (r_602_1 hB.1) ?_
      refine z_iload Q_X11_findersOf (k := 37) rfl rfl ?_
      refine y_iconst Q_X11_findersOf (k := 38) rfl ?_
      obtain ⟨q11, h⟩ := h
      refine y_iadd Q_X11_findersOf (k := 39) rfl ?_
      obtain ⟨q12, h⟩ := h
      refine q_iald (o := 603) (N := 594) Q_X11_findersOf (k := 40) rfl rfl (n_ hB.1 rfl) (k_603 hB.1) rfl q12 (by decide) ?_
      obtain ⟨q13, h⟩ := h
      refine y_isub Q_X11_findersOf (k := 41) rfl ?_
      refine y_istore (L' := [some (.ref 602), none, some (.int (iI l2)), some (.int (iI l3)), some (.int (iI l4)), some (.int (iI l5)), some (.int (iI ((l2 + 9) + (3 * l5)))), some (.int (iI (((1000 * (V 603 (((l2 + 9) + (3 * l5)) + 1))) + 999) - (V 603 (((l2 + 9) + (3 * l5)) + 2)))))]) Q_X11_findersOf (k := 42) rfl (by decide) rfl ?_
      refine z_iload Q_X11_findersOf (k := 43) rfl rfl ?_
      refine z_iload_n Q_X11_findersOf (k := 44) rfl rfl ?_
      refine y_icmp_le 79 Q_X11_findersOf (k := 45) rfl (by decide) q13 z3 (fun c => ?_) (fun c => ?_)
      · replace h := h.1 c
        refine z_iload Q_X11_findersOf (k := 50) rfl rfl ?_
        refine z_iload_n Q_X11_findersOf (k := 51) rfl rfl ?_
        refine y_icmp_ne 99 Q_X11_findersOf (k := 52) rfl (by decide) q13 z3 (fun c => ?_) (fun c => ?_)
        · replace h := h.2 c
          obtain ⟨q14, h⟩ := h
          refine y_iinc (L' := [some (.ref 602), none, some (.int (iI l2)), some (.int (iI l3)), some (.int (iI l4)), some (.int (iI (l5 + 1))), some (.int (iI ((l2 + 9) + (3 * l5)))), some (.int (iI (((1000 * (V 603 (((l2 + 9) + (3 * l5)) + 1))) + 999) - (V 603 (((l2 + 9) + (3 * l5)) + 2)))))]) Q_X11_findersOf (k := 62) rfl (by decide) rfl rfl ?_
          refine z_goto (tgt := 13) Q_X11_findersOf (k := 63) rfl (by decide) ?_
          exact y_fg (zsb_c rfl (zsb_n (zsb_c rfl (zsb_c rfl (zsb_c rfl (zsb_c rfl (zsb_n (zsb_n zsb_e)))))))) (ih l3 l4 (l5 + 1) z3 z4 q14 h)
        · replace h := h.1 c
          refine z_iload Q_X11_findersOf (k := 53) rfl rfl ?_
          refine y_iconst Q_X11_findersOf (k := 54) rfl ?_
          refine z_aload_n Q_X11_findersOf (k := 55) rfl rfl ?_
          refine z_getR (b := 603) Q_X11_findersOf (k := 56) rfl F_X11_13 rfl (n_ hB.1 rfl) (k_602 hB.1) (r_602_1 hB.1) ?_
          refine z_iload Q_X11_findersOf (k := 57) rfl rfl ?_
          obtain ⟨q15, h⟩ := h
          refine q_iald (o := 603) (N := 594) Q_X11_findersOf (k := 58) rfl rfl (n_ hB.1 rfl) (k_603 hB.1) rfl q15 (by decide) ?_
          refine y_ishl Q_X11_findersOf (k := 59) rfl ?_
          refine y_ior Q_X11_findersOf (k := 60) rfl ?_
          refine y_istore (L' := [some (.ref 602), none, some (.int (iI l2)), some (.int (iI l3)), some (.int (iI (zor l4 (zshl 1 (V 603 ((l2 + 9) + (3 * l5))))))), some (.int (iI l5)), some (.int (iI ((l2 + 9) + (3 * l5)))), some (.int (iI (((1000 * (V 603 (((l2 + 9) + (3 * l5)) + 1))) + 999) - (V 603 (((l2 + 9) + (3 * l5)) + 2)))))]) Q_X11_findersOf (k := 61) rfl (by decide) rfl ?_
          obtain ⟨q16, h⟩ := h
          refine y_iinc (L' := [some (.ref 602), none, some (.int (iI l2)), some (.int (iI l3)), some (.int (iI (zor l4 (zshl 1 (V 603 ((l2 + 9) + (3 * l5))))))), some (.int (iI (l5 + 1))), some (.int (iI ((l2 + 9) + (3 * l5)))), some (.int (iI (((1000 * (V 603 (((l2 + 9) + (3 * l5)) + 1))) + 999) - (V 603 (((l2 + 9) + (3 * l5)) + 2)))))]) Q_X11_findersOf (k := 62) rfl (by decide) rfl rfl ?_
          refine z_goto (tgt := 13) Q_X11_findersOf (k := 63) rfl (by decide) ?_
          exact y_fg (zsb_c rfl (zsb_n (zsb_c rfl (zsb_c rfl (zsb_c rfl (zsb_c rfl (zsb_n (zsb_n zsb_e)))))))) (ih l3 (zor l4 (zshl 1 (V 603 ((l2 + 9) + (3 * l5))))) (l5 + 1) z3 (zor_r _ _) q16 h)
      · replace h := h.2 c
        refine z_iload Q_X11_findersOf (k := 46) rfl rfl ?_
        refine y_istore_n (L' := [some (.ref 602), none, some (.int (iI l2)), some (.int (iI (((1000 * (V 603 (((l2 + 9) + (3 * l5)) + 1))) + 999) - (V 603 (((l2 + 9) + (3 * l5)) + 2))))), some (.int (iI l4)), some (.int (iI l5)), some (.int (iI ((l2 + 9) + (3 * l5)))), some (.int (iI (((1000 * (V 603 (((l2 + 9) + (3 * l5)) + 1))) + 999) - (V 603 (((l2 + 9) + (3 * l5)) + 2)))))]) Q_X11_findersOf (k := 47) rfl (by decide) rfl ?_
        refine y_iconst Q_X11_findersOf (k := 48) rfl ?_
        refine y_istore (L' := [some (.ref 602), none, some (.int (iI l2)), some (.int (iI (((1000 * (V 603 (((l2 + 9) + (3 * l5)) + 1))) + 999) - (V 603 (((l2 + 9) + (3 * l5)) + 2))))), some (.int (iI 0)), some (.int (iI l5)), some (.int (iI ((l2 + 9) + (3 * l5)))), some (.int (iI (((1000 * (V 603 (((l2 + 9) + (3 * l5)) + 1))) + 999) - (V 603 (((l2 + 9) + (3 * l5)) + 2)))))]) Q_X11_findersOf (k := 49) rfl (by decide) rfl ?_
        refine z_iload Q_X11_findersOf (k := 50) rfl rfl ?_
        refine z_iload_n Q_X11_findersOf (k := 51) rfl rfl ?_
        refine y_icmp_ne 99 Q_X11_findersOf (k := 52) rfl (by decide) q13 q13 (fun c => ?_) (fun c => ?_)
        · replace h := h.2 c
          obtain ⟨q17, h⟩ := h
          refine y_iinc (L' := [some (.ref 602), none, some (.int (iI l2)), some (.int (iI (((1000 * (V 603 (((l2 + 9) + (3 * l5)) + 1))) + 999) - (V 603 (((l2 + 9) + (3 * l5)) + 2))))), some (.int (iI 0)), some (.int (iI (l5 + 1))), some (.int (iI ((l2 + 9) + (3 * l5)))), some (.int (iI (((1000 * (V 603 (((l2 + 9) + (3 * l5)) + 1))) + 999) - (V 603 (((l2 + 9) + (3 * l5)) + 2)))))]) Q_X11_findersOf (k := 62) rfl (by decide) rfl rfl ?_
          refine z_goto (tgt := 13) Q_X11_findersOf (k := 63) rfl (by decide) ?_
          exact y_fg (zsb_c rfl (zsb_n (zsb_c rfl (zsb_c rfl (zsb_c rfl (zsb_c rfl (zsb_n (zsb_n zsb_e)))))))) (ih (((1000 * (V 603 (((l2 + 9) + (3 * l5)) + 1))) + 999) - (V 603 (((l2 + 9) + (3 * l5)) + 2))) 0 (l5 + 1) q13 ⟨by decide, by decide⟩ q17 h)
        · replace h := h.1 c
          refine z_iload Q_X11_findersOf (k := 53) rfl rfl ?_
          refine y_iconst Q_X11_findersOf (k := 54) rfl ?_
          refine z_aload_n Q_X11_findersOf (k := 55) rfl rfl ?_
          refine z_getR (b := 603) Q_X11_findersOf (k := 56) rfl F_X11_13 rfl (n_ hB.1 rfl) (k_602 hB.1) (r_602_1 hB.1) ?_
          refine z_iload Q_X11_findersOf (k := 57) rfl rfl ?_
          obtain ⟨q18, h⟩ := h
          refine q_iald (o := 603) (N := 594) Q_X11_findersOf (k := 58) rfl rfl (n_ hB.1 rfl) (k_603 hB.1) rfl q18 (by decide) ?_
          refine y_ishl Q_X11_findersOf (k := 59) rfl ?_
          refine y_ior Q_X11_findersOf (k := 60) rfl ?_
          refine y_istore (L' := [some (.ref 602), none, some (.int (iI l2)), some (.int (iI (((1000 * (V 603 (((l2 + 9) + (3 * l5)) + 1))) + 999) - (V 603 (((l2 + 9) + (3 * l5)) + 2))))), some (.int (iI (zor 0 (zshl 1 (V 603 ((l2 + 9) + (3 * l5))))))), some (.int (iI l5)), some (.int (iI ((l2 + 9) + (3 * l5)))), some (.int (iI (((1000 * (V 603 (((l2 + 9) + (3 * l5)) + 1))) + 999) - (V 603 (((l2 + 9) + (3 * l5)) + 2)))))]) Q_X11_findersOf (k := 61) rfl (by decide) rfl ?_
          obtain ⟨q19, h⟩ := h
          refine y_iinc (L' := [some (.ref 602), none, some (.int (iI l2)), some (.int (iI (((1000 * (V 603 (((l2 + 9) + (3 * l5)) + 1))) + 999) - (V 603 (((l2 + 9) + (3 * l5)) + 2))))), some (.int (iI (zor 0 (zshl 1 (V 603 ((l2 + 9) + (3 * l5))))))), some (.int (iI (l5 + 1))), some (.int (iI ((l2 + 9) + (3 * l5)))), some (.int (iI (((1000 * (V 603 (((l2 + 9) + (3 * l5)) + 1))) + 999) - (V 603 (((l2 + 9) + (3 * l5)) + 2)))))]) Q_X11_findersOf (k := 62) rfl (by decide) rfl rfl ?_
          refine z_goto (tgt := 13) Q_X11_findersOf (k := 63) rfl (by decide) ?_
          exact y_fg (zsb_c rfl (zsb_n (zsb_c rfl (zsb_c rfl (zsb_c rfl (zsb_c rfl (zsb_n (zsb_n zsb_e)))))))) (ih (((1000 * (V 603 (((l2 + 9) + (3 * l5)) + 1))) + 999) - (V 603 (((l2 + 9) + (3 * l5)) + 2))) (zor 0 (zshl 1 (V 603 ((l2 + 9) + (3 * l5))))) (l5 + 1) q13 (zor_r _ _) q19 h)
set_option maxHeartbeats 4000000 in
set_option maxRecDepth 20000 in
theorem w_X11_findersOf {S : zS} {V : qV} {J : qJ} {Q : Int → Prop} (d : Nat) (hB : qB S V) {a1 : Int} (z1 : zr a1) (h : W_X11_findersOf a1 V Q) : Z M_X11_findersOf (d + 1) 0 0 0 [some (.ref 602), some (.int (iI a1)), none, none, none, none, none, none] [] S (qi V) (qj J) (qP_i S V J Q) := by
  unfold W_X11_findersOf at h
  refine z_iload_n Q_X11_findersOf (k := 0) rfl rfl ?_
  refine q_callS1_i Q_X11_findersOf (k := 1) rfl rfl K_X11_find_ S_X11_find_ L_X11_230 (Nat.le_of_ble_eq_true rfl) (Nat.le_of_ble_eq_true rfl) rfl (Nat.zero_le _) (Nat.zero_le _) (w_X11_find_ d hB z1 h) (fun r1 hz1 h => ?_)
  refine y_istore_n (L' := [some (.ref 602), some (.int (iI a1)), some (.int (iI r1)), none, none, none, none, none]) Q_X11_findersOf (k := 2) rfl (by decide) rfl ?_
  refine y_iconst Q_X11_findersOf (k := 3) rfl ?_
  refine y_istore_n (L' := [some (.ref 602), some (.int (iI a1)), some (.int (iI r1)), some (.int (iI (-1))), none, none, none, none]) Q_X11_findersOf (k := 4) rfl (by decide) rfl ?_
  refine y_iconst Q_X11_findersOf (k := 5) rfl ?_
  refine y_istore (L' := [some (.ref 602), some (.int (iI a1)), some (.int (iI r1)), some (.int (iI (-1))), some (.int (iI 0)), none, none, none]) Q_X11_findersOf (k := 6) rfl (by decide) rfl ?_
  refine y_iconst Q_X11_findersOf (k := 7) rfl ?_
  refine y_istore (L' := [some (.ref 602), some (.int (iI a1)), some (.int (iI r1)), some (.int (iI (-1))), some (.int (iI 0)), some (.int (iI 0)), none, none]) Q_X11_findersOf (k := 8) rfl (by decide) rfl ?_
  refine y_fg (zsb_c rfl (zsb_n (zsb_c rfl (zsb_c rfl (zsb_c rfl (zsb_c rfl (zsb_n (zsb_n zsb_e)))))))) (v_X11_findersOf_13 d hB hz1 (fun l3x20 l4x20 l5x20 zl3x20 zl4x20 zl5x20 h => ?_) 100000 (-1) 0 0 ⟨by decide, by decide⟩ ⟨by decide, by decide⟩ ⟨by decide, by decide⟩ h)
  refine z_iload Q_X11_findersOf (k := 64) rfl rfl ?_
  exact y_iret Q_X11_findersOf (k := 65) rfl rfl (qI_i zl4x20 h)
set_option maxHeartbeats 4000000 in
set_option maxRecDepth 20000 in
theorem w_X11_finders {S : zS} {V : qV} {J : qJ} {Q : Int → qV → Prop} (d : Nat) (hB : qB S V) {a1 : Int} (z1 : zr a1) (h : W_X11_finders a1 V Q) : Z M_X11_finders (d + 2) 0 0 0 [some (.ref 602), some (.int (iI a1))] [] S (qi V) (qj J) (qP_iV S J Q) := by
  unfold W_X11_finders at h
  refine z_aload_n Q_X11_finders (k := 0) rfl rfl ?_
  refine y_iconst Q_X11_finders (k := 1) rfl ?_
  refine q_putI (o := 602) (z := 0) Q_X11_finders (k := 2) rfl F_X11_1 rfl rfl rfl (n_ hB.1 rfl) (k_602 hB.1) ?_
  have hB1 := qB.u (a := 602) (j := 0) (x := 0) hB ⟨by decide, by decide⟩ (Or.inl (by decide))
  refine z_aload_n Q_X11_finders (k := 3) rfl rfl ?_
  refine z_iload_n Q_X11_finders (k := 4) rfl rfl ?_
  refine q_callV1_zV Q_X11_finders (k := 5) rfl rfl K_X11_isFind V_X11_isFind L_X11_245 (n_ hB1.1 rfl) (k_602 hB1.1) (Nat.le_of_ble_eq_true rfl) (Nat.le_of_ble_eq_true rfl) rfl (Nat.zero_le _) (Nat.zero_le _) (w_X11_isFind d hB1 z1 h) (fun r2 V2 hB2 hz2 hb2 h => ?_)
  refine y_if_ne 15 Q_X11_finders (k := 6) rfl (by decide) hz2 (fun c => ?_) (fun c => ?_)
  · replace h := h.2 c
    refine z_aload_n Q_X11_finders (k := 9) rfl rfl ?_
    refine z_iload_n Q_X11_finders (k := 10) rfl rfl ?_
    refine q_callV1_i Q_X11_finders (k := 11) rfl rfl K_X11_findersOf V_X11_findersOf L_X11_251 (n_ hB2.1 rfl) (k_602 hB2.1) (Nat.le_of_ble_eq_true rfl) (Nat.le_of_ble_eq_true rfl) rfl (Nat.zero_le _) (Nat.zero_le _) (w_X11_findersOf d hB2 z1 h) (fun r3 hz3 h => ?_)
    exact y_iret Q_X11_finders (k := 12) rfl rfl (qI_iV hB2 hz3 h)
  · replace h := h.1 c
    refine y_iconst Q_X11_finders (k := 7) rfl ?_
    exact y_iret Q_X11_finders (k := 8) rfl rfl (qI_iV hB2 ⟨by decide, by decide⟩ h)
set_option maxHeartbeats 4000000 in
set_option maxRecDepth 20000 in
theorem v_X11_ruleOf_5 {S : zS} {J : qJ} {K : Int → qV → Prop} {Q : Int → qV → Prop} {kc ks : Nat} (d : Nat) {l1 : Int} (z1 : zr l1) {l2 : Int} (z2 : zr l2) (hK : ∀ (l3 : Int) (V : qV), qB S V → zr l3 → K l3 V → Z M_X11_ruleOf (d + 1) kc ks 68 [some (.ref 602), some (.int (iI l1)), some (.int (iI l2)), some (.int (iI l3))] [] S (qi V) (qj J) (qP_iV S J Q)) : ∀ (f : Nat) (l3 : Int) (V : qV), qB S V → zr l3 → lp_X11_ruleOf_5 l1 l2 K Q f l3 V → Z M_X11_ruleOf (d + 1) kc ks 5 [some (.ref 602), some (.int (iI l1)), some (.int (iI l2)), some (.int (iI l3))] [] S (qi V) (qj J) (qP_iV S J Q) := by
  intro f
  induction f with
  | zero =>
    intro l3 V hB z3 h
    exact h.elim
  | succ f ih =>
    intro l3 V hB z3 h
    rw [lp_X11_ruleOf_5] at h
    refine z_iload_n Q_X11_ruleOf (k := 4) rfl rfl ?_
    refine y_bipush Q_X11_ruleOf (k := 5) rfl (by decide) ?_
    refine z_iload_n Q_X11_ruleOf (k := 6) rfl rfl ?_
    obtain ⟨q2, h⟩ := h
    refine y_imul Q_X11_ruleOf (k := 7) rfl ?_
    refine z_aload_n Q_X11_ruleOf (k := 8) rfl rfl ?_
    refine z_getR (b := 610) Q_X11_ruleOf (k := 9) rfl F_X11_35 rfl (n_ hB.1 rfl) (k_602 hB.1) (r_602_8 hB.1) ?_
    refine z_iload_n Q_X11_ruleOf (k := 10) rfl rfl ?_
    obtain ⟨q3, h⟩ := h
    refine q_iald (o := 610) (N := 3) Q_X11_ruleOf (k := 11) rfl rfl (n_ hB.1 rfl) (k_610 hB.1) rfl q3 (by decide) ?_
    obtain ⟨q4, h⟩ := h
    refine y_iadd Q_X11_ruleOf (k := 12) rfl ?_
    refine y_icmp_ge 68 Q_X11_ruleOf (k := 13) rfl (by decide) z3 q4 (fun c => ?_) (fun c => ?_)
    · replace h := h.1 c
      exact y_fg (zsb_c rfl (zsb_c rfl (zsb_c rfl (zsb_c rfl zsb_e)))) (hK l3 V hB z3 h)
    · replace h := h.2 c
      refine z_aload_n Q_X11_ruleOf (k := 14) rfl rfl ?_
      refine z_getR (b := 608) Q_X11_ruleOf (k := 15) rfl F_X11_29 rfl (n_ hB.1 rfl) (k_602 hB.1) (r_602_6 hB.1) ?_
      refine z_iload_n Q_X11_ruleOf (k := 16) rfl rfl ?_
      obtain ⟨q5, h⟩ := h
      refine q_iald (o := 608) (N := 36) Q_X11_ruleOf (k := 17) rfl rfl (n_ hB.1 rfl) (k_608 hB.1) rfl q5 (by decide) ?_
      refine z_aload_n Q_X11_ruleOf (k := 18) rfl rfl ?_
      refine z_getR (b := 609) Q_X11_ruleOf (k := 19) rfl F_X11_32 rfl (n_ hB.1 rfl) (k_602 hB.1) (r_602_7 hB.1) ?_
      refine z_iload_n Q_X11_ruleOf (k := 20) rfl rfl ?_
      obtain ⟨q6, h⟩ := h
      refine q_iald (o := 609) (N := 36) Q_X11_ruleOf (k := 21) rfl rfl (n_ hB.1 rfl) (k_609 hB.1) rfl q6 (by decide) ?_
      refine y_icmp_eq 55 Q_X11_ruleOf (k := 22) rfl (by decide) (hB.2.1 _ _) (hB.2.1 _ _) (fun c => ?_) (fun c => ?_)
      · replace h := h.1 c
        refine z_iload_n Q_X11_ruleOf (k := 35) rfl rfl ?_
        refine y_bipush Q_X11_ruleOf (k := 36) rfl (by decide) ?_
        refine z_iload_n Q_X11_ruleOf (k := 37) rfl rfl ?_
        obtain ⟨q7, h⟩ := h
        refine y_imul Q_X11_ruleOf (k := 38) rfl ?_
        obtain ⟨q8, h⟩ := h
        refine y_isub Q_X11_ruleOf (k := 39) rfl ?_
        exact y_iret Q_X11_ruleOf (k := 40) rfl rfl (qI_iV hB q8 h)
      · replace h := h.2 c
        refine z_aload_n Q_X11_ruleOf (k := 23) rfl rfl ?_
        refine z_aload_n Q_X11_ruleOf (k := 24) rfl rfl ?_
        refine z_getR (b := 608) Q_X11_ruleOf (k := 25) rfl F_X11_29 rfl (n_ hB.1 rfl) (k_602 hB.1) (r_602_6 hB.1) ?_
        refine z_iload_n Q_X11_ruleOf (k := 26) rfl rfl ?_
        obtain ⟨q9, h⟩ := h
        refine q_iald (o := 608) (N := 36) Q_X11_ruleOf (k := 27) rfl rfl (n_ hB.1 rfl) (k_608 hB.1) rfl q9 (by decide) ?_
        refine z_aload_n Q_X11_ruleOf (k := 28) rfl rfl ?_
        refine z_getR (b := 609) Q_X11_ruleOf (k := 29) rfl F_X11_32 rfl (n_ hB.1 rfl) (k_602 hB.1) (r_602_7 hB.1) ?_
        refine z_iload_n Q_X11_ruleOf (k := 30) rfl rfl ?_
        obtain ⟨q10, h⟩ := h
        refine q_iald (o := 609) (N := 36) Q_X11_ruleOf (k := 31) rfl rfl (n_ hB.1 rfl) (k_609 hB.1) rfl q10 (by decide) ?_
        refine z_iload_n Q_X11_ruleOf (k := 32) rfl rfl ?_
        refine q_callV3_zV Q_X11_ruleOf (k := 33) rfl rfl K_X11_isSo V_X11_isSo L_X11_203 (n_ hB.1 rfl) (k_602 hB.1) (Nat.le_of_ble_eq_true rfl) (Nat.le_of_ble_eq_true rfl) rfl (Nat.zero_le _) (Nat.zero_le _) (w_X11_isSo d hB (hB.2.1 _ _) (hB.2.1 _ _) z2 h) (fun r11 V11 hB11 hz11 hb11 h => ?_)
        refine y_if_eq 62 Q_X11_ruleOf (k := 34) rfl (by decide) hz11 (fun c => ?_) (fun c => ?_)
        · replace h := h.1 c
          obtain ⟨q12, h⟩ := h
          refine y_iinc (L' := [some (.ref 602), some (.int (iI l1)), some (.int (iI l2)), some (.int (iI (l3 + 1)))]) Q_X11_ruleOf (k := 41) rfl (by decide) rfl rfl ?_
          refine z_goto (tgt := 5) Q_X11_ruleOf (k := 42) rfl (by decide) ?_
          exact y_fg (zsb_c rfl (zsb_c rfl (zsb_c rfl (zsb_c rfl zsb_e)))) (ih (l3 + 1) V11 hB11 q12 h)
        · replace h := h.2 c
          refine z_iload_n Q_X11_ruleOf (k := 35) rfl rfl ?_
          refine y_bipush Q_X11_ruleOf (k := 36) rfl (by decide) ?_
          refine z_iload_n Q_X11_ruleOf (k := 37) rfl rfl ?_
          obtain ⟨q13, h⟩ := h
          refine y_imul Q_X11_ruleOf (k := 38) rfl ?_
          obtain ⟨q14, h⟩ := h
          refine y_isub Q_X11_ruleOf (k := 39) rfl ?_
          exact y_iret Q_X11_ruleOf (k := 40) rfl rfl (qI_iV hB11 q14 h)
set_option maxHeartbeats 4000000 in
set_option maxRecDepth 20000 in
theorem w_X11_ruleOf {S : zS} {V : qV} {J : qJ} {Q : Int → qV → Prop} (d : Nat) (hB : qB S V) {a1 : Int} (z1 : zr a1) {a2 : Int} (z2 : zr a2) (h : W_X11_ruleOf a1 a2 V Q) : Z M_X11_ruleOf (d + 1) 0 0 0 [some (.ref 602), some (.int (iI a1)), some (.int (iI a2)), none] [] S (qi V) (qj J) (qP_iV S J Q) := by
  unfold W_X11_ruleOf at h
  refine y_bipush Q_X11_ruleOf (k := 0) rfl (by decide) ?_
  refine z_iload_n Q_X11_ruleOf (k := 1) rfl rfl ?_
  obtain ⟨q1, h⟩ := h
  refine y_imul Q_X11_ruleOf (k := 2) rfl ?_
  refine y_istore_n (L' := [some (.ref 602), some (.int (iI a1)), some (.int (iI a2)), some (.int (iI (12 * a1)))]) Q_X11_ruleOf (k := 3) rfl (by decide) rfl ?_
  refine y_fg (zsb_c rfl (zsb_c rfl (zsb_c rfl (zsb_c rfl zsb_e)))) (v_X11_ruleOf_5 d z1 z2 (fun l3x15 V15 hB15 zl3x15 h => ?_) 100000 (12 * a1) V hB q1 h)
  refine y_iconst Q_X11_ruleOf (k := 43) rfl ?_
  exact y_iret Q_X11_ruleOf (k := 44) rfl rfl (qI_iV hB15 ⟨by decide, by decide⟩ h)
set_option maxHeartbeats 4000000 in
set_option maxRecDepth 20000 in
theorem w_X11_whoIn {S : zS} {V : qV} {J : qJ} {Q : Int → qV → Prop} (d : Nat) (hB : qB S V) {a1 : Int} (z1 : zr a1) {a2 : Int} (z2 : zr a2) (h : W_X11_whoIn a1 a2 V Q) : Z M_X11_whoIn (d + 2) 0 0 0 [some (.ref 602), some (.int (iI a1)), some (.int (iI a2)), none] [] S (qi V) (qj J) (qP_iV S J Q) := by
  unfold W_X11_whoIn at h
  refine z_aload_n Q_X11_whoIn (k := 0) rfl rfl ?_
  refine z_iload_n Q_X11_whoIn (k := 1) rfl rfl ?_
  refine z_iload_n Q_X11_whoIn (k := 2) rfl rfl ?_
  refine q_callV2_iV Q_X11_whoIn (k := 3) rfl rfl K_X11_ruleOf V_X11_ruleOf L_X11_254 (n_ hB.1 rfl) (k_602 hB.1) (Nat.le_of_ble_eq_true rfl) (Nat.le_of_ble_eq_true rfl) rfl (Nat.zero_le _) (Nat.zero_le _) (w_X11_ruleOf d hB z1 z2 h) (fun r1 V1 hB1 hz1 h => ?_)
  refine y_istore_n (L' := [some (.ref 602), some (.int (iI a1)), some (.int (iI a2)), some (.int (iI r1))]) Q_X11_whoIn (k := 4) rfl (by decide) rfl ?_
  refine z_iload_n Q_X11_whoIn (k := 5) rfl rfl ?_
  refine y_iconst Q_X11_whoIn (k := 6) rfl ?_
  refine y_icmp_ne 16 Q_X11_whoIn (k := 7) rfl (by decide) hz1 ⟨by decide, by decide⟩ (fun c => ?_) (fun c => ?_)
  · replace h := h.2 c
    refine z_aload_n Q_X11_whoIn (k := 10) rfl rfl ?_
    refine z_getR (b := 606) Q_X11_whoIn (k := 11) rfl F_X11_23 rfl (n_ hB1.1 rfl) (k_602 hB1.1) (r_602_4 hB1.1) ?_
    refine y_bipush Q_X11_whoIn (k := 12) rfl (by decide) ?_
    refine z_iload_n Q_X11_whoIn (k := 13) rfl rfl ?_
    obtain ⟨q2, h⟩ := h
    refine y_imul Q_X11_whoIn (k := 14) rfl ?_
    refine z_iload_n Q_X11_whoIn (k := 15) rfl rfl ?_
    obtain ⟨q3, h⟩ := h
    refine y_iadd Q_X11_whoIn (k := 16) rfl ?_
    obtain ⟨q4, h⟩ := h
    refine q_iald (o := 606) (N := 36) Q_X11_whoIn (k := 17) rfl rfl (n_ hB1.1 rfl) (k_606 hB1.1) rfl q4 (by decide) ?_
    exact y_iret Q_X11_whoIn (k := 18) rfl rfl (qI_iV hB1 (hB1.2.1 _ _) h)
  · replace h := h.1 c
    refine y_iconst Q_X11_whoIn (k := 8) rfl ?_
    refine z_goto (tgt := 27) Q_X11_whoIn (k := 9) rfl (by decide) ?_
    exact y_iret Q_X11_whoIn (k := 18) rfl rfl (qI_iV hB1 ⟨by decide, by decide⟩ h)
set_option maxHeartbeats 4000000 in
set_option maxRecDepth 20000 in
theorem w_X11_isLaw {S : zS} {V : qV} {J : qJ} {Q : Int → qV → Prop} (d : Nat) (hB : qB S V) {a1 : Int} (z1 : zr a1) {a2 : Int} (z2 : zr a2) (h : W_X11_isLaw a1 a2 V Q) : Z M_X11_isLaw (d + 1) 0 0 0 [some (.ref 602), some (.int (iI a1)), some (.int (iI a2))] [] S (qi V) (qj J) (qP_zV S J Q) := by
  unfold W_X11_isLaw at h
  refine z_aload_n Q_X11_isLaw (k := 0) rfl rfl ?_
  refine z_iload_n Q_X11_isLaw (k := 1) rfl rfl ?_
  refine y_iconst Q_X11_isLaw (k := 2) rfl ?_
  refine z_aload_n Q_X11_isLaw (k := 3) rfl rfl ?_
  refine q_getI (o := 602) (z := 11) Q_X11_isLaw (k := 4) rfl F_X11_184 rfl rfl rfl (n_ hB.1 rfl) (k_602 hB.1) ?_
  refine y_iconst Q_X11_isLaw (k := 5) rfl ?_
  obtain ⟨q1, h⟩ := h
  refine y_isub Q_X11_isLaw (k := 6) rfl ?_
  refine q_callS3_z Q_X11_isLaw (k := 7) rfl rfl K_X11_within S_X11_within L_X11_207 (Nat.le_of_ble_eq_true rfl) (Nat.le_of_ble_eq_true rfl) rfl (Nat.zero_le _) (Nat.zero_le _) (w_X11_within d hB z1 ⟨by decide, by decide⟩ q1 h) (fun r2 hz2 hb2 h => ?_)
  refine z_iload_n Q_X11_isLaw (k := 8) rfl rfl ?_
  refine q_callV2_zV Q_X11_isLaw (k := 9) rfl rfl K_X11_may V_X11_may L_X11_187 (n_ hB.1 rfl) (k_602 hB.1) (Nat.le_of_ble_eq_true rfl) (Nat.le_of_ble_eq_true rfl) rfl (Nat.zero_le _) (Nat.zero_le _) (w_X11_may d hB hz2 hb2 z2 h) (fun r3 V3 hB3 hz3 hb3 h => ?_)
  exact y_zret Q_X11_isLaw (k := 10) rfl rfl hb3 (qI_zV hB3 hz3 hb3 h)
set_option maxHeartbeats 4000000 in
set_option maxRecDepth 20000 in
theorem w_X11_whose {S : zS} {V : qV} {J : qJ} {Q : Int → qV → Prop} (d : Nat) (hB : qB S V) {a1 : Int} (z1 : zr a1) {a2 : Int} (z2 : zr a2) {a3 : Int} (z3 : zr a3) {a4 : Int} (z4 : zr a4) (h : W_X11_whose a1 a2 a3 a4 V Q) : Z M_X11_whose (d + 3) 0 0 0 [some (.ref 602), some (.int (iI a1)), some (.int (iI a2)), some (.int (iI a3)), some (.int (iI a4)), none] [] S (qi V) (qj J) (qP_iV S J Q) := by
  unfold W_X11_whose at h
  refine z_aload_n Q_X11_whose (k := 0) rfl rfl ?_
  refine y_iconst Q_X11_whose (k := 1) rfl ?_
  refine q_putI (o := 602) (z := 0) Q_X11_whose (k := 2) rfl F_X11_1 rfl rfl rfl (n_ hB.1 rfl) (k_602 hB.1) ?_
  have hB1 := qB.u (a := 602) (j := 0) (x := 0) hB ⟨by decide, by decide⟩ (Or.inl (by decide))
  refine z_aload_n Q_X11_whose (k := 3) rfl rfl ?_
  refine z_iload_n Q_X11_whose (k := 4) rfl rfl ?_
  refine q_callV1_zV Q_X11_whose (k := 5) rfl rfl K_X11_isFind V_X11_isFind L_X11_245 (n_ hB1.1 rfl) (k_602 hB1.1) (Nat.le_of_ble_eq_true rfl) (Nat.le_of_ble_eq_true rfl) rfl (Nat.zero_le _) (Nat.zero_le _) (w_X11_isFind (d + 1) hB1 z1 h) (fun r2 V2 hB2 hz2 hb2 h => ?_)
  refine y_if_eq 56 Q_X11_whose (k := 6) rfl (by decide) hz2 (fun c => ?_) (fun c => ?_)
  · replace h := h.1 c
    refine y_iconst Q_X11_whose (k := 29) rfl ?_
    exact y_iret Q_X11_whose (k := 30) rfl rfl (qI_iV hB2 ⟨by decide, by decide⟩ h)
  · replace h := h.2 c
    refine z_aload_n Q_X11_whose (k := 7) rfl rfl ?_
    refine z_iload_n Q_X11_whose (k := 8) rfl rfl ?_
    refine y_iconst Q_X11_whose (k := 9) rfl ?_
    refine q_callV2_zV Q_X11_whose (k := 10) rfl rfl K_X11_isLaw V_X11_isLaw L_X11_258 (n_ hB2.1 rfl) (k_602 hB2.1) (Nat.le_of_ble_eq_true rfl) (Nat.le_of_ble_eq_true rfl) rfl (Nat.zero_le _) (Nat.zero_le _) (w_X11_isLaw (d + 1) hB2 z2 ⟨by decide, by decide⟩ h) (fun r3 V3 hB3 hz3 hb3 h => ?_)
    refine y_if_eq 56 Q_X11_whose (k := 11) rfl (by decide) hz3 (fun c => ?_) (fun c => ?_)
    · replace h := h.1 c
      refine y_iconst Q_X11_whose (k := 29) rfl ?_
      exact y_iret Q_X11_whose (k := 30) rfl rfl (qI_iV hB3 ⟨by decide, by decide⟩ h)
    · replace h := h.2 c
      refine z_aload_n Q_X11_whose (k := 12) rfl rfl ?_
      refine z_iload_n Q_X11_whose (k := 13) rfl rfl ?_
      refine y_iconst Q_X11_whose (k := 14) rfl ?_
      refine y_sipush Q_X11_whose (k := 15) rfl (by decide) ?_
      refine q_callS3_z Q_X11_whose (k := 16) rfl rfl K_X11_within S_X11_within L_X11_207 (Nat.le_of_ble_eq_true rfl) (Nat.le_of_ble_eq_true rfl) rfl (Nat.zero_le _) (Nat.zero_le _) (w_X11_within (d + 2) hB3 z3 ⟨by decide, by decide⟩ ⟨by decide, by decide⟩ h) (fun r4 hz4 hb4 h => ?_)
      refine y_if_eq 48 Q_X11_whose (k := 17) rfl (by decide) hz4 (fun c => ?_) (fun c => ?_)
      · replace h := h.1 c
        refine y_iconst Q_X11_whose (k := 25) rfl ?_
        refine y_iconst Q_X11_whose (k := 26) rfl ?_
        refine q_callV2_zV Q_X11_whose (k := 27) rfl rfl K_X11_may V_X11_may L_X11_187 (n_ hB3.1 rfl) (k_602 hB3.1) (Nat.le_of_ble_eq_true rfl) (Nat.le_of_ble_eq_true rfl) rfl (Nat.zero_le _) (Nat.zero_le _) (w_X11_may (d + 2) hB3 ⟨by decide, by decide⟩ (Or.inl rfl) ⟨by decide, by decide⟩ h) (fun r5 V5 hB5 hz5 hb5 h => ?_)
        refine y_if_ne 58 Q_X11_whose (k := 28) rfl (by decide) hz5 (fun c => ?_) (fun c => ?_)
        · replace h := h.2 c
          refine z_aload_n Q_X11_whose (k := 31) rfl rfl ?_
          refine z_iload_n Q_X11_whose (k := 32) rfl rfl ?_
          refine q_callV1_uV Q_X11_whose (k := 33) rfl rfl K_X11_nameFind V_X11_nameFind L_X11_248 (n_ hB5.1 rfl) (k_602 hB5.1) (Nat.le_of_ble_eq_true rfl) (Nat.le_of_ble_eq_true rfl) rfl (Nat.zero_le _) (Nat.zero_le _) (w_X11_nameFind (d + 1) hB5 z1 h) (fun V6 hB6 h => ?_)
          refine z_aload_n Q_X11_whose (k := 34) rfl rfl ?_
          refine z_iload_n Q_X11_whose (k := 35) rfl rfl ?_
          refine z_iload_n Q_X11_whose (k := 36) rfl rfl ?_
          refine q_callV2_iV Q_X11_whose (k := 37) rfl rfl K_X11_ruleOf V_X11_ruleOf L_X11_254 (n_ hB6.1 rfl) (k_602 hB6.1) (Nat.le_of_ble_eq_true rfl) (Nat.le_of_ble_eq_true rfl) rfl (Nat.zero_le _) (Nat.zero_le _) (w_X11_ruleOf (d + 1) hB6 z2 z3 h) (fun r7 V7 hB7 hz7 h => ?_)
          refine y_istore (L' := [some (.ref 602), some (.int (iI a1)), some (.int (iI a2)), some (.int (iI a3)), some (.int (iI a4)), some (.int (iI r7))]) Q_X11_whose (k := 38) rfl (by decide) rfl ?_
          refine z_iload Q_X11_whose (k := 39) rfl rfl ?_
          refine y_if_ne 81 Q_X11_whose (k := 40) rfl (by decide) z4 (fun c => ?_) (fun c => ?_)
          · replace h := h.2 c
            refine z_iload Q_X11_whose (k := 43) rfl rfl ?_
            refine y_iconst Q_X11_whose (k := 44) rfl ?_
            refine y_icmp_ne 96 Q_X11_whose (k := 45) rfl (by decide) z4 ⟨by decide, by decide⟩ (fun c => ?_) (fun c => ?_)
            · replace h := h.2 c
              refine z_iload Q_X11_whose (k := 51) rfl rfl ?_
              refine y_iconst Q_X11_whose (k := 52) rfl ?_
              refine y_icmp_ne 106 Q_X11_whose (k := 53) rfl (by decide) hz7 ⟨by decide, by decide⟩ (fun c => ?_) (fun c => ?_)
              · replace h := h.2 c
                refine z_aload_n Q_X11_whose (k := 56) rfl rfl ?_
                refine z_getR (b := 607) Q_X11_whose (k := 57) rfl F_X11_26 rfl (n_ hB7.1 rfl) (k_602 hB7.1) (r_602_5 hB7.1) ?_
                refine y_bipush Q_X11_whose (k := 58) rfl (by decide) ?_
                refine z_iload_n Q_X11_whose (k := 59) rfl rfl ?_
                obtain ⟨q8, h⟩ := h
                refine y_imul Q_X11_whose (k := 60) rfl ?_
                refine z_iload Q_X11_whose (k := 61) rfl rfl ?_
                obtain ⟨q9, h⟩ := h
                refine y_iadd Q_X11_whose (k := 62) rfl ?_
                obtain ⟨q10, h⟩ := h
                refine q_iald (o := 607) (N := 36) Q_X11_whose (k := 63) rfl rfl (n_ hB7.1 rfl) (k_607 hB7.1) rfl q10 (by decide) ?_
                exact y_iret Q_X11_whose (k := 64) rfl rfl (qI_iV hB7 (hB7.2.1 _ _) h)
              · replace h := h.1 c
                refine y_iconst Q_X11_whose (k := 54) rfl ?_
                refine z_goto (tgt := 118) Q_X11_whose (k := 55) rfl (by decide) ?_
                exact y_iret Q_X11_whose (k := 64) rfl rfl (qI_iV hB7 ⟨by decide, by decide⟩ h)
            · replace h := h.1 c
              refine z_aload_n Q_X11_whose (k := 46) rfl rfl ?_
              refine z_iload_n Q_X11_whose (k := 47) rfl rfl ?_
              refine z_iload_n Q_X11_whose (k := 48) rfl rfl ?_
              refine q_callV2_iV Q_X11_whose (k := 49) rfl rfl K_X11_whoIn V_X11_whoIn L_X11_261 (n_ hB7.1 rfl) (k_602 hB7.1) (Nat.le_of_ble_eq_true rfl) (Nat.le_of_ble_eq_true rfl) rfl (Nat.zero_le _) (Nat.zero_le _) (w_X11_whoIn d hB7 z2 z3 h) (fun r11 V11 hB11 hz11 h => ?_)
              refine z_goto (tgt := 118) Q_X11_whose (k := 50) rfl (by decide) ?_
              exact y_iret Q_X11_whose (k := 64) rfl rfl (qI_iV hB11 hz11 h)
          · replace h := h.1 c
            refine z_iload Q_X11_whose (k := 41) rfl rfl ?_
            refine z_goto (tgt := 118) Q_X11_whose (k := 42) rfl (by decide) ?_
            exact y_iret Q_X11_whose (k := 64) rfl rfl (qI_iV hB7 hz7 h)
        · replace h := h.1 c
          refine y_iconst Q_X11_whose (k := 29) rfl ?_
          exact y_iret Q_X11_whose (k := 30) rfl rfl (qI_iV hB5 ⟨by decide, by decide⟩ h)
      · replace h := h.2 c
        refine z_iload Q_X11_whose (k := 18) rfl rfl ?_
        refine y_iconst Q_X11_whose (k := 19) rfl ?_
        refine y_iconst Q_X11_whose (k := 20) rfl ?_
        refine q_callS3_z Q_X11_whose (k := 21) rfl rfl K_X11_within S_X11_within L_X11_207 (Nat.le_of_ble_eq_true rfl) (Nat.le_of_ble_eq_true rfl) rfl (Nat.zero_le _) (Nat.zero_le _) (w_X11_within (d + 2) hB3 z4 ⟨by decide, by decide⟩ ⟨by decide, by decide⟩ h) (fun r12 hz12 hb12 h => ?_)
        refine y_if_eq 48 Q_X11_whose (k := 22) rfl (by decide) hz12 (fun c => ?_) (fun c => ?_)
        · replace h := h.1 c
          refine y_iconst Q_X11_whose (k := 25) rfl ?_
          refine y_iconst Q_X11_whose (k := 26) rfl ?_
          refine q_callV2_zV Q_X11_whose (k := 27) rfl rfl K_X11_may V_X11_may L_X11_187 (n_ hB3.1 rfl) (k_602 hB3.1) (Nat.le_of_ble_eq_true rfl) (Nat.le_of_ble_eq_true rfl) rfl (Nat.zero_le _) (Nat.zero_le _) (w_X11_may (d + 2) hB3 ⟨by decide, by decide⟩ (Or.inl rfl) ⟨by decide, by decide⟩ h) (fun r13 V13 hB13 hz13 hb13 h => ?_)
          refine y_if_ne 58 Q_X11_whose (k := 28) rfl (by decide) hz13 (fun c => ?_) (fun c => ?_)
          · replace h := h.2 c
            refine z_aload_n Q_X11_whose (k := 31) rfl rfl ?_
            refine z_iload_n Q_X11_whose (k := 32) rfl rfl ?_
            refine q_callV1_uV Q_X11_whose (k := 33) rfl rfl K_X11_nameFind V_X11_nameFind L_X11_248 (n_ hB13.1 rfl) (k_602 hB13.1) (Nat.le_of_ble_eq_true rfl) (Nat.le_of_ble_eq_true rfl) rfl (Nat.zero_le _) (Nat.zero_le _) (w_X11_nameFind (d + 1) hB13 z1 h) (fun V14 hB14 h => ?_)
            refine z_aload_n Q_X11_whose (k := 34) rfl rfl ?_
            refine z_iload_n Q_X11_whose (k := 35) rfl rfl ?_
            refine z_iload_n Q_X11_whose (k := 36) rfl rfl ?_
            refine q_callV2_iV Q_X11_whose (k := 37) rfl rfl K_X11_ruleOf V_X11_ruleOf L_X11_254 (n_ hB14.1 rfl) (k_602 hB14.1) (Nat.le_of_ble_eq_true rfl) (Nat.le_of_ble_eq_true rfl) rfl (Nat.zero_le _) (Nat.zero_le _) (w_X11_ruleOf (d + 1) hB14 z2 z3 h) (fun r15 V15 hB15 hz15 h => ?_)
            refine y_istore (L' := [some (.ref 602), some (.int (iI a1)), some (.int (iI a2)), some (.int (iI a3)), some (.int (iI a4)), some (.int (iI r15))]) Q_X11_whose (k := 38) rfl (by decide) rfl ?_
            refine z_iload Q_X11_whose (k := 39) rfl rfl ?_
            refine y_if_ne 81 Q_X11_whose (k := 40) rfl (by decide) z4 (fun c => ?_) (fun c => ?_)
            · replace h := h.2 c
              refine z_iload Q_X11_whose (k := 43) rfl rfl ?_
              refine y_iconst Q_X11_whose (k := 44) rfl ?_
              refine y_icmp_ne 96 Q_X11_whose (k := 45) rfl (by decide) z4 ⟨by decide, by decide⟩ (fun c => ?_) (fun c => ?_)
              · replace h := h.2 c
                refine z_iload Q_X11_whose (k := 51) rfl rfl ?_
                refine y_iconst Q_X11_whose (k := 52) rfl ?_
                refine y_icmp_ne 106 Q_X11_whose (k := 53) rfl (by decide) hz15 ⟨by decide, by decide⟩ (fun c => ?_) (fun c => ?_)
                · replace h := h.2 c
                  refine z_aload_n Q_X11_whose (k := 56) rfl rfl ?_
                  refine z_getR (b := 607) Q_X11_whose (k := 57) rfl F_X11_26 rfl (n_ hB15.1 rfl) (k_602 hB15.1) (r_602_5 hB15.1) ?_
                  refine y_bipush Q_X11_whose (k := 58) rfl (by decide) ?_
                  refine z_iload_n Q_X11_whose (k := 59) rfl rfl ?_
                  obtain ⟨q16, h⟩ := h
                  refine y_imul Q_X11_whose (k := 60) rfl ?_
                  refine z_iload Q_X11_whose (k := 61) rfl rfl ?_
                  obtain ⟨q17, h⟩ := h
                  refine y_iadd Q_X11_whose (k := 62) rfl ?_
                  obtain ⟨q18, h⟩ := h
                  refine q_iald (o := 607) (N := 36) Q_X11_whose (k := 63) rfl rfl (n_ hB15.1 rfl) (k_607 hB15.1) rfl q18 (by decide) ?_
                  exact y_iret Q_X11_whose (k := 64) rfl rfl (qI_iV hB15 (hB15.2.1 _ _) h)
                · replace h := h.1 c
                  refine y_iconst Q_X11_whose (k := 54) rfl ?_
                  refine z_goto (tgt := 118) Q_X11_whose (k := 55) rfl (by decide) ?_
                  exact y_iret Q_X11_whose (k := 64) rfl rfl (qI_iV hB15 ⟨by decide, by decide⟩ h)
              · replace h := h.1 c
                refine z_aload_n Q_X11_whose (k := 46) rfl rfl ?_
                refine z_iload_n Q_X11_whose (k := 47) rfl rfl ?_
                refine z_iload_n Q_X11_whose (k := 48) rfl rfl ?_
                refine q_callV2_iV Q_X11_whose (k := 49) rfl rfl K_X11_whoIn V_X11_whoIn L_X11_261 (n_ hB15.1 rfl) (k_602 hB15.1) (Nat.le_of_ble_eq_true rfl) (Nat.le_of_ble_eq_true rfl) rfl (Nat.zero_le _) (Nat.zero_le _) (w_X11_whoIn d hB15 z2 z3 h) (fun r19 V19 hB19 hz19 h => ?_)
                refine z_goto (tgt := 118) Q_X11_whose (k := 50) rfl (by decide) ?_
                exact y_iret Q_X11_whose (k := 64) rfl rfl (qI_iV hB19 hz19 h)
            · replace h := h.1 c
              refine z_iload Q_X11_whose (k := 41) rfl rfl ?_
              refine z_goto (tgt := 118) Q_X11_whose (k := 42) rfl (by decide) ?_
              exact y_iret Q_X11_whose (k := 64) rfl rfl (qI_iV hB15 hz15 h)
          · replace h := h.1 c
            refine y_iconst Q_X11_whose (k := 29) rfl ?_
            exact y_iret Q_X11_whose (k := 30) rfl rfl (qI_iV hB13 ⟨by decide, by decide⟩ h)
        · replace h := h.2 c
          refine y_iconst Q_X11_whose (k := 23) rfl ?_
          refine z_goto (tgt := 49) Q_X11_whose (k := 24) rfl (by decide) ?_
          refine y_iconst Q_X11_whose (k := 26) rfl ?_
          refine q_callV2_zV Q_X11_whose (k := 27) rfl rfl K_X11_may V_X11_may L_X11_187 (n_ hB3.1 rfl) (k_602 hB3.1) (Nat.le_of_ble_eq_true rfl) (Nat.le_of_ble_eq_true rfl) rfl (Nat.zero_le _) (Nat.zero_le _) (w_X11_may (d + 2) hB3 ⟨by decide, by decide⟩ (Or.inr rfl) ⟨by decide, by decide⟩ h) (fun r20 V20 hB20 hz20 hb20 h => ?_)
          refine y_if_ne 58 Q_X11_whose (k := 28) rfl (by decide) hz20 (fun c => ?_) (fun c => ?_)
          · replace h := h.2 c
            refine z_aload_n Q_X11_whose (k := 31) rfl rfl ?_
            refine z_iload_n Q_X11_whose (k := 32) rfl rfl ?_
            refine q_callV1_uV Q_X11_whose (k := 33) rfl rfl K_X11_nameFind V_X11_nameFind L_X11_248 (n_ hB20.1 rfl) (k_602 hB20.1) (Nat.le_of_ble_eq_true rfl) (Nat.le_of_ble_eq_true rfl) rfl (Nat.zero_le _) (Nat.zero_le _) (w_X11_nameFind (d + 1) hB20 z1 h) (fun V21 hB21 h => ?_)
            refine z_aload_n Q_X11_whose (k := 34) rfl rfl ?_
            refine z_iload_n Q_X11_whose (k := 35) rfl rfl ?_
            refine z_iload_n Q_X11_whose (k := 36) rfl rfl ?_
            refine q_callV2_iV Q_X11_whose (k := 37) rfl rfl K_X11_ruleOf V_X11_ruleOf L_X11_254 (n_ hB21.1 rfl) (k_602 hB21.1) (Nat.le_of_ble_eq_true rfl) (Nat.le_of_ble_eq_true rfl) rfl (Nat.zero_le _) (Nat.zero_le _) (w_X11_ruleOf (d + 1) hB21 z2 z3 h) (fun r22 V22 hB22 hz22 h => ?_)
            refine y_istore (L' := [some (.ref 602), some (.int (iI a1)), some (.int (iI a2)), some (.int (iI a3)), some (.int (iI a4)), some (.int (iI r22))]) Q_X11_whose (k := 38) rfl (by decide) rfl ?_
            refine z_iload Q_X11_whose (k := 39) rfl rfl ?_
            refine y_if_ne 81 Q_X11_whose (k := 40) rfl (by decide) z4 (fun c => ?_) (fun c => ?_)
            · replace h := h.2 c
              refine z_iload Q_X11_whose (k := 43) rfl rfl ?_
              refine y_iconst Q_X11_whose (k := 44) rfl ?_
              refine y_icmp_ne 96 Q_X11_whose (k := 45) rfl (by decide) z4 ⟨by decide, by decide⟩ (fun c => ?_) (fun c => ?_)
              · replace h := h.2 c
                refine z_iload Q_X11_whose (k := 51) rfl rfl ?_
                refine y_iconst Q_X11_whose (k := 52) rfl ?_
                refine y_icmp_ne 106 Q_X11_whose (k := 53) rfl (by decide) hz22 ⟨by decide, by decide⟩ (fun c => ?_) (fun c => ?_)
                · replace h := h.2 c
                  refine z_aload_n Q_X11_whose (k := 56) rfl rfl ?_
                  refine z_getR (b := 607) Q_X11_whose (k := 57) rfl F_X11_26 rfl (n_ hB22.1 rfl) (k_602 hB22.1) (r_602_5 hB22.1) ?_
                  refine y_bipush Q_X11_whose (k := 58) rfl (by decide) ?_
                  refine z_iload_n Q_X11_whose (k := 59) rfl rfl ?_
                  obtain ⟨q23, h⟩ := h
                  refine y_imul Q_X11_whose (k := 60) rfl ?_
                  refine z_iload Q_X11_whose (k := 61) rfl rfl ?_
                  obtain ⟨q24, h⟩ := h
                  refine y_iadd Q_X11_whose (k := 62) rfl ?_
                  obtain ⟨q25, h⟩ := h
                  refine q_iald (o := 607) (N := 36) Q_X11_whose (k := 63) rfl rfl (n_ hB22.1 rfl) (k_607 hB22.1) rfl q25 (by decide) ?_
                  exact y_iret Q_X11_whose (k := 64) rfl rfl (qI_iV hB22 (hB22.2.1 _ _) h)
                · replace h := h.1 c
                  refine y_iconst Q_X11_whose (k := 54) rfl ?_
                  refine z_goto (tgt := 118) Q_X11_whose (k := 55) rfl (by decide) ?_
                  exact y_iret Q_X11_whose (k := 64) rfl rfl (qI_iV hB22 ⟨by decide, by decide⟩ h)
              · replace h := h.1 c
                refine z_aload_n Q_X11_whose (k := 46) rfl rfl ?_
                refine z_iload_n Q_X11_whose (k := 47) rfl rfl ?_
                refine z_iload_n Q_X11_whose (k := 48) rfl rfl ?_
                refine q_callV2_iV Q_X11_whose (k := 49) rfl rfl K_X11_whoIn V_X11_whoIn L_X11_261 (n_ hB22.1 rfl) (k_602 hB22.1) (Nat.le_of_ble_eq_true rfl) (Nat.le_of_ble_eq_true rfl) rfl (Nat.zero_le _) (Nat.zero_le _) (w_X11_whoIn d hB22 z2 z3 h) (fun r26 V26 hB26 hz26 h => ?_)
                refine z_goto (tgt := 118) Q_X11_whose (k := 50) rfl (by decide) ?_
                exact y_iret Q_X11_whose (k := 64) rfl rfl (qI_iV hB26 hz26 h)
            · replace h := h.1 c
              refine z_iload Q_X11_whose (k := 41) rfl rfl ?_
              refine z_goto (tgt := 118) Q_X11_whose (k := 42) rfl (by decide) ?_
              exact y_iret Q_X11_whose (k := 64) rfl rfl (qI_iV hB22 hz22 h)
          · replace h := h.1 c
            refine y_iconst Q_X11_whose (k := 29) rfl ?_
            exact y_iret Q_X11_whose (k := 30) rfl rfl (qI_iV hB20 ⟨by decide, by decide⟩ h)
