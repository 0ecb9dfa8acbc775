/-! methods keep their predicates -/
set_option maxHeartbeats 4000000 in
set_option maxRecDepth 20000 in
theorem v_X11_law_73 {S : zS} {J : qJ} {K : qV → Prop} {Q : Int → qV → Prop} {kc ks : Nat} (d : Nat) (hK : ∀ (V : qV), qB S V → K V → Z M_X11_law (d + 126) kc ks 94 [some (.ref 602), none, none] [] S (qi V) (qj J) (qP_iV S J Q)) : ∀ (f : Nat) (V : qV), qB S V → lp_X11_law_73 K f V → Z M_X11_law (d + 126) kc ks 73 [some (.ref 602), none, none] [] S (qi V) (qj J) (qP_iV S J Q) := by
  intro f
  induction f with
  | zero =>
    intro V hB h
    exact h.elim
  | succ f ih =>
    intro V hB h
    rw [lp_X11_law_73] at h
    refine z_aload_n Q_X11_law (k := 41) rfl rfl ?_
    refine q_callV0_z Q_X11_law (k := 42) rfl rfl K_X11_fine V_X11_fine L_X11_117 (n_ hB.1 rfl) (k_602 hB.1) (Nat.le_of_ble_eq_true rfl) (Nat.le_of_ble_eq_true rfl) rfl (Nat.zero_le _) (Nat.zero_le _) (w_X11_fine (d + 125) hB  h) (fun r6 hz6 hb6 h => ?_)
    refine y_if_eq 94 Q_X11_law (k := 43) rfl (by decide) hz6 (fun c => ?_) (fun c => ?_)
    · replace h := h.1 c
      exact y_fg (zsb_c rfl (zsb_n (zsb_n zsb_e))) (hK V hB h)
    · replace h := h.2 c
      refine z_aload_n Q_X11_law (k := 44) rfl rfl ?_
      refine q_callV0_zV Q_X11_law (k := 45) rfl rfl K_X11_isMore V_X11_isMore L_X11_194 (n_ hB.1 rfl) (k_602 hB.1) (Nat.le_of_ble_eq_true rfl) (Nat.le_of_ble_eq_true rfl) rfl (Nat.zero_le _) (Nat.zero_le _) (w_X11_isMore (d + 124) hB  h) (fun r7 V7 hB7 hz7 hb7 h => ?_)
      refine y_if_eq 94 Q_X11_law (k := 46) rfl (by decide) hz7 (fun c => ?_) (fun c => ?_)
      · replace h := h.1 c
        exact y_fg (zsb_c rfl (zsb_n (zsb_n zsb_e))) (hK V7 hB7 h)
      · replace h := h.2 c
        refine z_aload_n Q_X11_law (k := 47) rfl rfl ?_
        refine q_callV0_uV Q_X11_law (k := 48) rfl rfl K_X11_readRule V_X11_readRule L_X11_197 (n_ hB7.1 rfl) (k_602 hB7.1) (Nat.le_of_ble_eq_true rfl) (Nat.le_of_ble_eq_true rfl) rfl (Nat.zero_le _) (Nat.zero_le _) (w_X11_readRule d hB7  h) (fun V8 hB8 h => ?_)
        refine z_goto (tgt := 73) Q_X11_law (k := 49) rfl (by decide) ?_
        exact y_fg (zsb_c rfl (zsb_n (zsb_n zsb_e))) (ih V8 hB8 h)
set_option maxHeartbeats 4000000 in
set_option maxRecDepth 20000 in
theorem v_X11_law_132 {S : zS} {J : qJ} {K : Int → qV → Prop} {Q : Int → qV → Prop} {kc ks : Nat} (d : Nat) (hK : ∀ (l2 : Int) (V : qV), qB S V → zr l2 → K l2 V → Z M_X11_law (d + 126) kc ks 181 [some (.ref 602), none, some (.int (iI l2))] [] S (qi V) (qj J) (qP_iV S J Q)) : ∀ (f : Nat) (l2 : Int) (V : qV), qB S V → zr l2 → lp_X11_law_132 K f l2 V → Z M_X11_law (d + 126) kc ks 132 [some (.ref 602), none, some (.int (iI l2))] [] S (qi V) (qj J) (qP_iV S J Q) := by
  intro f
  induction f with
  | zero =>
    intro l2 V hB z2 h
    exact h.elim
  | succ f ih =>
    intro l2 V hB z2 h
    rw [lp_X11_law_132] at h
    refine z_iload_n Q_X11_law (k := 71) rfl rfl ?_
    refine z_aload_n Q_X11_law (k := 72) rfl rfl ?_
    refine q_getI (o := 602) (z := 19) Q_X11_law (k := 73) rfl F_X11_128 rfl rfl rfl (n_ hB.1 rfl) (k_602 hB.1) ?_
    refine z_aload_n Q_X11_law (k := 74) rfl rfl ?_
    refine q_getI (o := 602) (z := 18) Q_X11_law (k := 75) rfl F_X11_131 rfl rfl rfl (n_ hB.1 rfl) (k_602 hB.1) ?_
    obtain ⟨q14, h⟩ := h
    refine y_iadd Q_X11_law (k := 76) rfl ?_
    refine y_icmp_ge 181 Q_X11_law (k := 77) rfl (by decide) z2 q14 (fun c => ?_) (fun c => ?_)
    · replace h := h.1 c
      exact y_fg (zsb_c rfl (zsb_n (zsb_c rfl zsb_e))) (hK l2 V hB z2 h)
    · replace h := h.2 c
      refine z_aload_n Q_X11_law (k := 78) rfl rfl ?_
      refine z_getR (b := 604) Q_X11_law (k := 79) rfl F_X11_17 rfl (n_ hB.1 rfl) (k_602 hB.1) (r_602_2 hB.1) ?_
      refine z_iload_n Q_X11_law (k := 80) rfl rfl ?_
      obtain ⟨q15, h⟩ := h
      refine q_iald (o := 604) (N := 4620) Q_X11_law (k := 81) rfl rfl (n_ hB.1 rfl) (k_604 hB.1) rfl q15 (by decide) ?_
      refine y_iconst Q_X11_law (k := 82) rfl ?_
      refine y_icmp_ne 175 Q_X11_law (k := 83) rfl (by decide) (hB.2.1 _ _) ⟨by decide, by decide⟩ (fun c => ?_) (fun c => ?_)
      · replace h := h.2 c
        obtain ⟨q16, h⟩ := h
        refine y_iinc (L' := [some (.ref 602), none, some (.int (iI (l2 + 1)))]) Q_X11_law (k := 98) rfl (by decide) rfl rfl ?_
        refine z_goto (tgt := 132) Q_X11_law (k := 99) rfl (by decide) ?_
        exact y_fg (zsb_c rfl (zsb_n (zsb_c rfl zsb_e))) (ih (l2 + 1) V hB q16 h)
      · replace h := h.1 c
        refine z_aload_n Q_X11_law (k := 84) rfl rfl ?_
        refine z_getR (b := 612) Q_X11_law (k := 85) rfl F_X11_41 rfl (n_ hB.1 rfl) (k_602 hB.1) (r_602_10 hB.1) ?_
        refine z_aload_n Q_X11_law (k := 86) rfl rfl ?_
        refine q_getI (o := 602) (z := 11) Q_X11_law (k := 87) rfl F_X11_184 rfl rfl rfl (n_ hB.1 rfl) (k_602 hB.1) ?_
        refine z_dup2 Q_X11_law (k := 88) rfl rfl rfl ?_
        obtain ⟨q17, h⟩ := h
        refine q_iald (o := 612) (N := 3) Q_X11_law (k := 89) rfl rfl (n_ hB.1 rfl) (k_612 hB.1) rfl q17 (by decide) ?_
        refine y_iconst Q_X11_law (k := 90) rfl ?_
        refine z_aload_n Q_X11_law (k := 91) rfl rfl ?_
        refine z_getR (b := 605) Q_X11_law (k := 92) rfl F_X11_20 rfl (n_ hB.1 rfl) (k_602 hB.1) (r_602_3 hB.1) ?_
        refine z_iload_n Q_X11_law (k := 93) rfl rfl ?_
        obtain ⟨q18, h⟩ := h
        refine q_iald (o := 605) (N := 4620) Q_X11_law (k := 94) rfl rfl (n_ hB.1 rfl) (k_605 hB.1) rfl q18 (by decide) ?_
        refine y_ishl Q_X11_law (k := 95) rfl ?_
        refine y_ior Q_X11_law (k := 96) rfl ?_
        obtain ⟨q19, h⟩ := h
        refine q_iast (o := 612) (N := 3) Q_X11_law (k := 97) rfl rfl (n_ hB.1 rfl) (k_612 hB.1) rfl q19 (by decide) ?_
        have hB20 := qB.u (a := 612) (j := V 602 11) (x := zor (V 612 (V 602 11)) (zshl 1 (V 605 l2))) hB (zor_r _ _) (Or.inl (by decide))
        obtain ⟨q21, h⟩ := h
        refine y_iinc (L' := [some (.ref 602), none, some (.int (iI (l2 + 1)))]) Q_X11_law (k := 98) rfl (by decide) rfl rfl ?_
        refine z_goto (tgt := 132) Q_X11_law (k := 99) rfl (by decide) ?_
        exact y_fg (zsb_c rfl (zsb_n (zsb_c rfl zsb_e))) (ih (l2 + 1) (qu V 612 (V 602 11) (zor (V 612 (V 602 11)) (zshl 1 (V 605 l2)))) hB20 q21 h)
set_option maxHeartbeats 4000000 in
set_option maxRecDepth 20000 in
theorem w_X11_law {S : zS} {V : qV} {J : qJ} {Q : Int → qV → Prop} (d : Nat) (hB : qB S V) {a1 : Int} (z1 : zr a1) (h : W_X11_law a1 V Q) : Z M_X11_law (d + 126) 0 0 0 [some (.ref 602), some (.int (iI a1)), none] [] S (qi V) (qj J) (qP_iV S J Q) := by
  unfold W_X11_law at h
  refine z_aload_n Q_X11_law (k := 0) rfl rfl ?_
  refine y_iconst Q_X11_law (k := 1) rfl ?_
  refine q_putI (o := 602) (z := 0) Q_X11_law (k := 2) rfl F_X11_1 rfl rfl rfl (n_ hB.1 rfl) (k_602 hB.1) ?_
  have hB1 := qB.u (a := 602) (j := 0) (x := 0) hB ⟨by decide, by decide⟩ (Or.inl (by decide))
  refine z_aload_n Q_X11_law (k := 3) rfl rfl ?_
  refine z_iload_n Q_X11_law (k := 4) rfl rfl ?_
  refine y_if_lt 22 Q_X11_law (k := 5) rfl (by decide) z1 (fun c => ?_) (fun c => ?_)
  · replace h := h.1 c
    refine y_iconst Q_X11_law (k := 12) rfl ?_
    refine y_iconst Q_X11_law (k := 13) rfl ?_
    refine q_callV2_zV Q_X11_law (k := 14) rfl rfl K_X11_may V_X11_may L_X11_187 (n_ hB1.1 rfl) (k_602 hB1.1) (Nat.le_of_ble_eq_true rfl) (Nat.le_of_ble_eq_true rfl) rfl (Nat.zero_le _) (Nat.zero_le _) (w_X11_may (d + 125) hB1 ⟨by decide, by decide⟩ (Or.inl rfl) ⟨by decide, by decide⟩ h) (fun r2 V2 hB2 hz2 hb2 h => ?_)
    refine y_if_ne 32 Q_X11_law (k := 15) rfl (by decide) hz2 (fun c => ?_) (fun c => ?_)
    · replace h := h.2 c
      refine z_aload_n Q_X11_law (k := 18) rfl rfl ?_
      refine z_iload_n Q_X11_law (k := 19) rfl rfl ?_
      refine z_aload_n Q_X11_law (k := 20) rfl rfl ?_
      refine q_getI (o := 602) (z := 11) Q_X11_law (k := 21) rfl F_X11_184 rfl rfl rfl (n_ hB2.1 rfl) (k_602 hB2.1) ?_
      refine y_iconst Q_X11_law (k := 22) rfl ?_
      refine y_icmp_ge 49 Q_X11_law (k := 23) rfl (by decide) (hB2.2.1 _ _) ⟨by decide, by decide⟩ (fun c => ?_) (fun c => ?_)
      · replace h := h.1 c
        refine y_iconst Q_X11_law (k := 27) rfl ?_
        refine q_callV2_uV Q_X11_law (k := 28) rfl rfl K_X11_beginsReading V_X11_beginsReading L_X11_191 (n_ hB2.1 rfl) (k_602 hB2.1) (Nat.le_of_ble_eq_true rfl) (Nat.le_of_ble_eq_true rfl) rfl (Nat.zero_le _) (Nat.zero_le _) (w_X11_beginsReading (d + 125) hB2 z1 ⟨by decide, by decide⟩ h) (fun V3 hB3 h => ?_)
        refine z_aload_n Q_X11_law (k := 29) rfl rfl ?_
        refine q_getI (o := 602) (z := 11) Q_X11_law (k := 30) rfl F_X11_184 rfl rfl rfl (n_ hB3.1 rfl) (k_602 hB3.1) ?_
        refine y_iconst Q_X11_law (k := 31) rfl ?_
        refine y_icmp_ne 63 Q_X11_law (k := 32) rfl (by decide) (hB3.2.1 _ _) ⟨by decide, by decide⟩ (fun c => ?_) (fun c => ?_)
        · replace h := h.2 c
          refine z_aload_n Q_X11_law (k := 35) rfl rfl ?_
          refine z_getR (b := 610) Q_X11_law (k := 36) rfl F_X11_35 rfl (n_ hB3.1 rfl) (k_602 hB3.1) (r_602_8 hB3.1) ?_
          refine z_aload_n Q_X11_law (k := 37) rfl rfl ?_
          refine q_getI (o := 602) (z := 11) Q_X11_law (k := 38) rfl F_X11_184 rfl rfl rfl (n_ hB3.1 rfl) (k_602 hB3.1) ?_
          refine y_iconst Q_X11_law (k := 39) rfl ?_
          obtain ⟨q4, h⟩ := h
          refine q_iast (o := 610) (N := 3) Q_X11_law (k := 40) rfl rfl (n_ hB3.1 rfl) (k_610 hB3.1) rfl q4 (by decide) ?_
          have hB5 := qB.u (a := 610) (j := V3 602 11) (x := 0) hB3 ⟨by decide, by decide⟩ (Or.inl (by decide))
          refine y_fg (zsb_c rfl (zsb_n (zsb_n zsb_e))) (v_X11_law_73 d (fun V9 hB9 h => ?_) 100000 (qu V3 610 (V3 602 11) 0) hB5 h)
          refine z_aload_n Q_X11_law (k := 50) rfl rfl ?_
          refine z_aload_n Q_X11_law (k := 51) rfl rfl ?_
          refine q_getI (o := 602) (z := 15) Q_X11_law (k := 52) rfl F_X11_85 rfl rfl rfl (n_ hB9.1 rfl) (k_602 hB9.1) ?_
          refine q_putI (o := 602) (z := 20) Q_X11_law (k := 53) rfl F_X11_44 rfl rfl rfl (n_ hB9.1 rfl) (k_602 hB9.1) ?_
          have hB10 := qB.u (a := 602) (j := 20) (x := V9 602 15) hB9 (hB9.2.1 _ _) (Or.inl (by decide))
          refine z_aload_n Q_X11_law (k := 54) rfl rfl ?_
          refine q_callV0_z Q_X11_law (k := 55) rfl rfl K_X11_fine V_X11_fine L_X11_117 (n_ hB10.1 rfl) (k_602 hB10.1) (Nat.le_of_ble_eq_true rfl) (Nat.le_of_ble_eq_true rfl) rfl (Nat.zero_le _) (Nat.zero_le _) (w_X11_fine (d + 125) hB10  h) (fun r11 hz11 hb11 h => ?_)
          refine y_if_ne 117 Q_X11_law (k := 56) rfl (by decide) hz11 (fun c => ?_) (fun c => ?_)
          · replace h := h.2 c
            refine z_aload_n Q_X11_law (k := 62) rfl rfl ?_
            refine z_getR (b := 612) Q_X11_law (k := 63) rfl F_X11_41 rfl (n_ hB10.1 rfl) (k_602 hB10.1) (r_602_10 hB10.1) ?_
            refine z_aload_n Q_X11_law (k := 64) rfl rfl ?_
            refine q_getI (o := 602) (z := 11) Q_X11_law (k := 65) rfl F_X11_184 rfl rfl rfl (n_ hB10.1 rfl) (k_602 hB10.1) ?_
            refine y_iconst Q_X11_law (k := 66) rfl ?_
            obtain ⟨q12, h⟩ := h
            refine q_iast (o := 612) (N := 3) Q_X11_law (k := 67) rfl rfl (n_ hB10.1 rfl) (k_612 hB10.1) rfl q12 (by decide) ?_
            have hB13 := qB.u (a := 612) (j := (qu V9 602 20 (V9 602 15)) 602 11) (x := 0) hB10 ⟨by decide, by decide⟩ (Or.inl (by decide))
            refine z_aload_n Q_X11_law (k := 68) rfl rfl ?_
            refine q_getI (o := 602) (z := 19) Q_X11_law (k := 69) rfl F_X11_128 rfl rfl rfl (n_ hB13.1 rfl) (k_602 hB13.1) ?_
            refine y_istore_n (L' := [some (.ref 602), none, some (.int (iI ((qu (qu V9 602 20 (V9 602 15)) 612 ((qu V9 602 20 (V9 602 15)) 602 11) 0) 602 19)))]) Q_X11_law (k := 70) rfl (by decide) rfl ?_
            refine y_fg (zsb_c rfl (zsb_n (zsb_c rfl zsb_e))) (v_X11_law_132 d (fun l2x22 V22 hB22 zl2x22 h => ?_) 100000 ((qu (qu V9 602 20 (V9 602 15)) 612 ((qu V9 602 20 (V9 602 15)) 602 11) 0) 602 19) (qu (qu V9 602 20 (V9 602 15)) 612 ((qu V9 602 20 (V9 602 15)) 602 11) 0) hB13 (hB13.2.1 _ _) h)
            refine z_aload_n Q_X11_law (k := 100) rfl rfl ?_
            refine z_dup Q_X11_law (k := 101) rfl rfl ?_
            refine q_getI (o := 602) (z := 11) Q_X11_law (k := 102) rfl F_X11_184 rfl rfl rfl (n_ hB22.1 rfl) (k_602 hB22.1) ?_
            refine y_iconst Q_X11_law (k := 103) rfl ?_
            obtain ⟨q23, h⟩ := h
            refine y_iadd Q_X11_law (k := 104) rfl ?_
            refine q_putI (o := 602) (z := 11) Q_X11_law (k := 105) rfl F_X11_184 rfl rfl rfl (n_ hB22.1 rfl) (k_602 hB22.1) ?_
            have hB24 := qB.u (a := 602) (j := 11) (x := (V22 602 11) + 1) hB22 q23 (Or.inl (by decide))
            refine z_aload_n Q_X11_law (k := 106) rfl rfl ?_
            refine q_getI (o := 602) (z := 11) Q_X11_law (k := 107) rfl F_X11_184 rfl rfl rfl (n_ hB24.1 rfl) (k_602 hB24.1) ?_
            refine y_iconst Q_X11_law (k := 108) rfl ?_
            obtain ⟨q25, h⟩ := h
            refine y_isub Q_X11_law (k := 109) rfl ?_
            exact y_iret Q_X11_law (k := 110) rfl rfl (qI_iV hB24 q25 h)
          · replace h := h.1 c
            refine z_aload_n Q_X11_law (k := 57) rfl rfl ?_
            refine q_getI (o := 602) (z := 16) Q_X11_law (k := 58) rfl F_X11_88 rfl rfl rfl (n_ hB10.1 rfl) (k_602 hB10.1) ?_
            refine y_bipush Q_X11_law (k := 59) rfl (by decide) ?_
            obtain ⟨q26, h⟩ := h
            refine y_isub Q_X11_law (k := 60) rfl ?_
            exact y_iret Q_X11_law (k := 61) rfl rfl (qI_iV hB10 q26 h)
        · replace h := h.1 c
          refine y_iconst Q_X11_law (k := 33) rfl ?_
          exact y_iret Q_X11_law (k := 34) rfl rfl (qI_iV hB3 ⟨by decide, by decide⟩ h)
      · replace h := h.2 c
        refine z_aload_n Q_X11_law (k := 24) rfl rfl ?_
        refine q_getI (o := 602) (z := 11) Q_X11_law (k := 25) rfl F_X11_184 rfl rfl rfl (n_ hB2.1 rfl) (k_602 hB2.1) ?_
        refine z_goto (tgt := 50) Q_X11_law (k := 26) rfl (by decide) ?_
        refine q_callV2_uV Q_X11_law (k := 28) rfl rfl K_X11_beginsReading V_X11_beginsReading L_X11_191 (n_ hB2.1 rfl) (k_602 hB2.1) (Nat.le_of_ble_eq_true rfl) (Nat.le_of_ble_eq_true rfl) rfl (Nat.zero_le _) (Nat.zero_le _) (w_X11_beginsReading (d + 125) hB2 z1 (hB2.2.1 _ _) h) (fun V27 hB27 h => ?_)
        refine z_aload_n Q_X11_law (k := 29) rfl rfl ?_
        refine q_getI (o := 602) (z := 11) Q_X11_law (k := 30) rfl F_X11_184 rfl rfl rfl (n_ hB27.1 rfl) (k_602 hB27.1) ?_
        refine y_iconst Q_X11_law (k := 31) rfl ?_
        refine y_icmp_ne 63 Q_X11_law (k := 32) rfl (by decide) (hB27.2.1 _ _) ⟨by decide, by decide⟩ (fun c => ?_) (fun c => ?_)
        · replace h := h.2 c
          refine z_aload_n Q_X11_law (k := 35) rfl rfl ?_
          refine z_getR (b := 610) Q_X11_law (k := 36) rfl F_X11_35 rfl (n_ hB27.1 rfl) (k_602 hB27.1) (r_602_8 hB27.1) ?_
          refine z_aload_n Q_X11_law (k := 37) rfl rfl ?_
          refine q_getI (o := 602) (z := 11) Q_X11_law (k := 38) rfl F_X11_184 rfl rfl rfl (n_ hB27.1 rfl) (k_602 hB27.1) ?_
          refine y_iconst Q_X11_law (k := 39) rfl ?_
          obtain ⟨q28, h⟩ := h
          refine q_iast (o := 610) (N := 3) Q_X11_law (k := 40) rfl rfl (n_ hB27.1 rfl) (k_610 hB27.1) rfl q28 (by decide) ?_
          have hB29 := qB.u (a := 610) (j := V27 602 11) (x := 0) hB27 ⟨by decide, by decide⟩ (Or.inl (by decide))
          refine y_fg (zsb_c rfl (zsb_n (zsb_n zsb_e))) (v_X11_law_73 d (fun V30 hB30 h => ?_) 100000 (qu V27 610 (V27 602 11) 0) hB29 h)
          refine z_aload_n Q_X11_law (k := 50) rfl rfl ?_
          refine z_aload_n Q_X11_law (k := 51) rfl rfl ?_
          refine q_getI (o := 602) (z := 15) Q_X11_law (k := 52) rfl F_X11_85 rfl rfl rfl (n_ hB30.1 rfl) (k_602 hB30.1) ?_
          refine q_putI (o := 602) (z := 20) Q_X11_law (k := 53) rfl F_X11_44 rfl rfl rfl (n_ hB30.1 rfl) (k_602 hB30.1) ?_
          have hB31 := qB.u (a := 602) (j := 20) (x := V30 602 15) hB30 (hB30.2.1 _ _) (Or.inl (by decide))
          refine z_aload_n Q_X11_law (k := 54) rfl rfl ?_
          refine q_callV0_z Q_X11_law (k := 55) rfl rfl K_X11_fine V_X11_fine L_X11_117 (n_ hB31.1 rfl) (k_602 hB31.1) (Nat.le_of_ble_eq_true rfl) (Nat.le_of_ble_eq_true rfl) rfl (Nat.zero_le _) (Nat.zero_le _) (w_X11_fine (d + 125) hB31  h) (fun r32 hz32 hb32 h => ?_)
          refine y_if_ne 117 Q_X11_law (k := 56) rfl (by decide) hz32 (fun c => ?_) (fun c => ?_)
          · replace h := h.2 c
            refine z_aload_n Q_X11_law (k := 62) rfl rfl ?_
            refine z_getR (b := 612) Q_X11_law (k := 63) rfl F_X11_41 rfl (n_ hB31.1 rfl) (k_602 hB31.1) (r_602_10 hB31.1) ?_
            refine z_aload_n Q_X11_law (k := 64) rfl rfl ?_
            refine q_getI (o := 602) (z := 11) Q_X11_law (k := 65) rfl F_X11_184 rfl rfl rfl (n_ hB31.1 rfl) (k_602 hB31.1) ?_
            refine y_iconst Q_X11_law (k := 66) rfl ?_
            obtain ⟨q33, h⟩ := h
            refine q_iast (o := 612) (N := 3) Q_X11_law (k := 67) rfl rfl (n_ hB31.1 rfl) (k_612 hB31.1) rfl q33 (by decide) ?_
            have hB34 := qB.u (a := 612) (j := (qu V30 602 20 (V30 602 15)) 602 11) (x := 0) hB31 ⟨by decide, by decide⟩ (Or.inl (by decide))
            refine z_aload_n Q_X11_law (k := 68) rfl rfl ?_
            refine q_getI (o := 602) (z := 19) Q_X11_law (k := 69) rfl F_X11_128 rfl rfl rfl (n_ hB34.1 rfl) (k_602 hB34.1) ?_
            refine y_istore_n (L' := [some (.ref 602), none, some (.int (iI ((qu (qu V30 602 20 (V30 602 15)) 612 ((qu V30 602 20 (V30 602 15)) 602 11) 0) 602 19)))]) Q_X11_law (k := 70) rfl (by decide) rfl ?_
            refine y_fg (zsb_c rfl (zsb_n (zsb_c rfl zsb_e))) (v_X11_law_132 d (fun l2x35 V35 hB35 zl2x35 h => ?_) 100000 ((qu (qu V30 602 20 (V30 602 15)) 612 ((qu V30 602 20 (V30 602 15)) 602 11) 0) 602 19) (qu (qu V30 602 20 (V30 602 15)) 612 ((qu V30 602 20 (V30 602 15)) 602 11) 0) hB34 (hB34.2.1 _ _) h)
            refine z_aload_n Q_X11_law (k := 100) rfl rfl ?_
            refine z_dup Q_X11_law (k := 101) rfl rfl ?_
            refine q_getI (o := 602) (z := 11) Q_X11_law (k := 102) rfl F_X11_184 rfl rfl rfl (n_ hB35.1 rfl) (k_602 hB35.1) ?_
            refine y_iconst Q_X11_law (k := 103) rfl ?_
            obtain ⟨q36, h⟩ := h
            refine y_iadd Q_X11_law (k := 104) rfl ?_
            refine q_putI (o := 602) (z := 11) Q_X11_law (k := 105) rfl F_X11_184 rfl rfl rfl (n_ hB35.1 rfl) (k_602 hB35.1) ?_
            have hB37 := qB.u (a := 602) (j := 11) (x := (V35 602 11) + 1) hB35 q36 (Or.inl (by decide))
            refine z_aload_n Q_X11_law (k := 106) rfl rfl ?_
            refine q_getI (o := 602) (z := 11) Q_X11_law (k := 107) rfl F_X11_184 rfl rfl rfl (n_ hB37.1 rfl) (k_602 hB37.1) ?_
            refine y_iconst Q_X11_law (k := 108) rfl ?_
            obtain ⟨q38, h⟩ := h
            refine y_isub Q_X11_law (k := 109) rfl ?_
            exact y_iret Q_X11_law (k := 110) rfl rfl (qI_iV hB37 q38 h)
          · replace h := h.1 c
            refine z_aload_n Q_X11_law (k := 57) rfl rfl ?_
            refine q_getI (o := 602) (z := 16) Q_X11_law (k := 58) rfl F_X11_88 rfl rfl rfl (n_ hB31.1 rfl) (k_602 hB31.1) ?_
            refine y_bipush Q_X11_law (k := 59) rfl (by decide) ?_
            obtain ⟨q39, h⟩ := h
            refine y_isub Q_X11_law (k := 60) rfl ?_
            exact y_iret Q_X11_law (k := 61) rfl rfl (qI_iV hB31 q39 h)
        · replace h := h.1 c
          refine y_iconst Q_X11_law (k := 33) rfl ?_
          exact y_iret Q_X11_law (k := 34) rfl rfl (qI_iV hB27 ⟨by decide, by decide⟩ h)
    · replace h := h.1 c
      refine y_iconst Q_X11_law (k := 16) rfl ?_
      exact y_iret Q_X11_law (k := 17) rfl rfl (qI_iV hB2 ⟨by decide, by decide⟩ h)
  · replace h := h.2 c
    refine z_iload_n Q_X11_law (k := 6) rfl rfl ?_
    refine z_aload_n Q_X11_law (k := 7) rfl rfl ?_
    refine q_getI (o := 602) (z := 12) Q_X11_law (k := 8) rfl F_X11_82 rfl rfl rfl (n_ hB1.1 rfl) (k_602 hB1.1) ?_
    refine y_icmp_gt 22 Q_X11_law (k := 9) rfl (by decide) z1 (hB1.2.1 _ _) (fun c => ?_) (fun c => ?_)
    · replace h := h.1 c
      refine y_iconst Q_X11_law (k := 12) rfl ?_
      refine y_iconst Q_X11_law (k := 13) rfl ?_
      refine q_callV2_zV Q_X11_law (k := 14) rfl rfl K_X11_may V_X11_may L_X11_187 (n_ hB1.1 rfl) (k_602 hB1.1) (Nat.le_of_ble_eq_true rfl) (Nat.le_of_ble_eq_true rfl) rfl (Nat.zero_le _) (Nat.zero_le _) (w_X11_may (d + 125) hB1 ⟨by decide, by decide⟩ (Or.inl rfl) ⟨by decide, by decide⟩ h) (fun r40 V40 hB40 hz40 hb40 h => ?_)
      refine y_if_ne 32 Q_X11_law (k := 15) rfl (by decide) hz40 (fun c => ?_) (fun c => ?_)
      · replace h := h.2 c
        refine z_aload_n Q_X11_law (k := 18) rfl rfl ?_
        refine z_iload_n Q_X11_law (k := 19) rfl rfl ?_
        refine z_aload_n Q_X11_law (k := 20) rfl rfl ?_
        refine q_getI (o := 602) (z := 11) Q_X11_law (k := 21) rfl F_X11_184 rfl rfl rfl (n_ hB40.1 rfl) (k_602 hB40.1) ?_
        refine y_iconst Q_X11_law (k := 22) rfl ?_
        refine y_icmp_ge 49 Q_X11_law (k := 23) rfl (by decide) (hB40.2.1 _ _) ⟨by decide, by decide⟩ (fun c => ?_) (fun c => ?_)
        · replace h := h.1 c
          refine y_iconst Q_X11_law (k := 27) rfl ?_
          refine q_callV2_uV Q_X11_law (k := 28) rfl rfl K_X11_beginsReading V_X11_beginsReading L_X11_191 (n_ hB40.1 rfl) (k_602 hB40.1) (Nat.le_of_ble_eq_true rfl) (Nat.le_of_ble_eq_true rfl) rfl (Nat.zero_le _) (Nat.zero_le _) (w_X11_beginsReading (d + 125) hB40 z1 ⟨by decide, by decide⟩ h) (fun V41 hB41 h => ?_)
          refine z_aload_n Q_X11_law (k := 29) rfl rfl ?_
          refine q_getI (o := 602) (z := 11) Q_X11_law (k := 30) rfl F_X11_184 rfl rfl rfl (n_ hB41.1 rfl) (k_602 hB41.1) ?_
          refine y_iconst Q_X11_law (k := 31) rfl ?_
          refine y_icmp_ne 63 Q_X11_law (k := 32) rfl (by decide) (hB41.2.1 _ _) ⟨by decide, by decide⟩ (fun c => ?_) (fun c => ?_)
          · replace h := h.2 c
            refine z_aload_n Q_X11_law (k := 35) rfl rfl ?_
            refine z_getR (b := 610) Q_X11_law (k := 36) rfl F_X11_35 rfl (n_ hB41.1 rfl) (k_602 hB41.1) (r_602_8 hB41.1) ?_
            refine z_aload_n Q_X11_law (k := 37) rfl rfl ?_
            refine q_getI (o := 602) (z := 11) Q_X11_law (k := 38) rfl F_X11_184 rfl rfl rfl (n_ hB41.1 rfl) (k_602 hB41.1) ?_
            refine y_iconst Q_X11_law (k := 39) rfl ?_
            obtain ⟨q42, h⟩ := h
            refine q_iast (o := 610) (N := 3) Q_X11_law (k := 40) rfl rfl (n_ hB41.1 rfl) (k_610 hB41.1) rfl q42 (by decide) ?_
            have hB43 := qB.u (a := 610) (j := V41 602 11) (x := 0) hB41 ⟨by decide, by decide⟩ (Or.inl (by decide))
            refine y_fg (zsb_c rfl (zsb_n (zsb_n zsb_e))) (v_X11_law_73 d (fun V44 hB44 h => ?_) 100000 (qu V41 610 (V41 602 11) 0) hB43 h)
            refine z_aload_n Q_X11_law (k := 50) rfl rfl ?_
            refine z_aload_n Q_X11_law (k := 51) rfl rfl ?_
            refine q_getI (o := 602) (z := 15) Q_X11_law (k := 52) rfl F_X11_85 rfl rfl rfl (n_ hB44.1 rfl) (k_602 hB44.1) ?_
            refine q_putI (o := 602) (z := 20) Q_X11_law (k := 53) rfl F_X11_44 rfl rfl rfl (n_ hB44.1 rfl) (k_602 hB44.1) ?_
            have hB45 := qB.u (a := 602) (j := 20) (x := V44 602 15) hB44 (hB44.2.1 _ _) (Or.inl (by decide))
            refine z_aload_n Q_X11_law (k := 54) rfl rfl ?_
            refine q_callV0_z Q_X11_law (k := 55) rfl rfl K_X11_fine V_X11_fine L_X11_117 (n_ hB45.1 rfl) (k_602 hB45.1) (Nat.le_of_ble_eq_true rfl) (Nat.le_of_ble_eq_true rfl) rfl (Nat.zero_le _) (Nat.zero_le _) (w_X11_fine (d + 125) hB45  h) (fun r46 hz46 hb46 h => ?_)
            refine y_if_ne 117 Q_X11_law (k := 56) rfl (by decide) hz46 (fun c => ?_) (fun c => ?_)
            · replace h := h.2 c
              refine z_aload_n Q_X11_law (k := 62) rfl rfl ?_
              refine z_getR (b := 612) Q_X11_law (k := 63) rfl F_X11_41 rfl (n_ hB45.1 rfl) (k_602 hB45.1) (r_602_10 hB45.1) ?_
              refine z_aload_n Q_X11_law (k := 64) rfl rfl ?_
              refine q_getI (o := 602) (z := 11) Q_X11_law (k := 65) rfl F_X11_184 rfl rfl rfl (n_ hB45.1 rfl) (k_602 hB45.1) ?_
              refine y_iconst Q_X11_law (k := 66) rfl ?_
              obtain ⟨q47, h⟩ := h
              refine q_iast (o := 612) (N := 3) Q_X11_law (k := 67) rfl rfl (n_ hB45.1 rfl) (k_612 hB45.1) rfl q47 (by decide) ?_
              have hB48 := qB.u (a := 612) (j := (qu V44 602 20 (V44 602 15)) 602 11) (x := 0) hB45 ⟨by decide, by decide⟩ (Or.inl (by decide))
              refine z_aload_n Q_X11_law (k := 68) rfl rfl ?_
              refine q_getI (o := 602) (z := 19) Q_X11_law (k := 69) rfl F_X11_128 rfl rfl rfl (n_ hB48.1 rfl) (k_602 hB48.1) ?_
              refine y_istore_n (L' := [some (.ref 602), none, some (.int (iI ((qu (qu V44 602 20 (V44 602 15)) 612 ((qu V44 602 20 (V44 602 15)) 602 11) 0) 602 19)))]) Q_X11_law (k := 70) rfl (by decide) rfl ?_
              refine y_fg (zsb_c rfl (zsb_n (zsb_c rfl zsb_e))) (v_X11_law_132 d (fun l2x49 V49 hB49 zl2x49 h => ?_) 100000 ((qu (qu V44 602 20 (V44 602 15)) 612 ((qu V44 602 20 (V44 602 15)) 602 11) 0) 602 19) (qu (qu V44 602 20 (V44 602 15)) 612 ((qu V44 602 20 (V44 602 15)) 602 11) 0) hB48 (hB48.2.1 _ _) h)
              refine z_aload_n Q_X11_law (k := 100) rfl rfl ?_
              refine z_dup Q_X11_law (k := 101) rfl rfl ?_
              refine q_getI (o := 602) (z := 11) Q_X11_law (k := 102) rfl F_X11_184 rfl rfl rfl (n_ hB49.1 rfl) (k_602 hB49.1) ?_
              refine y_iconst Q_X11_law (k := 103) rfl ?_
              obtain ⟨q50, h⟩ := h
              refine y_iadd Q_X11_law (k := 104) rfl ?_
              refine q_putI (o := 602) (z := 11) Q_X11_law (k := 105) rfl F_X11_184 rfl rfl rfl (n_ hB49.1 rfl) (k_602 hB49.1) ?_
              have hB51 := qB.u (a := 602) (j := 11) (x := (V49 602 11) + 1) hB49 q50 (Or.inl (by decide))
              refine z_aload_n Q_X11_law (k := 106) rfl rfl ?_
              refine q_getI (o := 602) (z := 11) Q_X11_law (k := 107) rfl F_X11_184 rfl rfl rfl (n_ hB51.1 rfl) (k_602 hB51.1) ?_
              refine y_iconst Q_X11_law (k := 108) rfl ?_
              obtain ⟨q52, h⟩ := h
              refine y_isub Q_X11_law (k := 109) rfl ?_
              exact y_iret Q_X11_law (k := 110) rfl rfl (qI_iV hB51 q52 h)
            · replace h := h.1 c
              refine z_aload_n Q_X11_law (k := 57) rfl rfl ?_
              refine q_getI (o := 602) (z := 16) Q_X11_law (k := 58) rfl F_X11_88 rfl rfl rfl (n_ hB45.1 rfl) (k_602 hB45.1) ?_
              refine y_bipush Q_X11_law (k := 59) rfl (by decide) ?_
              obtain ⟨q53, h⟩ := h
              refine y_isub Q_X11_law (k := 60) rfl ?_
              exact y_iret Q_X11_law (k := 61) rfl rfl (qI_iV hB45 q53 h)
          · replace h := h.1 c
            refine y_iconst Q_X11_law (k := 33) rfl ?_
            exact y_iret Q_X11_law (k := 34) rfl rfl (qI_iV hB41 ⟨by decide, by decide⟩ h)
        · replace h := h.2 c
          refine z_aload_n Q_X11_law (k := 24) rfl rfl ?_
          refine q_getI (o := 602) (z := 11) Q_X11_law (k := 25) rfl F_X11_184 rfl rfl rfl (n_ hB40.1 rfl) (k_602 hB40.1) ?_
          refine z_goto (tgt := 50) Q_X11_law (k := 26) rfl (by decide) ?_
          refine q_callV2_uV Q_X11_law (k := 28) rfl rfl K_X11_beginsReading V_X11_beginsReading L_X11_191 (n_ hB40.1 rfl) (k_602 hB40.1) (Nat.le_of_ble_eq_true rfl) (Nat.le_of_ble_eq_true rfl) rfl (Nat.zero_le _) (Nat.zero_le _) (w_X11_beginsReading (d + 125) hB40 z1 (hB40.2.1 _ _) h) (fun V54 hB54 h => ?_)
          refine z_aload_n Q_X11_law (k := 29) rfl rfl ?_
          refine q_getI (o := 602) (z := 11) Q_X11_law (k := 30) rfl F_X11_184 rfl rfl rfl (n_ hB54.1 rfl) (k_602 hB54.1) ?_
          refine y_iconst Q_X11_law (k := 31) rfl ?_
          refine y_icmp_ne 63 Q_X11_law (k := 32) rfl (by decide) (hB54.2.1 _ _) ⟨by decide, by decide⟩ (fun c => ?_) (fun c => ?_)
          · replace h := h.2 c
            refine z_aload_n Q_X11_law (k := 35) rfl rfl ?_
            refine z_getR (b := 610) Q_X11_law (k := 36) rfl F_X11_35 rfl (n_ hB54.1 rfl) (k_602 hB54.1) (r_602_8 hB54.1) ?_
            refine z_aload_n Q_X11_law (k := 37) rfl rfl ?_
            refine q_getI (o := 602) (z := 11) Q_X11_law (k := 38) rfl F_X11_184 rfl rfl rfl (n_ hB54.1 rfl) (k_602 hB54.1) ?_
            refine y_iconst Q_X11_law (k := 39) rfl ?_
            obtain ⟨q55, h⟩ := h
            refine q_iast (o := 610) (N := 3) Q_X11_law (k := 40) rfl rfl (n_ hB54.1 rfl) (k_610 hB54.1) rfl q55 (by decide) ?_
            have hB56 := qB.u (a := 610) (j := V54 602 11) (x := 0) hB54 ⟨by decide, by decide⟩ (Or.inl (by decide))
            refine y_fg (zsb_c rfl (zsb_n (zsb_n zsb_e))) (v_X11_law_73 d (fun V57 hB57 h => ?_) 100000 (qu V54 610 (V54 602 11) 0) hB56 h)
            refine z_aload_n Q_X11_law (k := 50) rfl rfl ?_
            refine z_aload_n Q_X11_law (k := 51) rfl rfl ?_
            refine q_getI (o := 602) (z := 15) Q_X11_law (k := 52) rfl F_X11_85 rfl rfl rfl (n_ hB57.1 rfl) (k_602 hB57.1) ?_
            refine q_putI (o := 602) (z := 20) Q_X11_law (k := 53) rfl F_X11_44 rfl rfl rfl (n_ hB57.1 rfl) (k_602 hB57.1) ?_
            have hB58 := qB.u (a := 602) (j := 20) (x := V57 602 15) hB57 (hB57.2.1 _ _) (Or.inl (by decide))
            refine z_aload_n Q_X11_law (k := 54) rfl rfl ?_
            refine q_callV0_z Q_X11_law (k := 55) rfl rfl K_X11_fine V_X11_fine L_X11_117 (n_ hB58.1 rfl) (k_602 hB58.1) (Nat.le_of_ble_eq_true rfl) (Nat.le_of_ble_eq_true rfl) rfl (Nat.zero_le _) (Nat.zero_le _) (w_X11_fine (d + 125) hB58  h) (fun r59 hz59 hb59 h => ?_)
            refine y_if_ne 117 Q_X11_law (k := 56) rfl (by decide) hz59 (fun c => ?_) (fun c => ?_)
            · replace h := h.2 c
              refine z_aload_n Q_X11_law (k := 62) rfl rfl ?_
              refine z_getR (b := 612) Q_X11_law (k := 63) rfl F_X11_41 rfl (n_ hB58.1 rfl) (k_602 hB58.1) (r_602_10 hB58.1) ?_
              refine z_aload_n Q_X11_law (k := 64) rfl rfl ?_
              refine q_getI (o := 602) (z := 11) Q_X11_law (k := 65) rfl F_X11_184 rfl rfl rfl (n_ hB58.1 rfl) (k_602 hB58.1) ?_
              refine y_iconst Q_X11_law (k := 66) rfl ?_
              obtain ⟨q60, h⟩ := h
              refine q_iast (o := 612) (N := 3) Q_X11_law (k := 67) rfl rfl (n_ hB58.1 rfl) (k_612 hB58.1) rfl q60 (by decide) ?_
              have hB61 := qB.u (a := 612) (j := (qu V57 602 20 (V57 602 15)) 602 11) (x := 0) hB58 ⟨by decide, by decide⟩ (Or.inl (by decide))
              refine z_aload_n Q_X11_law (k := 68) rfl rfl ?_
              refine q_getI (o := 602) (z := 19) Q_X11_law (k := 69) rfl F_X11_128 rfl rfl rfl (n_ hB61.1 rfl) (k_602 hB61.1) ?_
              refine y_istore_n (L' := [some (.ref 602), none, some (.int (iI ((qu (qu V57 602 20 (V57 602 15)) 612 ((qu V57 602 20 (V57 602 15)) 602 11) 0) 602 19)))]) Q_X11_law (k := 70) rfl (by decide) rfl ?_
              refine y_fg (zsb_c rfl (zsb_n (zsb_c rfl zsb_e))) (v_X11_law_132 d (fun l2x62 V62 hB62 zl2x62 h => ?_) 100000 ((qu (qu V57 602 20 (V57 602 15)) 612 ((qu V57 602 20 (V57 602 15)) 602 11) 0) 602 19) (qu (qu V57 602 20 (V57 602 15)) 612 ((qu V57 602 20 (V57 602 15)) 602 11) 0) hB61 (hB61.2.1 _ _) h)
              refine z_aload_n Q_X11_law (k := 100) rfl rfl ?_
              refine z_dup Q_X11_law (k := 101) rfl rfl ?_
              refine q_getI (o := 602) (z := 11) Q_X11_law (k := 102) rfl F_X11_184 rfl rfl rfl (n_ hB62.1 rfl) (k_602 hB62.1) ?_
              refine y_iconst Q_X11_law (k := 103) rfl ?_
              obtain ⟨q63, h⟩ := h
              refine y_iadd Q_X11_law (k := 104) rfl ?_
              refine q_putI (o := 602) (z := 11) Q_X11_law (k := 105) rfl F_X11_184 rfl rfl rfl (n_ hB62.1 rfl) (k_602 hB62.1) ?_
              have hB64 := qB.u (a := 602) (j := 11) (x := (V62 602 11) + 1) hB62 q63 (Or.inl (by decide))
              refine z_aload_n Q_X11_law (k := 106) rfl rfl ?_
              refine q_getI (o := 602) (z := 11) Q_X11_law (k := 107) rfl F_X11_184 rfl rfl rfl (n_ hB64.1 rfl) (k_602 hB64.1) ?_
              refine y_iconst Q_X11_law (k := 108) rfl ?_
              obtain ⟨q65, h⟩ := h
              refine y_isub Q_X11_law (k := 109) rfl ?_
              exact y_iret Q_X11_law (k := 110) rfl rfl (qI_iV hB64 q65 h)
            · replace h := h.1 c
              refine z_aload_n Q_X11_law (k := 57) rfl rfl ?_
              refine q_getI (o := 602) (z := 16) Q_X11_law (k := 58) rfl F_X11_88 rfl rfl rfl (n_ hB58.1 rfl) (k_602 hB58.1) ?_
              refine y_bipush Q_X11_law (k := 59) rfl (by decide) ?_
              obtain ⟨q66, h⟩ := h
              refine y_isub Q_X11_law (k := 60) rfl ?_
              exact y_iret Q_X11_law (k := 61) rfl rfl (qI_iV hB58 q66 h)
          · replace h := h.1 c
            refine y_iconst Q_X11_law (k := 33) rfl ?_
            exact y_iret Q_X11_law (k := 34) rfl rfl (qI_iV hB54 ⟨by decide, by decide⟩ h)
      · replace h := h.1 c
        refine y_iconst Q_X11_law (k := 16) rfl ?_
        exact y_iret Q_X11_law (k := 17) rfl rfl (qI_iV hB40 ⟨by decide, by decide⟩ h)
    · replace h := h.2 c
      refine y_iconst Q_X11_law (k := 10) rfl ?_
      refine z_goto (tgt := 23) Q_X11_law (k := 11) rfl (by decide) ?_
      refine y_iconst Q_X11_law (k := 13) rfl ?_
      refine q_callV2_zV Q_X11_law (k := 14) rfl rfl K_X11_may V_X11_may L_X11_187 (n_ hB1.1 rfl) (k_602 hB1.1) (Nat.le_of_ble_eq_true rfl) (Nat.le_of_ble_eq_true rfl) rfl (Nat.zero_le _) (Nat.zero_le _) (w_X11_may (d + 125) hB1 ⟨by decide, by decide⟩ (Or.inr rfl) ⟨by decide, by decide⟩ h) (fun r67 V67 hB67 hz67 hb67 h => ?_)
      refine y_if_ne 32 Q_X11_law (k := 15) rfl (by decide) hz67 (fun c => ?_) (fun c => ?_)
      · replace h := h.2 c
        refine z_aload_n Q_X11_law (k := 18) rfl rfl ?_
        refine z_iload_n Q_X11_law (k := 19) rfl rfl ?_
        refine z_aload_n Q_X11_law (k := 20) rfl rfl ?_
        refine q_getI (o := 602) (z := 11) Q_X11_law (k := 21) rfl F_X11_184 rfl rfl rfl (n_ hB67.1 rfl) (k_602 hB67.1) ?_
        refine y_iconst Q_X11_law (k := 22) rfl ?_
        refine y_icmp_ge 49 Q_X11_law (k := 23) rfl (by decide) (hB67.2.1 _ _) ⟨by decide, by decide⟩ (fun c => ?_) (fun c => ?_)
        · replace h := h.1 c
          refine y_iconst Q_X11_law (k := 27) rfl ?_
          refine q_callV2_uV Q_X11_law (k := 28) rfl rfl K_X11_beginsReading V_X11_beginsReading L_X11_191 (n_ hB67.1 rfl) (k_602 hB67.1) (Nat.le_of_ble_eq_true rfl) (Nat.le_of_ble_eq_true rfl) rfl (Nat.zero_le _) (Nat.zero_le _) (w_X11_beginsReading (d + 125) hB67 z1 ⟨by decide, by decide⟩ h) (fun V68 hB68 h => ?_)
          refine z_aload_n Q_X11_law (k := 29) rfl rfl ?_
          refine q_getI (o := 602) (z := 11) Q_X11_law (k := 30) rfl F_X11_184 rfl rfl rfl (n_ hB68.1 rfl) (k_602 hB68.1) ?_
          refine y_iconst Q_X11_law (k := 31) rfl ?_
          refine y_icmp_ne 63 Q_X11_law (k := 32) rfl (by decide) (hB68.2.1 _ _) ⟨by decide, by decide⟩ (fun c => ?_) (fun c => ?_)
          · replace h := h.2 c
            refine z_aload_n Q_X11_law (k := 35) rfl rfl ?_
            refine z_getR (b := 610) Q_X11_law (k := 36) rfl F_X11_35 rfl (n_ hB68.1 rfl) (k_602 hB68.1) (r_602_8 hB68.1) ?_
            refine z_aload_n Q_X11_law (k := 37) rfl rfl ?_
            refine q_getI (o := 602) (z := 11) Q_X11_law (k := 38) rfl F_X11_184 rfl rfl rfl (n_ hB68.1 rfl) (k_602 hB68.1) ?_
            refine y_iconst Q_X11_law (k := 39) rfl ?_
            obtain ⟨q69, h⟩ := h
            refine q_iast (o := 610) (N := 3) Q_X11_law (k := 40) rfl rfl (n_ hB68.1 rfl) (k_610 hB68.1) rfl q69 (by decide) ?_
            have hB70 := qB.u (a := 610) (j := V68 602 11) (x := 0) hB68 ⟨by decide, by decide⟩ (Or.inl (by decide))
            refine y_fg (zsb_c rfl (zsb_n (zsb_n zsb_e))) (v_X11_law_73 d (fun V71 hB71 h => ?_) 100000 (qu V68 610 (V68 602 11) 0) hB70 h)
            refine z_aload_n Q_X11_law (k := 50) rfl rfl ?_
            refine z_aload_n Q_X11_law (k := 51) rfl rfl ?_
            refine q_getI (o := 602) (z := 15) Q_X11_law (k := 52) rfl F_X11_85 rfl rfl rfl (n_ hB71.1 rfl) (k_602 hB71.1) ?_
            refine q_putI (o := 602) (z := 20) Q_X11_law (k := 53) rfl F_X11_44 rfl rfl rfl (n_ hB71.1 rfl) (k_602 hB71.1) ?_
            have hB72 := qB.u (a := 602) (j := 20) (x := V71 602 15) hB71 (hB71.2.1 _ _) (Or.inl (by decide))
            refine z_aload_n Q_X11_law (k := 54) rfl rfl ?_
            refine q_callV0_z Q_X11_law (k := 55) rfl rfl K_X11_fine V_X11_fine L_X11_117 (n_ hB72.1 rfl) (k_602 hB72.1) (Nat.le_of_ble_eq_true rfl) (Nat.le_of_ble_eq_true rfl) rfl (Nat.zero_le _) (Nat.zero_le _) (w_X11_fine (d + 125) hB72  h) (fun r73 hz73 hb73 h => ?_)
            refine y_if_ne 117 Q_X11_law (k := 56) rfl (by decide) hz73 (fun c => ?_) (fun c => ?_)
            · replace h := h.2 c
              refine z_aload_n Q_X11_law (k := 62) rfl rfl ?_
              refine z_getR (b := 612) Q_X11_law (k := 63) rfl F_X11_41 rfl (n_ hB72.1 rfl) (k_602 hB72.1) (r_602_10 hB72.1) ?_
              refine z_aload_n Q_X11_law (k := 64) rfl rfl ?_
              refine q_getI (o := 602) (z := 11) Q_X11_law (k := 65) rfl F_X11_184 rfl rfl rfl (n_ hB72.1 rfl) (k_602 hB72.1) ?_
              refine y_iconst Q_X11_law (k := 66) rfl ?_
              obtain ⟨q74, h⟩ := h
              refine q_iast (o := 612) (N := 3) Q_X11_law (k := 67) rfl rfl (n_ hB72.1 rfl) (k_612 hB72.1) rfl q74 (by decide) ?_
              have hB75 := qB.u (a := 612) (j := (qu V71 602 20 (V71 602 15)) 602 11) (x := 0) hB72 ⟨by decide, by decide⟩ (Or.inl (by decide))
              refine z_aload_n Q_X11_law (k := 68) rfl rfl ?_
              refine q_getI (o := 602) (z := 19) Q_X11_law (k := 69) rfl F_X11_128 rfl rfl rfl (n_ hB75.1 rfl) (k_602 hB75.1) ?_
              refine y_istore_n (L' := [some (.ref 602), none, some (.int (iI ((qu (qu V71 602 20 (V71 602 15)) 612 ((qu V71 602 20 (V71 602 15)) 602 11) 0) 602 19)))]) Q_X11_law (k := 70) rfl (by decide) rfl ?_
              refine y_fg (zsb_c rfl (zsb_n (zsb_c rfl zsb_e))) (v_X11_law_132 d (fun l2x76 V76 hB76 zl2x76 h => ?_) 100000 ((qu (qu V71 602 20 (V71 602 15)) 612 ((qu V71 602 20 (V71 602 15)) 602 11) 0) 602 19) (qu (qu V71 602 20 (V71 602 15)) 612 ((qu V71 602 20 (V71 602 15)) 602 11) 0) hB75 (hB75.2.1 _ _) h)
              refine z_aload_n Q_X11_law (k := 100) rfl rfl ?_
              refine z_dup Q_X11_law (k := 101) rfl rfl ?_
              refine q_getI (o := 602) (z := 11) Q_X11_law (k := 102) rfl F_X11_184 rfl rfl rfl (n_ hB76.1 rfl) (k_602 hB76.1) ?_
              refine y_iconst Q_X11_law (k := 103) rfl ?_
              obtain ⟨q77, h⟩ := h
              refine y_iadd Q_X11_law (k := 104) rfl ?_
              refine q_putI (o := 602) (z := 11) Q_X11_law (k := 105) rfl F_X11_184 rfl rfl rfl (n_ hB76.1 rfl) (k_602 hB76.1) ?_
              have hB78 := qB.u (a := 602) (j := 11) (x := (V76 602 11) + 1) hB76 q77 (Or.inl (by decide))
              refine z_aload_n Q_X11_law (k := 106) rfl rfl ?_
              refine q_getI (o := 602) (z := 11) Q_X11_law (k := 107) rfl F_X11_184 rfl rfl rfl (n_ hB78.1 rfl) (k_602 hB78.1) ?_
              refine y_iconst Q_X11_law (k := 108) rfl ?_
              obtain ⟨q79, h⟩ := h
              refine y_isub Q_X11_law (k := 109) rfl ?_
              exact y_iret Q_X11_law (k := 110) rfl rfl (qI_iV hB78 q79 h)
            · replace h := h.1 c
              refine z_aload_n Q_X11_law (k := 57) rfl rfl ?_
              refine q_getI (o := 602) (z := 16) Q_X11_law (k := 58) rfl F_X11_88 rfl rfl rfl (n_ hB72.1 rfl) (k_602 hB72.1) ?_
              refine y_bipush Q_X11_law (k := 59) rfl (by decide) ?_
              obtain ⟨q80, h⟩ := h
              refine y_isub Q_X11_law (k := 60) rfl ?_
              exact y_iret Q_X11_law (k := 61) rfl rfl (qI_iV hB72 q80 h)
          · replace h := h.1 c
            refine y_iconst Q_X11_law (k := 33) rfl ?_
            exact y_iret Q_X11_law (k := 34) rfl rfl (qI_iV hB68 ⟨by decide, by decide⟩ h)
        · replace h := h.2 c
          refine z_aload_n Q_X11_law (k := 24) rfl rfl ?_
          refine q_getI (o := 602) (z := 11) Q_X11_law (k := 25) rfl F_X11_184 rfl rfl rfl (n_ hB67.1 rfl) (k_602 hB67.1) ?_
          refine z_goto (tgt := 50) Q_X11_law (k := 26) rfl (by decide) ?_
          refine q_callV2_uV Q_X11_law (k := 28) rfl rfl K_X11_beginsReading V_X11_beginsReading L_X11_191 (n_ hB67.1 rfl) (k_602 hB67.1) (Nat.le_of_ble_eq_true rfl) (Nat.le_of_ble_eq_true rfl) rfl (Nat.zero_le _) (Nat.zero_le _) (w_X11_beginsReading (d + 125) hB67 z1 (hB67.2.1 _ _) h) (fun V81 hB81 h => ?_)
          refine z_aload_n Q_X11_law (k := 29) rfl rfl ?_
          refine q_getI (o := 602) (z := 11) Q_X11_law (k := 30) rfl F_X11_184 rfl rfl rfl (n_ hB81.1 rfl) (k_602 hB81.1) ?_
          refine y_iconst Q_X11_law (k := 31) rfl ?_
          refine y_icmp_ne 63 Q_X11_law (k := 32) rfl (by decide) (hB81.2.1 _ _) ⟨by decide, by decide⟩ (fun c => ?_) (fun c => ?_)
          · replace h := h.2 c
            refine z_aload_n Q_X11_law (k := 35) rfl rfl ?_
            refine z_getR (b := 610) Q_X11_law (k := 36) rfl F_X11_35 rfl (n_ hB81.1 rfl) (k_602 hB81.1) (r_602_8 hB81.1) ?_
            refine z_aload_n Q_X11_law (k := 37) rfl rfl ?_
            refine q_getI (o := 602) (z := 11) Q_X11_law (k := 38) rfl F_X11_184 rfl rfl rfl (n_ hB81.1 rfl) (k_602 hB81.1) ?_
            refine y_iconst Q_X11_law (k := 39) rfl ?_
            obtain ⟨q82, h⟩ := h
            refine q_iast (o := 610) (N := 3) Q_X11_law (k := 40) rfl rfl (n_ hB81.1 rfl) (k_610 hB81.1) rfl q82 (by decide) ?_
            have hB83 := qB.u (a := 610) (j := V81 602 11) (x := 0) hB81 ⟨by decide, by decide⟩ (Or.inl (by decide))
            refine y_fg (zsb_c rfl (zsb_n (zsb_n zsb_e))) (v_X11_law_73 d (fun V84 hB84 h => ?_) 100000 (qu V81 610 (V81 602 11) 0) hB83 h)
            refine z_aload_n Q_X11_law (k := 50) rfl rfl ?_
            refine z_aload_n Q_X11_law (k := 51) rfl rfl ?_
            refine q_getI (o := 602) (z := 15) Q_X11_law (k := 52) rfl F_X11_85 rfl rfl rfl (n_ hB84.1 rfl) (k_602 hB84.1) ?_
            refine q_putI (o := 602) (z := 20) Q_X11_law (k := 53) rfl F_X11_44 rfl rfl rfl (n_ hB84.1 rfl) (k_602 hB84.1) ?_
            have hB85 := qB.u (a := 602) (j := 20) (x := V84 602 15) hB84 (hB84.2.1 _ _) (Or.inl (by decide))
            refine z_aload_n Q_X11_law (k := 54) rfl rfl ?_
            refine q_callV0_z Q_X11_law (k := 55) rfl rfl K_X11_fine V_X11_fine L_X11_117 (n_ hB85.1 rfl) (k_602 hB85.1) (Nat.le_of_ble_eq_true rfl) (Nat.le_of_ble_eq_true rfl) rfl (Nat.zero_le _) (Nat.zero_le _) (w_X11_fine (d + 125) hB85  h) (fun r86 hz86 hb86 h => ?_)
            refine y_if_ne 117 Q_X11_law (k := 56) rfl (by decide) hz86 (fun c => ?_) (fun c => ?_)
            · replace h := h.2 c
              refine z_aload_n Q_X11_law (k := 62) rfl rfl ?_
              refine z_getR (b := 612) Q_X11_law (k := 63) rfl F_X11_41 rfl (n_ hB85.1 rfl) (k_602 hB85.1) (r_602_10 hB85.1) ?_
              refine z_aload_n Q_X11_law (k := 64) rfl rfl ?_
              refine q_getI (o := 602) (z := 11) Q_X11_law (k := 65) rfl F_X11_184 rfl rfl rfl (n_ hB85.1 rfl) (k_602 hB85.1) ?_
              refine y_iconst Q_X11_law (k := 66) rfl ?_
              obtain ⟨q87, h⟩ := h
              refine q_iast (o := 612) (N := 3) Q_X11_law (k := 67) rfl rfl (n_ hB85.1 rfl) (k_612 hB85.1) rfl q87 (by decide) ?_
              have hB88 := qB.u (a := 612) (j := (qu V84 602 20 (V84 602 15)) 602 11) (x := 0) hB85 ⟨by decide, by decide⟩ (Or.inl (by decide))
              refine z_aload_n Q_X11_law (k := 68) rfl rfl ?_
              refine q_getI (o := 602) (z := 19) Q_X11_law (k := 69) rfl F_X11_128 rfl rfl rfl (n_ hB88.1 rfl) (k_602 hB88.1) ?_
              refine y_istore_n (L' := [some (.ref 602), none, some (.int (iI ((qu (qu V84 602 20 (V84 602 15)) 612 ((qu V84 602 20 (V84 602 15)) 602 11) 0) 602 19)))]) Q_X11_law (k := 70) rfl (by decide) rfl ?_
              refine y_fg (zsb_c rfl (zsb_n (zsb_c rfl zsb_e))) (v_X11_law_132 d (fun l2x89 V89 hB89 zl2x89 h => ?_) 100000 ((qu (qu V84 602 20 (V84 602 15)) 612 ((qu V84 602 20 (V84 602 15)) 602 11) 0) 602 19) (qu (qu V84 602 20 (V84 602 15)) 612 ((qu V84 602 20 (V84 602 15)) 602 11) 0) hB88 (hB88.2.1 _ _) h)
              refine z_aload_n Q_X11_law (k := 100) rfl rfl ?_
              refine z_dup Q_X11_law (k := 101) rfl rfl ?_
              refine q_getI (o := 602) (z := 11) Q_X11_law (k := 102) rfl F_X11_184 rfl rfl rfl (n_ hB89.1 rfl) (k_602 hB89.1) ?_
              refine y_iconst Q_X11_law (k := 103) rfl ?_
              obtain ⟨q90, h⟩ := h
              refine y_iadd Q_X11_law (k := 104) rfl ?_
              refine q_putI (o := 602) (z := 11) Q_X11_law (k := 105) rfl F_X11_184 rfl rfl rfl (n_ hB89.1 rfl) (k_602 hB89.1) ?_
              have hB91 := qB.u (a := 602) (j := 11) (x := (V89 602 11) + 1) hB89 q90 (Or.inl (by decide))
              refine z_aload_n Q_X11_law (k := 106) rfl rfl ?_
              refine q_getI (o := 602) (z := 11) Q_X11_law (k := 107) rfl F_X11_184 rfl rfl rfl (n_ hB91.1 rfl) (k_602 hB91.1) ?_
              refine y_iconst Q_X11_law (k := 108) rfl ?_
              obtain ⟨q92, h⟩ := h
              refine y_isub Q_X11_law (k := 109) rfl ?_
              exact y_iret Q_X11_law (k := 110) rfl rfl (qI_iV hB91 q92 h)
            · replace h := h.1 c
              refine z_aload_n Q_X11_law (k := 57) rfl rfl ?_
              refine q_getI (o := 602) (z := 16) Q_X11_law (k := 58) rfl F_X11_88 rfl rfl rfl (n_ hB85.1 rfl) (k_602 hB85.1) ?_
              refine y_bipush Q_X11_law (k := 59) rfl (by decide) ?_
              obtain ⟨q93, h⟩ := h
              refine y_isub Q_X11_law (k := 60) rfl ?_
              exact y_iret Q_X11_law (k := 61) rfl rfl (qI_iV hB85 q93 h)
          · replace h := h.1 c
            refine y_iconst Q_X11_law (k := 33) rfl ?_
            exact y_iret Q_X11_law (k := 34) rfl rfl (qI_iV hB81 ⟨by decide, by decide⟩ h)
      · replace h := h.1 c
        refine y_iconst Q_X11_law (k := 16) rfl ?_
        exact y_iret Q_X11_law (k := 17) rfl rfl (qI_iV hB67 ⟨by decide, by decide⟩ h)
set_option maxHeartbeats 4000000 in
set_option maxRecDepth 20000 in
theorem w_X11_holds {S : zS} {V : qV} {J : qJ} {Q : Int → qV → Prop} (d : Nat) (hB : qB S V) {a1 : Int} (z1 : zr a1) (h : W_X11_holds a1 V Q) : Z M_X11_holds (d + 125) 0 0 0 [some (.ref 602), some (.int (iI a1)), none] [] S (qi V) (qj J) (qP_iV S J Q) := by
  unfold W_X11_holds at h
  refine z_aload_n Q_X11_holds (k := 0) rfl rfl ?_
  refine y_iconst Q_X11_holds (k := 1) rfl ?_
  refine q_putI (o := 602) (z := 0) Q_X11_holds (k := 2) rfl F_X11_1 rfl rfl rfl (n_ hB.1 rfl) (k_602 hB.1) ?_
  have hB1 := qB.u (a := 602) (j := 0) (x := 0) hB ⟨by decide, by decide⟩ (Or.inl (by decide))
  refine z_aload_n Q_X11_holds (k := 3) rfl rfl ?_
  refine z_iload_n Q_X11_holds (k := 4) rfl rfl ?_
  refine y_if_lt 22 Q_X11_holds (k := 5) rfl (by decide) z1 (fun c => ?_) (fun c => ?_)
  · replace h := h.1 c
    refine y_iconst Q_X11_holds (k := 12) rfl ?_
    refine y_iconst Q_X11_holds (k := 13) rfl ?_
    refine q_callV2_zV Q_X11_holds (k := 14) rfl rfl K_X11_may V_X11_may L_X11_187 (n_ hB1.1 rfl) (k_602 hB1.1) (Nat.le_of_ble_eq_true rfl) (Nat.le_of_ble_eq_true rfl) rfl (Nat.zero_le _) (Nat.zero_le _) (w_X11_may (d + 124) hB1 ⟨by decide, by decide⟩ (Or.inl rfl) ⟨by decide, by decide⟩ h) (fun r2 V2 hB2 hz2 hb2 h => ?_)
    refine y_if_ne 32 Q_X11_holds (k := 15) rfl (by decide) hz2 (fun c => ?_) (fun c => ?_)
    · replace h := h.2 c
      refine z_aload_n Q_X11_holds (k := 18) rfl rfl ?_
      refine z_getR (b := 603) Q_X11_holds (k := 19) rfl F_X11_13 rfl (n_ hB2.1 rfl) (k_602 hB2.1) (r_602_1 hB2.1) ?_
      refine y_sipush Q_X11_holds (k := 20) rfl (by decide) ?_
      refine q_iald (o := 603) (N := 594) Q_X11_holds (k := 21) rfl rfl (n_ hB2.1 rfl) (k_603 hB2.1) rfl ⟨by decide, by decide⟩ (by decide) ?_
      refine y_istore_n (L' := [some (.ref 602), some (.int (iI a1)), some (.int (iI (V2 603 593)))]) Q_X11_holds (k := 22) rfl (by decide) rfl ?_
      refine z_aload_n Q_X11_holds (k := 23) rfl rfl ?_
      refine z_iload_n Q_X11_holds (k := 24) rfl rfl ?_
      refine z_iload_n Q_X11_holds (k := 25) rfl rfl ?_
      refine y_bipush Q_X11_holds (k := 26) rfl (by decide) ?_
      refine y_icmp_ge 55 Q_X11_holds (k := 27) rfl (by decide) (hB2.2.1 _ _) ⟨by decide, by decide⟩ (fun c => ?_) (fun c => ?_)
      · replace h := h.1 c
        refine y_iconst Q_X11_holds (k := 32) rfl ?_
        refine q_callV2_uV Q_X11_holds (k := 33) rfl rfl K_X11_beginsReading V_X11_beginsReading L_X11_191 (n_ hB2.1 rfl) (k_602 hB2.1) (Nat.le_of_ble_eq_true rfl) (Nat.le_of_ble_eq_true rfl) rfl (Nat.zero_le _) (Nat.zero_le _) (w_X11_beginsReading (d + 124) hB2 z1 ⟨by decide, by decide⟩ h) (fun V3 hB3 h => ?_)
        refine z_iload_n Q_X11_holds (k := 34) rfl rfl ?_
        refine y_bipush Q_X11_holds (k := 35) rfl (by decide) ?_
        refine y_icmp_ne 67 Q_X11_holds (k := 36) rfl (by decide) (hB2.2.1 _ _) ⟨by decide, by decide⟩ (fun c => ?_) (fun c => ?_)
        · replace h := h.2 c
          refine z_aload_n Q_X11_holds (k := 39) rfl rfl ?_
          refine q_callV0_uV Q_X11_holds (k := 40) rfl rfl K_X11_anyOf V_X11_anyOf L_X11_175 (n_ hB3.1 rfl) (k_602 hB3.1) (Nat.le_of_ble_eq_true rfl) (Nat.le_of_ble_eq_true rfl) rfl (Nat.zero_le _) (Nat.zero_le _) (w_X11_anyOf d hB3  h) (fun V4 hB4 h => ?_)
          refine z_aload_n Q_X11_holds (k := 41) rfl rfl ?_
          refine y_bipush Q_X11_holds (k := 42) rfl (by decide) ?_
          refine q_callV1_uV Q_X11_holds (k := 43) rfl rfl K_X11_need V_X11_need L_X11_137 (n_ hB4.1 rfl) (k_602 hB4.1) (Nat.le_of_ble_eq_true rfl) (Nat.le_of_ble_eq_true rfl) rfl (Nat.zero_le _) (Nat.zero_le _) (w_X11_need (d + 123) hB4 ⟨by decide, by decide⟩ h) (fun V5 hB5 h => ?_)
          refine z_aload_n Q_X11_holds (k := 44) rfl rfl ?_
          refine q_callV0_z Q_X11_holds (k := 45) rfl rfl K_X11_fine V_X11_fine L_X11_117 (n_ hB5.1 rfl) (k_602 hB5.1) (Nat.le_of_ble_eq_true rfl) (Nat.le_of_ble_eq_true rfl) rfl (Nat.zero_le _) (Nat.zero_le _) (w_X11_fine (d + 124) hB5  h) (fun r6 hz6 hb6 h => ?_)
          refine y_if_eq 100 Q_X11_holds (k := 46) rfl (by decide) hz6 (fun c => ?_) (fun c => ?_)
          · replace h := h.1 c
            refine z_aload_n Q_X11_holds (k := 55) rfl rfl ?_
            refine z_aload_n Q_X11_holds (k := 56) rfl rfl ?_
            refine q_getI (o := 602) (z := 15) Q_X11_holds (k := 57) rfl F_X11_85 rfl rfl rfl (n_ hB5.1 rfl) (k_602 hB5.1) ?_
            refine q_putI (o := 602) (z := 20) Q_X11_holds (k := 58) rfl F_X11_44 rfl rfl rfl (n_ hB5.1 rfl) (k_602 hB5.1) ?_
            have hB7 := qB.u (a := 602) (j := 20) (x := V5 602 15) hB5 (hB5.2.1 _ _) (Or.inl (by decide))
            refine z_aload_n Q_X11_holds (k := 59) rfl rfl ?_
            refine q_callV0_z Q_X11_holds (k := 60) rfl rfl K_X11_fine V_X11_fine L_X11_117 (n_ hB7.1 rfl) (k_602 hB7.1) (Nat.le_of_ble_eq_true rfl) (Nat.le_of_ble_eq_true rfl) rfl (Nat.zero_le _) (Nat.zero_le _) (w_X11_fine (d + 124) hB7  h) (fun r8 hz8 hb8 h => ?_)
            refine y_if_ne 123 Q_X11_holds (k := 61) rfl (by decide) hz8 (fun c => ?_) (fun c => ?_)
            · replace h := h.2 c
              refine z_aload_n Q_X11_holds (k := 67) rfl rfl ?_
              refine z_getR (b := 611) Q_X11_holds (k := 68) rfl F_X11_38 rfl (n_ hB7.1 rfl) (k_602 hB7.1) (r_602_9 hB7.1) ?_
              refine z_iload_n Q_X11_holds (k := 69) rfl rfl ?_
              refine z_aload_n Q_X11_holds (k := 70) rfl rfl ?_
              refine q_getI (o := 602) (z := 19) Q_X11_holds (k := 71) rfl F_X11_128 rfl rfl rfl (n_ hB7.1 rfl) (k_602 hB7.1) ?_
              refine z_aload_n Q_X11_holds (k := 72) rfl rfl ?_
              refine q_getI (o := 602) (z := 18) Q_X11_holds (k := 73) rfl F_X11_131 rfl rfl rfl (n_ hB7.1 rfl) (k_602 hB7.1) ?_
              obtain ⟨q9, h⟩ := h
              refine y_iadd Q_X11_holds (k := 74) rfl ?_
              obtain ⟨q10, h⟩ := h
              refine q_iast (o := 611) (N := 8) Q_X11_holds (k := 75) rfl rfl (n_ hB7.1 rfl) (k_611 hB7.1) rfl q10 (by decide) ?_
              have hB11 := qB.u (a := 611) (j := V2 603 593) (x := ((qu V5 602 20 (V5 602 15)) 602 19) + ((qu V5 602 20 (V5 602 15)) 602 18)) hB7 q9 (Or.inl (by decide))
              refine z_aload_n Q_X11_holds (k := 76) rfl rfl ?_
              refine z_getR (b := 603) Q_X11_holds (k := 77) rfl F_X11_13 rfl (n_ hB11.1 rfl) (k_602 hB11.1) (r_602_1 hB11.1) ?_
              refine y_sipush Q_X11_holds (k := 78) rfl (by decide) ?_
              refine z_dup2 Q_X11_holds (k := 79) rfl rfl rfl ?_
              refine q_iald (o := 603) (N := 594) Q_X11_holds (k := 80) rfl rfl (n_ hB11.1 rfl) (k_603 hB11.1) rfl ⟨by decide, by decide⟩ (by decide) ?_
              refine y_iconst Q_X11_holds (k := 81) rfl ?_
              obtain ⟨q12, h⟩ := h
              refine y_iadd Q_X11_holds (k := 82) rfl ?_
              refine q_iast (o := 603) (N := 594) Q_X11_holds (k := 83) rfl rfl (n_ hB11.1 rfl) (k_603 hB11.1) rfl ⟨by decide, by decide⟩ (by decide) ?_
              have hB13 := qB.u (a := 603) (j := 593) (x := ((qu (qu V5 602 20 (V5 602 15)) 611 (V2 603 593) (((qu V5 602 20 (V5 602 15)) 602 19) + ((qu V5 602 20 (V5 602 15)) 602 18))) 603 593) + 1) hB11 q12 (Or.inl (by decide))
              refine z_aload_n Q_X11_holds (k := 84) rfl rfl ?_
              refine z_getR (b := 603) Q_X11_holds (k := 85) rfl F_X11_13 rfl (n_ hB13.1 rfl) (k_602 hB13.1) (r_602_1 hB13.1) ?_
              refine y_sipush Q_X11_holds (k := 86) rfl (by decide) ?_
              refine q_iald (o := 603) (N := 594) Q_X11_holds (k := 87) rfl rfl (n_ hB13.1 rfl) (k_603 hB13.1) rfl ⟨by decide, by decide⟩ (by decide) ?_
              exact y_iret Q_X11_holds (k := 88) rfl rfl (qI_iV hB13 (hB13.2.1 _ _) h)
            · replace h := h.1 c
              refine z_aload_n Q_X11_holds (k := 62) rfl rfl ?_
              refine q_getI (o := 602) (z := 16) Q_X11_holds (k := 63) rfl F_X11_88 rfl rfl rfl (n_ hB7.1 rfl) (k_602 hB7.1) ?_
              refine y_bipush Q_X11_holds (k := 64) rfl (by decide) ?_
              obtain ⟨q14, h⟩ := h
              refine y_isub Q_X11_holds (k := 65) rfl ?_
              exact y_iret Q_X11_holds (k := 66) rfl rfl (qI_iV hB7 q14 h)
          · replace h := h.2 c
            refine z_aload_n Q_X11_holds (k := 47) rfl rfl ?_
            refine q_callV0_zV Q_X11_holds (k := 48) rfl rfl K_X11_isMore V_X11_isMore L_X11_194 (n_ hB5.1 rfl) (k_602 hB5.1) (Nat.le_of_ble_eq_true rfl) (Nat.le_of_ble_eq_true rfl) rfl (Nat.zero_le _) (Nat.zero_le _) (w_X11_isMore (d + 123) hB5  h) (fun r15 V15 hB15 hz15 hb15 h => ?_)
            refine y_if_eq 100 Q_X11_holds (k := 49) rfl (by decide) hz15 (fun c => ?_) (fun c => ?_)
            · replace h := h.1 c
              refine z_aload_n Q_X11_holds (k := 55) rfl rfl ?_
              refine z_aload_n Q_X11_holds (k := 56) rfl rfl ?_
              refine q_getI (o := 602) (z := 15) Q_X11_holds (k := 57) rfl F_X11_85 rfl rfl rfl (n_ hB15.1 rfl) (k_602 hB15.1) ?_
              refine q_putI (o := 602) (z := 20) Q_X11_holds (k := 58) rfl F_X11_44 rfl rfl rfl (n_ hB15.1 rfl) (k_602 hB15.1) ?_
              have hB16 := qB.u (a := 602) (j := 20) (x := V15 602 15) hB15 (hB15.2.1 _ _) (Or.inl (by decide))
              refine z_aload_n Q_X11_holds (k := 59) rfl rfl ?_
              refine q_callV0_z Q_X11_holds (k := 60) rfl rfl K_X11_fine V_X11_fine L_X11_117 (n_ hB16.1 rfl) (k_602 hB16.1) (Nat.le_of_ble_eq_true rfl) (Nat.le_of_ble_eq_true rfl) rfl (Nat.zero_le _) (Nat.zero_le _) (w_X11_fine (d + 124) hB16  h) (fun r17 hz17 hb17 h => ?_)
              refine y_if_ne 123 Q_X11_holds (k := 61) rfl (by decide) hz17 (fun c => ?_) (fun c => ?_)
              · replace h := h.2 c
                refine z_aload_n Q_X11_holds (k := 67) rfl rfl ?_
                refine z_getR (b := 611) Q_X11_holds (k := 68) rfl F_X11_38 rfl (n_ hB16.1 rfl) (k_602 hB16.1) (r_602_9 hB16.1) ?_
                refine z_iload_n Q_X11_holds (k := 69) rfl rfl ?_
                refine z_aload_n Q_X11_holds (k := 70) rfl rfl ?_
                refine q_getI (o := 602) (z := 19) Q_X11_holds (k := 71) rfl F_X11_128 rfl rfl rfl (n_ hB16.1 rfl) (k_602 hB16.1) ?_
                refine z_aload_n Q_X11_holds (k := 72) rfl rfl ?_
                refine q_getI (o := 602) (z := 18) Q_X11_holds (k := 73) rfl F_X11_131 rfl rfl rfl (n_ hB16.1 rfl) (k_602 hB16.1) ?_
                obtain ⟨q18, h⟩ := h
                refine y_iadd Q_X11_holds (k := 74) rfl ?_
                obtain ⟨q19, h⟩ := h
                refine q_iast (o := 611) (N := 8) Q_X11_holds (k := 75) rfl rfl (n_ hB16.1 rfl) (k_611 hB16.1) rfl q19 (by decide) ?_
                have hB20 := qB.u (a := 611) (j := V2 603 593) (x := ((qu V15 602 20 (V15 602 15)) 602 19) + ((qu V15 602 20 (V15 602 15)) 602 18)) hB16 q18 (Or.inl (by decide))
                refine z_aload_n Q_X11_holds (k := 76) rfl rfl ?_
                refine z_getR (b := 603) Q_X11_holds (k := 77) rfl F_X11_13 rfl (n_ hB20.1 rfl) (k_602 hB20.1) (r_602_1 hB20.1) ?_
                refine y_sipush Q_X11_holds (k := 78) rfl (by decide) ?_
                refine z_dup2 Q_X11_holds (k := 79) rfl rfl rfl ?_
                refine q_iald (o := 603) (N := 594) Q_X11_holds (k := 80) rfl rfl (n_ hB20.1 rfl) (k_603 hB20.1) rfl ⟨by decide, by decide⟩ (by decide) ?_
                refine y_iconst Q_X11_holds (k := 81) rfl ?_
                obtain ⟨q21, h⟩ := h
                refine y_iadd Q_X11_holds (k := 82) rfl ?_
                refine q_iast (o := 603) (N := 594) Q_X11_holds (k := 83) rfl rfl (n_ hB20.1 rfl) (k_603 hB20.1) rfl ⟨by decide, by decide⟩ (by decide) ?_
                have hB22 := qB.u (a := 603) (j := 593) (x := ((qu (qu V15 602 20 (V15 602 15)) 611 (V2 603 593) (((qu V15 602 20 (V15 602 15)) 602 19) + ((qu V15 602 20 (V15 602 15)) 602 18))) 603 593) + 1) hB20 q21 (Or.inl (by decide))
                refine z_aload_n Q_X11_holds (k := 84) rfl rfl ?_
                refine z_getR (b := 603) Q_X11_holds (k := 85) rfl F_X11_13 rfl (n_ hB22.1 rfl) (k_602 hB22.1) (r_602_1 hB22.1) ?_
                refine y_sipush Q_X11_holds (k := 86) rfl (by decide) ?_
                refine q_iald (o := 603) (N := 594) Q_X11_holds (k := 87) rfl rfl (n_ hB22.1 rfl) (k_603 hB22.1) rfl ⟨by decide, by decide⟩ (by decide) ?_
                exact y_iret Q_X11_holds (k := 88) rfl rfl (qI_iV hB22 (hB22.2.1 _ _) h)
              · replace h := h.1 c
                refine z_aload_n Q_X11_holds (k := 62) rfl rfl ?_
                refine q_getI (o := 602) (z := 16) Q_X11_holds (k := 63) rfl F_X11_88 rfl rfl rfl (n_ hB16.1 rfl) (k_602 hB16.1) ?_
                refine y_bipush Q_X11_holds (k := 64) rfl (by decide) ?_
                obtain ⟨q23, h⟩ := h
                refine y_isub Q_X11_holds (k := 65) rfl ?_
                exact y_iret Q_X11_holds (k := 66) rfl rfl (qI_iV hB16 q23 h)
            · replace h := h.2 c
              refine z_aload_n Q_X11_holds (k := 50) rfl rfl ?_
              refine y_iconst Q_X11_holds (k := 51) rfl ?_
              refine z_aload_n Q_X11_holds (k := 52) rfl rfl ?_
              refine q_getI (o := 602) (z := 14) Q_X11_holds (k := 53) rfl F_X11_91 rfl rfl rfl (n_ hB15.1 rfl) (k_602 hB15.1) ?_
              refine q_callV2_uV Q_X11_holds (k := 54) rfl rfl K_X11_wrong V_X11_wrong L_X11_124 (n_ hB15.1 rfl) (k_602 hB15.1) (Nat.le_of_ble_eq_true rfl) (Nat.le_of_ble_eq_true rfl) rfl (Nat.zero_le _) (Nat.zero_le _) (w_X11_wrong (d + 124) hB15 ⟨by decide, by decide⟩ (hB15.2.1 _ _) h) (fun V24 hB24 h => ?_)
              refine z_aload_n Q_X11_holds (k := 55) rfl rfl ?_
              refine z_aload_n Q_X11_holds (k := 56) rfl rfl ?_
              refine q_getI (o := 602) (z := 15) Q_X11_holds (k := 57) rfl F_X11_85 rfl rfl rfl (n_ hB24.1 rfl) (k_602 hB24.1) ?_
              refine q_putI (o := 602) (z := 20) Q_X11_holds (k := 58) rfl F_X11_44 rfl rfl rfl (n_ hB24.1 rfl) (k_602 hB24.1) ?_
              have hB25 := qB.u (a := 602) (j := 20) (x := V24 602 15) hB24 (hB24.2.1 _ _) (Or.inl (by decide))
              refine z_aload_n Q_X11_holds (k := 59) rfl rfl ?_
              refine q_callV0_z Q_X11_holds (k := 60) rfl rfl K_X11_fine V_X11_fine L_X11_117 (n_ hB25.1 rfl) (k_602 hB25.1) (Nat.le_of_ble_eq_true rfl) (Nat.le_of_ble_eq_true rfl) rfl (Nat.zero_le _) (Nat.zero_le _) (w_X11_fine (d + 124) hB25  h) (fun r26 hz26 hb26 h => ?_)
              refine y_if_ne 123 Q_X11_holds (k := 61) rfl (by decide) hz26 (fun c => ?_) (fun c => ?_)
              · replace h := h.2 c
                refine z_aload_n Q_X11_holds (k := 67) rfl rfl ?_
                refine z_getR (b := 611) Q_X11_holds (k := 68) rfl F_X11_38 rfl (n_ hB25.1 rfl) (k_602 hB25.1) (r_602_9 hB25.1) ?_
                refine z_iload_n Q_X11_holds (k := 69) rfl rfl ?_
                refine z_aload_n Q_X11_holds (k := 70) rfl rfl ?_
                refine q_getI (o := 602) (z := 19) Q_X11_holds (k := 71) rfl F_X11_128 rfl rfl rfl (n_ hB25.1 rfl) (k_602 hB25.1) ?_
                refine z_aload_n Q_X11_holds (k := 72) rfl rfl ?_
                refine q_getI (o := 602) (z := 18) Q_X11_holds (k := 73) rfl F_X11_131 rfl rfl rfl (n_ hB25.1 rfl) (k_602 hB25.1) ?_
                obtain ⟨q27, h⟩ := h
                refine y_iadd Q_X11_holds (k := 74) rfl ?_
                obtain ⟨q28, h⟩ := h
                refine q_iast (o := 611) (N := 8) Q_X11_holds (k := 75) rfl rfl (n_ hB25.1 rfl) (k_611 hB25.1) rfl q28 (by decide) ?_
                have hB29 := qB.u (a := 611) (j := V2 603 593) (x := ((qu V24 602 20 (V24 602 15)) 602 19) + ((qu V24 602 20 (V24 602 15)) 602 18)) hB25 q27 (Or.inl (by decide))
                refine z_aload_n Q_X11_holds (k := 76) rfl rfl ?_
                refine z_getR (b := 603) Q_X11_holds (k := 77) rfl F_X11_13 rfl (n_ hB29.1 rfl) (k_602 hB29.1) (r_602_1 hB29.1) ?_
                refine y_sipush Q_X11_holds (k := 78) rfl (by decide) ?_
                refine z_dup2 Q_X11_holds (k := 79) rfl rfl rfl ?_
                refine q_iald (o := 603) (N := 594) Q_X11_holds (k := 80) rfl rfl (n_ hB29.1 rfl) (k_603 hB29.1) rfl ⟨by decide, by decide⟩ (by decide) ?_
                refine y_iconst Q_X11_holds (k := 81) rfl ?_
                obtain ⟨q30, h⟩ := h
                refine y_iadd Q_X11_holds (k := 82) rfl ?_
                refine q_iast (o := 603) (N := 594) Q_X11_holds (k := 83) rfl rfl (n_ hB29.1 rfl) (k_603 hB29.1) rfl ⟨by decide, by decide⟩ (by decide) ?_
                have hB31 := qB.u (a := 603) (j := 593) (x := ((qu (qu V24 602 20 (V24 602 15)) 611 (V2 603 593) (((qu V24 602 20 (V24 602 15)) 602 19) + ((qu V24 602 20 (V24 602 15)) 602 18))) 603 593) + 1) hB29 q30 (Or.inl (by decide))
                refine z_aload_n Q_X11_holds (k := 84) rfl rfl ?_
                refine z_getR (b := 603) Q_X11_holds (k := 85) rfl F_X11_13 rfl (n_ hB31.1 rfl) (k_602 hB31.1) (r_602_1 hB31.1) ?_
                refine y_sipush Q_X11_holds (k := 86) rfl (by decide) ?_
                refine q_iald (o := 603) (N := 594) Q_X11_holds (k := 87) rfl rfl (n_ hB31.1 rfl) (k_603 hB31.1) rfl ⟨by decide, by decide⟩ (by decide) ?_
                exact y_iret Q_X11_holds (k := 88) rfl rfl (qI_iV hB31 (hB31.2.1 _ _) h)
              · replace h := h.1 c
                refine z_aload_n Q_X11_holds (k := 62) rfl rfl ?_
                refine q_getI (o := 602) (z := 16) Q_X11_holds (k := 63) rfl F_X11_88 rfl rfl rfl (n_ hB25.1 rfl) (k_602 hB25.1) ?_
                refine y_bipush Q_X11_holds (k := 64) rfl (by decide) ?_
                obtain ⟨q32, h⟩ := h
                refine y_isub Q_X11_holds (k := 65) rfl ?_
                exact y_iret Q_X11_holds (k := 66) rfl rfl (qI_iV hB25 q32 h)
        · replace h := h.1 c
          refine y_iconst Q_X11_holds (k := 37) rfl ?_
          exact y_iret Q_X11_holds (k := 38) rfl rfl (qI_iV hB3 ⟨by decide, by decide⟩ h)
      · replace h := h.2 c
        refine y_iconst Q_X11_holds (k := 28) rfl ?_
        refine z_iload_n Q_X11_holds (k := 29) rfl rfl ?_
        obtain ⟨q33, h⟩ := h
        refine y_iadd Q_X11_holds (k := 30) rfl ?_
        refine z_goto (tgt := 56) Q_X11_holds (k := 31) rfl (by decide) ?_
        refine q_callV2_uV Q_X11_holds (k := 33) rfl rfl K_X11_beginsReading V_X11_beginsReading L_X11_191 (n_ hB2.1 rfl) (k_602 hB2.1) (Nat.le_of_ble_eq_true rfl) (Nat.le_of_ble_eq_true rfl) rfl (Nat.zero_le _) (Nat.zero_le _) (w_X11_beginsReading (d + 124) hB2 z1 q33 h) (fun V34 hB34 h => ?_)
        refine z_iload_n Q_X11_holds (k := 34) rfl rfl ?_
        refine y_bipush Q_X11_holds (k := 35) rfl (by decide) ?_
        refine y_icmp_ne 67 Q_X11_holds (k := 36) rfl (by decide) (hB2.2.1 _ _) ⟨by decide, by decide⟩ (fun c => ?_) (fun c => ?_)
        · replace h := h.2 c
          refine z_aload_n Q_X11_holds (k := 39) rfl rfl ?_
          refine q_callV0_uV Q_X11_holds (k := 40) rfl rfl K_X11_anyOf V_X11_anyOf L_X11_175 (n_ hB34.1 rfl) (k_602 hB34.1) (Nat.le_of_ble_eq_true rfl) (Nat.le_of_ble_eq_true rfl) rfl (Nat.zero_le _) (Nat.zero_le _) (w_X11_anyOf d hB34  h) (fun V35 hB35 h => ?_)
          refine z_aload_n Q_X11_holds (k := 41) rfl rfl ?_
          refine y_bipush Q_X11_holds (k := 42) rfl (by decide) ?_
          refine q_callV1_uV Q_X11_holds (k := 43) rfl rfl K_X11_need V_X11_need L_X11_137 (n_ hB35.1 rfl) (k_602 hB35.1) (Nat.le_of_ble_eq_true rfl) (Nat.le_of_ble_eq_true rfl) rfl (Nat.zero_le _) (Nat.zero_le _) (w_X11_need (d + 123) hB35 ⟨by decide, by decide⟩ h) (fun V36 hB36 h => ?_)
          refine z_aload_n Q_X11_holds (k := 44) rfl rfl ?_
          refine q_callV0_z Q_X11_holds (k := 45) rfl rfl K_X11_fine V_X11_fine L_X11_117 (n_ hB36.1 rfl) (k_602 hB36.1) (Nat.le_of_ble_eq_true rfl) (Nat.le_of_ble_eq_true rfl) rfl (Nat.zero_le _) (Nat.zero_le _) (w_X11_fine (d + 124) hB36  h) (fun r37 hz37 hb37 h => ?_)
          refine y_if_eq 100 Q_X11_holds (k := 46) rfl (by decide) hz37 (fun c => ?_) (fun c => ?_)
          · replace h := h.1 c
            refine z_aload_n Q_X11_holds (k := 55) rfl rfl ?_
            refine z_aload_n Q_X11_holds (k := 56) rfl rfl ?_
            refine q_getI (o := 602) (z := 15) Q_X11_holds (k := 57) rfl F_X11_85 rfl rfl rfl (n_ hB36.1 rfl) (k_602 hB36.1) ?_
            refine q_putI (o := 602) (z := 20) Q_X11_holds (k := 58) rfl F_X11_44 rfl rfl rfl (n_ hB36.1 rfl) (k_602 hB36.1) ?_
            have hB38 := qB.u (a := 602) (j := 20) (x := V36 602 15) hB36 (hB36.2.1 _ _) (Or.inl (by decide))
            refine z_aload_n Q_X11_holds (k := 59) rfl rfl ?_
            refine q_callV0_z Q_X11_holds (k := 60) rfl rfl K_X11_fine V_X11_fine L_X11_117 (n_ hB38.1 rfl) (k_602 hB38.1) (Nat.le_of_ble_eq_true rfl) (Nat.le_of_ble_eq_true rfl) rfl (Nat.zero_le _) (Nat.zero_le _) (w_X11_fine (d + 124) hB38  h) (fun r39 hz39 hb39 h => ?_)
            refine y_if_ne 123 Q_X11_holds (k := 61) rfl (by decide) hz39 (fun c => ?_) (fun c => ?_)
            · replace h := h.2 c
              refine z_aload_n Q_X11_holds (k := 67) rfl rfl ?_
              refine z_getR (b := 611) Q_X11_holds (k := 68) rfl F_X11_38 rfl (n_ hB38.1 rfl) (k_602 hB38.1) (r_602_9 hB38.1) ?_
              refine z_iload_n Q_X11_holds (k := 69) rfl rfl ?_
              refine z_aload_n Q_X11_holds (k := 70) rfl rfl ?_
              refine q_getI (o := 602) (z := 19) Q_X11_holds (k := 71) rfl F_X11_128 rfl rfl rfl (n_ hB38.1 rfl) (k_602 hB38.1) ?_
              refine z_aload_n Q_X11_holds (k := 72) rfl rfl ?_
              refine q_getI (o := 602) (z := 18) Q_X11_holds (k := 73) rfl F_X11_131 rfl rfl rfl (n_ hB38.1 rfl) (k_602 hB38.1) ?_
              obtain ⟨q40, h⟩ := h
              refine y_iadd Q_X11_holds (k := 74) rfl ?_
              obtain ⟨q41, h⟩ := h
              refine q_iast (o := 611) (N := 8) Q_X11_holds (k := 75) rfl rfl (n_ hB38.1 rfl) (k_611 hB38.1) rfl q41 (by decide) ?_
              have hB42 := qB.u (a := 611) (j := V2 603 593) (x := ((qu V36 602 20 (V36 602 15)) 602 19) + ((qu V36 602 20 (V36 602 15)) 602 18)) hB38 q40 (Or.inl (by decide))
              refine z_aload_n Q_X11_holds (k := 76) rfl rfl ?_
              refine z_getR (b := 603) Q_X11_holds (k := 77) rfl F_X11_13 rfl (n_ hB42.1 rfl) (k_602 hB42.1) (r_602_1 hB42.1) ?_
              refine y_sipush Q_X11_holds (k := 78) rfl (by decide) ?_
              refine z_dup2 Q_X11_holds (k := 79) rfl rfl rfl ?_
              refine q_iald (o := 603) (N := 594) Q_X11_holds (k := 80) rfl rfl (n_ hB42.1 rfl) (k_603 hB42.1) rfl ⟨by decide, by decide⟩ (by decide) ?_
              refine y_iconst Q_X11_holds (k := 81) rfl ?_
              obtain ⟨q43, h⟩ := h
              refine y_iadd Q_X11_holds (k := 82) rfl ?_
              refine q_iast (o := 603) (N := 594) Q_X11_holds (k := 83) rfl rfl (n_ hB42.1 rfl) (k_603 hB42.1) rfl ⟨by decide, by decide⟩ (by decide) ?_
              have hB44 := qB.u (a := 603) (j := 593) (x := ((qu (qu V36 602 20 (V36 602 15)) 611 (V2 603 593) (((qu V36 602 20 (V36 602 15)) 602 19) + ((qu V36 602 20 (V36 602 15)) 602 18))) 603 593) + 1) hB42 q43 (Or.inl (by decide))
              refine z_aload_n Q_X11_holds (k := 84) rfl rfl ?_
              refine z_getR (b := 603) Q_X11_holds (k := 85) rfl F_X11_13 rfl (n_ hB44.1 rfl) (k_602 hB44.1) (r_602_1 hB44.1) ?_
              refine y_sipush Q_X11_holds (k := 86) rfl (by decide) ?_
              refine q_iald (o := 603) (N := 594) Q_X11_holds (k := 87) rfl rfl (n_ hB44.1 rfl) (k_603 hB44.1) rfl ⟨by decide, by decide⟩ (by decide) ?_
              exact y_iret Q_X11_holds (k := 88) rfl rfl (qI_iV hB44 (hB44.2.1 _ _) h)
            · replace h := h.1 c
              refine z_aload_n Q_X11_holds (k := 62) rfl rfl ?_
              refine q_getI (o := 602) (z := 16) Q_X11_holds (k := 63) rfl F_X11_88 rfl rfl rfl (n_ hB38.1 rfl) (k_602 hB38.1) ?_
              refine y_bipush Q_X11_holds (k := 64) rfl (by decide) ?_
              obtain ⟨q45, h⟩ := h
              refine y_isub Q_X11_holds (k := 65) rfl ?_
              exact y_iret Q_X11_holds (k := 66) rfl rfl (qI_iV hB38 q45 h)
          · replace h := h.2 c
            refine z_aload_n Q_X11_holds (k := 47) rfl rfl ?_
            refine q_callV0_zV Q_X11_holds (k := 48) rfl rfl K_X11_isMore V_X11_isMore L_X11_194 (n_ hB36.1 rfl) (k_602 hB36.1) (Nat.le_of_ble_eq_true rfl) (Nat.le_of_ble_eq_true rfl) rfl (Nat.zero_le _) (Nat.zero_le _) (w_X11_isMore (d + 123) hB36  h) (fun r46 V46 hB46 hz46 hb46 h => ?_)
            refine y_if_eq 100 Q_X11_holds (k := 49) rfl (by decide) hz46 (fun c => ?_) (fun c => ?_)
            · replace h := h.1 c
              refine z_aload_n Q_X11_holds (k := 55) rfl rfl ?_
              refine z_aload_n Q_X11_holds (k := 56) rfl rfl ?_
              refine q_getI (o := 602) (z := 15) Q_X11_holds (k := 57) rfl F_X11_85 rfl rfl rfl (n_ hB46.1 rfl) (k_602 hB46.1) ?_
              refine q_putI (o := 602) (z := 20) Q_X11_holds (k := 58) rfl F_X11_44 rfl rfl rfl (n_ hB46.1 rfl) (k_602 hB46.1) ?_
              have hB47 := qB.u (a := 602) (j := 20) (x := V46 602 15) hB46 (hB46.2.1 _ _) (Or.inl (by decide))
              refine z_aload_n Q_X11_holds (k := 59) rfl rfl ?_
              refine q_callV0_z Q_X11_holds (k := 60) rfl rfl K_X11_fine V_X11_fine L_X11_117 (n_ hB47.1 rfl) (k_602 hB47.1) (Nat.le_of_ble_eq_true rfl) (Nat.le_of_ble_eq_true rfl) rfl (Nat.zero_le _) (Nat.zero_le _) (w_X11_fine (d + 124) hB47  h) (fun r48 hz48 hb48 h => ?_)
              refine y_if_ne 123 Q_X11_holds (k := 61) rfl (by decide) hz48 (fun c => ?_) (fun c => ?_)
              · replace h := h.2 c
                refine z_aload_n Q_X11_holds (k := 67) rfl rfl ?_
                refine z_getR (b := 611) Q_X11_holds (k := 68) rfl F_X11_38 rfl (n_ hB47.1 rfl) (k_602 hB47.1) (r_602_9 hB47.1) ?_
                refine z_iload_n Q_X11_holds (k := 69) rfl rfl ?_
                refine z_aload_n Q_X11_holds (k := 70) rfl rfl ?_
                refine q_getI (o := 602) (z := 19) Q_X11_holds (k := 71) rfl F_X11_128 rfl rfl rfl (n_ hB47.1 rfl) (k_602 hB47.1) ?_
                refine z_aload_n Q_X11_holds (k := 72) rfl rfl ?_
                refine q_getI (o := 602) (z := 18) Q_X11_holds (k := 73) rfl F_X11_131 rfl rfl rfl (n_ hB47.1 rfl) (k_602 hB47.1) ?_
                obtain ⟨q49, h⟩ := h
                refine y_iadd Q_X11_holds (k := 74) rfl ?_
                obtain ⟨q50, h⟩ := h
                refine q_iast (o := 611) (N := 8) Q_X11_holds (k := 75) rfl rfl (n_ hB47.1 rfl) (k_611 hB47.1) rfl q50 (by decide) ?_
                have hB51 := qB.u (a := 611) (j := V2 603 593) (x := ((qu V46 602 20 (V46 602 15)) 602 19) + ((qu V46 602 20 (V46 602 15)) 602 18)) hB47 q49 (Or.inl (by decide))
                refine z_aload_n Q_X11_holds (k := 76) rfl rfl ?_
                refine z_getR (b := 603) Q_X11_holds (k := 77) rfl F_X11_13 rfl (n_ hB51.1 rfl) (k_602 hB51.1) (r_602_1 hB51.1) ?_
                refine y_sipush Q_X11_holds (k := 78) rfl (by decide) ?_
                refine z_dup2 Q_X11_holds (k := 79) rfl rfl rfl ?_
                refine q_iald (o := 603) (N := 594) Q_X11_holds (k := 80) rfl rfl (n_ hB51.1 rfl) (k_603 hB51.1) rfl ⟨by decide, by decide⟩ (by decide) ?_
                refine y_iconst Q_X11_holds (k := 81) rfl ?_
                obtain ⟨q52, h⟩ := h
                refine y_iadd Q_X11_holds (k := 82) rfl ?_
                refine q_iast (o := 603) (N := 594) Q_X11_holds (k := 83) rfl rfl (n_ hB51.1 rfl) (k_603 hB51.1) rfl ⟨by decide, by decide⟩ (by decide) ?_
                have hB53 := qB.u (a := 603) (j := 593) (x := ((qu (qu V46 602 20 (V46 602 15)) 611 (V2 603 593) (((qu V46 602 20 (V46 602 15)) 602 19) + ((qu V46 602 20 (V46 602 15)) 602 18))) 603 593) + 1) hB51 q52 (Or.inl (by decide))
                refine z_aload_n Q_X11_holds (k := 84) rfl rfl ?_
                refine z_getR (b := 603) Q_X11_holds (k := 85) rfl F_X11_13 rfl (n_ hB53.1 rfl) (k_602 hB53.1) (r_602_1 hB53.1) ?_
                refine y_sipush Q_X11_holds (k := 86) rfl (by decide) ?_
                refine q_iald (o := 603) (N := 594) Q_X11_holds (k := 87) rfl rfl (n_ hB53.1 rfl) (k_603 hB53.1) rfl ⟨by decide, by decide⟩ (by decide) ?_
                exact y_iret Q_X11_holds (k := 88) rfl rfl (qI_iV hB53 (hB53.2.1 _ _) h)
              · replace h := h.1 c
                refine z_aload_n Q_X11_holds (k := 62) rfl rfl ?_
                refine q_getI (o := 602) (z := 16) Q_X11_holds (k := 63) rfl F_X11_88 rfl rfl rfl (n_ hB47.1 rfl) (k_602 hB47.1) ?_
                refine y_bipush Q_X11_holds (k := 64) rfl (by decide) ?_
                obtain ⟨q54, h⟩ := h
                refine y_isub Q_X11_holds (k := 65) rfl ?_
                exact y_iret Q_X11_holds (k := 66) rfl rfl (qI_iV hB47 q54 h)
            · replace h := h.2 c
              refine z_aload_n Q_X11_holds (k := 50) rfl rfl ?_
              refine y_iconst Q_X11_holds (k := 51) rfl ?_
              refine z_aload_n Q_X11_holds (k := 52) rfl rfl ?_
              refine q_getI (o := 602) (z := 14) Q_X11_holds (k := 53) rfl F_X11_91 rfl rfl rfl (n_ hB46.1 rfl) (k_602 hB46.1) ?_
              refine q_callV2_uV Q_X11_holds (k := 54) rfl rfl K_X11_wrong V_X11_wrong L_X11_124 (n_ hB46.1 rfl) (k_602 hB46.1) (Nat.le_of_ble_eq_true rfl) (Nat.le_of_ble_eq_true rfl) rfl (Nat.zero_le _) (Nat.zero_le _) (w_X11_wrong (d + 124) hB46 ⟨by decide, by decide⟩ (hB46.2.1 _ _) h) (fun V55 hB55 h => ?_)
              refine z_aload_n Q_X11_holds (k := 55) rfl rfl ?_
              refine z_aload_n Q_X11_holds (k := 56) rfl rfl ?_
              refine q_getI (o := 602) (z := 15) Q_X11_holds (k := 57) rfl F_X11_85 rfl rfl rfl (n_ hB55.1 rfl) (k_602 hB55.1) ?_
              refine q_putI (o := 602) (z := 20) Q_X11_holds (k := 58) rfl F_X11_44 rfl rfl rfl (n_ hB55.1 rfl) (k_602 hB55.1) ?_
              have hB56 := qB.u (a := 602) (j := 20) (x := V55 602 15) hB55 (hB55.2.1 _ _) (Or.inl (by decide))
              refine z_aload_n Q_X11_holds (k := 59) rfl rfl ?_
              refine q_callV0_z Q_X11_holds (k := 60) rfl rfl K_X11_fine V_X11_fine L_X11_117 (n_ hB56.1 rfl) (k_602 hB56.1) (Nat.le_of_ble_eq_true rfl) (Nat.le_of_ble_eq_true rfl) rfl (Nat.zero_le _) (Nat.zero_le _) (w_X11_fine (d + 124) hB56  h) (fun r57 hz57 hb57 h => ?_)
              refine y_if_ne 123 Q_X11_holds (k := 61) rfl (by decide) hz57 (fun c => ?_) (fun c => ?_)
              · replace h := h.2 c
                refine z_aload_n Q_X11_holds (k := 67) rfl rfl ?_
                refine z_getR (b := 611) Q_X11_holds (k := 68) rfl F_X11_38 rfl (n_ hB56.1 rfl) (k_602 hB56.1) (r_602_9 hB56.1) ?_
                refine z_iload_n Q_X11_holds (k := 69) rfl rfl ?_
                refine z_aload_n Q_X11_holds (k := 70) rfl rfl ?_
                refine q_getI (o := 602) (z := 19) Q_X11_holds (k := 71) rfl F_X11_128 rfl rfl rfl (n_ hB56.1 rfl) (k_602 hB56.1) ?_
                refine z_aload_n Q_X11_holds (k := 72) rfl rfl ?_
                refine q_getI (o := 602) (z := 18) Q_X11_holds (k := 73) rfl F_X11_131 rfl rfl rfl (n_ hB56.1 rfl) (k_602 hB56.1) ?_
                obtain ⟨q58, h⟩ := h
                refine y_iadd Q_X11_holds (k := 74) rfl ?_
                obtain ⟨q59, h⟩ := h
                refine q_iast (o := 611) (N := 8) Q_X11_holds (k := 75) rfl rfl (n_ hB56.1 rfl) (k_611 hB56.1) rfl q59 (by decide) ?_
                have hB60 := qB.u (a := 611) (j := V2 603 593) (x := ((qu V55 602 20 (V55 602 15)) 602 19) + ((qu V55 602 20 (V55 602 15)) 602 18)) hB56 q58 (Or.inl (by decide))
                refine z_aload_n Q_X11_holds (k := 76) rfl rfl ?_
                refine z_getR (b := 603) Q_X11_holds (k := 77) rfl F_X11_13 rfl (n_ hB60.1 rfl) (k_602 hB60.1) (r_602_1 hB60.1) ?_
                refine y_sipush Q_X11_holds (k := 78) rfl (by decide) ?_
                refine z_dup2 Q_X11_holds (k := 79) rfl rfl rfl ?_
                refine q_iald (o := 603) (N := 594) Q_X11_holds (k := 80) rfl rfl (n_ hB60.1 rfl) (k_603 hB60.1) rfl ⟨by decide, by decide⟩ (by decide) ?_
                refine y_iconst Q_X11_holds (k := 81) rfl ?_
                obtain ⟨q61, h⟩ := h
                refine y_iadd Q_X11_holds (k := 82) rfl ?_
                refine q_iast (o := 603) (N := 594) Q_X11_holds (k := 83) rfl rfl (n_ hB60.1 rfl) (k_603 hB60.1) rfl ⟨by decide, by decide⟩ (by decide) ?_
                have hB62 := qB.u (a := 603) (j := 593) (x := ((qu (qu V55 602 20 (V55 602 15)) 611 (V2 603 593) (((qu V55 602 20 (V55 602 15)) 602 19) + ((qu V55 602 20 (V55 602 15)) 602 18))) 603 593) + 1) hB60 q61 (Or.inl (by decide))
                refine z_aload_n Q_X11_holds (k := 84) rfl rfl ?_
                refine z_getR (b := 603) Q_X11_holds (k := 85) rfl F_X11_13 rfl (n_ hB62.1 rfl) (k_602 hB62.1) (r_602_1 hB62.1) ?_
                refine y_sipush Q_X11_holds (k := 86) rfl (by decide) ?_
                refine q_iald (o := 603) (N := 594) Q_X11_holds (k := 87) rfl rfl (n_ hB62.1 rfl) (k_603 hB62.1) rfl ⟨by decide, by decide⟩ (by decide) ?_
                exact y_iret Q_X11_holds (k := 88) rfl rfl (qI_iV hB62 (hB62.2.1 _ _) h)
              · replace h := h.1 c
                refine z_aload_n Q_X11_holds (k := 62) rfl rfl ?_
                refine q_getI (o := 602) (z := 16) Q_X11_holds (k := 63) rfl F_X11_88 rfl rfl rfl (n_ hB56.1 rfl) (k_602 hB56.1) ?_
                refine y_bipush Q_X11_holds (k := 64) rfl (by decide) ?_
                obtain ⟨q63, h⟩ := h
                refine y_isub Q_X11_holds (k := 65) rfl ?_
                exact y_iret Q_X11_holds (k := 66) rfl rfl (qI_iV hB56 q63 h)
        · replace h := h.1 c
          refine y_iconst Q_X11_holds (k := 37) rfl ?_
          exact y_iret Q_X11_holds (k := 38) rfl rfl (qI_iV hB34 ⟨by decide, by decide⟩ h)
    · replace h := h.1 c
      refine y_iconst Q_X11_holds (k := 16) rfl ?_
      exact y_iret Q_X11_holds (k := 17) rfl rfl (qI_iV hB2 ⟨by decide, by decide⟩ h)
  · replace h := h.2 c
    refine z_iload_n Q_X11_holds (k := 6) rfl rfl ?_
    refine z_aload_n Q_X11_holds (k := 7) rfl rfl ?_
    refine q_getI (o := 602) (z := 12) Q_X11_holds (k := 8) rfl F_X11_82 rfl rfl rfl (n_ hB1.1 rfl) (k_602 hB1.1) ?_
    refine y_icmp_gt 22 Q_X11_holds (k := 9) rfl (by decide) z1 (hB1.2.1 _ _) (fun c => ?_) (fun c => ?_)
    · replace h := h.1 c
      refine y_iconst Q_X11_holds (k := 12) rfl ?_
      refine y_iconst Q_X11_holds (k := 13) rfl ?_
      refine q_callV2_zV Q_X11_holds (k := 14) rfl rfl K_X11_may V_X11_may L_X11_187 (n_ hB1.1 rfl) (k_602 hB1.1) (Nat.le_of_ble_eq_true rfl) (Nat.le_of_ble_eq_true rfl) rfl (Nat.zero_le _) (Nat.zero_le _) (w_X11_may (d + 124) hB1 ⟨by decide, by decide⟩ (Or.inl rfl) ⟨by decide, by decide⟩ h) (fun r64 V64 hB64 hz64 hb64 h => ?_)
      refine y_if_ne 32 Q_X11_holds (k := 15) rfl (by decide) hz64 (fun c => ?_) (fun c => ?_)
      · replace h := h.2 c
        refine z_aload_n Q_X11_holds (k := 18) rfl rfl ?_
        refine z_getR (b := 603) Q_X11_holds (k := 19) rfl F_X11_13 rfl (n_ hB64.1 rfl) (k_602 hB64.1) (r_602_1 hB64.1) ?_
        refine y_sipush Q_X11_holds (k := 20) rfl (by decide) ?_
        refine q_iald (o := 603) (N := 594) Q_X11_holds (k := 21) rfl rfl (n_ hB64.1 rfl) (k_603 hB64.1) rfl ⟨by decide, by decide⟩ (by decide) ?_
        refine y_istore_n (L' := [some (.ref 602), some (.int (iI a1)), some (.int (iI (V64 603 593)))]) Q_X11_holds (k := 22) rfl (by decide) rfl ?_
        refine z_aload_n Q_X11_holds (k := 23) rfl rfl ?_
        refine z_iload_n Q_X11_holds (k := 24) rfl rfl ?_
        refine z_iload_n Q_X11_holds (k := 25) rfl rfl ?_
        refine y_bipush Q_X11_holds (k := 26) rfl (by decide) ?_
        refine y_icmp_ge 55 Q_X11_holds (k := 27) rfl (by decide) (hB64.2.1 _ _) ⟨by decide, by decide⟩ (fun c => ?_) (fun c => ?_)
        · replace h := h.1 c
          refine y_iconst Q_X11_holds (k := 32) rfl ?_
          refine q_callV2_uV Q_X11_holds (k := 33) rfl rfl K_X11_beginsReading V_X11_beginsReading L_X11_191 (n_ hB64.1 rfl) (k_602 hB64.1) (Nat.le_of_ble_eq_true rfl) (Nat.le_of_ble_eq_true rfl) rfl (Nat.zero_le _) (Nat.zero_le _) (w_X11_beginsReading (d + 124) hB64 z1 ⟨by decide, by decide⟩ h) (fun V65 hB65 h => ?_)
          refine z_iload_n Q_X11_holds (k := 34) rfl rfl ?_
          refine y_bipush Q_X11_holds (k := 35) rfl (by decide) ?_
          refine y_icmp_ne 67 Q_X11_holds (k := 36) rfl (by decide) (hB64.2.1 _ _) ⟨by decide, by decide⟩ (fun c => ?_) (fun c => ?_)
          · replace h := h.2 c
            refine z_aload_n Q_X11_holds (k := 39) rfl rfl ?_
            refine q_callV0_uV Q_X11_holds (k := 40) rfl rfl K_X11_anyOf V_X11_anyOf L_X11_175 (n_ hB65.1 rfl) (k_602 hB65.1) (Nat.le_of_ble_eq_true rfl) (Nat.le_of_ble_eq_true rfl) rfl (Nat.zero_le _) (Nat.zero_le _) (w_X11_anyOf d hB65  h) (fun V66 hB66 h => ?_)
            refine z_aload_n Q_X11_holds (k := 41) rfl rfl ?_
            refine y_bipush Q_X11_holds (k := 42) rfl (by decide) ?_
            refine q_callV1_uV Q_X11_holds (k := 43) rfl rfl K_X11_need V_X11_need L_X11_137 (n_ hB66.1 rfl) (k_602 hB66.1) (Nat.le_of_ble_eq_true rfl) (Nat.le_of_ble_eq_true rfl) rfl (Nat.zero_le _) (Nat.zero_le _) (w_X11_need (d + 123) hB66 ⟨by decide, by decide⟩ h) (fun V67 hB67 h => ?_)
            refine z_aload_n Q_X11_holds (k := 44) rfl rfl ?_
            refine q_callV0_z Q_X11_holds (k := 45) rfl rfl K_X11_fine V_X11_fine L_X11_117 (n_ hB67.1 rfl) (k_602 hB67.1) (Nat.le_of_ble_eq_true rfl) (Nat.le_of_ble_eq_true rfl) rfl (Nat.zero_le _) (Nat.zero_le _) (w_X11_fine (d + 124) hB67  h) (fun r68 hz68 hb68 h => ?_)
            refine y_if_eq 100 Q_X11_holds (k := 46) rfl (by decide) hz68 (fun c => ?_) (fun c => ?_)
            · replace h := h.1 c
              refine z_aload_n Q_X11_holds (k := 55) rfl rfl ?_
              refine z_aload_n Q_X11_holds (k := 56) rfl rfl ?_
              refine q_getI (o := 602) (z := 15) Q_X11_holds (k := 57) rfl F_X11_85 rfl rfl rfl (n_ hB67.1 rfl) (k_602 hB67.1) ?_
              refine q_putI (o := 602) (z := 20) Q_X11_holds (k := 58) rfl F_X11_44 rfl rfl rfl (n_ hB67.1 rfl) (k_602 hB67.1) ?_
              have hB69 := qB.u (a := 602) (j := 20) (x := V67 602 15) hB67 (hB67.2.1 _ _) (Or.inl (by decide))
              refine z_aload_n Q_X11_holds (k := 59) rfl rfl ?_
              refine q_callV0_z Q_X11_holds (k := 60) rfl rfl K_X11_fine V_X11_fine L_X11_117 (n_ hB69.1 rfl) (k_602 hB69.1) (Nat.le_of_ble_eq_true rfl) (Nat.le_of_ble_eq_true rfl) rfl (Nat.zero_le _) (Nat.zero_le _) (w_X11_fine (d + 124) hB69  h) (fun r70 hz70 hb70 h => ?_)
              refine y_if_ne 123 Q_X11_holds (k := 61) rfl (by decide) hz70 (fun c => ?_) (fun c => ?_)
              · replace h := h.2 c
                refine z_aload_n Q_X11_holds (k := 67) rfl rfl ?_
                refine z_getR (b := 611) Q_X11_holds (k := 68) rfl F_X11_38 rfl (n_ hB69.1 rfl) (k_602 hB69.1) (r_602_9 hB69.1) ?_
                refine z_iload_n Q_X11_holds (k := 69) rfl rfl ?_
                refine z_aload_n Q_X11_holds (k := 70) rfl rfl ?_
                refine q_getI (o := 602) (z := 19) Q_X11_holds (k := 71) rfl F_X11_128 rfl rfl rfl (n_ hB69.1 rfl) (k_602 hB69.1) ?_
                refine z_aload_n Q_X11_holds (k := 72) rfl rfl ?_
                refine q_getI (o := 602) (z := 18) Q_X11_holds (k := 73) rfl F_X11_131 rfl rfl rfl (n_ hB69.1 rfl) (k_602 hB69.1) ?_
                obtain ⟨q71, h⟩ := h
                refine y_iadd Q_X11_holds (k := 74) rfl ?_
                obtain ⟨q72, h⟩ := h
                refine q_iast (o := 611) (N := 8) Q_X11_holds (k := 75) rfl rfl (n_ hB69.1 rfl) (k_611 hB69.1) rfl q72 (by decide) ?_
                have hB73 := qB.u (a := 611) (j := V64 603 593) (x := ((qu V67 602 20 (V67 602 15)) 602 19) + ((qu V67 602 20 (V67 602 15)) 602 18)) hB69 q71 (Or.inl (by decide))
                refine z_aload_n Q_X11_holds (k := 76) rfl rfl ?_
                refine z_getR (b := 603) Q_X11_holds (k := 77) rfl F_X11_13 rfl (n_ hB73.1 rfl) (k_602 hB73.1) (r_602_1 hB73.1) ?_
                refine y_sipush Q_X11_holds (k := 78) rfl (by decide) ?_
                refine z_dup2 Q_X11_holds (k := 79) rfl rfl rfl ?_
                refine q_iald (o := 603) (N := 594) Q_X11_holds (k := 80) rfl rfl (n_ hB73.1 rfl) (k_603 hB73.1) rfl ⟨by decide, by decide⟩ (by decide) ?_
                refine y_iconst Q_X11_holds (k := 81) rfl ?_
                obtain ⟨q74, h⟩ := h
                refine y_iadd Q_X11_holds (k := 82) rfl ?_
                refine q_iast (o := 603) (N := 594) Q_X11_holds (k := 83) rfl rfl (n_ hB73.1 rfl) (k_603 hB73.1) rfl ⟨by decide, by decide⟩ (by decide) ?_
                have hB75 := qB.u (a := 603) (j := 593) (x := ((qu (qu V67 602 20 (V67 602 15)) 611 (V64 603 593) (((qu V67 602 20 (V67 602 15)) 602 19) + ((qu V67 602 20 (V67 602 15)) 602 18))) 603 593) + 1) hB73 q74 (Or.inl (by decide))
                refine z_aload_n Q_X11_holds (k := 84) rfl rfl ?_
                refine z_getR (b := 603) Q_X11_holds (k := 85) rfl F_X11_13 rfl (n_ hB75.1 rfl) (k_602 hB75.1) (r_602_1 hB75.1) ?_
                refine y_sipush Q_X11_holds (k := 86) rfl (by decide) ?_
                refine q_iald (o := 603) (N := 594) Q_X11_holds (k := 87) rfl rfl (n_ hB75.1 rfl) (k_603 hB75.1) rfl ⟨by decide, by decide⟩ (by decide) ?_
                exact y_iret Q_X11_holds (k := 88) rfl rfl (qI_iV hB75 (hB75.2.1 _ _) h)
              · replace h := h.1 c
                refine z_aload_n Q_X11_holds (k := 62) rfl rfl ?_
                refine q_getI (o := 602) (z := 16) Q_X11_holds (k := 63) rfl F_X11_88 rfl rfl rfl (n_ hB69.1 rfl) (k_602 hB69.1) ?_
                refine y_bipush Q_X11_holds (k := 64) rfl (by decide) ?_
                obtain ⟨q76, h⟩ := h
                refine y_isub Q_X11_holds (k := 65) rfl ?_
                exact y_iret Q_X11_holds (k := 66) rfl rfl (qI_iV hB69 q76 h)
            · replace h := h.2 c
              refine z_aload_n Q_X11_holds (k := 47) rfl rfl ?_
              refine q_callV0_zV Q_X11_holds (k := 48) rfl rfl K_X11_isMore V_X11_isMore L_X11_194 (n_ hB67.1 rfl) (k_602 hB67.1) (Nat.le_of_ble_eq_true rfl) (Nat.le_of_ble_eq_true rfl) rfl (Nat.zero_le _) (Nat.zero_le _) (w_X11_isMore (d + 123) hB67  h) (fun r77 V77 hB77 hz77 hb77 h => ?_)
              refine y_if_eq 100 Q_X11_holds (k := 49) rfl (by decide) hz77 (fun c => ?_) (fun c => ?_)
              · replace h := h.1 c
                refine z_aload_n Q_X11_holds (k := 55) rfl rfl ?_
                refine z_aload_n Q_X11_holds (k := 56) rfl rfl ?_
                refine q_getI (o := 602) (z := 15) Q_X11_holds (k := 57) rfl F_X11_85 rfl rfl rfl (n_ hB77.1 rfl) (k_602 hB77.1) ?_
                refine q_putI (o := 602) (z := 20) Q_X11_holds (k := 58) rfl F_X11_44 rfl rfl rfl (n_ hB77.1 rfl) (k_602 hB77.1) ?_
                have hB78 := qB.u (a := 602) (j := 20) (x := V77 602 15) hB77 (hB77.2.1 _ _) (Or.inl (by decide))
                refine z_aload_n Q_X11_holds (k := 59) rfl rfl ?_
                refine q_callV0_z Q_X11_holds (k := 60) rfl rfl K_X11_fine V_X11_fine L_X11_117 (n_ hB78.1 rfl) (k_602 hB78.1) (Nat.le_of_ble_eq_true rfl) (Nat.le_of_ble_eq_true rfl) rfl (Nat.zero_le _) (Nat.zero_le _) (w_X11_fine (d + 124) hB78  h) (fun r79 hz79 hb79 h => ?_)
                refine y_if_ne 123 Q_X11_holds (k := 61) rfl (by decide) hz79 (fun c => ?_) (fun c => ?_)
                · replace h := h.2 c
                  refine z_aload_n Q_X11_holds (k := 67) rfl rfl ?_
                  refine z_getR (b := 611) Q_X11_holds (k := 68) rfl F_X11_38 rfl (n_ hB78.1 rfl) (k_602 hB78.1) (r_602_9 hB78.1) ?_
                  refine z_iload_n Q_X11_holds (k := 69) rfl rfl ?_
                  refine z_aload_n Q_X11_holds (k := 70) rfl rfl ?_
                  refine q_getI (o := 602) (z := 19) Q_X11_holds (k := 71) rfl F_X11_128 rfl rfl rfl (n_ hB78.1 rfl) (k_602 hB78.1) ?_
                  refine z_aload_n Q_X11_holds (k := 72) rfl rfl ?_
                  refine q_getI (o := 602) (z := 18) Q_X11_holds (k := 73) rfl F_X11_131 rfl rfl rfl (n_ hB78.1 rfl) (k_602 hB78.1) ?_
                  obtain ⟨q80, h⟩ := h
                  refine y_iadd Q_X11_holds (k := 74) rfl ?_
                  obtain ⟨q81, h⟩ := h
                  refine q_iast (o := 611) (N := 8) Q_X11_holds (k := 75) rfl rfl (n_ hB78.1 rfl) (k_611 hB78.1) rfl q81 (by decide) ?_
                  have hB82 := qB.u (a := 611) (j := V64 603 593) (x := ((qu V77 602 20 (V77 602 15)) 602 19) + ((qu V77 602 20 (V77 602 15)) 602 18)) hB78 q80 (Or.inl (by decide))
                  refine z_aload_n Q_X11_holds (k := 76) rfl rfl ?_
                  refine z_getR (b := 603) Q_X11_holds (k := 77) rfl F_X11_13 rfl (n_ hB82.1 rfl) (k_602 hB82.1) (r_602_1 hB82.1) ?_
                  refine y_sipush Q_X11_holds (k := 78) rfl (by decide) ?_
                  refine z_dup2 Q_X11_holds (k := 79) rfl rfl rfl ?_
                  refine q_iald (o := 603) (N := 594) Q_X11_holds (k := 80) rfl rfl (n_ hB82.1 rfl) (k_603 hB82.1) rfl ⟨by decide, by decide⟩ (by decide) ?_
                  refine y_iconst Q_X11_holds (k := 81) rfl ?_
                  obtain ⟨q83, h⟩ := h
                  refine y_iadd Q_X11_holds (k := 82) rfl ?_
                  refine q_iast (o := 603) (N := 594) Q_X11_holds (k := 83) rfl rfl (n_ hB82.1 rfl) (k_603 hB82.1) rfl ⟨by decide, by decide⟩ (by decide) ?_
                  have hB84 := qB.u (a := 603) (j := 593) (x := ((qu (qu V77 602 20 (V77 602 15)) 611 (V64 603 593) (((qu V77 602 20 (V77 602 15)) 602 19) + ((qu V77 602 20 (V77 602 15)) 602 18))) 603 593) + 1) hB82 q83 (Or.inl (by decide))
                  refine z_aload_n Q_X11_holds (k := 84) rfl rfl ?_
                  refine z_getR (b := 603) Q_X11_holds (k := 85) rfl F_X11_13 rfl (n_ hB84.1 rfl) (k_602 hB84.1) (r_602_1 hB84.1) ?_
                  refine y_sipush Q_X11_holds (k := 86) rfl (by decide) ?_
                  refine q_iald (o := 603) (N := 594) Q_X11_holds (k := 87) rfl rfl (n_ hB84.1 rfl) (k_603 hB84.1) rfl ⟨by decide, by decide⟩ (by decide) ?_
                  exact y_iret Q_X11_holds (k := 88) rfl rfl (qI_iV hB84 (hB84.2.1 _ _) h)
                · replace h := h.1 c
                  refine z_aload_n Q_X11_holds (k := 62) rfl rfl ?_
                  refine q_getI (o := 602) (z := 16) Q_X11_holds (k := 63) rfl F_X11_88 rfl rfl rfl (n_ hB78.1 rfl) (k_602 hB78.1) ?_
                  refine y_bipush Q_X11_holds (k := 64) rfl (by decide) ?_
                  obtain ⟨q85, h⟩ := h
                  refine y_isub Q_X11_holds (k := 65) rfl ?_
                  exact y_iret Q_X11_holds (k := 66) rfl rfl (qI_iV hB78 q85 h)
              · replace h := h.2 c
                refine z_aload_n Q_X11_holds (k := 50) rfl rfl ?_
                refine y_iconst Q_X11_holds (k := 51) rfl ?_
                refine z_aload_n Q_X11_holds (k := 52) rfl rfl ?_
                refine q_getI (o := 602) (z := 14) Q_X11_holds (k := 53) rfl F_X11_91 rfl rfl rfl (n_ hB77.1 rfl) (k_602 hB77.1) ?_
                refine q_callV2_uV Q_X11_holds (k := 54) rfl rfl K_X11_wrong V_X11_wrong L_X11_124 (n_ hB77.1 rfl) (k_602 hB77.1) (Nat.le_of_ble_eq_true rfl) (Nat.le_of_ble_eq_true rfl) rfl (Nat.zero_le _) (Nat.zero_le _) (w_X11_wrong (d + 124) hB77 ⟨by decide, by decide⟩ (hB77.2.1 _ _) h) (fun V86 hB86 h => ?_)
                refine z_aload_n Q_X11_holds (k := 55) rfl rfl ?_
                refine z_aload_n Q_X11_holds (k := 56) rfl rfl ?_
                refine q_getI (o := 602) (z := 15) Q_X11_holds (k := 57) rfl F_X11_85 rfl rfl rfl (n_ hB86.1 rfl) (k_602 hB86.1) ?_
                refine q_putI (o := 602) (z := 20) Q_X11_holds (k := 58) rfl F_X11_44 rfl rfl rfl (n_ hB86.1 rfl) (k_602 hB86.1) ?_
                have hB87 := qB.u (a := 602) (j := 20) (x := V86 602 15) hB86 (hB86.2.1 _ _) (Or.inl (by decide))
                refine z_aload_n Q_X11_holds (k := 59) rfl rfl ?_
                refine q_callV0_z Q_X11_holds (k := 60) rfl rfl K_X11_fine V_X11_fine L_X11_117 (n_ hB87.1 rfl) (k_602 hB87.1) (Nat.le_of_ble_eq_true rfl) (Nat.le_of_ble_eq_true rfl) rfl (Nat.zero_le _) (Nat.zero_le _) (w_X11_fine (d + 124) hB87  h) (fun r88 hz88 hb88 h => ?_)
                refine y_if_ne 123 Q_X11_holds (k := 61) rfl (by decide) hz88 (fun c => ?_) (fun c => ?_)
                · replace h := h.2 c
                  refine z_aload_n Q_X11_holds (k := 67) rfl rfl ?_
                  refine z_getR (b := 611) Q_X11_holds (k := 68) rfl F_X11_38 rfl (n_ hB87.1 rfl) (k_602 hB87.1) (r_602_9 hB87.1) ?_
                  refine z_iload_n Q_X11_holds (k := 69) rfl rfl ?_
                  refine z_aload_n Q_X11_holds (k := 70) rfl rfl ?_
                  refine q_getI (o := 602) (z := 19) Q_X11_holds (k := 71) rfl F_X11_128 rfl rfl rfl (n_ hB87.1 rfl) (k_602 hB87.1) ?_
                  refine z_aload_n Q_X11_holds (k := 72) rfl rfl ?_
                  refine q_getI (o := 602) (z := 18) Q_X11_holds (k := 73) rfl F_X11_131 rfl rfl rfl (n_ hB87.1 rfl) (k_602 hB87.1) ?_
                  obtain ⟨q89, h⟩ := h
                  refine y_iadd Q_X11_holds (k := 74) rfl ?_
                  obtain ⟨q90, h⟩ := h
                  refine q_iast (o := 611) (N := 8) Q_X11_holds (k := 75) rfl rfl (n_ hB87.1 rfl) (k_611 hB87.1) rfl q90 (by decide) ?_
                  have hB91 := qB.u (a := 611) (j := V64 603 593) (x := ((qu V86 602 20 (V86 602 15)) 602 19) + ((qu V86 602 20 (V86 602 15)) 602 18)) hB87 q89 (Or.inl (by decide))
                  refine z_aload_n Q_X11_holds (k := 76) rfl rfl ?_
                  refine z_getR (b := 603) Q_X11_holds (k := 77) rfl F_X11_13 rfl (n_ hB91.1 rfl) (k_602 hB91.1) (r_602_1 hB91.1) ?_
                  refine y_sipush Q_X11_holds (k := 78) rfl (by decide) ?_
                  refine z_dup2 Q_X11_holds (k := 79) rfl rfl rfl ?_
                  refine q_iald (o := 603) (N := 594) Q_X11_holds (k := 80) rfl rfl (n_ hB91.1 rfl) (k_603 hB91.1) rfl ⟨by decide, by decide⟩ (by decide) ?_
                  refine y_iconst Q_X11_holds (k := 81) rfl ?_
                  obtain ⟨q92, h⟩ := h
                  refine y_iadd Q_X11_holds (k := 82) rfl ?_
                  refine q_iast (o := 603) (N := 594) Q_X11_holds (k := 83) rfl rfl (n_ hB91.1 rfl) (k_603 hB91.1) rfl ⟨by decide, by decide⟩ (by decide) ?_
                  have hB93 := qB.u (a := 603) (j := 593) (x := ((qu (qu V86 602 20 (V86 602 15)) 611 (V64 603 593) (((qu V86 602 20 (V86 602 15)) 602 19) + ((qu V86 602 20 (V86 602 15)) 602 18))) 603 593) + 1) hB91 q92 (Or.inl (by decide))
                  refine z_aload_n Q_X11_holds (k := 84) rfl rfl ?_
                  refine z_getR (b := 603) Q_X11_holds (k := 85) rfl F_X11_13 rfl (n_ hB93.1 rfl) (k_602 hB93.1) (r_602_1 hB93.1) ?_
                  refine y_sipush Q_X11_holds (k := 86) rfl (by decide) ?_
                  refine q_iald (o := 603) (N := 594) Q_X11_holds (k := 87) rfl rfl (n_ hB93.1 rfl) (k_603 hB93.1) rfl ⟨by decide, by decide⟩ (by decide) ?_
                  exact y_iret Q_X11_holds (k := 88) rfl rfl (qI_iV hB93 (hB93.2.1 _ _) h)
                · replace h := h.1 c
                  refine z_aload_n Q_X11_holds (k := 62) rfl rfl ?_
                  refine q_getI (o := 602) (z := 16) Q_X11_holds (k := 63) rfl F_X11_88 rfl rfl rfl (n_ hB87.1 rfl) (k_602 hB87.1) ?_
                  refine y_bipush Q_X11_holds (k := 64) rfl (by decide) ?_
                  obtain ⟨q94, h⟩ := h
                  refine y_isub Q_X11_holds (k := 65) rfl ?_
                  exact y_iret Q_X11_holds (k := 66) rfl rfl (qI_iV hB87 q94 h)
          · replace h := h.1 c
            refine y_iconst Q_X11_holds (k := 37) rfl ?_
            exact y_iret Q_X11_holds (k := 38) rfl rfl (qI_iV hB65 ⟨by decide, by decide⟩ h)
        · replace h := h.2 c
          refine y_iconst Q_X11_holds (k := 28) rfl ?_
          refine z_iload_n Q_X11_holds (k := 29) rfl rfl ?_
          obtain ⟨q95, h⟩ := h
          refine y_iadd Q_X11_holds (k := 30) rfl ?_
          refine z_goto (tgt := 56) Q_X11_holds (k := 31) rfl (by decide) ?_
          refine q_callV2_uV Q_X11_holds (k := 33) rfl rfl K_X11_beginsReading V_X11_beginsReading L_X11_191 (n_ hB64.1 rfl) (k_602 hB64.1) (Nat.le_of_ble_eq_true rfl) (Nat.le_of_ble_eq_true rfl) rfl (Nat.zero_le _) (Nat.zero_le _) (w_X11_beginsReading (d + 124) hB64 z1 q95 h) (fun V96 hB96 h => ?_)
          refine z_iload_n Q_X11_holds (k := 34) rfl rfl ?_
          refine y_bipush Q_X11_holds (k := 35) rfl (by decide) ?_
          refine y_icmp_ne 67 Q_X11_holds (k := 36) rfl (by decide) (hB64.2.1 _ _) ⟨by decide, by decide⟩ (fun c => ?_) (fun c => ?_)
          · replace h := h.2 c
            refine z_aload_n Q_X11_holds (k := 39) rfl rfl ?_
            refine q_callV0_uV Q_X11_holds (k := 40) rfl rfl K_X11_anyOf V_X11_anyOf L_X11_175 (n_ hB96.1 rfl) (k_602 hB96.1) (Nat.le_of_ble_eq_true rfl) (Nat.le_of_ble_eq_true rfl) rfl (Nat.zero_le _) (Nat.zero_le _) (w_X11_anyOf d hB96  h) (fun V97 hB97 h => ?_)
            refine z_aload_n Q_X11_holds (k := 41) rfl rfl ?_
            refine y_bipush Q_X11_holds (k := 42) rfl (by decide) ?_
            refine q_callV1_uV Q_X11_holds (k := 43) rfl rfl K_X11_need V_X11_need L_X11_137 (n_ hB97.1 rfl) (k_602 hB97.1) (Nat.le_of_ble_eq_true rfl) (Nat.le_of_ble_eq_true rfl) rfl (Nat.zero_le _) (Nat.zero_le _) (w_X11_need (d + 123) hB97 ⟨by decide, by decide⟩ h) (fun V98 hB98 h => ?_)
            refine z_aload_n Q_X11_holds (k := 44) rfl rfl ?_
            refine q_callV0_z Q_X11_holds (k := 45) rfl rfl K_X11_fine V_X11_fine L_X11_117 (n_ hB98.1 rfl) (k_602 hB98.1) (Nat.le_of_ble_eq_true rfl) (Nat.le_of_ble_eq_true rfl) rfl (Nat.zero_le _) (Nat.zero_le _) (w_X11_fine (d + 124) hB98  h) (fun r99 hz99 hb99 h => ?_)
            refine y_if_eq 100 Q_X11_holds (k := 46) rfl (by decide) hz99 (fun c => ?_) (fun c => ?_)
            · replace h := h.1 c
              refine z_aload_n Q_X11_holds (k := 55) rfl rfl ?_
              refine z_aload_n Q_X11_holds (k := 56) rfl rfl ?_
              refine q_getI (o := 602) (z := 15) Q_X11_holds (k := 57) rfl F_X11_85 rfl rfl rfl (n_ hB98.1 rfl) (k_602 hB98.1) ?_
              refine q_putI (o := 602) (z := 20) Q_X11_holds (k := 58) rfl F_X11_44 rfl rfl rfl (n_ hB98.1 rfl) (k_602 hB98.1) ?_
              have hB100 := qB.u (a := 602) (j := 20) (x := V98 602 15) hB98 (hB98.2.1 _ _) (Or.inl (by decide))
              refine z_aload_n Q_X11_holds (k := 59) rfl rfl ?_
              refine q_callV0_z Q_X11_holds (k := 60) rfl rfl K_X11_fine V_X11_fine L_X11_117 (n_ hB100.1 rfl) (k_602 hB100.1) (Nat.le_of_ble_eq_true rfl) (Nat.le_of_ble_eq_true rfl) rfl (Nat.zero_le _) (Nat.zero_le _) (w_X11_fine (d + 124) hB100  h) (fun r101 hz101 hb101 h => ?_)
              refine y_if_ne 123 Q_X11_holds (k := 61) rfl (by decide) hz101 (fun c => ?_) (fun c => ?_)
              · replace h := h.2 c
                refine z_aload_n Q_X11_holds (k := 67) rfl rfl ?_
                refine z_getR (b := 611) Q_X11_holds (k := 68) rfl F_X11_38 rfl (n_ hB100.1 rfl) (k_602 hB100.1) (r_602_9 hB100.1) ?_
                refine z_iload_n Q_X11_holds (k := 69) rfl rfl ?_
                refine z_aload_n Q_X11_holds (k := 70) rfl rfl ?_
                refine q_getI (o := 602) (z := 19) Q_X11_holds (k := 71) rfl F_X11_128 rfl rfl rfl (n_ hB100.1 rfl) (k_602 hB100.1) ?_
                refine z_aload_n Q_X11_holds (k := 72) rfl rfl ?_
                refine q_getI (o := 602) (z := 18) Q_X11_holds (k := 73) rfl F_X11_131 rfl rfl rfl (n_ hB100.1 rfl) (k_602 hB100.1) ?_
                obtain ⟨q102, h⟩ := h
                refine y_iadd Q_X11_holds (k := 74) rfl ?_
                obtain ⟨q103, h⟩ := h
                refine q_iast (o := 611) (N := 8) Q_X11_holds (k := 75) rfl rfl (n_ hB100.1 rfl) (k_611 hB100.1) rfl q103 (by decide) ?_
                have hB104 := qB.u (a := 611) (j := V64 603 593) (x := ((qu V98 602 20 (V98 602 15)) 602 19) + ((qu V98 602 20 (V98 602 15)) 602 18)) hB100 q102 (Or.inl (by decide))
                refine z_aload_n Q_X11_holds (k := 76) rfl rfl ?_
                refine z_getR (b := 603) Q_X11_holds (k := 77) rfl F_X11_13 rfl (n_ hB104.1 rfl) (k_602 hB104.1) (r_602_1 hB104.1) ?_
                refine y_sipush Q_X11_holds (k := 78) rfl (by decide) ?_
                refine z_dup2 Q_X11_holds (k := 79) rfl rfl rfl ?_
                refine q_iald (o := 603) (N := 594) Q_X11_holds (k := 80) rfl rfl (n_ hB104.1 rfl) (k_603 hB104.1) rfl ⟨by decide, by decide⟩ (by decide) ?_
                refine y_iconst Q_X11_holds (k := 81) rfl ?_
                obtain ⟨q105, h⟩ := h
                refine y_iadd Q_X11_holds (k := 82) rfl ?_
                refine q_iast (o := 603) (N := 594) Q_X11_holds (k := 83) rfl rfl (n_ hB104.1 rfl) (k_603 hB104.1) rfl ⟨by decide, by decide⟩ (by decide) ?_
                have hB106 := qB.u (a := 603) (j := 593) (x := ((qu (qu V98 602 20 (V98 602 15)) 611 (V64 603 593) (((qu V98 602 20 (V98 602 15)) 602 19) + ((qu V98 602 20 (V98 602 15)) 602 18))) 603 593) + 1) hB104 q105 (Or.inl (by decide))
                refine z_aload_n Q_X11_holds (k := 84) rfl rfl ?_
                refine z_getR (b := 603) Q_X11_holds (k := 85) rfl F_X11_13 rfl (n_ hB106.1 rfl) (k_602 hB106.1) (r_602_1 hB106.1) ?_
                refine y_sipush Q_X11_holds (k := 86) rfl (by decide) ?_
                refine q_iald (o := 603) (N := 594) Q_X11_holds (k := 87) rfl rfl (n_ hB106.1 rfl) (k_603 hB106.1) rfl ⟨by decide, by decide⟩ (by decide) ?_
                exact y_iret Q_X11_holds (k := 88) rfl rfl (qI_iV hB106 (hB106.2.1 _ _) h)
              · replace h := h.1 c
                refine z_aload_n Q_X11_holds (k := 62) rfl rfl ?_
                refine q_getI (o := 602) (z := 16) Q_X11_holds (k := 63) rfl F_X11_88 rfl rfl rfl (n_ hB100.1 rfl) (k_602 hB100.1) ?_
                refine y_bipush Q_X11_holds (k := 64) rfl (by decide) ?_
                obtain ⟨q107, h⟩ := h
                refine y_isub Q_X11_holds (k := 65) rfl ?_
                exact y_iret Q_X11_holds (k := 66) rfl rfl (qI_iV hB100 q107 h)
            · replace h := h.2 c
              refine z_aload_n Q_X11_holds (k := 47) rfl rfl ?_
              refine q_callV0_zV Q_X11_holds (k := 48) rfl rfl K_X11_isMore V_X11_isMore L_X11_194 (n_ hB98.1 rfl) (k_602 hB98.1) (Nat.le_of_ble_eq_true rfl) (Nat.le_of_ble_eq_true rfl) rfl (Nat.zero_le _) (Nat.zero_le _) (w_X11_isMore (d + 123) hB98  h) (fun r108 V108 hB108 hz108 hb108 h => ?_)
              refine y_if_eq 100 Q_X11_holds (k := 49) rfl (by decide) hz108 (fun c => ?_) (fun c => ?_)
              · replace h := h.1 c
                refine z_aload_n Q_X11_holds (k := 55) rfl rfl ?_
                refine z_aload_n Q_X11_holds (k := 56) rfl rfl ?_
                refine q_getI (o := 602) (z := 15) Q_X11_holds (k := 57) rfl F_X11_85 rfl rfl rfl (n_ hB108.1 rfl) (k_602 hB108.1) ?_
                refine q_putI (o := 602) (z := 20) Q_X11_holds (k := 58) rfl F_X11_44 rfl rfl rfl (n_ hB108.1 rfl) (k_602 hB108.1) ?_
                have hB109 := qB.u (a := 602) (j := 20) (x := V108 602 15) hB108 (hB108.2.1 _ _) (Or.inl (by decide))
                refine z_aload_n Q_X11_holds (k := 59) rfl rfl ?_
                refine q_callV0_z Q_X11_holds (k := 60) rfl rfl K_X11_fine V_X11_fine L_X11_117 (n_ hB109.1 rfl) (k_602 hB109.1) (Nat.le_of_ble_eq_true rfl) (Nat.le_of_ble_eq_true rfl) rfl (Nat.zero_le _) (Nat.zero_le _) (w_X11_fine (d + 124) hB109  h) (fun r110 hz110 hb110 h => ?_)
                refine y_if_ne 123 Q_X11_holds (k := 61) rfl (by decide) hz110 (fun c => ?_) (fun c => ?_)
                · replace h := h.2 c
                  refine z_aload_n Q_X11_holds (k := 67) rfl rfl ?_
                  refine z_getR (b := 611) Q_X11_holds (k := 68) rfl F_X11_38 rfl (n_ hB109.1 rfl) (k_602 hB109.1) (r_602_9 hB109.1) ?_
                  refine z_iload_n Q_X11_holds (k := 69) rfl rfl ?_
                  refine z_aload_n Q_X11_holds (k := 70) rfl rfl ?_
                  refine q_getI (o := 602) (z := 19) Q_X11_holds (k := 71) rfl F_X11_128 rfl rfl rfl (n_ hB109.1 rfl) (k_602 hB109.1) ?_
                  refine z_aload_n Q_X11_holds (k := 72) rfl rfl ?_
                  refine q_getI (o := 602) (z := 18) Q_X11_holds (k := 73) rfl F_X11_131 rfl rfl rfl (n_ hB109.1 rfl) (k_602 hB109.1) ?_
                  obtain ⟨q111, h⟩ := h
                  refine y_iadd Q_X11_holds (k := 74) rfl ?_
                  obtain ⟨q112, h⟩ := h
                  refine q_iast (o := 611) (N := 8) Q_X11_holds (k := 75) rfl rfl (n_ hB109.1 rfl) (k_611 hB109.1) rfl q112 (by decide) ?_
                  have hB113 := qB.u (a := 611) (j := V64 603 593) (x := ((qu V108 602 20 (V108 602 15)) 602 19) + ((qu V108 602 20 (V108 602 15)) 602 18)) hB109 q111 (Or.inl (by decide))
                  refine z_aload_n Q_X11_holds (k := 76) rfl rfl ?_
                  refine z_getR (b := 603) Q_X11_holds (k := 77) rfl F_X11_13 rfl (n_ hB113.1 rfl) (k_602 hB113.1) (r_602_1 hB113.1) ?_
                  refine y_sipush Q_X11_holds (k := 78) rfl (by decide) ?_
                  refine z_dup2 Q_X11_holds (k := 79) rfl rfl rfl ?_
                  refine q_iald (o := 603) (N := 594) Q_X11_holds (k := 80) rfl rfl (n_ hB113.1 rfl) (k_603 hB113.1) rfl ⟨by decide, by decide⟩ (by decide) ?_
                  refine y_iconst Q_X11_holds (k := 81) rfl ?_
                  obtain ⟨q114, h⟩ := h
                  refine y_iadd Q_X11_holds (k := 82) rfl ?_
                  refine q_iast (o := 603) (N := 594) Q_X11_holds (k := 83) rfl rfl (n_ hB113.1 rfl) (k_603 hB113.1) rfl ⟨by decide, by decide⟩ (by decide) ?_
                  have hB115 := qB.u (a := 603) (j := 593) (x := ((qu (qu V108 602 20 (V108 602 15)) 611 (V64 603 593) (((qu V108 602 20 (V108 602 15)) 602 19) + ((qu V108 602 20 (V108 602 15)) 602 18))) 603 593) + 1) hB113 q114 (Or.inl (by decide))
                  refine z_aload_n Q_X11_holds (k := 84) rfl rfl ?_
                  refine z_getR (b := 603) Q_X11_holds (k := 85) rfl F_X11_13 rfl (n_ hB115.1 rfl) (k_602 hB115.1) (r_602_1 hB115.1) ?_
                  refine y_sipush Q_X11_holds (k := 86) rfl (by decide) ?_
                  refine q_iald (o := 603) (N := 594) Q_X11_holds (k := 87) rfl rfl (n_ hB115.1 rfl) (k_603 hB115.1) rfl ⟨by decide, by decide⟩ (by decide) ?_
                  exact y_iret Q_X11_holds (k := 88) rfl rfl (qI_iV hB115 (hB115.2.1 _ _) h)
                · replace h := h.1 c
                  refine z_aload_n Q_X11_holds (k := 62) rfl rfl ?_
                  refine q_getI (o := 602) (z := 16) Q_X11_holds (k := 63) rfl F_X11_88 rfl rfl rfl (n_ hB109.1 rfl) (k_602 hB109.1) ?_
                  refine y_bipush Q_X11_holds (k := 64) rfl (by decide) ?_
                  obtain ⟨q116, h⟩ := h
                  refine y_isub Q_X11_holds (k := 65) rfl ?_
                  exact y_iret Q_X11_holds (k := 66) rfl rfl (qI_iV hB109 q116 h)
              · replace h := h.2 c
                refine z_aload_n Q_X11_holds (k := 50) rfl rfl ?_
                refine y_iconst Q_X11_holds (k := 51) rfl ?_
                refine z_aload_n Q_X11_holds (k := 52) rfl rfl ?_
                refine q_getI (o := 602) (z := 14) Q_X11_holds (k := 53) rfl F_X11_91 rfl rfl rfl (n_ hB108.1 rfl) (k_602 hB108.1) ?_
                refine q_callV2_uV Q_X11_holds (k := 54) rfl rfl K_X11_wrong V_X11_wrong L_X11_124 (n_ hB108.1 rfl) (k_602 hB108.1) (Nat.le_of_ble_eq_true rfl) (Nat.le_of_ble_eq_true rfl) rfl (Nat.zero_le _) (Nat.zero_le _) (w_X11_wrong (d + 124) hB108 ⟨by decide, by decide⟩ (hB108.2.1 _ _) h) (fun V117 hB117 h => ?_)
                refine z_aload_n Q_X11_holds (k := 55) rfl rfl ?_
                refine z_aload_n Q_X11_holds (k := 56) rfl rfl ?_
                refine q_getI (o := 602) (z := 15) Q_X11_holds (k := 57) rfl F_X11_85 rfl rfl rfl (n_ hB117.1 rfl) (k_602 hB117.1) ?_
                refine q_putI (o := 602) (z := 20) Q_X11_holds (k := 58) rfl F_X11_44 rfl rfl rfl (n_ hB117.1 rfl) (k_602 hB117.1) ?_
                have hB118 := qB.u (a := 602) (j := 20) (x := V117 602 15) hB117 (hB117.2.1 _ _) (Or.inl (by decide))
                refine z_aload_n Q_X11_holds (k := 59) rfl rfl ?_
                refine q_callV0_z Q_X11_holds (k := 60) rfl rfl K_X11_fine V_X11_fine L_X11_117 (n_ hB118.1 rfl) (k_602 hB118.1) (Nat.le_of_ble_eq_true rfl) (Nat.le_of_ble_eq_true rfl) rfl (Nat.zero_le _) (Nat.zero_le _) (w_X11_fine (d + 124) hB118  h) (fun r119 hz119 hb119 h => ?_)
                refine y_if_ne 123 Q_X11_holds (k := 61) rfl (by decide) hz119 (fun c => ?_) (fun c => ?_)
                · replace h := h.2 c
                  refine z_aload_n Q_X11_holds (k := 67) rfl rfl ?_
                  refine z_getR (b := 611) Q_X11_holds (k := 68) rfl F_X11_38 rfl (n_ hB118.1 rfl) (k_602 hB118.1) (r_602_9 hB118.1) ?_
                  refine z_iload_n Q_X11_holds (k := 69) rfl rfl ?_
                  refine z_aload_n Q_X11_holds (k := 70) rfl rfl ?_
                  refine q_getI (o := 602) (z := 19) Q_X11_holds (k := 71) rfl F_X11_128 rfl rfl rfl (n_ hB118.1 rfl) (k_602 hB118.1) ?_
                  refine z_aload_n Q_X11_holds (k := 72) rfl rfl ?_
                  refine q_getI (o := 602) (z := 18) Q_X11_holds (k := 73) rfl F_X11_131 rfl rfl rfl (n_ hB118.1 rfl) (k_602 hB118.1) ?_
                  obtain ⟨q120, h⟩ := h
                  refine y_iadd Q_X11_holds (k := 74) rfl ?_
                  obtain ⟨q121, h⟩ := h
                  refine q_iast (o := 611) (N := 8) Q_X11_holds (k := 75) rfl rfl (n_ hB118.1 rfl) (k_611 hB118.1) rfl q121 (by decide) ?_
                  have hB122 := qB.u (a := 611) (j := V64 603 593) (x := ((qu V117 602 20 (V117 602 15)) 602 19) + ((qu V117 602 20 (V117 602 15)) 602 18)) hB118 q120 (Or.inl (by decide))
                  refine z_aload_n Q_X11_holds (k := 76) rfl rfl ?_
                  refine z_getR (b := 603) Q_X11_holds (k := 77) rfl F_X11_13 rfl (n_ hB122.1 rfl) (k_602 hB122.1) (r_602_1 hB122.1) ?_
                  refine y_sipush Q_X11_holds (k := 78) rfl (by decide) ?_
                  refine z_dup2 Q_X11_holds (k := 79) rfl rfl rfl ?_
                  refine q_iald (o := 603) (N := 594) Q_X11_holds (k := 80) rfl rfl (n_ hB122.1 rfl) (k_603 hB122.1) rfl ⟨by decide, by decide⟩ (by decide) ?_
                  refine y_iconst Q_X11_holds (k := 81) rfl ?_
                  obtain ⟨q123, h⟩ := h
                  refine y_iadd Q_X11_holds (k := 82) rfl ?_
                  refine q_iast (o := 603) (N := 594) Q_X11_holds (k := 83) rfl rfl (n_ hB122.1 rfl) (k_603 hB122.1) rfl ⟨by decide, by decide⟩ (by decide) ?_
                  have hB124 := qB.u (a := 603) (j := 593) (x := ((qu (qu V117 602 20 (V117 602 15)) 611 (V64 603 593) (((qu V117 602 20 (V117 602 15)) 602 19) + ((qu V117 602 20 (V117 602 15)) 602 18))) 603 593) + 1) hB122 q123 (Or.inl (by decide))
                  refine z_aload_n Q_X11_holds (k := 84) rfl rfl ?_
                  refine z_getR (b := 603) Q_X11_holds (k := 85) rfl F_X11_13 rfl (n_ hB124.1 rfl) (k_602 hB124.1) (r_602_1 hB124.1) ?_
                  refine y_sipush Q_X11_holds (k := 86) rfl (by decide) ?_
                  refine q_iald (o := 603) (N := 594) Q_X11_holds (k := 87) rfl rfl (n_ hB124.1 rfl) (k_603 hB124.1) rfl ⟨by decide, by decide⟩ (by decide) ?_
                  exact y_iret Q_X11_holds (k := 88) rfl rfl (qI_iV hB124 (hB124.2.1 _ _) h)
                · replace h := h.1 c
                  refine z_aload_n Q_X11_holds (k := 62) rfl rfl ?_
                  refine q_getI (o := 602) (z := 16) Q_X11_holds (k := 63) rfl F_X11_88 rfl rfl rfl (n_ hB118.1 rfl) (k_602 hB118.1) ?_
                  refine y_bipush Q_X11_holds (k := 64) rfl (by decide) ?_
                  obtain ⟨q125, h⟩ := h
                  refine y_isub Q_X11_holds (k := 65) rfl ?_
                  exact y_iret Q_X11_holds (k := 66) rfl rfl (qI_iV hB118 q125 h)
          · replace h := h.1 c
            refine y_iconst Q_X11_holds (k := 37) rfl ?_
            exact y_iret Q_X11_holds (k := 38) rfl rfl (qI_iV hB96 ⟨by decide, by decide⟩ h)
      · replace h := h.1 c
        refine y_iconst Q_X11_holds (k := 16) rfl ?_
        exact y_iret Q_X11_holds (k := 17) rfl rfl (qI_iV hB64 ⟨by decide, by decide⟩ h)
    · replace h := h.2 c
      refine y_iconst Q_X11_holds (k := 10) rfl ?_
      refine z_goto (tgt := 23) Q_X11_holds (k := 11) rfl (by decide) ?_
      refine y_iconst Q_X11_holds (k := 13) rfl ?_
      refine q_callV2_zV Q_X11_holds (k := 14) rfl rfl K_X11_may V_X11_may L_X11_187 (n_ hB1.1 rfl) (k_602 hB1.1) (Nat.le_of_ble_eq_true rfl) (Nat.le_of_ble_eq_true rfl) rfl (Nat.zero_le _) (Nat.zero_le _) (w_X11_may (d + 124) hB1 ⟨by decide, by decide⟩ (Or.inr rfl) ⟨by decide, by decide⟩ h) (fun r126 V126 hB126 hz126 hb126 h => ?_)
      refine y_if_ne 32 Q_X11_holds (k := 15) rfl (by decide) hz126 (fun c => ?_) (fun c => ?_)
      · replace h := h.2 c
        refine z_aload_n Q_X11_holds (k := 18) rfl rfl ?_
        refine z_getR (b := 603) Q_X11_holds (k := 19) rfl F_X11_13 rfl (n_ hB126.1 rfl) (k_602 hB126.1) (r_602_1 hB126.1) ?_
        refine y_sipush Q_X11_holds (k := 20) rfl (by decide) ?_
        refine q_iald (o := 603) (N := 594) Q_X11_holds (k := 21) rfl rfl (n_ hB126.1 rfl) (k_603 hB126.1) rfl ⟨by decide, by decide⟩ (by decide) ?_
        refine y_istore_n (L' := [some (.ref 602), some (.int (iI a1)), some (.int (iI (V126 603 593)))]) Q_X11_holds (k := 22) rfl (by decide) rfl ?_
        refine z_aload_n Q_X11_holds (k := 23) rfl rfl ?_
        refine z_iload_n Q_X11_holds (k := 24) rfl rfl ?_
        refine z_iload_n Q_X11_holds (k := 25) rfl rfl ?_
        refine y_bipush Q_X11_holds (k := 26) rfl (by decide) ?_
        refine y_icmp_ge 55 Q_X11_holds (k := 27) rfl (by decide) (hB126.2.1 _ _) ⟨by decide, by decide⟩ (fun c => ?_) (fun c => ?_)
        · replace h := h.1 c
          refine y_iconst Q_X11_holds (k := 32) rfl ?_
          refine q_callV2_uV Q_X11_holds (k := 33) rfl rfl K_X11_beginsReading V_X11_beginsReading L_X11_191 (n_ hB126.1 rfl) (k_602 hB126.1) (Nat.le_of_ble_eq_true rfl) (Nat.le_of_ble_eq_true rfl) rfl (Nat.zero_le _) (Nat.zero_le _) (w_X11_beginsReading (d + 124) hB126 z1 ⟨by decide, by decide⟩ h) (fun V127 hB127 h => ?_)
          refine z_iload_n Q_X11_holds (k := 34) rfl rfl ?_
          refine y_bipush Q_X11_holds (k := 35) rfl (by decide) ?_
          refine y_icmp_ne 67 Q_X11_holds (k := 36) rfl (by decide) (hB126.2.1 _ _) ⟨by decide, by decide⟩ (fun c => ?_) (fun c => ?_)
          · replace h := h.2 c
            refine z_aload_n Q_X11_holds (k := 39) rfl rfl ?_
            refine q_callV0_uV Q_X11_holds (k := 40) rfl rfl K_X11_anyOf V_X11_anyOf L_X11_175 (n_ hB127.1 rfl) (k_602 hB127.1) (Nat.le_of_ble_eq_true rfl) (Nat.le_of_ble_eq_true rfl) rfl (Nat.zero_le _) (Nat.zero_le _) (w_X11_anyOf d hB127  h) (fun V128 hB128 h => ?_)
            refine z_aload_n Q_X11_holds (k := 41) rfl rfl ?_
            refine y_bipush Q_X11_holds (k := 42) rfl (by decide) ?_
            refine q_callV1_uV Q_X11_holds (k := 43) rfl rfl K_X11_need V_X11_need L_X11_137 (n_ hB128.1 rfl) (k_602 hB128.1) (Nat.le_of_ble_eq_true rfl) (Nat.le_of_ble_eq_true rfl) rfl (Nat.zero_le _) (Nat.zero_le _) (w_X11_need (d + 123) hB128 ⟨by decide, by decide⟩ h) (fun V129 hB129 h => ?_)
            refine z_aload_n Q_X11_holds (k := 44) rfl rfl ?_
            refine q_callV0_z Q_X11_holds (k := 45) rfl rfl K_X11_fine V_X11_fine L_X11_117 (n_ hB129.1 rfl) (k_602 hB129.1) (Nat.le_of_ble_eq_true rfl) (Nat.le_of_ble_eq_true rfl) rfl (Nat.zero_le _) (Nat.zero_le _) (w_X11_fine (d + 124) hB129  h) (fun r130 hz130 hb130 h => ?_)
            refine y_if_eq 100 Q_X11_holds (k := 46) rfl (by decide) hz130 (fun c => ?_) (fun c => ?_)
            · replace h := h.1 c
              refine z_aload_n Q_X11_holds (k := 55) rfl rfl ?_
              refine z_aload_n Q_X11_holds (k := 56) rfl rfl ?_
              refine q_getI (o := 602) (z := 15) Q_X11_holds (k := 57) rfl F_X11_85 rfl rfl rfl (n_ hB129.1 rfl) (k_602 hB129.1) ?_
              refine q_putI (o := 602) (z := 20) Q_X11_holds (k := 58) rfl F_X11_44 rfl rfl rfl (n_ hB129.1 rfl) (k_602 hB129.1) ?_
              have hB131 := qB.u (a := 602) (j := 20) (x := V129 602 15) hB129 (hB129.2.1 _ _) (Or.inl (by decide))
              refine z_aload_n Q_X11_holds (k := 59) rfl rfl ?_
              refine q_callV0_z Q_X11_holds (k := 60) rfl rfl K_X11_fine V_X11_fine L_X11_117 (n_ hB131.1 rfl) (k_602 hB131.1) (Nat.le_of_ble_eq_true rfl) (Nat.le_of_ble_eq_true rfl) rfl (Nat.zero_le _) (Nat.zero_le _) (w_X11_fine (d + 124) hB131  h) (fun r132 hz132 hb132 h => ?_)
              refine y_if_ne 123 Q_X11_holds (k := 61) rfl (by decide) hz132 (fun c => ?_) (fun c => ?_)
              · replace h := h.2 c
                refine z_aload_n Q_X11_holds (k := 67) rfl rfl ?_
                refine z_getR (b := 611) Q_X11_holds (k := 68) rfl F_X11_38 rfl (n_ hB131.1 rfl) (k_602 hB131.1) (r_602_9 hB131.1) ?_
                refine z_iload_n Q_X11_holds (k := 69) rfl rfl ?_
                refine z_aload_n Q_X11_holds (k := 70) rfl rfl ?_
                refine q_getI (o := 602) (z := 19) Q_X11_holds (k := 71) rfl F_X11_128 rfl rfl rfl (n_ hB131.1 rfl) (k_602 hB131.1) ?_
                refine z_aload_n Q_X11_holds (k := 72) rfl rfl ?_
                refine q_getI (o := 602) (z := 18) Q_X11_holds (k := 73) rfl F_X11_131 rfl rfl rfl (n_ hB131.1 rfl) (k_602 hB131.1) ?_
                obtain ⟨q133, h⟩ := h
                refine y_iadd Q_X11_holds (k := 74) rfl ?_
                obtain ⟨q134, h⟩ := h
                refine q_iast (o := 611) (N := 8) Q_X11_holds (k := 75) rfl rfl (n_ hB131.1 rfl) (k_611 hB131.1) rfl q134 (by decide) ?_
                have hB135 := qB.u (a := 611) (j := V126 603 593) (x := ((qu V129 602 20 (V129 602 15)) 602 19) + ((qu V129 602 20 (V129 602 15)) 602 18)) hB131 q133 (Or.inl (by decide))
                refine z_aload_n Q_X11_holds (k := 76) rfl rfl ?_
                refine z_getR (b := 603) Q_X11_holds (k := 77) rfl F_X11_13 rfl (n_ hB135.1 rfl) (k_602 hB135.1) (r_602_1 hB135.1) ?_
                refine y_sipush Q_X11_holds (k := 78) rfl (by decide) ?_
                refine z_dup2 Q_X11_holds (k := 79) rfl rfl rfl ?_
                refine q_iald (o := 603) (N := 594) Q_X11_holds (k := 80) rfl rfl (n_ hB135.1 rfl) (k_603 hB135.1) rfl ⟨by decide, by decide⟩ (by decide) ?_
                refine y_iconst Q_X11_holds (k := 81) rfl ?_
                obtain ⟨q136, h⟩ := h
                refine y_iadd Q_X11_holds (k := 82) rfl ?_
                refine q_iast (o := 603) (N := 594) Q_X11_holds (k := 83) rfl rfl (n_ hB135.1 rfl) (k_603 hB135.1) rfl ⟨by decide, by decide⟩ (by decide) ?_
                have hB137 := qB.u (a := 603) (j := 593) (x := ((qu (qu V129 602 20 (V129 602 15)) 611 (V126 603 593) (((qu V129 602 20 (V129 602 15)) 602 19) + ((qu V129 602 20 (V129 602 15)) 602 18))) 603 593) + 1) hB135 q136 (Or.inl (by decide))
                refine z_aload_n Q_X11_holds (k := 84) rfl rfl ?_
                refine z_getR (b := 603) Q_X11_holds (k := 85) rfl F_X11_13 rfl (n_ hB137.1 rfl) (k_602 hB137.1) (r_602_1 hB137.1) ?_
                refine y_sipush Q_X11_holds (k := 86) rfl (by decide) ?_
                refine q_iald (o := 603) (N := 594) Q_X11_holds (k := 87) rfl rfl (n_ hB137.1 rfl) (k_603 hB137.1) rfl ⟨by decide, by decide⟩ (by decide) ?_
                exact y_iret Q_X11_holds (k := 88) rfl rfl (qI_iV hB137 (hB137.2.1 _ _) h)
              · replace h := h.1 c
                refine z_aload_n Q_X11_holds (k := 62) rfl rfl ?_
                refine q_getI (o := 602) (z := 16) Q_X11_holds (k := 63) rfl F_X11_88 rfl rfl rfl (n_ hB131.1 rfl) (k_602 hB131.1) ?_
                refine y_bipush Q_X11_holds (k := 64) rfl (by decide) ?_
                obtain ⟨q138, h⟩ := h
                refine y_isub Q_X11_holds (k := 65) rfl ?_
                exact y_iret Q_X11_holds (k := 66) rfl rfl (qI_iV hB131 q138 h)
            · replace h := h.2 c
              refine z_aload_n Q_X11_holds (k := 47) rfl rfl ?_
              refine q_callV0_zV Q_X11_holds (k := 48) rfl rfl K_X11_isMore V_X11_isMore L_X11_194 (n_ hB129.1 rfl) (k_602 hB129.1) (Nat.le_of_ble_eq_true rfl) (Nat.le_of_ble_eq_true rfl) rfl (Nat.zero_le _) (Nat.zero_le _) (w_X11_isMore (d + 123) hB129  h) (fun r139 V139 hB139 hz139 hb139 h => ?_)
              refine y_if_eq 100 Q_X11_holds (k := 49) rfl (by decide) hz139 (fun c => ?_) (fun c => ?_)
              · replace h := h.1 c
                refine z_aload_n Q_X11_holds (k := 55) rfl rfl ?_
                refine z_aload_n Q_X11_holds (k := 56) rfl rfl ?_
                refine q_getI (o := 602) (z := 15) Q_X11_holds (k := 57) rfl F_X11_85 rfl rfl rfl (n_ hB139.1 rfl) (k_602 hB139.1) ?_
                refine q_putI (o := 602) (z := 20) Q_X11_holds (k := 58) rfl F_X11_44 rfl rfl rfl (n_ hB139.1 rfl) (k_602 hB139.1) ?_
                have hB140 := qB.u (a := 602) (j := 20) (x := V139 602 15) hB139 (hB139.2.1 _ _) (Or.inl (by decide))
                refine z_aload_n Q_X11_holds (k := 59) rfl rfl ?_
                refine q_callV0_z Q_X11_holds (k := 60) rfl rfl K_X11_fine V_X11_fine L_X11_117 (n_ hB140.1 rfl) (k_602 hB140.1) (Nat.le_of_ble_eq_true rfl) (Nat.le_of_ble_eq_true rfl) rfl (Nat.zero_le _) (Nat.zero_le _) (w_X11_fine (d + 124) hB140  h) (fun r141 hz141 hb141 h => ?_)
                refine y_if_ne 123 Q_X11_holds (k := 61) rfl (by decide) hz141 (fun c => ?_) (fun c => ?_)
                · replace h := h.2 c
                  refine z_aload_n Q_X11_holds (k := 67) rfl rfl ?_
                  refine z_getR (b := 611) Q_X11_holds (k := 68) rfl F_X11_38 rfl (n_ hB140.1 rfl) (k_602 hB140.1) (r_602_9 hB140.1) ?_
                  refine z_iload_n Q_X11_holds (k := 69) rfl rfl ?_
                  refine z_aload_n Q_X11_holds (k := 70) rfl rfl ?_
                  refine q_getI (o := 602) (z := 19) Q_X11_holds (k := 71) rfl F_X11_128 rfl rfl rfl (n_ hB140.1 rfl) (k_602 hB140.1) ?_
                  refine z_aload_n Q_X11_holds (k := 72) rfl rfl ?_
                  refine q_getI (o := 602) (z := 18) Q_X11_holds (k := 73) rfl F_X11_131 rfl rfl rfl (n_ hB140.1 rfl) (k_602 hB140.1) ?_
                  obtain ⟨q142, h⟩ := h
                  refine y_iadd Q_X11_holds (k := 74) rfl ?_
                  obtain ⟨q143, h⟩ := h
                  refine q_iast (o := 611) (N := 8) Q_X11_holds (k := 75) rfl rfl (n_ hB140.1 rfl) (k_611 hB140.1) rfl q143 (by decide) ?_
                  have hB144 := qB.u (a := 611) (j := V126 603 593) (x := ((qu V139 602 20 (V139 602 15)) 602 19) + ((qu V139 602 20 (V139 602 15)) 602 18)) hB140 q142 (Or.inl (by decide))
                  refine z_aload_n Q_X11_holds (k := 76) rfl rfl ?_
                  refine z_getR (b := 603) Q_X11_holds (k := 77) rfl F_X11_13 rfl (n_ hB144.1 rfl) (k_602 hB144.1) (r_602_1 hB144.1) ?_
                  refine y_sipush Q_X11_holds (k := 78) rfl (by decide) ?_
                  refine z_dup2 Q_X11_holds (k := 79) rfl rfl rfl ?_
                  refine q_iald (o := 603) (N := 594) Q_X11_holds (k := 80) rfl rfl (n_ hB144.1 rfl) (k_603 hB144.1) rfl ⟨by decide, by decide⟩ (by decide) ?_
                  refine y_iconst Q_X11_holds (k := 81) rfl ?_
                  obtain ⟨q145, h⟩ := h
                  refine y_iadd Q_X11_holds (k := 82) rfl ?_
                  refine q_iast (o := 603) (N := 594) Q_X11_holds (k := 83) rfl rfl (n_ hB144.1 rfl) (k_603 hB144.1) rfl ⟨by decide, by decide⟩ (by decide) ?_
                  have hB146 := qB.u (a := 603) (j := 593) (x := ((qu (qu V139 602 20 (V139 602 15)) 611 (V126 603 593) (((qu V139 602 20 (V139 602 15)) 602 19) + ((qu V139 602 20 (V139 602 15)) 602 18))) 603 593) + 1) hB144 q145 (Or.inl (by decide))
                  refine z_aload_n Q_X11_holds (k := 84) rfl rfl ?_
                  refine z_getR (b := 603) Q_X11_holds (k := 85) rfl F_X11_13 rfl (n_ hB146.1 rfl) (k_602 hB146.1) (r_602_1 hB146.1) ?_
                  refine y_sipush Q_X11_holds (k := 86) rfl (by decide) ?_
                  refine q_iald (o := 603) (N := 594) Q_X11_holds (k := 87) rfl rfl (n_ hB146.1 rfl) (k_603 hB146.1) rfl ⟨by decide, by decide⟩ (by decide) ?_
                  exact y_iret Q_X11_holds (k := 88) rfl rfl (qI_iV hB146 (hB146.2.1 _ _) h)
                · replace h := h.1 c
                  refine z_aload_n Q_X11_holds (k := 62) rfl rfl ?_
                  refine q_getI (o := 602) (z := 16) Q_X11_holds (k := 63) rfl F_X11_88 rfl rfl rfl (n_ hB140.1 rfl) (k_602 hB140.1) ?_
                  refine y_bipush Q_X11_holds (k := 64) rfl (by decide) ?_
                  obtain ⟨q147, h⟩ := h
                  refine y_isub Q_X11_holds (k := 65) rfl ?_
                  exact y_iret Q_X11_holds (k := 66) rfl rfl (qI_iV hB140 q147 h)
              · replace h := h.2 c
                refine z_aload_n Q_X11_holds (k := 50) rfl rfl ?_
                refine y_iconst Q_X11_holds (k := 51) rfl ?_
                refine z_aload_n Q_X11_holds (k := 52) rfl rfl ?_
                refine q_getI (o := 602) (z := 14) Q_X11_holds (k := 53) rfl F_X11_91 rfl rfl rfl (n_ hB139.1 rfl) (k_602 hB139.1) ?_
                refine q_callV2_uV Q_X11_holds (k := 54) rfl rfl K_X11_wrong V_X11_wrong L_X11_124 (n_ hB139.1 rfl) (k_602 hB139.1) (Nat.le_of_ble_eq_true rfl) (Nat.le_of_ble_eq_true rfl) rfl (Nat.zero_le _) (Nat.zero_le _) (w_X11_wrong (d + 124) hB139 ⟨by decide, by decide⟩ (hB139.2.1 _ _) h) (fun V148 hB148 h => ?_)
                refine z_aload_n Q_X11_holds (k := 55) rfl rfl ?_
                refine z_aload_n Q_X11_holds (k := 56) rfl rfl ?_
                refine q_getI (o := 602) (z := 15) Q_X11_holds (k := 57) rfl F_X11_85 rfl rfl rfl (n_ hB148.1 rfl) (k_602 hB148.1) ?_
                refine q_putI (o := 602) (z := 20) Q_X11_holds (k := 58) rfl F_X11_44 rfl rfl rfl (n_ hB148.1 rfl) (k_602 hB148.1) ?_
                have hB149 := qB.u (a := 602) (j := 20) (x := V148 602 15) hB148 (hB148.2.1 _ _) (Or.inl (by decide))
                refine z_aload_n Q_X11_holds (k := 59) rfl rfl ?_
                refine q_callV0_z Q_X11_holds (k := 60) rfl rfl K_X11_fine V_X11_fine L_X11_117 (n_ hB149.1 rfl) (k_602 hB149.1) (Nat.le_of_ble_eq_true rfl) (Nat.le_of_ble_eq_true rfl) rfl (Nat.zero_le _) (Nat.zero_le _) (w_X11_fine (d + 124) hB149  h) (fun r150 hz150 hb150 h => ?_)
                refine y_if_ne 123 Q_X11_holds (k := 61) rfl (by decide) hz150 (fun c => ?_) (fun c => ?_)
                · replace h := h.2 c
                  refine z_aload_n Q_X11_holds (k := 67) rfl rfl ?_
                  refine z_getR (b := 611) Q_X11_holds (k := 68) rfl F_X11_38 rfl (n_ hB149.1 rfl) (k_602 hB149.1) (r_602_9 hB149.1) ?_
                  refine z_iload_n Q_X11_holds (k := 69) rfl rfl ?_
                  refine z_aload_n Q_X11_holds (k := 70) rfl rfl ?_
                  refine q_getI (o := 602) (z := 19) Q_X11_holds (k := 71) rfl F_X11_128 rfl rfl rfl (n_ hB149.1 rfl) (k_602 hB149.1) ?_
                  refine z_aload_n Q_X11_holds (k := 72) rfl rfl ?_
                  refine q_getI (o := 602) (z := 18) Q_X11_holds (k := 73) rfl F_X11_131 rfl rfl rfl (n_ hB149.1 rfl) (k_602 hB149.1) ?_
                  obtain ⟨q151, h⟩ := h
                  refine y_iadd Q_X11_holds (k := 74) rfl ?_
                  obtain ⟨q152, h⟩ := h
                  refine q_iast (o := 611) (N := 8) Q_X11_holds (k := 75) rfl rfl (n_ hB149.1 rfl) (k_611 hB149.1) rfl q152 (by decide) ?_
                  have hB153 := qB.u (a := 611) (j := V126 603 593) (x := ((qu V148 602 20 (V148 602 15)) 602 19) + ((qu V148 602 20 (V148 602 15)) 602 18)) hB149 q151 (Or.inl (by decide))
                  refine z_aload_n Q_X11_holds (k := 76) rfl rfl ?_
                  refine z_getR (b := 603) Q_X11_holds (k := 77) rfl F_X11_13 rfl (n_ hB153.1 rfl) (k_602 hB153.1) (r_602_1 hB153.1) ?_
                  refine y_sipush Q_X11_holds (k := 78) rfl (by decide) ?_
                  refine z_dup2 Q_X11_holds (k := 79) rfl rfl rfl ?_
                  refine q_iald (o := 603) (N := 594) Q_X11_holds (k := 80) rfl rfl (n_ hB153.1 rfl) (k_603 hB153.1) rfl ⟨by decide, by decide⟩ (by decide) ?_
                  refine y_iconst Q_X11_holds (k := 81) rfl ?_
                  obtain ⟨q154, h⟩ := h
                  refine y_iadd Q_X11_holds (k := 82) rfl ?_
                  refine q_iast (o := 603) (N := 594) Q_X11_holds (k := 83) rfl rfl (n_ hB153.1 rfl) (k_603 hB153.1) rfl ⟨by decide, by decide⟩ (by decide) ?_
                  have hB155 := qB.u (a := 603) (j := 593) (x := ((qu (qu V148 602 20 (V148 602 15)) 611 (V126 603 593) (((qu V148 602 20 (V148 602 15)) 602 19) + ((qu V148 602 20 (V148 602 15)) 602 18))) 603 593) + 1) hB153 q154 (Or.inl (by decide))
                  refine z_aload_n Q_X11_holds (k := 84) rfl rfl ?_
                  refine z_getR (b := 603) Q_X11_holds (k := 85) rfl F_X11_13 rfl (n_ hB155.1 rfl) (k_602 hB155.1) (r_602_1 hB155.1) ?_
                  refine y_sipush Q_X11_holds (k := 86) rfl (by decide) ?_
                  refine q_iald (o := 603) (N := 594) Q_X11_holds (k := 87) rfl rfl (n_ hB155.1 rfl) (k_603 hB155.1) rfl ⟨by decide, by decide⟩ (by decide) ?_
                  exact y_iret Q_X11_holds (k := 88) rfl rfl (qI_iV hB155 (hB155.2.1 _ _) h)
                · replace h := h.1 c
                  refine z_aload_n Q_X11_holds (k := 62) rfl rfl ?_
                  refine q_getI (o := 602) (z := 16) Q_X11_holds (k := 63) rfl F_X11_88 rfl rfl rfl (n_ hB149.1 rfl) (k_602 hB149.1) ?_
                  refine y_bipush Q_X11_holds (k := 64) rfl (by decide) ?_
                  obtain ⟨q156, h⟩ := h
                  refine y_isub Q_X11_holds (k := 65) rfl ?_
                  exact y_iret Q_X11_holds (k := 66) rfl rfl (qI_iV hB149 q156 h)
          · replace h := h.1 c
            refine y_iconst Q_X11_holds (k := 37) rfl ?_
            exact y_iret Q_X11_holds (k := 38) rfl rfl (qI_iV hB127 ⟨by decide, by decide⟩ h)
        · replace h := h.2 c
          refine y_iconst Q_X11_holds (k := 28) rfl ?_
          refine z_iload_n Q_X11_holds (k := 29) rfl rfl ?_
          obtain ⟨q157, h⟩ := h
          refine y_iadd Q_X11_holds (k := 30) rfl ?_
          refine z_goto (tgt := 56) Q_X11_holds (k := 31) rfl (by decide) ?_
          refine q_callV2_uV Q_X11_holds (k := 33) rfl rfl K_X11_beginsReading V_X11_beginsReading L_X11_191 (n_ hB126.1 rfl) (k_602 hB126.1) (Nat.le_of_ble_eq_true rfl) (Nat.le_of_ble_eq_true rfl) rfl (Nat.zero_le _) (Nat.zero_le _) (w_X11_beginsReading (d + 124) hB126 z1 q157 h) (fun V158 hB158 h => ?_)
          refine z_iload_n Q_X11_holds (k := 34) rfl rfl ?_
          refine y_bipush Q_X11_holds (k := 35) rfl (by decide) ?_
          refine y_icmp_ne 67 Q_X11_holds (k := 36) rfl (by decide) (hB126.2.1 _ _) ⟨by decide, by decide⟩ (fun c => ?_) (fun c => ?_)
          · replace h := h.2 c
            refine z_aload_n Q_X11_holds (k := 39) rfl rfl ?_
            refine q_callV0_uV Q_X11_holds (k := 40) rfl rfl K_X11_anyOf V_X11_anyOf L_X11_175 (n_ hB158.1 rfl) (k_602 hB158.1) (Nat.le_of_ble_eq_true rfl) (Nat.le_of_ble_eq_true rfl) rfl (Nat.zero_le _) (Nat.zero_le _) (w_X11_anyOf d hB158  h) (fun V159 hB159 h => ?_)
            refine z_aload_n Q_X11_holds (k := 41) rfl rfl ?_
            refine y_bipush Q_X11_holds (k := 42) rfl (by decide) ?_
            refine q_callV1_uV Q_X11_holds (k := 43) rfl rfl K_X11_need V_X11_need L_X11_137 (n_ hB159.1 rfl) (k_602 hB159.1) (Nat.le_of_ble_eq_true rfl) (Nat.le_of_ble_eq_true rfl) rfl (Nat.zero_le _) (Nat.zero_le _) (w_X11_need (d + 123) hB159 ⟨by decide, by decide⟩ h) (fun V160 hB160 h => ?_)
            refine z_aload_n Q_X11_holds (k := 44) rfl rfl ?_
            refine q_callV0_z Q_X11_holds (k := 45) rfl rfl K_X11_fine V_X11_fine L_X11_117 (n_ hB160.1 rfl) (k_602 hB160.1) (Nat.le_of_ble_eq_true rfl) (Nat.le_of_ble_eq_true rfl) rfl (Nat.zero_le _) (Nat.zero_le _) (w_X11_fine (d + 124) hB160  h) (fun r161 hz161 hb161 h => ?_)
            refine y_if_eq 100 Q_X11_holds (k := 46) rfl (by decide) hz161 (fun c => ?_) (fun c => ?_)
            · replace h := h.1 c
              refine z_aload_n Q_X11_holds (k := 55) rfl rfl ?_
              refine z_aload_n Q_X11_holds (k := 56) rfl rfl ?_
              refine q_getI (o := 602) (z := 15) Q_X11_holds (k := 57) rfl F_X11_85 rfl rfl rfl (n_ hB160.1 rfl) (k_602 hB160.1) ?_
              refine q_putI (o := 602) (z := 20) Q_X11_holds (k := 58) rfl F_X11_44 rfl rfl rfl (n_ hB160.1 rfl) (k_602 hB160.1) ?_
              have hB162 := qB.u (a := 602) (j := 20) (x := V160 602 15) hB160 (hB160.2.1 _ _) (Or.inl (by decide))
              refine z_aload_n Q_X11_holds (k := 59) rfl rfl ?_
              refine q_callV0_z Q_X11_holds (k := 60) rfl rfl K_X11_fine V_X11_fine L_X11_117 (n_ hB162.1 rfl) (k_602 hB162.1) (Nat.le_of_ble_eq_true rfl) (Nat.le_of_ble_eq_true rfl) rfl (Nat.zero_le _) (Nat.zero_le _) (w_X11_fine (d + 124) hB162  h) (fun r163 hz163 hb163 h => ?_)
              refine y_if_ne 123 Q_X11_holds (k := 61) rfl (by decide) hz163 (fun c => ?_) (fun c => ?_)
              · replace h := h.2 c
                refine z_aload_n Q_X11_holds (k := 67) rfl rfl ?_
                refine z_getR (b := 611) Q_X11_holds (k := 68) rfl F_X11_38 rfl (n_ hB162.1 rfl) (k_602 hB162.1) (r_602_9 hB162.1) ?_
                refine z_iload_n Q_X11_holds (k := 69) rfl rfl ?_
                refine z_aload_n Q_X11_holds (k := 70) rfl rfl ?_
                refine q_getI (o := 602) (z := 19) Q_X11_holds (k := 71) rfl F_X11_128 rfl rfl rfl (n_ hB162.1 rfl) (k_602 hB162.1) ?_
                refine z_aload_n Q_X11_holds (k := 72) rfl rfl ?_
                refine q_getI (o := 602) (z := 18) Q_X11_holds (k := 73) rfl F_X11_131 rfl rfl rfl (n_ hB162.1 rfl) (k_602 hB162.1) ?_
                obtain ⟨q164, h⟩ := h
                refine y_iadd Q_X11_holds (k := 74) rfl ?_
                obtain ⟨q165, h⟩ := h
                refine q_iast (o := 611) (N := 8) Q_X11_holds (k := 75) rfl rfl (n_ hB162.1 rfl) (k_611 hB162.1) rfl q165 (by decide) ?_
                have hB166 := qB.u (a := 611) (j := V126 603 593) (x := ((qu V160 602 20 (V160 602 15)) 602 19) + ((qu V160 602 20 (V160 602 15)) 602 18)) hB162 q164 (Or.inl (by decide))
                refine z_aload_n Q_X11_holds (k := 76) rfl rfl ?_
                refine z_getR (b := 603) Q_X11_holds (k := 77) rfl F_X11_13 rfl (n_ hB166.1 rfl) (k_602 hB166.1) (r_602_1 hB166.1) ?_
                refine y_sipush Q_X11_holds (k := 78) rfl (by decide) ?_
                refine z_dup2 Q_X11_holds (k := 79) rfl rfl rfl ?_
                refine q_iald (o := 603) (N := 594) Q_X11_holds (k := 80) rfl rfl (n_ hB166.1 rfl) (k_603 hB166.1) rfl ⟨by decide, by decide⟩ (by decide) ?_
                refine y_iconst Q_X11_holds (k := 81) rfl ?_
                obtain ⟨q167, h⟩ := h
                refine y_iadd Q_X11_holds (k := 82) rfl ?_
                refine q_iast (o := 603) (N := 594) Q_X11_holds (k := 83) rfl rfl (n_ hB166.1 rfl) (k_603 hB166.1) rfl ⟨by decide, by decide⟩ (by decide) ?_
                have hB168 := qB.u (a := 603) (j := 593) (x := ((qu (qu V160 602 20 (V160 602 15)) 611 (V126 603 593) (((qu V160 602 20 (V160 602 15)) 602 19) + ((qu V160 602 20 (V160 602 15)) 602 18))) 603 593) + 1) hB166 q167 (Or.inl (by decide))
                refine z_aload_n Q_X11_holds (k := 84) rfl rfl ?_
                refine z_getR (b := 603) Q_X11_holds (k := 85) rfl F_X11_13 rfl (n_ hB168.1 rfl) (k_602 hB168.1) (r_602_1 hB168.1) ?_
                refine y_sipush Q_X11_holds (k := 86) rfl (by decide) ?_
                refine q_iald (o := 603) (N := 594) Q_X11_holds (k := 87) rfl rfl (n_ hB168.1 rfl) (k_603 hB168.1) rfl ⟨by decide, by decide⟩ (by decide) ?_
                exact y_iret Q_X11_holds (k := 88) rfl rfl (qI_iV hB168 (hB168.2.1 _ _) h)
              · replace h := h.1 c
                refine z_aload_n Q_X11_holds (k := 62) rfl rfl ?_
                refine q_getI (o := 602) (z := 16) Q_X11_holds (k := 63) rfl F_X11_88 rfl rfl rfl (n_ hB162.1 rfl) (k_602 hB162.1) ?_
                refine y_bipush Q_X11_holds (k := 64) rfl (by decide) ?_
                obtain ⟨q169, h⟩ := h
                refine y_isub Q_X11_holds (k := 65) rfl ?_
                exact y_iret Q_X11_holds (k := 66) rfl rfl (qI_iV hB162 q169 h)
            · replace h := h.2 c
              refine z_aload_n Q_X11_holds (k := 47) rfl rfl ?_
              refine q_callV0_zV Q_X11_holds (k := 48) rfl rfl K_X11_isMore V_X11_isMore L_X11_194 (n_ hB160.1 rfl) (k_602 hB160.1) (Nat.le_of_ble_eq_true rfl) (Nat.le_of_ble_eq_true rfl) rfl (Nat.zero_le _) (Nat.zero_le _) (w_X11_isMore (d + 123) hB160  h) (fun r170 V170 hB170 hz170 hb170 h => ?_)
              refine y_if_eq 100 Q_X11_holds (k := 49) rfl (by decide) hz170 (fun c => ?_) (fun c => ?_)
              · replace h := h.1 c
                refine z_aload_n Q_X11_holds (k := 55) rfl rfl ?_
                refine z_aload_n Q_X11_holds (k := 56) rfl rfl ?_
                refine q_getI (o := 602) (z := 15) Q_X11_holds (k := 57) rfl F_X11_85 rfl rfl rfl (n_ hB170.1 rfl) (k_602 hB170.1) ?_
                refine q_putI (o := 602) (z := 20) Q_X11_holds (k := 58) rfl F_X11_44 rfl rfl rfl (n_ hB170.1 rfl) (k_602 hB170.1) ?_
                have hB171 := qB.u (a := 602) (j := 20) (x := V170 602 15) hB170 (hB170.2.1 _ _) (Or.inl (by decide))
                refine z_aload_n Q_X11_holds (k := 59) rfl rfl ?_
                refine q_callV0_z Q_X11_holds (k := 60) rfl rfl K_X11_fine V_X11_fine L_X11_117 (n_ hB171.1 rfl) (k_602 hB171.1) (Nat.le_of_ble_eq_true rfl) (Nat.le_of_ble_eq_true rfl) rfl (Nat.zero_le _) (Nat.zero_le _) (w_X11_fine (d + 124) hB171  h) (fun r172 hz172 hb172 h => ?_)
                refine y_if_ne 123 Q_X11_holds (k := 61) rfl (by decide) hz172 (fun c => ?_) (fun c => ?_)
                · replace h := h.2 c
                  refine z_aload_n Q_X11_holds (k := 67) rfl rfl ?_
                  refine z_getR (b := 611) Q_X11_holds (k := 68) rfl F_X11_38 rfl (n_ hB171.1 rfl) (k_602 hB171.1) (r_602_9 hB171.1) ?_
                  refine z_iload_n Q_X11_holds (k := 69) rfl rfl ?_
                  refine z_aload_n Q_X11_holds (k := 70) rfl rfl ?_
                  refine q_getI (o := 602) (z := 19) Q_X11_holds (k := 71) rfl F_X11_128 rfl rfl rfl (n_ hB171.1 rfl) (k_602 hB171.1) ?_
                  refine z_aload_n Q_X11_holds (k := 72) rfl rfl ?_
                  refine q_getI (o := 602) (z := 18) Q_X11_holds (k := 73) rfl F_X11_131 rfl rfl rfl (n_ hB171.1 rfl) (k_602 hB171.1) ?_
                  obtain ⟨q173, h⟩ := h
                  refine y_iadd Q_X11_holds (k := 74) rfl ?_
                  obtain ⟨q174, h⟩ := h
                  refine q_iast (o := 611) (N := 8) Q_X11_holds (k := 75) rfl rfl (n_ hB171.1 rfl) (k_611 hB171.1) rfl q174 (by decide) ?_
                  have hB175 := qB.u (a := 611) (j := V126 603 593) (x := ((qu V170 602 20 (V170 602 15)) 602 19) + ((qu V170 602 20 (V170 602 15)) 602 18)) hB171 q173 (Or.inl (by decide))
                  refine z_aload_n Q_X11_holds (k := 76) rfl rfl ?_
                  refine z_getR (b := 603) Q_X11_holds (k := 77) rfl F_X11_13 rfl (n_ hB175.1 rfl) (k_602 hB175.1) (r_602_1 hB175.1) ?_
                  refine y_sipush Q_X11_holds (k := 78) rfl (by decide) ?_
                  refine z_dup2 Q_X11_holds (k := 79) rfl rfl rfl ?_
                  refine q_iald (o := 603) (N := 594) Q_X11_holds (k := 80) rfl rfl (n_ hB175.1 rfl) (k_603 hB175.1) rfl ⟨by decide, by decide⟩ (by decide) ?_
                  refine y_iconst Q_X11_holds (k := 81) rfl ?_
                  obtain ⟨q176, h⟩ := h
                  refine y_iadd Q_X11_holds (k := 82) rfl ?_
                  refine q_iast (o := 603) (N := 594) Q_X11_holds (k := 83) rfl rfl (n_ hB175.1 rfl) (k_603 hB175.1) rfl ⟨by decide, by decide⟩ (by decide) ?_
                  have hB177 := qB.u (a := 603) (j := 593) (x := ((qu (qu V170 602 20 (V170 602 15)) 611 (V126 603 593) (((qu V170 602 20 (V170 602 15)) 602 19) + ((qu V170 602 20 (V170 602 15)) 602 18))) 603 593) + 1) hB175 q176 (Or.inl (by decide))
                  refine z_aload_n Q_X11_holds (k := 84) rfl rfl ?_
                  refine z_getR (b := 603) Q_X11_holds (k := 85) rfl F_X11_13 rfl (n_ hB177.1 rfl) (k_602 hB177.1) (r_602_1 hB177.1) ?_
                  refine y_sipush Q_X11_holds (k := 86) rfl (by decide) ?_
                  refine q_iald (o := 603) (N := 594) Q_X11_holds (k := 87) rfl rfl (n_ hB177.1 rfl) (k_603 hB177.1) rfl ⟨by decide, by decide⟩ (by decide) ?_
                  exact y_iret Q_X11_holds (k := 88) rfl rfl (qI_iV hB177 (hB177.2.1 _ _) h)
                · replace h := h.1 c
                  refine z_aload_n Q_X11_holds (k := 62) rfl rfl ?_
                  refine q_getI (o := 602) (z := 16) Q_X11_holds (k := 63) rfl F_X11_88 rfl rfl rfl (n_ hB171.1 rfl) (k_602 hB171.1) ?_
                  refine y_bipush Q_X11_holds (k := 64) rfl (by decide) ?_
                  obtain ⟨q178, h⟩ := h
                  refine y_isub Q_X11_holds (k := 65) rfl ?_
                  exact y_iret Q_X11_holds (k := 66) rfl rfl (qI_iV hB171 q178 h)
              · replace h := h.2 c
                refine z_aload_n Q_X11_holds (k := 50) rfl rfl ?_
                refine y_iconst Q_X11_holds (k := 51) rfl ?_
                refine z_aload_n Q_X11_holds (k := 52) rfl rfl ?_
                refine q_getI (o := 602) (z := 14) Q_X11_holds (k := 53) rfl F_X11_91 rfl rfl rfl (n_ hB170.1 rfl) (k_602 hB170.1) ?_
                refine q_callV2_uV Q_X11_holds (k := 54) rfl rfl K_X11_wrong V_X11_wrong L_X11_124 (n_ hB170.1 rfl) (k_602 hB170.1) (Nat.le_of_ble_eq_true rfl) (Nat.le_of_ble_eq_true rfl) rfl (Nat.zero_le _) (Nat.zero_le _) (w_X11_wrong (d + 124) hB170 ⟨by decide, by decide⟩ (hB170.2.1 _ _) h) (fun V179 hB179 h => ?_)
                refine z_aload_n Q_X11_holds (k := 55) rfl rfl ?_
                refine z_aload_n Q_X11_holds (k := 56) rfl rfl ?_
                refine q_getI (o := 602) (z := 15) Q_X11_holds (k := 57) rfl F_X11_85 rfl rfl rfl (n_ hB179.1 rfl) (k_602 hB179.1) ?_
                refine q_putI (o := 602) (z := 20) Q_X11_holds (k := 58) rfl F_X11_44 rfl rfl rfl (n_ hB179.1 rfl) (k_602 hB179.1) ?_
                have hB180 := qB.u (a := 602) (j := 20) (x := V179 602 15) hB179 (hB179.2.1 _ _) (Or.inl (by decide))
                refine z_aload_n Q_X11_holds (k := 59) rfl rfl ?_
                refine q_callV0_z Q_X11_holds (k := 60) rfl rfl K_X11_fine V_X11_fine L_X11_117 (n_ hB180.1 rfl) (k_602 hB180.1) (Nat.le_of_ble_eq_true rfl) (Nat.le_of_ble_eq_true rfl) rfl (Nat.zero_le _) (Nat.zero_le _) (w_X11_fine (d + 124) hB180  h) (fun r181 hz181 hb181 h => ?_)
                refine y_if_ne 123 Q_X11_holds (k := 61) rfl (by decide) hz181 (fun c => ?_) (fun c => ?_)
                · replace h := h.2 c
                  refine z_aload_n Q_X11_holds (k := 67) rfl rfl ?_
                  refine z_getR (b := 611) Q_X11_holds (k := 68) rfl F_X11_38 rfl (n_ hB180.1 rfl) (k_602 hB180.1) (r_602_9 hB180.1) ?_
                  refine z_iload_n Q_X11_holds (k := 69) rfl rfl ?_
                  refine z_aload_n Q_X11_holds (k := 70) rfl rfl ?_
                  refine q_getI (o := 602) (z := 19) Q_X11_holds (k := 71) rfl F_X11_128 rfl rfl rfl (n_ hB180.1 rfl) (k_602 hB180.1) ?_
                  refine z_aload_n Q_X11_holds (k := 72) rfl rfl ?_
                  refine q_getI (o := 602) (z := 18) Q_X11_holds (k := 73) rfl F_X11_131 rfl rfl rfl (n_ hB180.1 rfl) (k_602 hB180.1) ?_
                  obtain ⟨q182, h⟩ := h
                  refine y_iadd Q_X11_holds (k := 74) rfl ?_
                  obtain ⟨q183, h⟩ := h
                  refine q_iast (o := 611) (N := 8) Q_X11_holds (k := 75) rfl rfl (n_ hB180.1 rfl) (k_611 hB180.1) rfl q183 (by decide) ?_
                  have hB184 := qB.u (a := 611) (j := V126 603 593) (x := ((qu V179 602 20 (V179 602 15)) 602 19) + ((qu V179 602 20 (V179 602 15)) 602 18)) hB180 q182 (Or.inl (by decide))
                  refine z_aload_n Q_X11_holds (k := 76) rfl rfl ?_
                  refine z_getR (b := 603) Q_X11_holds (k := 77) rfl F_X11_13 rfl (n_ hB184.1 rfl) (k_602 hB184.1) (r_602_1 hB184.1) ?_
                  refine y_sipush Q_X11_holds (k := 78) rfl (by decide) ?_
                  refine z_dup2 Q_X11_holds (k := 79) rfl rfl rfl ?_
                  refine q_iald (o := 603) (N := 594) Q_X11_holds (k := 80) rfl rfl (n_ hB184.1 rfl) (k_603 hB184.1) rfl ⟨by decide, by decide⟩ (by decide) ?_
                  refine y_iconst Q_X11_holds (k := 81) rfl ?_
                  obtain ⟨q185, h⟩ := h
                  refine y_iadd Q_X11_holds (k := 82) rfl ?_
                  refine q_iast (o := 603) (N := 594) Q_X11_holds (k := 83) rfl rfl (n_ hB184.1 rfl) (k_603 hB184.1) rfl ⟨by decide, by decide⟩ (by decide) ?_
                  have hB186 := qB.u (a := 603) (j := 593) (x := ((qu (qu V179 602 20 (V179 602 15)) 611 (V126 603 593) (((qu V179 602 20 (V179 602 15)) 602 19) + ((qu V179 602 20 (V179 602 15)) 602 18))) 603 593) + 1) hB184 q185 (Or.inl (by decide))
                  refine z_aload_n Q_X11_holds (k := 84) rfl rfl ?_
                  refine z_getR (b := 603) Q_X11_holds (k := 85) rfl F_X11_13 rfl (n_ hB186.1 rfl) (k_602 hB186.1) (r_602_1 hB186.1) ?_
                  refine y_sipush Q_X11_holds (k := 86) rfl (by decide) ?_
                  refine q_iald (o := 603) (N := 594) Q_X11_holds (k := 87) rfl rfl (n_ hB186.1 rfl) (k_603 hB186.1) rfl ⟨by decide, by decide⟩ (by decide) ?_
                  exact y_iret Q_X11_holds (k := 88) rfl rfl (qI_iV hB186 (hB186.2.1 _ _) h)
                · replace h := h.1 c
                  refine z_aload_n Q_X11_holds (k := 62) rfl rfl ?_
                  refine q_getI (o := 602) (z := 16) Q_X11_holds (k := 63) rfl F_X11_88 rfl rfl rfl (n_ hB180.1 rfl) (k_602 hB180.1) ?_
                  refine y_bipush Q_X11_holds (k := 64) rfl (by decide) ?_
                  obtain ⟨q187, h⟩ := h
                  refine y_isub Q_X11_holds (k := 65) rfl ?_
                  exact y_iret Q_X11_holds (k := 66) rfl rfl (qI_iV hB180 q187 h)
          · replace h := h.1 c
            refine y_iconst Q_X11_holds (k := 37) rfl ?_
            exact y_iret Q_X11_holds (k := 38) rfl rfl (qI_iV hB158 ⟨by decide, by decide⟩ h)
      · replace h := h.1 c
        refine y_iconst Q_X11_holds (k := 16) rfl ?_
        exact y_iret Q_X11_holds (k := 17) rfl rfl (qI_iV hB126 ⟨by decide, by decide⟩ h)
set_option maxHeartbeats 4000000 in
set_option maxRecDepth 20000 in
theorem w_X11_fault {S : zS} {V : qV} {J : qJ} {Q : Int → qV → Prop} (d : Nat) (hB : qB S V) (h : W_X11_fault V Q) : Z M_X11_fault d 0 0 0 [some (.ref 602)] [] S (qi V) (qj J) (qP_iV S J Q) := by
  unfold W_X11_fault at h
  refine z_aload_n Q_X11_fault (k := 0) rfl rfl ?_
  refine y_iconst Q_X11_fault (k := 1) rfl ?_
  refine q_putI (o := 602) (z := 0) Q_X11_fault (k := 2) rfl F_X11_1 rfl rfl rfl (n_ hB.1 rfl) (k_602 hB.1) ?_
  have hB1 := qB.u (a := 602) (j := 0) (x := 0) hB ⟨by decide, by decide⟩ (Or.inl (by decide))
  refine z_aload_n Q_X11_fault (k := 3) rfl rfl ?_
  refine q_getI (o := 602) (z := 20) Q_X11_fault (k := 4) rfl F_X11_44 rfl rfl rfl (n_ hB1.1 rfl) (k_602 hB1.1) ?_
  exact y_iret Q_X11_fault (k := 5) rfl rfl (qI_iV hB1 (hB1.2.1 _ _) h)
set_option maxHeartbeats 4000000 in
set_option maxRecDepth 20000 in
theorem v_X11_isSo_6 {S : zS} {J : qJ} {K : Int → Int → qV → Prop} {Q : Int → qV → Prop} {kc ks : Nat} (d : Nat) {l2 : Int} (z2 : zr l2) {l3 : Int} (z3 : zr l3) (hK : ∀ (l4 : Int) (l5 : Int) (V : qV), qB S V → zr l4 → zr l5 → K l4 l5 V → Z M_X11_isSo d kc ks 268 [some (.ref 602), none, some (.int (iI l2)), some (.int (iI l3)), some (.int (iI l4)), some (.int (iI l5)), none, none, none] [] S (qi V) (qj J) (qP_zV S J Q)) : ∀ (f : Nat) (l4 : Int) (l5 : Int) (V : qV), qB S V → zr l4 → zr l5 → lp_X11_isSo_6 l2 l3 K f l4 l5 V → Z M_X11_isSo d kc ks 6 [some (.ref 602), none, some (.int (iI l2)), some (.int (iI l3)), some (.int (iI l4)), some (.int (iI l5)), none, none, none] [] S (qi V) (qj J) (qP_zV S J Q) := by
  intro f
  induction f with
  | zero =>
    intro l4 l5 V hB z4 z5 h
    exact h.elim
  | succ f ih =>
    intro l4 l5 V hB z4 z5 h
    rw [lp_X11_isSo_6] at h
    refine z_iload Q_X11_isSo (k := 4) rfl rfl ?_
    refine z_iload_n Q_X11_isSo (k := 5) rfl rfl ?_
    refine y_icmp_ge 268 Q_X11_isSo (k := 6) rfl (by decide) z5 z2 (fun c => ?_) (fun c => ?_)
    · replace h := h.1 c
      exact y_fg (zsb_c rfl (zsb_n (zsb_c rfl (zsb_c rfl (zsb_c rfl (zsb_c rfl (zsb_n (zsb_n (zsb_n zsb_e))))))))) (hK l4 l5 V hB z4 z5 h)
    · replace h := h.2 c
      refine z_aload_n Q_X11_isSo (k := 7) rfl rfl ?_
      refine z_getR (b := 604) Q_X11_isSo (k := 8) rfl F_X11_17 rfl (n_ hB.1 rfl) (k_602 hB.1) (r_602_2 hB.1) ?_
      refine z_iload Q_X11_isSo (k := 9) rfl rfl ?_
      obtain ⟨q1, h⟩ := h
      refine q_iald (o := 604) (N := 4620) Q_X11_isSo (k := 10) rfl rfl (n_ hB.1 rfl) (k_604 hB.1) rfl q1 (by decide) ?_
      refine y_istore (L' := [some (.ref 602), none, some (.int (iI l2)), some (.int (iI l3)), some (.int (iI l4)), some (.int (iI l5)), some (.int (iI (V 604 l5))), none, none]) Q_X11_isSo (k := 11) rfl (by decide) rfl ?_
      refine z_iload Q_X11_isSo (k := 12) rfl rfl ?_
      refine y_iconst Q_X11_isSo (k := 13) rfl ?_
      refine y_icmp_gt 87 Q_X11_isSo (k := 14) rfl (by decide) (hB.2.1 _ _) ⟨by decide, by decide⟩ (fun c => ?_) (fun c => ?_)
      · replace h := h.1 c
        refine z_iload Q_X11_isSo (k := 47) rfl rfl ?_
        refine y_bipush Q_X11_isSo (k := 48) rfl (by decide) ?_
        refine y_icmp_ne 117 Q_X11_isSo (k := 49) rfl (by decide) (hB.2.1 _ _) ⟨by decide, by decide⟩ (fun c => ?_) (fun c => ?_)
        · replace h := h.2 c
          obtain ⟨q2, h⟩ := h
          refine y_iinc (L' := [some (.ref 602), none, some (.int (iI l2)), some (.int (iI l3)), some (.int (iI (l4 + (-1)))), some (.int (iI l5)), some (.int (iI (V 604 l5))), none, none]) Q_X11_isSo (k := 65) rfl (by decide) rfl rfl ?_
          refine z_aload_n Q_X11_isSo (k := 66) rfl rfl ?_
          refine z_getR (b := 615) Q_X11_isSo (k := 67) rfl F_X11_53 rfl (n_ hB.1 rfl) (k_602 hB.1) (r_602_23 hB.1) ?_
          refine z_iload Q_X11_isSo (k := 68) rfl rfl ?_
          refine y_iconst Q_X11_isSo (k := 69) rfl ?_
          obtain ⟨q3, h⟩ := h
          refine y_isub Q_X11_isSo (k := 70) rfl ?_
          obtain ⟨q4, h⟩ := h
          refine q_iald (o := 615) (N := 210) Q_X11_isSo (k := 71) rfl rfl (n_ hB.1 rfl) (k_615 hB.1) rfl q4 (by decide) ?_
          refine y_istore (L' := [some (.ref 602), none, some (.int (iI l2)), some (.int (iI l3)), some (.int (iI (l4 + (-1)))), some (.int (iI l5)), some (.int (iI (V 604 l5))), some (.int (iI (V 615 ((l4 + (-1)) - 1)))), none]) Q_X11_isSo (k := 72) rfl (by decide) rfl ?_
          refine z_aload_n Q_X11_isSo (k := 73) rfl rfl ?_
          refine z_getR (b := 615) Q_X11_isSo (k := 74) rfl F_X11_53 rfl (n_ hB.1 rfl) (k_602 hB.1) (r_602_23 hB.1) ?_
          refine z_iload Q_X11_isSo (k := 75) rfl rfl ?_
          obtain ⟨q5, h⟩ := h
          refine q_iald (o := 615) (N := 210) Q_X11_isSo (k := 76) rfl rfl (n_ hB.1 rfl) (k_615 hB.1) rfl q5 (by decide) ?_
          refine y_istore (L' := [some (.ref 602), none, some (.int (iI l2)), some (.int (iI l3)), some (.int (iI (l4 + (-1)))), some (.int (iI l5)), some (.int (iI (V 604 l5))), some (.int (iI (V 615 ((l4 + (-1)) - 1)))), some (.int (iI (V 615 (l4 + (-1)))))]) Q_X11_isSo (k := 77) rfl (by decide) rfl ?_
          refine z_aload_n Q_X11_isSo (k := 78) rfl rfl ?_
          refine z_getR (b := 615) Q_X11_isSo (k := 79) rfl F_X11_53 rfl (n_ hB.1 rfl) (k_602 hB.1) (r_602_23 hB.1) ?_
          refine z_iload Q_X11_isSo (k := 80) rfl rfl ?_
          refine y_iconst Q_X11_isSo (k := 81) rfl ?_
          obtain ⟨q6, h⟩ := h
          refine y_isub Q_X11_isSo (k := 82) rfl ?_
          refine z_iload Q_X11_isSo (k := 83) rfl rfl ?_
          refine y_iconst Q_X11_isSo (k := 84) rfl ?_
          refine y_icmp_ne 162 Q_X11_isSo (k := 85) rfl (by decide) (hB.2.1 _ _) ⟨by decide, by decide⟩ (fun c => ?_) (fun c => ?_)
          · replace h := h.2 c
            refine z_iload Q_X11_isSo (k := 90) rfl rfl ?_
            refine y_iconst Q_X11_isSo (k := 91) rfl ?_
            refine y_icmp_ne 176 Q_X11_isSo (k := 92) rfl (by decide) (hB.2.1 _ _) ⟨by decide, by decide⟩ (fun c => ?_) (fun c => ?_)
            · replace h := h.2 c
              refine z_iload Q_X11_isSo (k := 97) rfl rfl ?_
              refine y_iconst Q_X11_isSo (k := 98) rfl ?_
              refine y_icmp_ne 197 Q_X11_isSo (k := 99) rfl (by decide) (hB.2.1 _ _) ⟨by decide, by decide⟩ (fun c => ?_) (fun c => ?_)
              · replace h := h.2 c
                refine z_iload Q_X11_isSo (k := 107) rfl rfl ?_
                refine y_bipush Q_X11_isSo (k := 108) rfl (by decide) ?_
                refine y_icmp_ne 219 Q_X11_isSo (k := 109) rfl (by decide) (hB.2.1 _ _) ⟨by decide, by decide⟩ (fun c => ?_) (fun c => ?_)
                · replace h := h.2 c
                  refine z_iload Q_X11_isSo (k := 117) rfl rfl ?_
                  refine y_bipush Q_X11_isSo (k := 118) rfl (by decide) ?_
                  refine y_icmp_ne 241 Q_X11_isSo (k := 119) rfl (by decide) (hB.2.1 _ _) ⟨by decide, by decide⟩ (fun c => ?_) (fun c => ?_)
                  · replace h := h.2 c
                    refine z_iload Q_X11_isSo (k := 127) rfl rfl ?_
                    refine y_bipush Q_X11_isSo (k := 128) rfl (by decide) ?_
                    refine y_icmp_ne 256 Q_X11_isSo (k := 129) rfl (by decide) (hB.2.1 _ _) ⟨by decide, by decide⟩ (fun c => ?_) (fun c => ?_)
                    · replace h := h.2 c
                      refine z_iload Q_X11_isSo (k := 134) rfl rfl ?_
                      refine z_iload Q_X11_isSo (k := 135) rfl rfl ?_
                      refine y_iand Q_X11_isSo (k := 136) rfl ?_
                      obtain ⟨q7, h⟩ := h
                      refine q_iast (o := 615) (N := 210) Q_X11_isSo (k := 137) rfl rfl (n_ hB.1 rfl) (k_615 hB.1) rfl q7 (by decide) ?_
                      have hB8 := qB.u (a := 615) (j := (l4 + (-1)) - 1) (x := zand (V 615 ((l4 + (-1)) - 1)) (V 615 (l4 + (-1)))) hB (zand_r _ _) (Or.inl (by decide))
                      obtain ⟨q9, h⟩ := h
                      refine y_iinc (L' := [some (.ref 602), none, some (.int (iI l2)), some (.int (iI l3)), some (.int (iI (l4 + (-1)))), some (.int (iI (l5 + 1))), some (.int (iI (V 604 l5))), some (.int (iI (V 615 ((l4 + (-1)) - 1)))), some (.int (iI (V 615 (l4 + (-1)))))]) Q_X11_isSo (k := 138) rfl (by decide) rfl rfl ?_
                      refine z_goto (tgt := 6) Q_X11_isSo (k := 139) rfl (by decide) ?_
                      exact y_fg (zsb_c rfl (zsb_n (zsb_c rfl (zsb_c rfl (zsb_c rfl (zsb_c rfl (zsb_n (zsb_n (zsb_n zsb_e))))))))) (ih (l4 + (-1)) (l5 + 1) (qu V 615 ((l4 + (-1)) - 1) (zand (V 615 ((l4 + (-1)) - 1)) (V 615 (l4 + (-1))))) hB8 q2 q9 h)
                    · replace h := h.1 c
                      refine z_iload Q_X11_isSo (k := 130) rfl rfl ?_
                      refine z_iload Q_X11_isSo (k := 131) rfl rfl ?_
                      refine y_ior Q_X11_isSo (k := 132) rfl ?_
                      refine z_goto (tgt := 261) Q_X11_isSo (k := 133) rfl (by decide) ?_
                      obtain ⟨q10, h⟩ := h
                      refine q_iast (o := 615) (N := 210) Q_X11_isSo (k := 137) rfl rfl (n_ hB.1 rfl) (k_615 hB.1) rfl q10 (by decide) ?_
                      have hB11 := qB.u (a := 615) (j := (l4 + (-1)) - 1) (x := zor (V 615 ((l4 + (-1)) - 1)) (V 615 (l4 + (-1)))) hB (zor_r _ _) (Or.inl (by decide))
                      obtain ⟨q12, h⟩ := h
                      refine y_iinc (L' := [some (.ref 602), none, some (.int (iI l2)), some (.int (iI l3)), some (.int (iI (l4 + (-1)))), some (.int (iI (l5 + 1))), some (.int (iI (V 604 l5))), some (.int (iI (V 615 ((l4 + (-1)) - 1)))), some (.int (iI (V 615 (l4 + (-1)))))]) Q_X11_isSo (k := 138) rfl (by decide) rfl rfl ?_
                      refine z_goto (tgt := 6) Q_X11_isSo (k := 139) rfl (by decide) ?_
                      exact y_fg (zsb_c rfl (zsb_n (zsb_c rfl (zsb_c rfl (zsb_c rfl (zsb_c rfl (zsb_n (zsb_n (zsb_n zsb_e))))))))) (ih (l4 + (-1)) (l5 + 1) (qu V 615 ((l4 + (-1)) - 1) (zor (V 615 ((l4 + (-1)) - 1)) (V 615 (l4 + (-1))))) hB11 q2 q12 h)
                  · replace h := h.1 c
                    refine z_iload Q_X11_isSo (k := 120) rfl rfl ?_
                    refine z_iload Q_X11_isSo (k := 121) rfl rfl ?_
                    refine y_icmp_ne 237 Q_X11_isSo (k := 122) rfl (by decide) (hB.2.1 _ _) (hB.2.1 _ _) (fun c => ?_) (fun c => ?_)
                    · replace h := h.2 c
                      refine y_iconst Q_X11_isSo (k := 125) rfl ?_
                      refine z_goto (tgt := 261) Q_X11_isSo (k := 126) rfl (by decide) ?_
                      obtain ⟨q13, h⟩ := h
                      refine q_iast (o := 615) (N := 210) Q_X11_isSo (k := 137) rfl rfl (n_ hB.1 rfl) (k_615 hB.1) rfl q13 (by decide) ?_
                      have hB14 := qB.u (a := 615) (j := (l4 + (-1)) - 1) (x := 0) hB ⟨by decide, by decide⟩ (Or.inl (by decide))
                      obtain ⟨q15, h⟩ := h
                      refine y_iinc (L' := [some (.ref 602), none, some (.int (iI l2)), some (.int (iI l3)), some (.int (iI (l4 + (-1)))), some (.int (iI (l5 + 1))), some (.int (iI (V 604 l5))), some (.int (iI (V 615 ((l4 + (-1)) - 1)))), some (.int (iI (V 615 (l4 + (-1)))))]) Q_X11_isSo (k := 138) rfl (by decide) rfl rfl ?_
                      refine z_goto (tgt := 6) Q_X11_isSo (k := 139) rfl (by decide) ?_
                      exact y_fg (zsb_c rfl (zsb_n (zsb_c rfl (zsb_c rfl (zsb_c rfl (zsb_c rfl (zsb_n (zsb_n (zsb_n zsb_e))))))))) (ih (l4 + (-1)) (l5 + 1) (qu V 615 ((l4 + (-1)) - 1) 0) hB14 q2 q15 h)
                    · replace h := h.1 c
                      refine y_iconst Q_X11_isSo (k := 123) rfl ?_
                      refine z_goto (tgt := 261) Q_X11_isSo (k := 124) rfl (by decide) ?_
                      obtain ⟨q16, h⟩ := h
                      refine q_iast (o := 615) (N := 210) Q_X11_isSo (k := 137) rfl rfl (n_ hB.1 rfl) (k_615 hB.1) rfl q16 (by decide) ?_
                      have hB17 := qB.u (a := 615) (j := (l4 + (-1)) - 1) (x := 1) hB ⟨by decide, by decide⟩ (Or.inl (by decide))
                      obtain ⟨q18, h⟩ := h
                      refine y_iinc (L' := [some (.ref 602), none, some (.int (iI l2)), some (.int (iI l3)), some (.int (iI (l4 + (-1)))), some (.int (iI (l5 + 1))), some (.int (iI (V 604 l5))), some (.int (iI (V 615 ((l4 + (-1)) - 1)))), some (.int (iI (V 615 (l4 + (-1)))))]) Q_X11_isSo (k := 138) rfl (by decide) rfl rfl ?_
                      refine z_goto (tgt := 6) Q_X11_isSo (k := 139) rfl (by decide) ?_
                      exact y_fg (zsb_c rfl (zsb_n (zsb_c rfl (zsb_c rfl (zsb_c rfl (zsb_c rfl (zsb_n (zsb_n (zsb_n zsb_e))))))))) (ih (l4 + (-1)) (l5 + 1) (qu V 615 ((l4 + (-1)) - 1) 1) hB17 q2 q18 h)
                · replace h := h.1 c
                  refine z_iload Q_X11_isSo (k := 110) rfl rfl ?_
                  refine z_iload Q_X11_isSo (k := 111) rfl rfl ?_
                  refine y_icmp_le 215 Q_X11_isSo (k := 112) rfl (by decide) (hB.2.1 _ _) (hB.2.1 _ _) (fun c => ?_) (fun c => ?_)
                  · replace h := h.1 c
                    refine y_iconst Q_X11_isSo (k := 115) rfl ?_
                    refine z_goto (tgt := 261) Q_X11_isSo (k := 116) rfl (by decide) ?_
                    obtain ⟨q19, h⟩ := h
                    refine q_iast (o := 615) (N := 210) Q_X11_isSo (k := 137) rfl rfl (n_ hB.1 rfl) (k_615 hB.1) rfl q19 (by decide) ?_
                    have hB20 := qB.u (a := 615) (j := (l4 + (-1)) - 1) (x := 0) hB ⟨by decide, by decide⟩ (Or.inl (by decide))
                    obtain ⟨q21, h⟩ := h
                    refine y_iinc (L' := [some (.ref 602), none, some (.int (iI l2)), some (.int (iI l3)), some (.int (iI (l4 + (-1)))), some (.int (iI (l5 + 1))), some (.int (iI (V 604 l5))), some (.int (iI (V 615 ((l4 + (-1)) - 1)))), some (.int (iI (V 615 (l4 + (-1)))))]) Q_X11_isSo (k := 138) rfl (by decide) rfl rfl ?_
                    refine z_goto (tgt := 6) Q_X11_isSo (k := 139) rfl (by decide) ?_
                    exact y_fg (zsb_c rfl (zsb_n (zsb_c rfl (zsb_c rfl (zsb_c rfl (zsb_c rfl (zsb_n (zsb_n (zsb_n zsb_e))))))))) (ih (l4 + (-1)) (l5 + 1) (qu V 615 ((l4 + (-1)) - 1) 0) hB20 q2 q21 h)
                  · replace h := h.2 c
                    refine y_iconst Q_X11_isSo (k := 113) rfl ?_
                    refine z_goto (tgt := 261) Q_X11_isSo (k := 114) rfl (by decide) ?_
                    obtain ⟨q22, h⟩ := h
                    refine q_iast (o := 615) (N := 210) Q_X11_isSo (k := 137) rfl rfl (n_ hB.1 rfl) (k_615 hB.1) rfl q22 (by decide) ?_
                    have hB23 := qB.u (a := 615) (j := (l4 + (-1)) - 1) (x := 1) hB ⟨by decide, by decide⟩ (Or.inl (by decide))
                    obtain ⟨q24, h⟩ := h
                    refine y_iinc (L' := [some (.ref 602), none, some (.int (iI l2)), some (.int (iI l3)), some (.int (iI (l4 + (-1)))), some (.int (iI (l5 + 1))), some (.int (iI (V 604 l5))), some (.int (iI (V 615 ((l4 + (-1)) - 1)))), some (.int (iI (V 615 (l4 + (-1)))))]) Q_X11_isSo (k := 138) rfl (by decide) rfl rfl ?_
                    refine z_goto (tgt := 6) Q_X11_isSo (k := 139) rfl (by decide) ?_
                    exact y_fg (zsb_c rfl (zsb_n (zsb_c rfl (zsb_c rfl (zsb_c rfl (zsb_c rfl (zsb_n (zsb_n (zsb_n zsb_e))))))))) (ih (l4 + (-1)) (l5 + 1) (qu V 615 ((l4 + (-1)) - 1) 1) hB23 q2 q24 h)
              · replace h := h.1 c
                refine z_iload Q_X11_isSo (k := 100) rfl rfl ?_
                refine z_iload Q_X11_isSo (k := 101) rfl rfl ?_
                refine y_icmp_ge 193 Q_X11_isSo (k := 102) rfl (by decide) (hB.2.1 _ _) (hB.2.1 _ _) (fun c => ?_) (fun c => ?_)
                · replace h := h.1 c
                  refine y_iconst Q_X11_isSo (k := 105) rfl ?_
                  refine z_goto (tgt := 261) Q_X11_isSo (k := 106) rfl (by decide) ?_
                  obtain ⟨q25, h⟩ := h
                  refine q_iast (o := 615) (N := 210) Q_X11_isSo (k := 137) rfl rfl (n_ hB.1 rfl) (k_615 hB.1) rfl q25 (by decide) ?_
                  have hB26 := qB.u (a := 615) (j := (l4 + (-1)) - 1) (x := 0) hB ⟨by decide, by decide⟩ (Or.inl (by decide))
                  obtain ⟨q27, h⟩ := h
                  refine y_iinc (L' := [some (.ref 602), none, some (.int (iI l2)), some (.int (iI l3)), some (.int (iI (l4 + (-1)))), some (.int (iI (l5 + 1))), some (.int (iI (V 604 l5))), some (.int (iI (V 615 ((l4 + (-1)) - 1)))), some (.int (iI (V 615 (l4 + (-1)))))]) Q_X11_isSo (k := 138) rfl (by decide) rfl rfl ?_
                  refine z_goto (tgt := 6) Q_X11_isSo (k := 139) rfl (by decide) ?_
                  exact y_fg (zsb_c rfl (zsb_n (zsb_c rfl (zsb_c rfl (zsb_c rfl (zsb_c rfl (zsb_n (zsb_n (zsb_n zsb_e))))))))) (ih (l4 + (-1)) (l5 + 1) (qu V 615 ((l4 + (-1)) - 1) 0) hB26 q2 q27 h)
                · replace h := h.2 c
                  refine y_iconst Q_X11_isSo (k := 103) rfl ?_
                  refine z_goto (tgt := 261) Q_X11_isSo (k := 104) rfl (by decide) ?_
                  obtain ⟨q28, h⟩ := h
                  refine q_iast (o := 615) (N := 210) Q_X11_isSo (k := 137) rfl rfl (n_ hB.1 rfl) (k_615 hB.1) rfl q28 (by decide) ?_
                  have hB29 := qB.u (a := 615) (j := (l4 + (-1)) - 1) (x := 1) hB ⟨by decide, by decide⟩ (Or.inl (by decide))
                  obtain ⟨q30, h⟩ := h
                  refine y_iinc (L' := [some (.ref 602), none, some (.int (iI l2)), some (.int (iI l3)), some (.int (iI (l4 + (-1)))), some (.int (iI (l5 + 1))), some (.int (iI (V 604 l5))), some (.int (iI (V 615 ((l4 + (-1)) - 1)))), some (.int (iI (V 615 (l4 + (-1)))))]) Q_X11_isSo (k := 138) rfl (by decide) rfl rfl ?_
                  refine z_goto (tgt := 6) Q_X11_isSo (k := 139) rfl (by decide) ?_
                  exact y_fg (zsb_c rfl (zsb_n (zsb_c rfl (zsb_c rfl (zsb_c rfl (zsb_c rfl (zsb_n (zsb_n (zsb_n zsb_e))))))))) (ih (l4 + (-1)) (l5 + 1) (qu V 615 ((l4 + (-1)) - 1) 1) hB29 q2 q30 h)
            · replace h := h.1 c
              refine z_iload Q_X11_isSo (k := 93) rfl rfl ?_
              refine z_iload Q_X11_isSo (k := 94) rfl rfl ?_
              refine y_isub Q_X11_isSo (k := 95) rfl (qw_as ?_)
              refine z_goto (tgt := 261) Q_X11_isSo (k := 96) rfl (by decide) ?_
              obtain ⟨q31, h⟩ := h
              refine q_iast (o := 615) (N := 210) Q_X11_isSo (k := 137) rfl rfl (n_ hB.1 rfl) (k_615 hB.1) rfl q31 (by decide) ?_
              have hB32 := qB.u (a := 615) (j := (l4 + (-1)) - 1) (x := qw ((V 615 ((l4 + (-1)) - 1)) - (V 615 (l4 + (-1))))) hB (qw_r _) (Or.inl (by decide))
              obtain ⟨q33, h⟩ := h
              refine y_iinc (L' := [some (.ref 602), none, some (.int (iI l2)), some (.int (iI l3)), some (.int (iI (l4 + (-1)))), some (.int (iI (l5 + 1))), some (.int (iI (V 604 l5))), some (.int (iI (V 615 ((l4 + (-1)) - 1)))), some (.int (iI (V 615 (l4 + (-1)))))]) Q_X11_isSo (k := 138) rfl (by decide) rfl rfl ?_
              refine z_goto (tgt := 6) Q_X11_isSo (k := 139) rfl (by decide) ?_
              exact y_fg (zsb_c rfl (zsb_n (zsb_c rfl (zsb_c rfl (zsb_c rfl (zsb_c rfl (zsb_n (zsb_n (zsb_n zsb_e))))))))) (ih (l4 + (-1)) (l5 + 1) (qu V 615 ((l4 + (-1)) - 1) (qw ((V 615 ((l4 + (-1)) - 1)) - (V 615 (l4 + (-1)))))) hB32 q2 q33 h)
          · replace h := h.1 c
            refine z_iload Q_X11_isSo (k := 86) rfl rfl ?_
            refine z_iload Q_X11_isSo (k := 87) rfl rfl ?_
            refine y_iadd Q_X11_isSo (k := 88) rfl (qw_as ?_)
            refine z_goto (tgt := 261) Q_X11_isSo (k := 89) rfl (by decide) ?_
            obtain ⟨q34, h⟩ := h
            refine q_iast (o := 615) (N := 210) Q_X11_isSo (k := 137) rfl rfl (n_ hB.1 rfl) (k_615 hB.1) rfl q34 (by decide) ?_
            have hB35 := qB.u (a := 615) (j := (l4 + (-1)) - 1) (x := qw ((V 615 ((l4 + (-1)) - 1)) + (V 615 (l4 + (-1))))) hB (qw_r _) (Or.inl (by decide))
            obtain ⟨q36, h⟩ := h
            refine y_iinc (L' := [some (.ref 602), none, some (.int (iI l2)), some (.int (iI l3)), some (.int (iI (l4 + (-1)))), some (.int (iI (l5 + 1))), some (.int (iI (V 604 l5))), some (.int (iI (V 615 ((l4 + (-1)) - 1)))), some (.int (iI (V 615 (l4 + (-1)))))]) Q_X11_isSo (k := 138) rfl (by decide) rfl rfl ?_
            refine z_goto (tgt := 6) Q_X11_isSo (k := 139) rfl (by decide) ?_
            exact y_fg (zsb_c rfl (zsb_n (zsb_c rfl (zsb_c rfl (zsb_c rfl (zsb_c rfl (zsb_n (zsb_n (zsb_n zsb_e))))))))) (ih (l4 + (-1)) (l5 + 1) (qu V 615 ((l4 + (-1)) - 1) (qw ((V 615 ((l4 + (-1)) - 1)) + (V 615 (l4 + (-1)))))) hB35 q2 q36 h)
        · replace h := h.1 c
          refine z_aload_n Q_X11_isSo (k := 50) rfl rfl ?_
          refine z_getR (b := 615) Q_X11_isSo (k := 51) rfl F_X11_53 rfl (n_ hB.1 rfl) (k_602 hB.1) (r_602_23 hB.1) ?_
          refine z_iload Q_X11_isSo (k := 52) rfl rfl ?_
          refine y_iconst Q_X11_isSo (k := 53) rfl ?_
          obtain ⟨q37, h⟩ := h
          refine y_isub Q_X11_isSo (k := 54) rfl ?_
          refine y_iconst Q_X11_isSo (k := 55) rfl ?_
          refine z_aload_n Q_X11_isSo (k := 56) rfl rfl ?_
          refine z_getR (b := 615) Q_X11_isSo (k := 57) rfl F_X11_53 rfl (n_ hB.1 rfl) (k_602 hB.1) (r_602_23 hB.1) ?_
          refine z_iload Q_X11_isSo (k := 58) rfl rfl ?_
          refine y_iconst Q_X11_isSo (k := 59) rfl ?_
          obtain ⟨q38, h⟩ := h
          refine y_isub Q_X11_isSo (k := 60) rfl ?_
          obtain ⟨q39, h⟩ := h
          refine q_iald (o := 615) (N := 210) Q_X11_isSo (k := 61) rfl rfl (n_ hB.1 rfl) (k_615 hB.1) rfl q39 (by decide) ?_
          refine y_isub Q_X11_isSo (k := 62) rfl (qw_as ?_)
          obtain ⟨q40, h⟩ := h
          refine q_iast (o := 615) (N := 210) Q_X11_isSo (k := 63) rfl rfl (n_ hB.1 rfl) (k_615 hB.1) rfl q40 (by decide) ?_
          have hB41 := qB.u (a := 615) (j := l4 - 1) (x := qw (1 - (V 615 (l4 - 1)))) hB (qw_r _) (Or.inl (by decide))
          refine z_goto (tgt := 262) Q_X11_isSo (k := 64) rfl (by decide) ?_
          obtain ⟨q42, h⟩ := h
          refine y_iinc (L' := [some (.ref 602), none, some (.int (iI l2)), some (.int (iI l3)), some (.int (iI l4)), some (.int (iI (l5 + 1))), some (.int (iI (V 604 l5))), none, none]) Q_X11_isSo (k := 138) rfl (by decide) rfl rfl ?_
          refine z_goto (tgt := 6) Q_X11_isSo (k := 139) rfl (by decide) ?_
          exact y_fg (zsb_c rfl (zsb_n (zsb_c rfl (zsb_c rfl (zsb_c rfl (zsb_c rfl (zsb_n (zsb_n (zsb_n zsb_e))))))))) (ih l4 (l5 + 1) (qu V 615 (l4 - 1) (qw (1 - (V 615 (l4 - 1))))) hB41 z4 q42 h)
      · replace h := h.2 c
        refine z_aload_n Q_X11_isSo (k := 15) rfl rfl ?_
        refine z_getR (b := 615) Q_X11_isSo (k := 16) rfl F_X11_53 rfl (n_ hB.1 rfl) (k_602 hB.1) (r_602_23 hB.1) ?_
        refine z_iload Q_X11_isSo (k := 17) rfl rfl ?_
        refine z_iload Q_X11_isSo (k := 18) rfl rfl ?_
        refine y_if_ne 48 Q_X11_isSo (k := 19) rfl (by decide) (hB.2.1 _ _) (fun c => ?_) (fun c => ?_)
        · replace h := h.2 c
          refine z_iload Q_X11_isSo (k := 25) rfl rfl ?_
          refine y_iconst Q_X11_isSo (k := 26) rfl ?_
          refine y_icmp_ne 69 Q_X11_isSo (k := 27) rfl (by decide) (hB.2.1 _ _) ⟨by decide, by decide⟩ (fun c => ?_) (fun c => ?_)
          · replace h := h.2 c
            refine z_iload_n Q_X11_isSo (k := 36) rfl rfl ?_
            refine z_aload_n Q_X11_isSo (k := 37) rfl rfl ?_
            refine z_getR (b := 605) Q_X11_isSo (k := 38) rfl F_X11_20 rfl (n_ hB.1 rfl) (k_602 hB.1) (r_602_3 hB.1) ?_
            refine z_iload Q_X11_isSo (k := 39) rfl rfl ?_
            obtain ⟨q43, h⟩ := h
            refine q_iald (o := 605) (N := 4620) Q_X11_isSo (k := 40) rfl rfl (n_ hB.1 rfl) (k_605 hB.1) rfl q43 (by decide) ?_
            refine y_ishr Q_X11_isSo (k := 41) rfl ?_
            refine y_iconst Q_X11_isSo (k := 42) rfl ?_
            refine y_iand Q_X11_isSo (k := 43) rfl ?_
            obtain ⟨q44, h⟩ := h
            refine q_iast (o := 615) (N := 210) Q_X11_isSo (k := 44) rfl rfl (n_ hB.1 rfl) (k_615 hB.1) rfl q44 (by decide) ?_
            have hB45 := qB.u (a := 615) (j := l4) (x := zand (zshr l3 (V 605 l5)) 1) hB (zand_r _ _) (Or.inl (by decide))
            obtain ⟨q46, h⟩ := h
            refine y_iinc (L' := [some (.ref 602), none, some (.int (iI l2)), some (.int (iI l3)), some (.int (iI (l4 + 1))), some (.int (iI l5)), some (.int (iI (V 604 l5))), none, none]) Q_X11_isSo (k := 45) rfl (by decide) rfl rfl ?_
            refine z_goto (tgt := 262) Q_X11_isSo (k := 46) rfl (by decide) ?_
            obtain ⟨q47, h⟩ := h
            refine y_iinc (L' := [some (.ref 602), none, some (.int (iI l2)), some (.int (iI l3)), some (.int (iI (l4 + 1))), some (.int (iI (l5 + 1))), some (.int (iI (V 604 l5))), none, none]) Q_X11_isSo (k := 138) rfl (by decide) rfl rfl ?_
            refine z_goto (tgt := 6) Q_X11_isSo (k := 139) rfl (by decide) ?_
            exact y_fg (zsb_c rfl (zsb_n (zsb_c rfl (zsb_c rfl (zsb_c rfl (zsb_c rfl (zsb_n (zsb_n (zsb_n zsb_e))))))))) (ih (l4 + 1) (l5 + 1) (qu V 615 l4 (zand (zshr l3 (V 605 l5)) 1)) hB45 q46 q47 h)
          · replace h := h.1 c
            refine z_aload_n Q_X11_isSo (k := 28) rfl rfl ?_
            refine z_getR (b := 614) Q_X11_isSo (k := 29) rfl F_X11_50 rfl (n_ hB.1 rfl) (k_602 hB.1) (r_602_22 hB.1) ?_
            refine z_aload_n Q_X11_isSo (k := 30) rfl rfl ?_
            refine z_getR (b := 605) Q_X11_isSo (k := 31) rfl F_X11_20 rfl (n_ hB.1 rfl) (k_602 hB.1) (r_602_3 hB.1) ?_
            refine z_iload Q_X11_isSo (k := 32) rfl rfl ?_
            obtain ⟨q48, h⟩ := h
            refine q_iald (o := 605) (N := 4620) Q_X11_isSo (k := 33) rfl rfl (n_ hB.1 rfl) (k_605 hB.1) rfl q48 (by decide) ?_
            obtain ⟨q49, h⟩ := h
            refine q_iald (o := 614) (N := 10) Q_X11_isSo (k := 34) rfl rfl (n_ hB.1 rfl) (k_614 hB.1) rfl q49 (by decide) ?_
            refine z_goto (tgt := 80) Q_X11_isSo (k := 35) rfl (by decide) ?_
            obtain ⟨q50, h⟩ := h
            refine q_iast (o := 615) (N := 210) Q_X11_isSo (k := 44) rfl rfl (n_ hB.1 rfl) (k_615 hB.1) rfl q50 (by decide) ?_
            have hB51 := qB.u (a := 615) (j := l4) (x := V 614 (V 605 l5)) hB (hB.2.1 _ _) (Or.inl (by decide))
            obtain ⟨q52, h⟩ := h
            refine y_iinc (L' := [some (.ref 602), none, some (.int (iI l2)), some (.int (iI l3)), some (.int (iI (l4 + 1))), some (.int (iI l5)), some (.int (iI (V 604 l5))), none, none]) Q_X11_isSo (k := 45) rfl (by decide) rfl rfl ?_
            refine z_goto (tgt := 262) Q_X11_isSo (k := 46) rfl (by decide) ?_
            obtain ⟨q53, h⟩ := h
            refine y_iinc (L' := [some (.ref 602), none, some (.int (iI l2)), some (.int (iI l3)), some (.int (iI (l4 + 1))), some (.int (iI (l5 + 1))), some (.int (iI (V 604 l5))), none, none]) Q_X11_isSo (k := 138) rfl (by decide) rfl rfl ?_
            refine z_goto (tgt := 6) Q_X11_isSo (k := 139) rfl (by decide) ?_
            exact y_fg (zsb_c rfl (zsb_n (zsb_c rfl (zsb_c rfl (zsb_c rfl (zsb_c rfl (zsb_n (zsb_n (zsb_n zsb_e))))))))) (ih (l4 + 1) (l5 + 1) (qu V 615 l4 (V 614 (V 605 l5))) hB51 q52 q53 h)
        · replace h := h.1 c
          refine z_aload_n Q_X11_isSo (k := 20) rfl rfl ?_
          refine z_getR (b := 605) Q_X11_isSo (k := 21) rfl F_X11_20 rfl (n_ hB.1 rfl) (k_602 hB.1) (r_602_3 hB.1) ?_
          refine z_iload Q_X11_isSo (k := 22) rfl rfl ?_
          obtain ⟨q54, h⟩ := h
          refine q_iald (o := 605) (N := 4620) Q_X11_isSo (k := 23) rfl rfl (n_ hB.1 rfl) (k_605 hB.1) rfl q54 (by decide) ?_
          refine z_goto (tgt := 80) Q_X11_isSo (k := 24) rfl (by decide) ?_
          obtain ⟨q55, h⟩ := h
          refine q_iast (o := 615) (N := 210) Q_X11_isSo (k := 44) rfl rfl (n_ hB.1 rfl) (k_615 hB.1) rfl q55 (by decide) ?_
          have hB56 := qB.u (a := 615) (j := l4) (x := V 605 l5) hB (hB.2.1 _ _) (Or.inl (by decide))
          obtain ⟨q57, h⟩ := h
          refine y_iinc (L' := [some (.ref 602), none, some (.int (iI l2)), some (.int (iI l3)), some (.int (iI (l4 + 1))), some (.int (iI l5)), some (.int (iI (V 604 l5))), none, none]) Q_X11_isSo (k := 45) rfl (by decide) rfl rfl ?_
          refine z_goto (tgt := 262) Q_X11_isSo (k := 46) rfl (by decide) ?_
          obtain ⟨q58, h⟩ := h
          refine y_iinc (L' := [some (.ref 602), none, some (.int (iI l2)), some (.int (iI l3)), some (.int (iI (l4 + 1))), some (.int (iI (l5 + 1))), some (.int (iI (V 604 l5))), none, none]) Q_X11_isSo (k := 138) rfl (by decide) rfl rfl ?_
          refine z_goto (tgt := 6) Q_X11_isSo (k := 139) rfl (by decide) ?_
          exact y_fg (zsb_c rfl (zsb_n (zsb_c rfl (zsb_c rfl (zsb_c rfl (zsb_c rfl (zsb_n (zsb_n (zsb_n zsb_e))))))))) (ih (l4 + 1) (l5 + 1) (qu V 615 l4 (V 605 l5)) hB56 q57 q58 h)
set_option maxHeartbeats 4000000 in
set_option maxRecDepth 20000 in
theorem w_X11_isSo {S : zS} {V : qV} {J : qJ} {Q : Int → qV → Prop} (d : Nat) (hB : qB S V) {a1 : Int} (z1 : zr a1) {a2 : Int} (z2 : zr a2) {a3 : Int} (z3 : zr a3) (h : W_X11_isSo a1 a2 a3 V Q) : Z M_X11_isSo d 0 0 0 [some (.ref 602), some (.int (iI a1)), some (.int (iI a2)), some (.int (iI a3)), none, none, none, none, none] [] S (qi V) (qj J) (qP_zV S J Q) := by
  unfold W_X11_isSo at h
  refine y_iconst Q_X11_isSo (k := 0) rfl ?_
  refine y_istore (L' := [some (.ref 602), some (.int (iI a1)), some (.int (iI a2)), some (.int (iI a3)), some (.int (iI 0)), none, none, none, none]) Q_X11_isSo (k := 1) rfl (by decide) rfl ?_
  refine z_iload_n Q_X11_isSo (k := 2) rfl rfl ?_
  refine y_istore (L' := [some (.ref 602), some (.int (iI a1)), some (.int (iI a2)), some (.int (iI a3)), some (.int (iI 0)), some (.int (iI a1)), none, none, none]) Q_X11_isSo (k := 3) rfl (by decide) rfl ?_
  refine y_fg (zsb_c rfl (zsb_n (zsb_c rfl (zsb_c rfl (zsb_c rfl (zsb_c rfl (zsb_n (zsb_n (zsb_n zsb_e))))))))) (v_X11_isSo_6 d z2 z3 (fun l4x59 l5x59 V59 hB59 zl4x59 zl5x59 h => ?_) 100000 0 a1 V hB ⟨by decide, by decide⟩ z1 h)
  refine z_aload_n Q_X11_isSo (k := 140) rfl rfl ?_
  refine z_getR (b := 615) Q_X11_isSo (k := 141) rfl F_X11_53 rfl (n_ hB59.1 rfl) (k_602 hB59.1) (r_602_23 hB59.1) ?_
  refine y_iconst Q_X11_isSo (k := 142) rfl ?_
  refine q_iald (o := 615) (N := 210) Q_X11_isSo (k := 143) rfl rfl (n_ hB59.1 rfl) (k_615 hB59.1) rfl ⟨by decide, by decide⟩ (by decide) ?_
  refine y_iconst Q_X11_isSo (k := 144) rfl ?_
  refine y_icmp_ne 282 Q_X11_isSo (k := 145) rfl (by decide) (hB59.2.1 _ _) ⟨by decide, by decide⟩ (fun c => ?_) (fun c => ?_)
  · replace h := h.2 c
    refine y_iconst Q_X11_isSo (k := 148) rfl ?_
    exact y_zret Q_X11_isSo (k := 149) rfl rfl (Or.inl rfl) (qI_zV hB59 ⟨by decide, by decide⟩ (Or.inl rfl) h)
  · replace h := h.1 c
    refine y_iconst Q_X11_isSo (k := 146) rfl ?_
    refine z_goto (tgt := 283) Q_X11_isSo (k := 147) rfl (by decide) ?_
    exact y_zret Q_X11_isSo (k := 149) rfl rfl (Or.inr rfl) (qI_zV hB59 ⟨by decide, by decide⟩ (Or.inr rfl) h)
set_option maxHeartbeats 4000000 in
set_option maxRecDepth 20000 in
theorem v_X11_findWorlds_7 {S : zS} {J : qJ} {K : Int → qV → Prop} {Q : qV → Prop} {kc ks : Nat} (d : Nat) (hK : ∀ (l1 : Int) (V : qV), qB S V → zr l1 → K l1 V → Z M_X11_findWorlds (d + 1) kc ks 26 [some (.ref 602), some (.int (iI l1)), none, none] [] S (qi V) (qj J) (qP_uV S J Q)) : ∀ (f : Nat) (l1 : Int) (V : qV), qB S V → zr l1 → lp_X11_findWorlds_7 K f l1 V → Z M_X11_findWorlds (d + 1) kc ks 7 [some (.ref 602), some (.int (iI l1)), none, none] [] S (qi V) (qj J) (qP_uV S J Q) := by
  intro f
  induction f with
  | zero =>
    intro l1 V hB z1 h
    exact h.elim
  | succ f ih =>
    intro l1 V hB z1 h
    rw [lp_X11_findWorlds_7] at h
    refine z_iload_n Q_X11_findWorlds (k := 5) rfl rfl ?_
    refine y_bipush Q_X11_findWorlds (k := 6) rfl (by decide) ?_
    refine y_icmp_ge 26 Q_X11_findWorlds (k := 7) rfl (by decide) z1 ⟨by decide, by decide⟩ (fun c => ?_) (fun c => ?_)
    · replace h := h.1 c
      exact y_fg (zsb_c rfl (zsb_c rfl (zsb_n (zsb_n zsb_e)))) (hK l1 V hB z1 h)
    · replace h := h.2 c
      refine z_aload_n Q_X11_findWorlds (k := 8) rfl rfl ?_
      refine z_getR (b := 614) Q_X11_findWorlds (k := 9) rfl F_X11_50 rfl (n_ hB.1 rfl) (k_602 hB.1) (r_602_22 hB.1) ?_
      refine z_iload_n Q_X11_findWorlds (k := 10) rfl rfl ?_
      refine y_iconst Q_X11_findWorlds (k := 11) rfl ?_
      obtain ⟨q2, h⟩ := h
      refine q_iast (o := 614) (N := 10) Q_X11_findWorlds (k := 12) rfl rfl (n_ hB.1 rfl) (k_614 hB.1) rfl q2 (by decide) ?_
      have hB3 := qB.u (a := 614) (j := l1) (x := 0) hB ⟨by decide, by decide⟩ (Or.inl (by decide))
      obtain ⟨q4, h⟩ := h
      refine y_iinc (L' := [some (.ref 602), some (.int (iI (l1 + 1))), none, none]) Q_X11_findWorlds (k := 13) rfl (by decide) rfl rfl ?_
      refine z_goto (tgt := 7) Q_X11_findWorlds (k := 14) rfl (by decide) ?_
      exact y_fg (zsb_c rfl (zsb_c rfl (zsb_n (zsb_n zsb_e)))) (ih (l1 + 1) (qu V 614 l1 0) hB3 q4 h)
set_option maxHeartbeats 4000000 in
set_option maxRecDepth 20000 in
theorem v_X11_findWorlds_39 {S : zS} {V : qV} {J : qJ} {K : Int → Int → Prop} {Q : qV → Prop} {kc ks : Nat} (d : Nat) (hB : qB S V) {l1 : Int} (z1 : zr l1) (hK : ∀ (l2 : Int) (l3 : Int), zr l2 → zr l3 → K l2 l3 → Z M_X11_findWorlds (d + 1) kc ks 89 [some (.ref 602), some (.int (iI l1)), some (.int (iI l2)), some (.int (iI l3))] [] S (qi V) (qj J) (qP_uV S J Q)) : ∀ (f : Nat) (l2 : Int) (l3 : Int), zr l2 → zr l3 → lp_X11_findWorlds_39 l1 V K f l2 l3 → Z M_X11_findWorlds (d + 1) kc ks 39 [some (.ref 602), some (.int (iI l1)), some (.int (iI l2)), some (.int (iI l3))] [] S (qi V) (qj J) (qP_uV S J Q) := by
  intro f
  induction f with
  | zero =>
    intro l2 l3 z2 z3 h
    exact h.elim
  | succ f ih =>
    intro l2 l3 z2 z3 h
    rw [lp_X11_findWorlds_39] at h
    refine z_iload_n Q_X11_findWorlds (k := 24) rfl rfl ?_
    refine y_bipush Q_X11_findWorlds (k := 25) rfl (by decide) ?_
    refine y_icmp_ge 89 Q_X11_findWorlds (k := 26) rfl (by decide) z3 ⟨by decide, by decide⟩ (fun c => ?_) (fun c => ?_)
    · replace h := h.1 c
      exact y_fg (zsb_c rfl (zsb_c rfl (zsb_c rfl (zsb_c rfl zsb_e)))) (hK l2 l3 z2 z3 h)
    · replace h := h.2 c
      refine z_iload_n Q_X11_findWorlds (k := 27) rfl rfl ?_
      refine y_if_eq 81 Q_X11_findWorlds (k := 28) rfl (by decide) z2 (fun c => ?_) (fun c => ?_)
      · replace h := h.1 c
        refine y_iconst Q_X11_findWorlds (k := 51) rfl ?_
        refine y_istore_n (L' := [some (.ref 602), some (.int (iI l1)), some (.int (iI 0)), some (.int (iI l3))]) Q_X11_findWorlds (k := 52) rfl (by decide) rfl ?_
        obtain ⟨q6, h⟩ := h
        refine y_iinc (L' := [some (.ref 602), some (.int (iI l1)), some (.int (iI 0)), some (.int (iI (l3 + 1)))]) Q_X11_findWorlds (k := 53) rfl (by decide) rfl rfl ?_
        refine z_goto (tgt := 39) Q_X11_findWorlds (k := 54) rfl (by decide) ?_
        exact y_fg (zsb_c rfl (zsb_c rfl (zsb_c rfl (zsb_c rfl zsb_e)))) (ih 0 (l3 + 1) ⟨by decide, by decide⟩ q6 h)
      · replace h := h.2 c
        refine z_aload_n Q_X11_findWorlds (k := 29) rfl rfl ?_
        refine z_getR (b := 603) Q_X11_findWorlds (k := 30) rfl F_X11_13 rfl (n_ hB.1 rfl) (k_602 hB.1) (r_602_1 hB.1) ?_
        refine y_iconst Q_X11_findWorlds (k := 31) rfl ?_
        refine z_iload_n Q_X11_findWorlds (k := 32) rfl rfl ?_
        obtain ⟨q7, h⟩ := h
        refine y_iadd Q_X11_findWorlds (k := 33) rfl ?_
        obtain ⟨q8, h⟩ := h
        refine q_iald (o := 603) (N := 594) Q_X11_findWorlds (k := 34) rfl rfl (n_ hB.1 rfl) (k_603 hB.1) rfl q8 (by decide) ?_
        refine y_iconst Q_X11_findWorlds (k := 35) rfl ?_
        refine y_icmp_eq 77 Q_X11_findWorlds (k := 36) rfl (by decide) (hB.2.1 _ _) ⟨by decide, by decide⟩ (fun c => ?_) (fun c => ?_)
        · replace h := h.1 c
          refine y_iconst Q_X11_findWorlds (k := 49) rfl ?_
          refine z_goto (tgt := 82) Q_X11_findWorlds (k := 50) rfl (by decide) ?_
          refine y_istore_n (L' := [some (.ref 602), some (.int (iI l1)), some (.int (iI 1)), some (.int (iI l3))]) Q_X11_findWorlds (k := 52) rfl (by decide) rfl ?_
          obtain ⟨q9, h⟩ := h
          refine y_iinc (L' := [some (.ref 602), some (.int (iI l1)), some (.int (iI 1)), some (.int (iI (l3 + 1)))]) Q_X11_findWorlds (k := 53) rfl (by decide) rfl rfl ?_
          refine z_goto (tgt := 39) Q_X11_findWorlds (k := 54) rfl (by decide) ?_
          exact y_fg (zsb_c rfl (zsb_c rfl (zsb_c rfl (zsb_c rfl zsb_e)))) (ih 1 (l3 + 1) ⟨by decide, by decide⟩ q9 h)
        · replace h := h.2 c
          refine z_aload_n Q_X11_findWorlds (k := 37) rfl rfl ?_
          refine z_getR (b := 603) Q_X11_findWorlds (k := 38) rfl F_X11_13 rfl (n_ hB.1 rfl) (k_602 hB.1) (r_602_1 hB.1) ?_
          refine y_iconst Q_X11_findWorlds (k := 39) rfl ?_
          refine z_iload_n Q_X11_findWorlds (k := 40) rfl rfl ?_
          obtain ⟨q10, h⟩ := h
          refine y_iadd Q_X11_findWorlds (k := 41) rfl ?_
          obtain ⟨q11, h⟩ := h
          refine q_iald (o := 603) (N := 594) Q_X11_findWorlds (k := 42) rfl rfl (n_ hB.1 rfl) (k_603 hB.1) rfl q11 (by decide) ?_
          refine z_iload_n Q_X11_findWorlds (k := 43) rfl rfl ?_
          refine z_iload_n Q_X11_findWorlds (k := 44) rfl rfl ?_
          refine y_ishr Q_X11_findWorlds (k := 45) rfl ?_
          refine y_iconst Q_X11_findWorlds (k := 46) rfl ?_
          refine y_iand Q_X11_findWorlds (k := 47) rfl ?_
          refine y_icmp_ne 81 Q_X11_findWorlds (k := 48) rfl (by decide) (hB.2.1 _ _) (zand_r _ _) (fun c => ?_) (fun c => ?_)
          · replace h := h.2 c
            refine y_iconst Q_X11_findWorlds (k := 51) rfl ?_
            refine y_istore_n (L' := [some (.ref 602), some (.int (iI l1)), some (.int (iI 0)), some (.int (iI l3))]) Q_X11_findWorlds (k := 52) rfl (by decide) rfl ?_
            obtain ⟨q12, h⟩ := h
            refine y_iinc (L' := [some (.ref 602), some (.int (iI l1)), some (.int (iI 0)), some (.int (iI (l3 + 1)))]) Q_X11_findWorlds (k := 53) rfl (by decide) rfl rfl ?_
            refine z_goto (tgt := 39) Q_X11_findWorlds (k := 54) rfl (by decide) ?_
            exact y_fg (zsb_c rfl (zsb_c rfl (zsb_c rfl (zsb_c rfl zsb_e)))) (ih 0 (l3 + 1) ⟨by decide, by decide⟩ q12 h)
          · replace h := h.1 c
            refine y_iconst Q_X11_findWorlds (k := 49) rfl ?_
            refine z_goto (tgt := 82) Q_X11_findWorlds (k := 50) rfl (by decide) ?_
            refine y_istore_n (L' := [some (.ref 602), some (.int (iI l1)), some (.int (iI 1)), some (.int (iI l3))]) Q_X11_findWorlds (k := 52) rfl (by decide) rfl ?_
            obtain ⟨q13, h⟩ := h
            refine y_iinc (L' := [some (.ref 602), some (.int (iI l1)), some (.int (iI 1)), some (.int (iI (l3 + 1)))]) Q_X11_findWorlds (k := 53) rfl (by decide) rfl rfl ?_
            refine z_goto (tgt := 39) Q_X11_findWorlds (k := 54) rfl (by decide) ?_
            exact y_fg (zsb_c rfl (zsb_c rfl (zsb_c rfl (zsb_c rfl zsb_e)))) (ih 1 (l3 + 1) ⟨by decide, by decide⟩ q13 h)
set_option maxHeartbeats 4000000 in
set_option maxRecDepth 20000 in
theorem v_X11_findWorlds_91 {S : zS} {J : qJ} {K : Int → Int → qV → Prop} {Q : qV → Prop} {kc ks : Nat} (d : Nat) {l1 : Int} (z1 : zr l1) (hK : ∀ (l2 : Int) (l3 : Int) (V : qV), qB S V → zr l2 → zr l3 → K l2 l3 V → Z M_X11_findWorlds (d + 1) kc ks 132 [some (.ref 602), some (.int (iI l1)), some (.int (iI l2)), some (.int (iI l3))] [] S (qi V) (qj J) (qP_uV S J Q)) : ∀ (f : Nat) (l2 : Int) (l3 : Int) (V : qV), qB S V → zr l2 → zr l3 → lp_X11_findWorlds_91 l1 K f l2 l3 V → Z M_X11_findWorlds (d + 1) kc ks 91 [some (.ref 602), some (.int (iI l1)), some (.int (iI l2)), some (.int (iI l3))] [] S (qi V) (qj J) (qP_uV S J Q) := by
  intro f
  induction f with
  | zero =>
    intro l2 l3 V hB z2 z3 h
    exact h.elim
  | succ f ih =>
    intro l2 l3 V hB z2 z3 h
    rw [lp_X11_findWorlds_91] at h
    refine z_iload_n Q_X11_findWorlds (k := 57) rfl rfl ?_
    refine z_aload_n Q_X11_findWorlds (k := 58) rfl rfl ?_
    refine z_getR (b := 603) Q_X11_findWorlds (k := 59) rfl F_X11_13 rfl (n_ hB.1 rfl) (k_602 hB.1) (r_602_1 hB.1) ?_
    refine y_sipush Q_X11_findWorlds (k := 60) rfl (by decide) ?_
    refine q_iald (o := 603) (N := 594) Q_X11_findWorlds (k := 61) rfl rfl (n_ hB.1 rfl) (k_603 hB.1) rfl ⟨by decide, by decide⟩ (by decide) ?_
    refine y_icmp_ge 132 Q_X11_findWorlds (k := 62) rfl (by decide) z3 (hB.2.1 _ _) (fun c => ?_) (fun c => ?_)
    · replace h := h.1 c
      exact y_fg (zsb_c rfl (zsb_c rfl (zsb_c rfl (zsb_c rfl zsb_e)))) (hK l2 l3 V hB z2 z3 h)
    · replace h := h.2 c
      refine z_iload_n Q_X11_findWorlds (k := 63) rfl rfl ?_
      refine y_if_eq 132 Q_X11_findWorlds (k := 64) rfl (by decide) z2 (fun c => ?_) (fun c => ?_)
      · replace h := h.1 c
        exact y_fg (zsb_c rfl (zsb_c rfl (zsb_c rfl (zsb_c rfl zsb_e)))) (hK l2 l3 V hB z2 z3 h)
      · replace h := h.2 c
        refine z_aload_n Q_X11_findWorlds (k := 65) rfl rfl ?_
        refine y_sipush Q_X11_findWorlds (k := 66) rfl (by decide) ?_
        refine y_iconst Q_X11_findWorlds (k := 67) rfl ?_
        refine z_iload_n Q_X11_findWorlds (k := 68) rfl rfl ?_
        obtain ⟨q15, h⟩ := h
        refine y_iadd Q_X11_findWorlds (k := 69) rfl ?_
        obtain ⟨q16, h⟩ := h
        refine y_imul Q_X11_findWorlds (k := 70) rfl ?_
        refine z_aload_n Q_X11_findWorlds (k := 71) rfl rfl ?_
        refine z_getR (b := 611) Q_X11_findWorlds (k := 72) rfl F_X11_38 rfl (n_ hB.1 rfl) (k_602 hB.1) (r_602_9 hB.1) ?_
        refine z_iload_n Q_X11_findWorlds (k := 73) rfl rfl ?_
        obtain ⟨q17, h⟩ := h
        refine q_iald (o := 611) (N := 8) Q_X11_findWorlds (k := 74) rfl rfl (n_ hB.1 rfl) (k_611 hB.1) rfl q17 (by decide) ?_
        refine z_iload_n Q_X11_findWorlds (k := 75) rfl rfl ?_
        refine q_callV3_zV Q_X11_findWorlds (k := 76) rfl rfl K_X11_isSo V_X11_isSo L_X11_203 (n_ hB.1 rfl) (k_602 hB.1) (Nat.le_of_ble_eq_true rfl) (Nat.le_of_ble_eq_true rfl) rfl (Nat.zero_le _) (Nat.zero_le _) (w_X11_isSo d hB q16 (hB.2.1 _ _) z1 h) (fun r18 V18 hB18 hz18 hb18 h => ?_)
        refine y_istore_n (L' := [some (.ref 602), some (.int (iI l1)), some (.int (iI r18)), some (.int (iI l3))]) Q_X11_findWorlds (k := 77) rfl (by decide) rfl ?_
        obtain ⟨q19, h⟩ := h
        refine y_iinc (L' := [some (.ref 602), some (.int (iI l1)), some (.int (iI r18)), some (.int (iI (l3 + 1)))]) Q_X11_findWorlds (k := 78) rfl (by decide) rfl rfl ?_
        refine z_goto (tgt := 91) Q_X11_findWorlds (k := 79) rfl (by decide) ?_
        exact y_fg (zsb_c rfl (zsb_c rfl (zsb_c rfl (zsb_c rfl zsb_e)))) (ih r18 (l3 + 1) V18 hB18 hz18 q19 h)
set_option maxHeartbeats 4000000 in
set_option maxRecDepth 20000 in
theorem v_X11_findWorlds_28 {S : zS} {J : qJ} {K : Int → qV → Prop} {Q : qV → Prop} {kc ks : Nat} (d : Nat) (hK : ∀ (l1 : Int) (V : qV), qB S V → zr l1 → K l1 V → Z M_X11_findWorlds (d + 1) kc ks 163 [some (.ref 602), some (.int (iI l1)), none, none] [] S (qi V) (qj J) (qP_uV S J Q)) : ∀ (f : Nat) (l1 : Int) (V : qV), qB S V → zr l1 → lp_X11_findWorlds_28 K f l1 V → Z M_X11_findWorlds (d + 1) kc ks 28 [some (.ref 602), some (.int (iI l1)), none, none] [] S (qi V) (qj J) (qP_uV S J Q) := by
  intro f
  induction f with
  | zero =>
    intro l1 V hB z1 h
    exact h.elim
  | succ f ih =>
    intro l1 V hB z1 h
    rw [lp_X11_findWorlds_28] at h
    refine z_iload_n Q_X11_findWorlds (k := 17) rfl rfl ?_
    refine y_sipush Q_X11_findWorlds (k := 18) rfl (by decide) ?_
    refine y_icmp_ge 163 Q_X11_findWorlds (k := 19) rfl (by decide) z1 ⟨by decide, by decide⟩ (fun c => ?_) (fun c => ?_)
    · replace h := h.1 c
      exact y_fg (zsb_c rfl (zsb_c rfl (zsb_n (zsb_n zsb_e)))) (hK l1 V hB z1 h)
    · replace h := h.2 c
      refine y_iconst Q_X11_findWorlds (k := 20) rfl ?_
      refine y_istore_n (L' := [some (.ref 602), some (.int (iI l1)), some (.int (iI 1)), none]) Q_X11_findWorlds (k := 21) rfl (by decide) rfl ?_
      refine y_iconst Q_X11_findWorlds (k := 22) rfl ?_
      refine y_istore_n (L' := [some (.ref 602), some (.int (iI l1)), some (.int (iI 1)), some (.int (iI 0))]) Q_X11_findWorlds (k := 23) rfl (by decide) rfl ?_
      refine y_fg (zsb_c rfl (zsb_c rfl (zsb_c rfl (zsb_c rfl zsb_e)))) (v_X11_findWorlds_39 d hB z1 (fun l2x14 l3x14 zl2x14 zl3x14 h => ?_) 100000 1 0 ⟨by decide, by decide⟩ ⟨by decide, by decide⟩ h)
      refine y_iconst Q_X11_findWorlds (k := 55) rfl ?_
      refine y_istore_n (L' := [some (.ref 602), some (.int (iI l1)), some (.int (iI l2x14)), some (.int (iI 0))]) Q_X11_findWorlds (k := 56) rfl (by decide) rfl ?_
      refine y_fg (zsb_c rfl (zsb_c rfl (zsb_c rfl (zsb_c rfl zsb_e)))) (v_X11_findWorlds_91 d z1 (fun l2x20 l3x20 V20 hB20 zl2x20 zl3x20 h => ?_) 100000 l2x14 0 V hB zl2x14 ⟨by decide, by decide⟩ h)
      refine z_aload_n Q_X11_findWorlds (k := 80) rfl rfl ?_
      refine z_getR (b := 616) Q_X11_findWorlds (k := 81) rfl F_X11_56 rfl (n_ hB20.1 rfl) (k_602 hB20.1) (r_602_24 hB20.1) ?_
      refine z_iload_n Q_X11_findWorlds (k := 82) rfl rfl ?_
      refine z_iload_n Q_X11_findWorlds (k := 83) rfl rfl ?_
      obtain ⟨q21, h⟩ := h
      obtain ⟨q22, h⟩ := h
      refine q_zast (o := 616) (N := 1024) Q_X11_findWorlds (k := 84) rfl rfl (n_ hB20.1 rfl) (k_616 hB20.1) rfl q21 (by decide) q22 ?_
      have hB23 := qB.u (a := 616) (j := l1) (x := l2x20) hB20 zl2x20 (Or.inl (by decide))
      refine z_aload_n Q_X11_findWorlds (k := 85) rfl rfl ?_
      refine z_dup Q_X11_findWorlds (k := 86) rfl rfl ?_
      refine q_getI (o := 602) (z := 25) Q_X11_findWorlds (k := 87) rfl F_X11_200 rfl rfl rfl (n_ hB23.1 rfl) (k_602 hB23.1) ?_
      refine z_iload_n Q_X11_findWorlds (k := 88) rfl rfl ?_
      refine y_if_eq 152 Q_X11_findWorlds (k := 89) rfl (by decide) zl2x20 (fun c => ?_) (fun c => ?_)
      · replace h := h.1 c
        refine y_iconst Q_X11_findWorlds (k := 92) rfl ?_
        obtain ⟨q24, h⟩ := h
        refine y_iadd Q_X11_findWorlds (k := 93) rfl ?_
        refine q_putI (o := 602) (z := 25) Q_X11_findWorlds (k := 94) rfl F_X11_200 rfl rfl rfl (n_ hB23.1 rfl) (k_602 hB23.1) ?_
        have hB25 := qB.u (a := 602) (j := 25) (x := ((qu V20 616 l1 l2x20) 602 25) + 0) hB23 q24 (Or.inl (by decide))
        obtain ⟨q26, h⟩ := h
        refine y_iinc (L' := [some (.ref 602), some (.int (iI (l1 + 1))), some (.int (iI l2x20)), some (.int (iI l3x20))]) Q_X11_findWorlds (k := 95) rfl (by decide) rfl rfl ?_
        refine z_goto (tgt := 28) Q_X11_findWorlds (k := 96) rfl (by decide) ?_
        exact y_fg (zsb_c rfl (zsb_c rfl (zsb_n (zsb_n zsb_e)))) (ih (l1 + 1) (qu (qu V20 616 l1 l2x20) 602 25 (((qu V20 616 l1 l2x20) 602 25) + 0)) hB25 q26 h)
      · replace h := h.2 c
        refine y_iconst Q_X11_findWorlds (k := 90) rfl ?_
        refine z_goto (tgt := 153) Q_X11_findWorlds (k := 91) rfl (by decide) ?_
        obtain ⟨q27, h⟩ := h
        refine y_iadd Q_X11_findWorlds (k := 93) rfl ?_
        refine q_putI (o := 602) (z := 25) Q_X11_findWorlds (k := 94) rfl F_X11_200 rfl rfl rfl (n_ hB23.1 rfl) (k_602 hB23.1) ?_
        have hB28 := qB.u (a := 602) (j := 25) (x := ((qu V20 616 l1 l2x20) 602 25) + 1) hB23 q27 (Or.inl (by decide))
        obtain ⟨q29, h⟩ := h
        refine y_iinc (L' := [some (.ref 602), some (.int (iI (l1 + 1))), some (.int (iI l2x20)), some (.int (iI l3x20))]) Q_X11_findWorlds (k := 95) rfl (by decide) rfl rfl ?_
        refine z_goto (tgt := 28) Q_X11_findWorlds (k := 96) rfl (by decide) ?_
        exact y_fg (zsb_c rfl (zsb_c rfl (zsb_n (zsb_n zsb_e)))) (ih (l1 + 1) (qu (qu V20 616 l1 l2x20) 602 25 (((qu V20 616 l1 l2x20) 602 25) + 1)) hB28 q29 h)
set_option maxHeartbeats 4000000 in
set_option maxRecDepth 20000 in
theorem w_X11_findWorlds {S : zS} {V : qV} {J : qJ} {Q : qV → Prop} (d : Nat) (hB : qB S V) (h : W_X11_findWorlds V Q) : Z M_X11_findWorlds (d + 1) 0 0 0 [some (.ref 602), none, none, none] [] S (qi V) (qj J) (qP_uV S J Q) := by
  unfold W_X11_findWorlds at h
  refine z_aload_n Q_X11_findWorlds (k := 0) rfl rfl ?_
  refine y_iconst Q_X11_findWorlds (k := 1) rfl ?_
  refine q_putI (o := 602) (z := 25) Q_X11_findWorlds (k := 2) rfl F_X11_200 rfl rfl rfl (n_ hB.1 rfl) (k_602 hB.1) ?_
  have hB1 := qB.u (a := 602) (j := 25) (x := 0) hB ⟨by decide, by decide⟩ (Or.inl (by decide))
  refine y_iconst Q_X11_findWorlds (k := 3) rfl ?_
  refine y_istore_n (L' := [some (.ref 602), some (.int (iI 0)), none, none]) Q_X11_findWorlds (k := 4) rfl (by decide) rfl ?_
  refine y_fg (zsb_c rfl (zsb_c rfl (zsb_n (zsb_n zsb_e)))) (v_X11_findWorlds_7 d (fun l1x5 V5 hB5 zl1x5 h => ?_) 100000 0 (qu V 602 25 0) hB1 ⟨by decide, by decide⟩ h)
  refine y_iconst Q_X11_findWorlds (k := 15) rfl ?_
  refine y_istore_n (L' := [some (.ref 602), some (.int (iI 0)), none, none]) Q_X11_findWorlds (k := 16) rfl (by decide) rfl ?_
  refine y_fg (zsb_c rfl (zsb_c rfl (zsb_n (zsb_n zsb_e)))) (v_X11_findWorlds_28 d (fun l1x30 V30 hB30 zl1x30 h => ?_) 100000 0 V5 hB5 ⟨by decide, by decide⟩ h)
  exact z_vret Q_X11_findWorlds (k := 97) rfl rfl (qI_uV hB30 h)
set_option maxHeartbeats 4000000 in
set_option maxRecDepth 20000 in
theorem w_X11_isUnknown {S : zS} {V : qV} {J : qJ} {Q : Int → qV → Prop} (d : Nat) (hB : qB S V) {a1 : Int} (z1 : zr a1) (h : W_X11_isUnknown a1 V Q) : Z M_X11_isUnknown (d + 1) 0 0 0 [some (.ref 602), some (.int (iI a1))] [] S (qi V) (qj J) (qP_zV S J Q) := by
  unfold W_X11_isUnknown at h
  refine z_aload_n Q_X11_isUnknown (k := 0) rfl rfl ?_
  refine z_iload_n Q_X11_isUnknown (k := 1) rfl rfl ?_
  refine y_iconst Q_X11_isUnknown (k := 2) rfl ?_
  refine y_bipush Q_X11_isUnknown (k := 3) rfl (by decide) ?_
  refine q_callS3_z Q_X11_isUnknown (k := 4) rfl rfl K_X11_within S_X11_within L_X11_207 (Nat.le_of_ble_eq_true rfl) (Nat.le_of_ble_eq_true rfl) rfl (Nat.zero_le _) (Nat.zero_le _) (w_X11_within d hB z1 ⟨by decide, by decide⟩ ⟨by decide, by decide⟩ h) (fun r1 hz1 hb1 h => ?_)
  refine y_iconst Q_X11_isUnknown (k := 5) rfl ?_
  refine q_callV2_zV Q_X11_isUnknown (k := 6) rfl rfl K_X11_may V_X11_may L_X11_187 (n_ hB.1 rfl) (k_602 hB.1) (Nat.le_of_ble_eq_true rfl) (Nat.le_of_ble_eq_true rfl) rfl (Nat.zero_le _) (Nat.zero_le _) (w_X11_may d hB hz1 hb1 ⟨by decide, by decide⟩ h) (fun r2 V2 hB2 hz2 hb2 h => ?_)
  exact y_zret Q_X11_isUnknown (k := 7) rfl rfl hb2 (qI_zV hB2 hz2 hb2 h)
set_option maxHeartbeats 4000000 in
set_option maxRecDepth 20000 in
theorem w_X11_know {S : zS} {V : qV} {J : qJ} {Q : Int → qV → Prop} (d : Nat) (hB : qB S V) {a1 : Int} (z1 : zr a1) {a2 : Int} (z2 : zr a2) (h : W_X11_know a1 a2 V Q) : Z M_X11_know (d + 2) 0 0 0 [some (.ref 602), some (.int (iI a1)), some (.int (iI a2)), none] [] S (qi V) (qj J) (qP_iV S J Q) := by
  unfold W_X11_know at h
  refine z_aload_n Q_X11_know (k := 0) rfl rfl ?_
  refine y_iconst Q_X11_know (k := 1) rfl ?_
  refine q_putI (o := 602) (z := 0) Q_X11_know (k := 2) rfl F_X11_1 rfl rfl rfl (n_ hB.1 rfl) (k_602 hB.1) ?_
  have hB1 := qB.u (a := 602) (j := 0) (x := 0) hB ⟨by decide, by decide⟩ (Or.inl (by decide))
  refine z_aload_n Q_X11_know (k := 3) rfl rfl ?_
  refine z_iload_n Q_X11_know (k := 4) rfl rfl ?_
  refine q_callV1_zV Q_X11_know (k := 5) rfl rfl K_X11_isUnknown V_X11_isUnknown L_X11_210 (n_ hB1.1 rfl) (k_602 hB1.1) (Nat.le_of_ble_eq_true rfl) (Nat.le_of_ble_eq_true rfl) rfl (Nat.zero_le _) (Nat.zero_le _) (w_X11_isUnknown d hB1 z1 h) (fun r2 V2 hB2 hz2 hb2 h => ?_)
  refine y_if_eq 27 Q_X11_know (k := 6) rfl (by decide) hz2 (fun c => ?_) (fun c => ?_)
  · replace h := h.1 c
    refine y_iconst Q_X11_know (k := 15) rfl ?_
    exact y_iret Q_X11_know (k := 16) rfl rfl (qI_iV hB2 ⟨by decide, by decide⟩ h)
  · replace h := h.2 c
    refine z_aload_n Q_X11_know (k := 7) rfl rfl ?_
    refine z_iload_n Q_X11_know (k := 8) rfl rfl ?_
    refine y_iconst Q_X11_know (k := 9) rfl ?_
    refine y_iconst Q_X11_know (k := 10) rfl ?_
    refine q_callS3_z Q_X11_know (k := 11) rfl rfl K_X11_within S_X11_within L_X11_207 (Nat.le_of_ble_eq_true rfl) (Nat.le_of_ble_eq_true rfl) rfl (Nat.zero_le _) (Nat.zero_le _) (w_X11_within (d + 1) hB2 z2 ⟨by decide, by decide⟩ ⟨by decide, by decide⟩ h) (fun r3 hz3 hb3 h => ?_)
    refine y_iconst Q_X11_know (k := 12) rfl ?_
    refine q_callV2_zV Q_X11_know (k := 13) rfl rfl K_X11_may V_X11_may L_X11_187 (n_ hB2.1 rfl) (k_602 hB2.1) (Nat.le_of_ble_eq_true rfl) (Nat.le_of_ble_eq_true rfl) rfl (Nat.zero_le _) (Nat.zero_le _) (w_X11_may (d + 1) hB2 hz3 hb3 ⟨by decide, by decide⟩ h) (fun r4 V4 hB4 hz4 hb4 h => ?_)
    refine y_if_ne 29 Q_X11_know (k := 14) rfl (by decide) hz4 (fun c => ?_) (fun c => ?_)
    · replace h := h.2 c
      refine z_aload_n Q_X11_know (k := 17) rfl rfl ?_
      refine z_getR (b := 603) Q_X11_know (k := 18) rfl F_X11_13 rfl (n_ hB4.1 rfl) (k_602 hB4.1) (r_602_1 hB4.1) ?_
      refine y_iconst Q_X11_know (k := 19) rfl ?_
      refine z_iload_n Q_X11_know (k := 20) rfl rfl ?_
      obtain ⟨q5, h⟩ := h
      refine y_iadd Q_X11_know (k := 21) rfl ?_
      obtain ⟨q6, h⟩ := h
      refine q_iald (o := 603) (N := 594) Q_X11_know (k := 22) rfl rfl (n_ hB4.1 rfl) (k_603 hB4.1) rfl q6 (by decide) ?_
      refine y_istore_n (L' := [some (.ref 602), some (.int (iI a1)), some (.int (iI a2)), some (.int (iI (V4 603 (0 + a1))))]) Q_X11_know (k := 23) rfl (by decide) rfl ?_
      refine z_aload_n Q_X11_know (k := 24) rfl rfl ?_
      refine z_getR (b := 603) Q_X11_know (k := 25) rfl F_X11_13 rfl (n_ hB4.1 rfl) (k_602 hB4.1) (r_602_1 hB4.1) ?_
      refine y_iconst Q_X11_know (k := 26) rfl ?_
      refine z_iload_n Q_X11_know (k := 27) rfl rfl ?_
      obtain ⟨q7, h⟩ := h
      refine y_iadd Q_X11_know (k := 28) rfl ?_
      refine z_iload_n Q_X11_know (k := 29) rfl rfl ?_
      obtain ⟨q8, h⟩ := h
      refine q_iast (o := 603) (N := 594) Q_X11_know (k := 30) rfl rfl (n_ hB4.1 rfl) (k_603 hB4.1) rfl q8 (by decide) ?_
      have hB9 := qB.u (a := 603) (j := 0 + a1) (x := a2) hB4 z2 (Or.inl (by decide))
      refine z_iload_n Q_X11_know (k := 31) rfl rfl ?_
      exact y_iret Q_X11_know (k := 32) rfl rfl (qI_iV hB9 (hB4.2.1 _ _) h)
    · replace h := h.1 c
      refine y_iconst Q_X11_know (k := 15) rfl ?_
      exact y_iret Q_X11_know (k := 16) rfl rfl (qI_iV hB4 ⟨by decide, by decide⟩ h)
set_option maxHeartbeats 4000000 in
set_option maxRecDepth 20000 in
theorem w_X11_weigh {S : zS} {V : qV} {J : qJ} {Q : Int → qV → Prop} (d : Nat) (hB : qB S V) {a1 : Int} (z1 : zr a1) {a2 : Int} (z2 : zr a2) (h : W_X11_weigh a1 a2 V Q) : Z M_X11_weigh (d + 2) 0 0 0 [some (.ref 602), some (.int (iI a1)), some (.int (iI a2)), none] [] S (qi V) (qj J) (qP_iV S J Q) := by
  unfold W_X11_weigh at h
  refine z_aload_n Q_X11_weigh (k := 0) rfl rfl ?_
  refine y_iconst Q_X11_weigh (k := 1) rfl ?_
  refine q_putI (o := 602) (z := 0) Q_X11_weigh (k := 2) rfl F_X11_1 rfl rfl rfl (n_ hB.1 rfl) (k_602 hB.1) ?_
  have hB1 := qB.u (a := 602) (j := 0) (x := 0) hB ⟨by decide, by decide⟩ (Or.inl (by decide))
  refine z_aload_n Q_X11_weigh (k := 3) rfl rfl ?_
  refine z_iload_n Q_X11_weigh (k := 4) rfl rfl ?_
  refine q_callV1_zV Q_X11_weigh (k := 5) rfl rfl K_X11_isUnknown V_X11_isUnknown L_X11_210 (n_ hB1.1 rfl) (k_602 hB1.1) (Nat.le_of_ble_eq_true rfl) (Nat.le_of_ble_eq_true rfl) rfl (Nat.zero_le _) (Nat.zero_le _) (w_X11_isUnknown d hB1 z1 h) (fun r2 V2 hB2 hz2 hb2 h => ?_)
  refine y_if_eq 28 Q_X11_weigh (k := 6) rfl (by decide) hz2 (fun c => ?_) (fun c => ?_)
  · replace h := h.1 c
    refine y_iconst Q_X11_weigh (k := 15) rfl ?_
    exact y_iret Q_X11_weigh (k := 16) rfl rfl (qI_iV hB2 ⟨by decide, by decide⟩ h)
  · replace h := h.2 c
    refine z_aload_n Q_X11_weigh (k := 7) rfl rfl ?_
    refine z_iload_n Q_X11_weigh (k := 8) rfl rfl ?_
    refine y_iconst Q_X11_weigh (k := 9) rfl ?_
    refine y_bipush Q_X11_weigh (k := 10) rfl (by decide) ?_
    refine q_callS3_z Q_X11_weigh (k := 11) rfl rfl K_X11_within S_X11_within L_X11_207 (Nat.le_of_ble_eq_true rfl) (Nat.le_of_ble_eq_true rfl) rfl (Nat.zero_le _) (Nat.zero_le _) (w_X11_within (d + 1) hB2 z2 ⟨by decide, by decide⟩ ⟨by decide, by decide⟩ h) (fun r3 hz3 hb3 h => ?_)
    refine y_iconst Q_X11_weigh (k := 12) rfl ?_
    refine q_callV2_zV Q_X11_weigh (k := 13) rfl rfl K_X11_may V_X11_may L_X11_187 (n_ hB2.1 rfl) (k_602 hB2.1) (Nat.le_of_ble_eq_true rfl) (Nat.le_of_ble_eq_true rfl) rfl (Nat.zero_le _) (Nat.zero_le _) (w_X11_may (d + 1) hB2 hz3 hb3 ⟨by decide, by decide⟩ h) (fun r4 V4 hB4 hz4 hb4 h => ?_)
    refine y_if_ne 30 Q_X11_weigh (k := 14) rfl (by decide) hz4 (fun c => ?_) (fun c => ?_)
    · replace h := h.2 c
      refine z_aload_n Q_X11_weigh (k := 17) rfl rfl ?_
      refine z_getR (b := 603) Q_X11_weigh (k := 18) rfl F_X11_13 rfl (n_ hB4.1 rfl) (k_602 hB4.1) (r_602_1 hB4.1) ?_
      refine y_bipush Q_X11_weigh (k := 19) rfl (by decide) ?_
      refine z_iload_n Q_X11_weigh (k := 20) rfl rfl ?_
      obtain ⟨q5, h⟩ := h
      refine y_iadd Q_X11_weigh (k := 21) rfl ?_
      obtain ⟨q6, h⟩ := h
      refine q_iald (o := 603) (N := 594) Q_X11_weigh (k := 22) rfl rfl (n_ hB4.1 rfl) (k_603 hB4.1) rfl q6 (by decide) ?_
      refine y_istore_n (L' := [some (.ref 602), some (.int (iI a1)), some (.int (iI a2)), some (.int (iI (V4 603 (10 + a1))))]) Q_X11_weigh (k := 23) rfl (by decide) rfl ?_
      refine z_aload_n Q_X11_weigh (k := 24) rfl rfl ?_
      refine z_getR (b := 603) Q_X11_weigh (k := 25) rfl F_X11_13 rfl (n_ hB4.1 rfl) (k_602 hB4.1) (r_602_1 hB4.1) ?_
      refine y_bipush Q_X11_weigh (k := 26) rfl (by decide) ?_
      refine z_iload_n Q_X11_weigh (k := 27) rfl rfl ?_
      obtain ⟨q7, h⟩ := h
      refine y_iadd Q_X11_weigh (k := 28) rfl ?_
      refine z_iload_n Q_X11_weigh (k := 29) rfl rfl ?_
      obtain ⟨q8, h⟩ := h
      refine q_iast (o := 603) (N := 594) Q_X11_weigh (k := 30) rfl rfl (n_ hB4.1 rfl) (k_603 hB4.1) rfl q8 (by decide) ?_
      have hB9 := qB.u (a := 603) (j := 10 + a1) (x := a2) hB4 z2 (Or.inl (by decide))
      refine z_iload_n Q_X11_weigh (k := 31) rfl rfl ?_
      exact y_iret Q_X11_weigh (k := 32) rfl rfl (qI_iV hB9 (hB4.2.1 _ _) h)
    · replace h := h.1 c
      refine y_iconst Q_X11_weigh (k := 15) rfl ?_
      exact y_iret Q_X11_weigh (k := 16) rfl rfl (qI_iV hB4 ⟨by decide, by decide⟩ h)
set_option maxHeartbeats 4000000 in
set_option maxRecDepth 20000 in
theorem w_X11_worlds {S : zS} {V : qV} {J : qJ} {Q : Int → qV → Prop} (d : Nat) (hB : qB S V) (h : W_X11_worlds V Q) : Z M_X11_worlds (d + 2) 0 0 0 [some (.ref 602)] [] S (qi V) (qj J) (qP_iV S J Q) := by
  unfold W_X11_worlds at h
  refine z_aload_n Q_X11_worlds (k := 0) rfl rfl ?_
  refine y_iconst Q_X11_worlds (k := 1) rfl ?_
  refine q_putI (o := 602) (z := 0) Q_X11_worlds (k := 2) rfl F_X11_1 rfl rfl rfl (n_ hB.1 rfl) (k_602 hB.1) ?_
  have hB1 := qB.u (a := 602) (j := 0) (x := 0) hB ⟨by decide, by decide⟩ (Or.inl (by decide))
  refine z_aload_n Q_X11_worlds (k := 3) rfl rfl ?_
  refine q_callV0_uV Q_X11_worlds (k := 4) rfl rfl K_X11_findWorlds V_X11_findWorlds L_X11_213 (n_ hB1.1 rfl) (k_602 hB1.1) (Nat.le_of_ble_eq_true rfl) (Nat.le_of_ble_eq_true rfl) rfl (Nat.zero_le _) (Nat.zero_le _) (w_X11_findWorlds d hB1  h) (fun V2 hB2 h => ?_)
  refine z_aload_n Q_X11_worlds (k := 5) rfl rfl ?_
  refine q_getI (o := 602) (z := 25) Q_X11_worlds (k := 6) rfl F_X11_200 rfl rfl rfl (n_ hB2.1 rfl) (k_602 hB2.1) ?_
  exact y_iret Q_X11_worlds (k := 7) rfl rfl (qI_iV hB2 (hB2.2.1 _ _) h)
set_option maxHeartbeats 4000000 in
set_option maxRecDepth 20000 in
theorem v_X11_world_13 {S : zS} {V : qV} {J : qJ} {K : Int → Int → Prop} {Q : Int → qV → Prop} {kc ks : Nat} (d : Nat) (hB : qB S V) {l1 : Int} (z1 : zr l1) (hK : ∀ (l2 : Int) (l3 : Int), zr l2 → zr l3 → K l2 l3 → Z M_X11_world (d + 2) kc ks 48 [some (.ref 602), some (.int (iI l1)), some (.int (iI l2)), some (.int (iI l3))] [] S (qi V) (qj J) (qP_iV S J Q)) : ∀ (f : Nat) (l2 : Int) (l3 : Int), zr l2 → zr l3 → lp_X11_world_13 l1 V K Q f l2 l3 → Z M_X11_world (d + 2) kc ks 13 [some (.ref 602), some (.int (iI l1)), some (.int (iI l2)), some (.int (iI l3))] [] S (qi V) (qj J) (qP_iV S J Q) := by
  intro f
  induction f with
  | zero =>
    intro l2 l3 z2 z3 h
    exact h.elim
  | succ f ih =>
    intro l2 l3 z2 z3 h
    rw [lp_X11_world_13] at h
    refine z_iload_n Q_X11_world (k := 9) rfl rfl ?_
    refine y_sipush Q_X11_world (k := 10) rfl (by decide) ?_
    refine y_icmp_ge 48 Q_X11_world (k := 11) rfl (by decide) z3 ⟨by decide, by decide⟩ (fun c => ?_) (fun c => ?_)
    · replace h := h.1 c
      exact y_fg (zsb_c rfl (zsb_c rfl (zsb_c rfl (zsb_c rfl zsb_e)))) (hK l2 l3 z2 z3 h)
    · replace h := h.2 c
      refine z_aload_n Q_X11_world (k := 12) rfl rfl ?_
      refine z_getR (b := 616) Q_X11_world (k := 13) rfl F_X11_56 rfl (n_ hB.1 rfl) (k_602 hB.1) (r_602_24 hB.1) ?_
      refine z_iload_n Q_X11_world (k := 14) rfl rfl ?_
      obtain ⟨q3, h⟩ := h
      refine q_zald (o := 616) (N := 1024) Q_X11_world (k := 15) rfl rfl (n_ hB.1 rfl) (k_616 hB.1) rfl q3 (by decide) ?_
      refine y_if_ne 32 Q_X11_world (k := 16) rfl (by decide) (hB.2.1 _ _) (fun c => ?_) (fun c => ?_)
      · replace h := h.2 c
        refine z_iload_n Q_X11_world (k := 18) rfl rfl ?_
        refine z_iload_n Q_X11_world (k := 19) rfl rfl ?_
        refine y_icmp_ne 39 Q_X11_world (k := 20) rfl (by decide) z2 z1 (fun c => ?_) (fun c => ?_)
        · replace h := h.2 c
          obtain ⟨q4, h⟩ := h
          refine y_iinc (L' := [some (.ref 602), some (.int (iI l1)), some (.int (iI (l2 + 1))), some (.int (iI l3))]) Q_X11_world (k := 23) rfl (by decide) rfl rfl ?_
          obtain ⟨q5, h⟩ := h
          refine y_iinc (L' := [some (.ref 602), some (.int (iI l1)), some (.int (iI (l2 + 1))), some (.int (iI (l3 + 1)))]) Q_X11_world (k := 24) rfl (by decide) rfl rfl ?_
          refine z_goto (tgt := 13) Q_X11_world (k := 25) rfl (by decide) ?_
          exact y_fg (zsb_c rfl (zsb_c rfl (zsb_c rfl (zsb_c rfl zsb_e)))) (ih (l2 + 1) (l3 + 1) q4 q5 h)
        · replace h := h.1 c
          refine z_iload_n Q_X11_world (k := 21) rfl rfl ?_
          exact y_iret Q_X11_world (k := 22) rfl rfl (qI_iV hB z3 h)
      · replace h := h.1 c
        refine z_goto (tgt := 42) Q_X11_world (k := 17) rfl (by decide) ?_
        obtain ⟨q6, h⟩ := h
        refine y_iinc (L' := [some (.ref 602), some (.int (iI l1)), some (.int (iI l2)), some (.int (iI (l3 + 1)))]) Q_X11_world (k := 24) rfl (by decide) rfl rfl ?_
        refine z_goto (tgt := 13) Q_X11_world (k := 25) rfl (by decide) ?_
        exact y_fg (zsb_c rfl (zsb_c rfl (zsb_c rfl (zsb_c rfl zsb_e)))) (ih l2 (l3 + 1) z2 q6 h)
set_option maxHeartbeats 4000000 in
set_option maxRecDepth 20000 in
theorem w_X11_world {S : zS} {V : qV} {J : qJ} {Q : Int → qV → Prop} (d : Nat) (hB : qB S V) {a1 : Int} (z1 : zr a1) (h : W_X11_world a1 V Q) : Z M_X11_world (d + 2) 0 0 0 [some (.ref 602), some (.int (iI a1)), none, none] [] S (qi V) (qj J) (qP_iV S J Q) := by
  unfold W_X11_world at h
  refine z_aload_n Q_X11_world (k := 0) rfl rfl ?_
  refine y_iconst Q_X11_world (k := 1) rfl ?_
  refine q_putI (o := 602) (z := 0) Q_X11_world (k := 2) rfl F_X11_1 rfl rfl rfl (n_ hB.1 rfl) (k_602 hB.1) ?_
  have hB1 := qB.u (a := 602) (j := 0) (x := 0) hB ⟨by decide, by decide⟩ (Or.inl (by decide))
  refine z_aload_n Q_X11_world (k := 3) rfl rfl ?_
  refine q_callV0_uV Q_X11_world (k := 4) rfl rfl K_X11_findWorlds V_X11_findWorlds L_X11_213 (n_ hB1.1 rfl) (k_602 hB1.1) (Nat.le_of_ble_eq_true rfl) (Nat.le_of_ble_eq_true rfl) rfl (Nat.zero_le _) (Nat.zero_le _) (w_X11_findWorlds d hB1  h) (fun V2 hB2 h => ?_)
  refine y_iconst Q_X11_world (k := 5) rfl ?_
  refine y_istore_n (L' := [some (.ref 602), some (.int (iI a1)), some (.int (iI 0)), none]) Q_X11_world (k := 6) rfl (by decide) rfl ?_
  refine y_iconst Q_X11_world (k := 7) rfl ?_
  refine y_istore_n (L' := [some (.ref 602), some (.int (iI a1)), some (.int (iI 0)), some (.int (iI 0))]) Q_X11_world (k := 8) rfl (by decide) rfl ?_
  refine y_fg (zsb_c rfl (zsb_c rfl (zsb_c rfl (zsb_c rfl zsb_e)))) (v_X11_world_13 d hB2 z1 (fun l2x7 l3x7 zl2x7 zl3x7 h => ?_) 100000 0 0 ⟨by decide, by decide⟩ ⟨by decide, by decide⟩ h)
  refine y_iconst Q_X11_world (k := 26) rfl ?_
  exact y_iret Q_X11_world (k := 27) rfl rfl (qI_iV hB2 ⟨by decide, by decide⟩ h)
set_option maxHeartbeats 4000000 in
set_option maxRecDepth 20000 in
theorem v_X11_weightOf_5 {S : zS} {V : qV} {J : qJ} {K : Int64 → Int → Prop} {Q : Int64 → Prop} {kc ks : Nat} (d : Nat) (hB : qB S V) {l1 : Int} (z1 : zr l1) (hK : ∀ (l2 : Int64) (l4 : Int), zr l4 → K l2 l4 → Z M_X11_weightOf d kc ks 72 [some (.ref 602), some (.int (iI l1)), some (.long l2), none, some (.int (iI l4))] [] S (qi V) (qj J) (qP_l S V J Q)) : ∀ (f : Nat) (l2 : Int64) (l4 : Int), zr l4 → lp_X11_weightOf_5 l1 V K f l2 l4 → Z M_X11_weightOf d kc ks 5 [some (.ref 602), some (.int (iI l1)), some (.long l2), none, some (.int (iI l4))] [] S (qi V) (qj J) (qP_l S V J Q) := by
  intro f
  induction f with
  | zero =>
    intro l2 l4 z4 h
    exact h.elim
  | succ f ih =>
    intro l2 l4 z4 h
    rw [lp_X11_weightOf_5] at h
    refine z_iload Q_X11_weightOf (k := 4) rfl rfl ?_
    refine y_bipush Q_X11_weightOf (k := 5) rfl (by decide) ?_
    refine y_icmp_ge 72 Q_X11_weightOf (k := 6) rfl (by decide) z4 ⟨by decide, by decide⟩ (fun c => ?_) (fun c => ?_)
    · replace h := h.1 c
      exact y_fg (zsb_c rfl (zsb_c rfl (zsb_c rfl (zsb_n (zsb_c rfl zsb_e))))) (hK l2 l4 z4 h)
    · replace h := h.2 c
      refine z_aload_n Q_X11_weightOf (k := 7) rfl rfl ?_
      refine z_getR (b := 603) Q_X11_weightOf (k := 8) rfl F_X11_13 rfl (n_ hB.1 rfl) (k_602 hB.1) (r_602_1 hB.1) ?_
      refine y_iconst Q_X11_weightOf (k := 9) rfl ?_
      refine z_iload Q_X11_weightOf (k := 10) rfl rfl ?_
      obtain ⟨q1, h⟩ := h
      refine y_iadd Q_X11_weightOf (k := 11) rfl ?_
      obtain ⟨q2, h⟩ := h
      refine q_iald (o := 603) (N := 594) Q_X11_weightOf (k := 12) rfl rfl (n_ hB.1 rfl) (k_603 hB.1) rfl q2 (by decide) ?_
      refine y_iconst Q_X11_weightOf (k := 13) rfl ?_
      refine y_icmp_ne 66 Q_X11_weightOf (k := 14) rfl (by decide) (hB.2.1 _ _) ⟨by decide, by decide⟩ (fun c => ?_) (fun c => ?_)
      · replace h := h.2 c
        obtain ⟨q3, h⟩ := h
        refine y_iinc (L' := [some (.ref 602), some (.int (iI l1)), some (.long l2), none, some (.int (iI (l4 + 1)))]) Q_X11_weightOf (k := 42) rfl (by decide) rfl rfl ?_
        refine z_goto (tgt := 5) Q_X11_weightOf (k := 43) rfl (by decide) ?_
        exact y_fg (zsb_c rfl (zsb_c rfl (zsb_c rfl (zsb_n (zsb_c rfl zsb_e))))) (ih l2 (l4 + 1) q3 h)
      · replace h := h.1 c
        refine z_lload_n Q_X11_weightOf (k := 15) rfl rfl ?_
        refine z_iload_n Q_X11_weightOf (k := 16) rfl rfl ?_
        refine z_iload Q_X11_weightOf (k := 17) rfl rfl ?_
        refine y_ishr Q_X11_weightOf (k := 18) rfl ?_
        refine y_iconst Q_X11_weightOf (k := 19) rfl ?_
        refine y_iand Q_X11_weightOf (k := 20) rfl ?_
        refine y_iconst Q_X11_weightOf (k := 21) rfl ?_
        refine y_icmp_ne 50 Q_X11_weightOf (k := 22) rfl (by decide) (zand_r _ _) ⟨by decide, by decide⟩ (fun c => ?_) (fun c => ?_)
        · replace h := h.2 c
          refine y_bipush Q_X11_weightOf (k := 31) rfl (by decide) ?_
          refine z_aload_n Q_X11_weightOf (k := 32) rfl rfl ?_
          refine z_getR (b := 603) Q_X11_weightOf (k := 33) rfl F_X11_13 rfl (n_ hB.1 rfl) (k_602 hB.1) (r_602_1 hB.1) ?_
          refine y_bipush Q_X11_weightOf (k := 34) rfl (by decide) ?_
          refine z_iload Q_X11_weightOf (k := 35) rfl rfl ?_
          obtain ⟨q4, h⟩ := h
          refine y_iadd Q_X11_weightOf (k := 36) rfl ?_
          obtain ⟨q5, h⟩ := h
          refine q_iald (o := 603) (N := 594) Q_X11_weightOf (k := 37) rfl rfl (n_ hB.1 rfl) (k_603 hB.1) rfl q5 (by decide) ?_
          obtain ⟨q6, h⟩ := h
          refine y_isub Q_X11_weightOf (k := 38) rfl ?_
          refine z_i2l Q_X11_weightOf (k := 39) rfl ?_
          refine z_lmul Q_X11_weightOf (k := 40) rfl ?_
          refine y_lstore_n (L' := [some (.ref 602), some (.int (iI l1)), some (.long (l2 * ((iI (10 - (V 603 (10 + l4)))).toInt64))), none, some (.int (iI l4))]) Q_X11_weightOf (k := 41) rfl (by decide) rfl ?_
          obtain ⟨q7, h⟩ := h
          refine y_iinc (L' := [some (.ref 602), some (.int (iI l1)), some (.long (l2 * ((iI (10 - (V 603 (10 + l4)))).toInt64))), none, some (.int (iI (l4 + 1)))]) Q_X11_weightOf (k := 42) rfl (by decide) rfl rfl ?_
          refine z_goto (tgt := 5) Q_X11_weightOf (k := 43) rfl (by decide) ?_
          exact y_fg (zsb_c rfl (zsb_c rfl (zsb_c rfl (zsb_n (zsb_c rfl zsb_e))))) (ih (l2 * ((iI (10 - (V 603 (10 + l4)))).toInt64)) (l4 + 1) q7 h)
        · replace h := h.1 c
          refine z_aload_n Q_X11_weightOf (k := 23) rfl rfl ?_
          refine z_getR (b := 603) Q_X11_weightOf (k := 24) rfl F_X11_13 rfl (n_ hB.1 rfl) (k_602 hB.1) (r_602_1 hB.1) ?_
          refine y_bipush Q_X11_weightOf (k := 25) rfl (by decide) ?_
          refine z_iload Q_X11_weightOf (k := 26) rfl rfl ?_
          obtain ⟨q8, h⟩ := h
          refine y_iadd Q_X11_weightOf (k := 27) rfl ?_
          obtain ⟨q9, h⟩ := h
          refine q_iald (o := 603) (N := 594) Q_X11_weightOf (k := 28) rfl rfl (n_ hB.1 rfl) (k_603 hB.1) rfl q9 (by decide) ?_
          refine z_i2l Q_X11_weightOf (k := 29) rfl ?_
          refine z_goto (tgt := 64) Q_X11_weightOf (k := 30) rfl (by decide) ?_
          refine z_lmul Q_X11_weightOf (k := 40) rfl ?_
          refine y_lstore_n (L' := [some (.ref 602), some (.int (iI l1)), some (.long (l2 * ((iI (V 603 (10 + l4))).toInt64))), none, some (.int (iI l4))]) Q_X11_weightOf (k := 41) rfl (by decide) rfl ?_
          obtain ⟨q10, h⟩ := h
          refine y_iinc (L' := [some (.ref 602), some (.int (iI l1)), some (.long (l2 * ((iI (V 603 (10 + l4))).toInt64))), none, some (.int (iI (l4 + 1)))]) Q_X11_weightOf (k := 42) rfl (by decide) rfl rfl ?_
          refine z_goto (tgt := 5) Q_X11_weightOf (k := 43) rfl (by decide) ?_
          exact y_fg (zsb_c rfl (zsb_c rfl (zsb_c rfl (zsb_n (zsb_c rfl zsb_e))))) (ih (l2 * ((iI (V 603 (10 + l4))).toInt64)) (l4 + 1) q10 h)
set_option maxHeartbeats 4000000 in
set_option maxRecDepth 20000 in
theorem w_X11_weightOf {S : zS} {V : qV} {J : qJ} {Q : Int64 → Prop} (d : Nat) (hB : qB S V) {a1 : Int} (z1 : zr a1) (h : W_X11_weightOf a1 V Q) : Z M_X11_weightOf d 0 0 0 [some (.ref 602), some (.int (iI a1)), none, none, none] [] S (qi V) (qj J) (qP_l S V J Q) := by
  unfold W_X11_weightOf at h
  refine z_lconst_ Q_X11_weightOf (k := 0) rfl (v := 1) rfl ?_
  refine y_lstore_n (L' := [some (.ref 602), some (.int (iI a1)), some (.long 1), none, none]) Q_X11_weightOf (k := 1) rfl (by decide) rfl ?_
  refine y_iconst Q_X11_weightOf (k := 2) rfl ?_
  refine y_istore (L' := [some (.ref 602), some (.int (iI a1)), some (.long 1), none, some (.int (iI 0))]) Q_X11_weightOf (k := 3) rfl (by decide) rfl ?_
  refine y_fg (zsb_c rfl (zsb_c rfl (zsb_c rfl (zsb_n (zsb_c rfl zsb_e))))) (v_X11_weightOf_5 d hB z1 (fun l2x11 l4x11 zl4x11 h => ?_) 100000 1 0 ⟨by decide, by decide⟩ h)
  refine z_lload_n Q_X11_weightOf (k := 44) rfl rfl ?_
  exact z_lret Q_X11_weightOf (k := 45) rfl rfl (qI_l h)
set_option maxHeartbeats 4000000 in
set_option maxRecDepth 20000 in
theorem v_X11_all_13 {S : zS} {V : qV} {J : qJ} {K : Int64 → Int → Prop} {Q : Int64 → qV → Prop} {kc ks : Nat} (d : Nat) (hB : qB S V) (hK : ∀ (l1 : Int64) (l3 : Int), zr l3 → K l1 l3 → Z M_X11_all (d + 2) kc ks 47 [some (.ref 602), some (.long l1), none, some (.int (iI l3))] [] S (qi V) (qj J) (qP_lV S J Q)) : ∀ (f : Nat) (l1 : Int64) (l3 : Int), zr l3 → lp_X11_all_13 V K f l1 l3 → Z M_X11_all (d + 2) kc ks 13 [some (.ref 602), some (.long l1), none, some (.int (iI l3))] [] S (qi V) (qj J) (qP_lV S J Q) := by
  intro f
  induction f with
  | zero =>
    intro l1 l3 z3 h
    exact h.elim
  | succ f ih =>
    intro l1 l3 z3 h
    rw [lp_X11_all_13] at h
    refine z_iload_n Q_X11_all (k := 9) rfl rfl ?_
    refine y_sipush Q_X11_all (k := 10) rfl (by decide) ?_
    refine y_icmp_ge 47 Q_X11_all (k := 11) rfl (by decide) z3 ⟨by decide, by decide⟩ (fun c => ?_) (fun c => ?_)
    · replace h := h.1 c
      exact y_fg (zsb_c rfl (zsb_c rfl (zsb_n (zsb_c rfl zsb_e)))) (hK l1 l3 z3 h)
    · replace h := h.2 c
      refine z_lload_n Q_X11_all (k := 12) rfl rfl ?_
      refine z_aload_n Q_X11_all (k := 13) rfl rfl ?_
      refine z_getR (b := 616) Q_X11_all (k := 14) rfl F_X11_56 rfl (n_ hB.1 rfl) (k_602 hB.1) (r_602_24 hB.1) ?_
      refine z_iload_n Q_X11_all (k := 15) rfl rfl ?_
      obtain ⟨q3, h⟩ := h
      refine q_zald (o := 616) (N := 1024) Q_X11_all (k := 16) rfl rfl (n_ hB.1 rfl) (k_616 hB.1) rfl q3 (by decide) ?_
      refine y_if_eq 38 Q_X11_all (k := 17) rfl (by decide) (hB.2.1 _ _) (fun c => ?_) (fun c => ?_)
      · replace h := h.1 c
        refine z_lconst_ Q_X11_all (k := 22) rfl (v := 0) rfl ?_
        refine z_ladd Q_X11_all (k := 23) rfl ?_
        refine y_lstore_n (L' := [some (.ref 602), some (.long (l1 + 0)), none, some (.int (iI l3))]) Q_X11_all (k := 24) rfl (by decide) rfl ?_
        obtain ⟨q4, h⟩ := h
        refine y_iinc (L' := [some (.ref 602), some (.long (l1 + 0)), none, some (.int (iI (l3 + 1)))]) Q_X11_all (k := 25) rfl (by decide) rfl rfl ?_
        refine z_goto (tgt := 13) Q_X11_all (k := 26) rfl (by decide) ?_
        exact y_fg (zsb_c rfl (zsb_c rfl (zsb_n (zsb_c rfl zsb_e)))) (ih (l1 + 0) (l3 + 1) q4 h)
      · replace h := h.2 c
        refine z_aload_n Q_X11_all (k := 18) rfl rfl ?_
        refine z_iload_n Q_X11_all (k := 19) rfl rfl ?_
        refine q_callV1_l Q_X11_all (k := 20) rfl rfl K_X11_weightOf V_X11_weightOf L_X11_216 (n_ hB.1 rfl) (k_602 hB.1) (Nat.le_of_ble_eq_true rfl) (Nat.le_of_ble_eq_true rfl) rfl (Nat.zero_le _) (Nat.zero_le _) (w_X11_weightOf (d + 1) hB z3 h) (fun r5 h => ?_)
        refine z_goto (tgt := 39) Q_X11_all (k := 21) rfl (by decide) ?_
        refine z_ladd Q_X11_all (k := 23) rfl ?_
        refine y_lstore_n (L' := [some (.ref 602), some (.long (l1 + r5)), none, some (.int (iI l3))]) Q_X11_all (k := 24) rfl (by decide) rfl ?_
        obtain ⟨q6, h⟩ := h
        refine y_iinc (L' := [some (.ref 602), some (.long (l1 + r5)), none, some (.int (iI (l3 + 1)))]) Q_X11_all (k := 25) rfl (by decide) rfl rfl ?_
        refine z_goto (tgt := 13) Q_X11_all (k := 26) rfl (by decide) ?_
        exact y_fg (zsb_c rfl (zsb_c rfl (zsb_n (zsb_c rfl zsb_e)))) (ih (l1 + r5) (l3 + 1) q6 h)
set_option maxHeartbeats 4000000 in
set_option maxRecDepth 20000 in
theorem w_X11_all {S : zS} {V : qV} {J : qJ} {Q : Int64 → qV → Prop} (d : Nat) (hB : qB S V) (h : W_X11_all V Q) : Z M_X11_all (d + 2) 0 0 0 [some (.ref 602), none, none, none] [] S (qi V) (qj J) (qP_lV S J Q) := by
  unfold W_X11_all at h
  refine z_aload_n Q_X11_all (k := 0) rfl rfl ?_
  refine y_iconst Q_X11_all (k := 1) rfl ?_
  refine q_putI (o := 602) (z := 0) Q_X11_all (k := 2) rfl F_X11_1 rfl rfl rfl (n_ hB.1 rfl) (k_602 hB.1) ?_
  have hB1 := qB.u (a := 602) (j := 0) (x := 0) hB ⟨by decide, by decide⟩ (Or.inl (by decide))
  refine z_aload_n Q_X11_all (k := 3) rfl rfl ?_
  refine q_callV0_uV Q_X11_all (k := 4) rfl rfl K_X11_findWorlds V_X11_findWorlds L_X11_213 (n_ hB1.1 rfl) (k_602 hB1.1) (Nat.le_of_ble_eq_true rfl) (Nat.le_of_ble_eq_true rfl) rfl (Nat.zero_le _) (Nat.zero_le _) (w_X11_findWorlds d hB1  h) (fun V2 hB2 h => ?_)
  refine z_lconst_ Q_X11_all (k := 5) rfl (v := 0) rfl ?_
  refine y_lstore_n (L' := [some (.ref 602), some (.long 0), none, none]) Q_X11_all (k := 6) rfl (by decide) rfl ?_
  refine y_iconst Q_X11_all (k := 7) rfl ?_
  refine y_istore_n (L' := [some (.ref 602), some (.long 0), none, some (.int (iI 0))]) Q_X11_all (k := 8) rfl (by decide) rfl ?_
  refine y_fg (zsb_c rfl (zsb_c rfl (zsb_n (zsb_c rfl zsb_e)))) (v_X11_all_13 d hB2 (fun l1x7 l3x7 zl3x7 h => ?_) 100000 0 0 ⟨by decide, by decide⟩ h)
  refine z_lload_n Q_X11_all (k := 27) rfl rfl ?_
  exact z_lret Q_X11_all (k := 28) rfl rfl (qI_lV hB2 h)
set_option maxHeartbeats 4000000 in
set_option maxRecDepth 20000 in
theorem w_X11_isMarks {S : zS} {V : qV} {J : qJ} {Q : Int → Prop} (d : Nat) (hB : qB S V) {a0 : Int} (z0 : zr a0) (h : W_X11_isMarks a0 V Q) : Z M_X11_isMarks (d + 1) 0 0 0 [some (.int (iI a0))] [] S (qi V) (qj J) (qP_z S V J Q) := by
  unfold W_X11_isMarks at h
  refine z_iload_n Q_X11_isMarks (k := 0) rfl rfl ?_
  refine y_iconst Q_X11_isMarks (k := 1) rfl ?_
  refine y_sipush Q_X11_isMarks (k := 2) rfl (by decide) ?_
  refine q_callS3_z Q_X11_isMarks (k := 3) rfl rfl K_X11_within S_X11_within L_X11_207 (Nat.le_of_ble_eq_true rfl) (Nat.le_of_ble_eq_true rfl) rfl (Nat.zero_le _) (Nat.zero_le _) (w_X11_within d hB z0 ⟨by decide, by decide⟩ ⟨by decide, by decide⟩ h) (fun r1 hz1 hb1 h => ?_)
  exact y_zret Q_X11_isMarks (k := 4) rfl rfl hb1 (qI_z hz1 hb1 h)
set_option maxHeartbeats 4000000 in
set_option maxRecDepth 20000 in
theorem w_X11_isPerson {S : zS} {V : qV} {J : qJ} {Q : Int → qV → Prop} (d : Nat) (hB : qB S V) {a1 : Int} (z1 : zr a1) {a2 : Int} (z2 : zr a2) (h : W_X11_isPerson a1 a2 V Q) : Z M_X11_isPerson (d + 1) 0 0 0 [some (.ref 602), some (.int (iI a1)), some (.int (iI a2))] [] S (qi V) (qj J) (qP_zV S J Q) := by
  unfold W_X11_isPerson at h
  refine z_aload_n Q_X11_isPerson (k := 0) rfl rfl ?_
  refine z_iload_n Q_X11_isPerson (k := 1) rfl rfl ?_
  refine y_iconst Q_X11_isPerson (k := 2) rfl ?_
  refine z_aload_n Q_X11_isPerson (k := 3) rfl rfl ?_
  refine z_getR (b := 603) Q_X11_isPerson (k := 4) rfl F_X11_13 rfl (n_ hB.1 rfl) (k_602 hB.1) (r_602_1 hB.1) ?_
  refine y_bipush Q_X11_isPerson (k := 5) rfl (by decide) ?_
  refine q_iald (o := 603) (N := 594) Q_X11_isPerson (k := 6) rfl rfl (n_ hB.1 rfl) (k_603 hB.1) rfl ⟨by decide, by decide⟩ (by decide) ?_
  refine y_iconst Q_X11_isPerson (k := 7) rfl ?_
  obtain ⟨q1, h⟩ := h
  refine y_isub Q_X11_isPerson (k := 8) rfl ?_
  refine q_callS3_z Q_X11_isPerson (k := 9) rfl rfl K_X11_within S_X11_within L_X11_207 (Nat.le_of_ble_eq_true rfl) (Nat.le_of_ble_eq_true rfl) rfl (Nat.zero_le _) (Nat.zero_le _) (w_X11_within d hB z1 ⟨by decide, by decide⟩ q1 h) (fun r2 hz2 hb2 h => ?_)
  refine z_iload_n Q_X11_isPerson (k := 10) rfl rfl ?_
  refine q_callV2_zV Q_X11_isPerson (k := 11) rfl rfl K_X11_may V_X11_may L_X11_187 (n_ hB.1 rfl) (k_602 hB.1) (Nat.le_of_ble_eq_true rfl) (Nat.le_of_ble_eq_true rfl) rfl (Nat.zero_le _) (Nat.zero_le _) (w_X11_may d hB hz2 hb2 z2 h) (fun r3 V3 hB3 hz3 hb3 h => ?_)
  exact y_zret Q_X11_isPerson (k := 12) rfl rfl hb3 (qI_zV hB3 hz3 hb3 h)
set_option maxHeartbeats 4000000 in
set_option maxRecDepth 20000 in
theorem w_X11_isPlace {S : zS} {V : qV} {J : qJ} {Q : Int → Prop} (d : Nat) (hB : qB S V) {a0 : Int} (z0 : zr a0) (h : W_X11_isPlace a0 V Q) : Z M_X11_isPlace (d + 1) 0 0 0 [some (.int (iI a0))] [] S (qi V) (qj J) (qP_z S V J Q) := by
  unfold W_X11_isPlace at h
  refine z_iload_n Q_X11_isPlace (k := 0) rfl rfl ?_
  refine y_iconst Q_X11_isPlace (k := 1) rfl ?_
  refine y_iconst Q_X11_isPlace (k := 2) rfl ?_
  refine q_callS3_z Q_X11_isPlace (k := 3) rfl rfl K_X11_within S_X11_within L_X11_207 (Nat.le_of_ble_eq_true rfl) (Nat.le_of_ble_eq_true rfl) rfl (Nat.zero_le _) (Nat.zero_le _) (w_X11_within d hB z0 ⟨by decide, by decide⟩ ⟨by decide, by decide⟩ h) (fun r1 hz1 hb1 h => ?_)
  exact y_zret Q_X11_isPlace (k := 4) rfl rfl hb1 (qI_z hz1 hb1 h)
set_option maxHeartbeats 4000000 in
set_option maxRecDepth 20000 in
theorem v_X11_person_91 {S : zS} {J : qJ} {K : Int → qV → Prop} {Q : Int → qV → Prop} {kc ks : Nat} (d : Nat) {l3 : Int} (z3 : zr l3) (hK : ∀ (l4 : Int) (V : qV), qB S V → zr l4 → K l4 V → Z M_X11_person (d + 2) kc ks 118 [some (.ref 602), none, none, some (.int (iI l3)), some (.int (iI l4))] [] S (qi V) (qj J) (qP_iV S J Q)) : ∀ (f : Nat) (l4 : Int) (V : qV), qB S V → zr l4 → lp_X11_person_91 l3 K f l4 V → Z M_X11_person (d + 2) kc ks 91 [some (.ref 602), none, none, some (.int (iI l3)), some (.int (iI l4))] [] S (qi V) (qj J) (qP_iV S J Q) := by
  intro f
  induction f with
  | zero =>
    intro l4 V hB z4 h
    exact h.elim
  | succ f ih =>
    intro l4 V hB z4 h
    rw [lp_X11_person_91] at h
    refine z_iload Q_X11_person (k := 56) rfl rfl ?_
    refine y_iconst Q_X11_person (k := 57) rfl ?_
    refine y_icmp_ge 118 Q_X11_person (k := 58) rfl (by decide) z4 ⟨by decide, by decide⟩ (fun c => ?_) (fun c => ?_)
    · replace h := h.1 c
      exact y_fg (zsb_c rfl (zsb_n (zsb_n (zsb_c rfl (zsb_c rfl zsb_e))))) (hK l4 V hB z4 h)
    · replace h := h.2 c
      refine z_aload_n Q_X11_person (k := 59) rfl rfl ?_
      refine z_getR (b := 603) Q_X11_person (k := 60) rfl F_X11_13 rfl (n_ hB.1 rfl) (k_602 hB.1) (r_602_1 hB.1) ?_
      refine y_bipush Q_X11_person (k := 61) rfl (by decide) ?_
      refine y_iconst Q_X11_person (k := 62) rfl ?_
      refine z_iload_n Q_X11_person (k := 63) rfl rfl ?_
      obtain ⟨q13, h⟩ := h
      refine y_imul Q_X11_person (k := 64) rfl ?_
      obtain ⟨q14, h⟩ := h
      refine y_iadd Q_X11_person (k := 65) rfl ?_
      refine z_iload Q_X11_person (k := 66) rfl rfl ?_
      obtain ⟨q15, h⟩ := h
      refine y_iadd Q_X11_person (k := 67) rfl ?_
      refine y_iconst Q_X11_person (k := 68) rfl ?_
      obtain ⟨q16, h⟩ := h
      refine q_iast (o := 603) (N := 594) Q_X11_person (k := 69) rfl rfl (n_ hB.1 rfl) (k_603 hB.1) rfl q16 (by decide) ?_
      have hB17 := qB.u (a := 603) (j := (70 + (4 * l3)) + l4) (x := 0) hB ⟨by decide, by decide⟩ (Or.inl (by decide))
      obtain ⟨q18, h⟩ := h
      refine y_iinc (L' := [some (.ref 602), none, none, some (.int (iI l3)), some (.int (iI (l4 + 1)))]) Q_X11_person (k := 70) rfl (by decide) rfl rfl ?_
      refine z_goto (tgt := 91) Q_X11_person (k := 71) rfl (by decide) ?_
      exact y_fg (zsb_c rfl (zsb_n (zsb_n (zsb_c rfl (zsb_c rfl zsb_e))))) (ih (l4 + 1) (qu V 603 ((70 + (4 * l3)) + l4) 0) hB17 q18 h)
set_option maxHeartbeats 4000000 in
set_option maxRecDepth 20000 in
theorem w_X11_person {S : zS} {V : qV} {J : qJ} {Q : Int → qV → Prop} (d : Nat) (hB : qB S V) {a1 : Int} (z1 : zr a1) {a2 : Int} (z2 : zr a2) (h : W_X11_person a1 a2 V Q) : Z M_X11_person (d + 2) 0 0 0 [some (.ref 602), some (.int (iI a1)), some (.int (iI a2)), none, none] [] S (qi V) (qj J) (qP_iV S J Q) := by
  unfold W_X11_person at h
  refine z_aload_n Q_X11_person (k := 0) rfl rfl ?_
  refine y_iconst Q_X11_person (k := 1) rfl ?_
  refine q_putI (o := 602) (z := 0) Q_X11_person (k := 2) rfl F_X11_1 rfl rfl rfl (n_ hB.1 rfl) (k_602 hB.1) ?_
  have hB1 := qB.u (a := 602) (j := 0) (x := 0) hB ⟨by decide, by decide⟩ (Or.inl (by decide))
  refine z_aload_n Q_X11_person (k := 3) rfl rfl ?_
  refine z_iload_n Q_X11_person (k := 4) rfl rfl ?_
  refine y_iconst Q_X11_person (k := 5) rfl ?_
  refine y_iconst Q_X11_person (k := 6) rfl ?_
  refine q_callS3_z Q_X11_person (k := 7) rfl rfl K_X11_within S_X11_within L_X11_207 (Nat.le_of_ble_eq_true rfl) (Nat.le_of_ble_eq_true rfl) rfl (Nat.zero_le _) (Nat.zero_le _) (w_X11_within (d + 1) hB1 z1 ⟨by decide, by decide⟩ ⟨by decide, by decide⟩ h) (fun r2 hz2 hb2 h => ?_)
  refine y_if_eq 26 Q_X11_person (k := 8) rfl (by decide) hz2 (fun c => ?_) (fun c => ?_)
  · replace h := h.1 c
    refine y_iconst Q_X11_person (k := 14) rfl ?_
    refine y_iconst Q_X11_person (k := 15) rfl ?_
    refine q_callV2_zV Q_X11_person (k := 16) rfl rfl K_X11_may V_X11_may L_X11_187 (n_ hB1.1 rfl) (k_602 hB1.1) (Nat.le_of_ble_eq_true rfl) (Nat.le_of_ble_eq_true rfl) rfl (Nat.zero_le _) (Nat.zero_le _) (w_X11_may (d + 1) hB1 ⟨by decide, by decide⟩ (Or.inl rfl) ⟨by decide, by decide⟩ h) (fun r3 V3 hB3 hz3 hb3 h => ?_)
    refine y_if_ne 36 Q_X11_person (k := 17) rfl (by decide) hz3 (fun c => ?_) (fun c => ?_)
    · replace h := h.2 c
      refine z_aload_n Q_X11_person (k := 20) rfl rfl ?_
      refine z_getR (b := 603) Q_X11_person (k := 21) rfl F_X11_13 rfl (n_ hB3.1 rfl) (k_602 hB3.1) (r_602_1 hB3.1) ?_
      refine y_bipush Q_X11_person (k := 22) rfl (by decide) ?_
      refine q_iald (o := 603) (N := 594) Q_X11_person (k := 23) rfl rfl (n_ hB3.1 rfl) (k_603 hB3.1) rfl ⟨by decide, by decide⟩ (by decide) ?_
      refine y_bipush Q_X11_person (k := 24) rfl (by decide) ?_
      refine y_icmp_ne 50 Q_X11_person (k := 25) rfl (by decide) (hB3.2.1 _ _) ⟨by decide, by decide⟩ (fun c => ?_) (fun c => ?_)
      · replace h := h.2 c
        refine z_aload_n Q_X11_person (k := 28) rfl rfl ?_
        refine z_getR (b := 603) Q_X11_person (k := 29) rfl F_X11_13 rfl (n_ hB3.1 rfl) (k_602 hB3.1) (r_602_1 hB3.1) ?_
        refine y_bipush Q_X11_person (k := 30) rfl (by decide) ?_
        refine q_iald (o := 603) (N := 594) Q_X11_person (k := 31) rfl rfl (n_ hB3.1 rfl) (k_603 hB3.1) rfl ⟨by decide, by decide⟩ (by decide) ?_
        refine y_istore_n (L' := [some (.ref 602), some (.int (iI a1)), some (.int (iI a2)), some (.int (iI (V3 603 21))), none]) Q_X11_person (k := 32) rfl (by decide) rfl ?_
        refine z_aload_n Q_X11_person (k := 33) rfl rfl ?_
        refine z_getR (b := 603) Q_X11_person (k := 34) rfl F_X11_13 rfl (n_ hB3.1 rfl) (k_602 hB3.1) (r_602_1 hB3.1) ?_
        refine y_bipush Q_X11_person (k := 35) rfl (by decide) ?_
        refine z_iload_n Q_X11_person (k := 36) rfl rfl ?_
        obtain ⟨q4, h⟩ := h
        refine y_iadd Q_X11_person (k := 37) rfl ?_
        refine z_iload_n Q_X11_person (k := 38) rfl rfl ?_
        obtain ⟨q5, h⟩ := h
        refine q_iast (o := 603) (N := 594) Q_X11_person (k := 39) rfl rfl (n_ hB3.1 rfl) (k_603 hB3.1) rfl q5 (by decide) ?_
        have hB6 := qB.u (a := 603) (j := 22 + (V3 603 21)) (x := a1) hB3 z1 (Or.inl (by decide))
        refine z_aload_n Q_X11_person (k := 40) rfl rfl ?_
        refine z_getR (b := 603) Q_X11_person (k := 41) rfl F_X11_13 rfl (n_ hB6.1 rfl) (k_602 hB6.1) (r_602_1 hB6.1) ?_
        refine y_bipush Q_X11_person (k := 42) rfl (by decide) ?_
        refine z_iload_n Q_X11_person (k := 43) rfl rfl ?_
        obtain ⟨q7, h⟩ := h
        refine y_iadd Q_X11_person (k := 44) rfl ?_
        refine z_iload_n Q_X11_person (k := 45) rfl rfl ?_
        obtain ⟨q8, h⟩ := h
        refine q_iast (o := 603) (N := 594) Q_X11_person (k := 46) rfl rfl (n_ hB6.1 rfl) (k_603 hB6.1) rfl q8 (by decide) ?_
        have hB9 := qB.u (a := 603) (j := 38 + (V3 603 21)) (x := a2) hB6 z2 (Or.inl (by decide))
        refine z_aload_n Q_X11_person (k := 47) rfl rfl ?_
        refine z_getR (b := 603) Q_X11_person (k := 48) rfl F_X11_13 rfl (n_ hB9.1 rfl) (k_602 hB9.1) (r_602_1 hB9.1) ?_
        refine y_bipush Q_X11_person (k := 49) rfl (by decide) ?_
        refine z_iload_n Q_X11_person (k := 50) rfl rfl ?_
        obtain ⟨q10, h⟩ := h
        refine y_iadd Q_X11_person (k := 51) rfl ?_
        refine y_iconst Q_X11_person (k := 52) rfl ?_
        obtain ⟨q11, h⟩ := h
        refine q_iast (o := 603) (N := 594) Q_X11_person (k := 53) rfl rfl (n_ hB9.1 rfl) (k_603 hB9.1) rfl q11 (by decide) ?_
        have hB12 := qB.u (a := 603) (j := 54 + (V3 603 21)) (x := 0) hB9 ⟨by decide, by decide⟩ (Or.inl (by decide))
        refine y_iconst Q_X11_person (k := 54) rfl ?_
        refine y_istore (L' := [some (.ref 602), some (.int (iI a1)), some (.int (iI a2)), some (.int (iI (V3 603 21))), some (.int (iI 0))]) Q_X11_person (k := 55) rfl (by decide) rfl ?_
        refine y_fg (zsb_c rfl (zsb_n (zsb_n (zsb_c rfl (zsb_c rfl zsb_e))))) (v_X11_person_91 d (hB3.2.1 _ _) (fun l4x19 V19 hB19 zl4x19 h => ?_) 100000 0 (qu (qu (qu V3 603 (22 + (V3 603 21)) a1) 603 (38 + (V3 603 21)) a2) 603 (54 + (V3 603 21)) 0) hB12 ⟨by decide, by decide⟩ h)
        refine z_aload_n Q_X11_person (k := 72) rfl rfl ?_
        refine z_getR (b := 603) Q_X11_person (k := 73) rfl F_X11_13 rfl (n_ hB19.1 rfl) (k_602 hB19.1) (r_602_1 hB19.1) ?_
        refine y_bipush Q_X11_person (k := 74) rfl (by decide) ?_
        refine z_dup2 Q_X11_person (k := 75) rfl rfl rfl ?_
        refine q_iald (o := 603) (N := 594) Q_X11_person (k := 76) rfl rfl (n_ hB19.1 rfl) (k_603 hB19.1) rfl ⟨by decide, by decide⟩ (by decide) ?_
        refine y_iconst Q_X11_person (k := 77) rfl ?_
        obtain ⟨q20, h⟩ := h
        refine y_iadd Q_X11_person (k := 78) rfl ?_
        refine q_iast (o := 603) (N := 594) Q_X11_person (k := 79) rfl rfl (n_ hB19.1 rfl) (k_603 hB19.1) rfl ⟨by decide, by decide⟩ (by decide) ?_
        have hB21 := qB.u (a := 603) (j := 21) (x := (V19 603 21) + 1) hB19 q20 (Or.inl (by decide))
        refine z_iload_n Q_X11_person (k := 80) rfl rfl ?_
        exact y_iret Q_X11_person (k := 81) rfl rfl (qI_iV hB21 (hB3.2.1 _ _) h)
      · replace h := h.1 c
        refine y_iconst Q_X11_person (k := 26) rfl ?_
        exact y_iret Q_X11_person (k := 27) rfl rfl (qI_iV hB3 ⟨by decide, by decide⟩ h)
    · replace h := h.1 c
      refine y_iconst Q_X11_person (k := 18) rfl ?_
      exact y_iret Q_X11_person (k := 19) rfl rfl (qI_iV hB3 ⟨by decide, by decide⟩ h)
  · replace h := h.2 c
    refine z_iload_n Q_X11_person (k := 9) rfl rfl ?_
    refine q_callS1_z Q_X11_person (k := 10) rfl rfl K_X11_isMarks S_X11_isMarks L_X11_220 (Nat.le_of_ble_eq_true rfl) (Nat.le_of_ble_eq_true rfl) rfl (Nat.zero_le _) (Nat.zero_le _) (w_X11_isMarks d hB1 z2 h) (fun r22 hz22 hb22 h => ?_)
    refine y_if_eq 26 Q_X11_person (k := 11) rfl (by decide) hz22 (fun c => ?_) (fun c => ?_)
    · replace h := h.1 c
      refine y_iconst Q_X11_person (k := 14) rfl ?_
      refine y_iconst Q_X11_person (k := 15) rfl ?_
      refine q_callV2_zV Q_X11_person (k := 16) rfl rfl K_X11_may V_X11_may L_X11_187 (n_ hB1.1 rfl) (k_602 hB1.1) (Nat.le_of_ble_eq_true rfl) (Nat.le_of_ble_eq_true rfl) rfl (Nat.zero_le _) (Nat.zero_le _) (w_X11_may (d + 1) hB1 ⟨by decide, by decide⟩ (Or.inl rfl) ⟨by decide, by decide⟩ h) (fun r23 V23 hB23 hz23 hb23 h => ?_)
      refine y_if_ne 36 Q_X11_person (k := 17) rfl (by decide) hz23 (fun c => ?_) (fun c => ?_)
      · replace h := h.2 c
        refine z_aload_n Q_X11_person (k := 20) rfl rfl ?_
        refine z_getR (b := 603) Q_X11_person (k := 21) rfl F_X11_13 rfl (n_ hB23.1 rfl) (k_602 hB23.1) (r_602_1 hB23.1) ?_
        refine y_bipush Q_X11_person (k := 22) rfl (by decide) ?_
        refine q_iald (o := 603) (N := 594) Q_X11_person (k := 23) rfl rfl (n_ hB23.1 rfl) (k_603 hB23.1) rfl ⟨by decide, by decide⟩ (by decide) ?_
        refine y_bipush Q_X11_person (k := 24) rfl (by decide) ?_
        refine y_icmp_ne 50 Q_X11_person (k := 25) rfl (by decide) (hB23.2.1 _ _) ⟨by decide, by decide⟩ (fun c => ?_) (fun c => ?_)
        · replace h := h.2 c
          refine z_aload_n Q_X11_person (k := 28) rfl rfl ?_
          refine z_getR (b := 603) Q_X11_person (k := 29) rfl F_X11_13 rfl (n_ hB23.1 rfl) (k_602 hB23.1) (r_602_1 hB23.1) ?_
          refine y_bipush Q_X11_person (k := 30) rfl (by decide) ?_
          refine q_iald (o := 603) (N := 594) Q_X11_person (k := 31) rfl rfl (n_ hB23.1 rfl) (k_603 hB23.1) rfl ⟨by decide, by decide⟩ (by decide) ?_
          refine y_istore_n (L' := [some (.ref 602), some (.int (iI a1)), some (.int (iI a2)), some (.int (iI (V23 603 21))), none]) Q_X11_person (k := 32) rfl (by decide) rfl ?_
          refine z_aload_n Q_X11_person (k := 33) rfl rfl ?_
          refine z_getR (b := 603) Q_X11_person (k := 34) rfl F_X11_13 rfl (n_ hB23.1 rfl) (k_602 hB23.1) (r_602_1 hB23.1) ?_
          refine y_bipush Q_X11_person (k := 35) rfl (by decide) ?_
          refine z_iload_n Q_X11_person (k := 36) rfl rfl ?_
          obtain ⟨q24, h⟩ := h
          refine y_iadd Q_X11_person (k := 37) rfl ?_
          refine z_iload_n Q_X11_person (k := 38) rfl rfl ?_
          obtain ⟨q25, h⟩ := h
          refine q_iast (o := 603) (N := 594) Q_X11_person (k := 39) rfl rfl (n_ hB23.1 rfl) (k_603 hB23.1) rfl q25 (by decide) ?_
          have hB26 := qB.u (a := 603) (j := 22 + (V23 603 21)) (x := a1) hB23 z1 (Or.inl (by decide))
          refine z_aload_n Q_X11_person (k := 40) rfl rfl ?_
          refine z_getR (b := 603) Q_X11_person (k := 41) rfl F_X11_13 rfl (n_ hB26.1 rfl) (k_602 hB26.1) (r_602_1 hB26.1) ?_
          refine y_bipush Q_X11_person (k := 42) rfl (by decide) ?_
          refine z_iload_n Q_X11_person (k := 43) rfl rfl ?_
          obtain ⟨q27, h⟩ := h
          refine y_iadd Q_X11_person (k := 44) rfl ?_
          refine z_iload_n Q_X11_person (k := 45) rfl rfl ?_
          obtain ⟨q28, h⟩ := h
          refine q_iast (o := 603) (N := 594) Q_X11_person (k := 46) rfl rfl (n_ hB26.1 rfl) (k_603 hB26.1) rfl q28 (by decide) ?_
          have hB29 := qB.u (a := 603) (j := 38 + (V23 603 21)) (x := a2) hB26 z2 (Or.inl (by decide))
          refine z_aload_n Q_X11_person (k := 47) rfl rfl ?_
          refine z_getR (b := 603) Q_X11_person (k := 48) rfl F_X11_13 rfl (n_ hB29.1 rfl) (k_602 hB29.1) (r_602_1 hB29.1) ?_
          refine y_bipush Q_X11_person (k := 49) rfl (by decide) ?_
          refine z_iload_n Q_X11_person (k := 50) rfl rfl ?_
          obtain ⟨q30, h⟩ := h
          refine y_iadd Q_X11_person (k := 51) rfl ?_
          refine y_iconst Q_X11_person (k := 52) rfl ?_
          obtain ⟨q31, h⟩ := h
          refine q_iast (o := 603) (N := 594) Q_X11_person (k := 53) rfl rfl (n_ hB29.1 rfl) (k_603 hB29.1) rfl q31 (by decide) ?_
          have hB32 := qB.u (a := 603) (j := 54 + (V23 603 21)) (x := 0) hB29 ⟨by decide, by decide⟩ (Or.inl (by decide))
          refine y_iconst Q_X11_person (k := 54) rfl ?_
          refine y_istore (L' := [some (.ref 602), some (.int (iI a1)), some (.int (iI a2)), some (.int (iI (V23 603 21))), some (.int (iI 0))]) Q_X11_person (k := 55) rfl (by decide) rfl ?_
          refine y_fg (zsb_c rfl (zsb_n (zsb_n (zsb_c rfl (zsb_c rfl zsb_e))))) (v_X11_person_91 d (hB23.2.1 _ _) (fun l4x33 V33 hB33 zl4x33 h => ?_) 100000 0 (qu (qu (qu V23 603 (22 + (V23 603 21)) a1) 603 (38 + (V23 603 21)) a2) 603 (54 + (V23 603 21)) 0) hB32 ⟨by decide, by decide⟩ h)
          refine z_aload_n Q_X11_person (k := 72) rfl rfl ?_
          refine z_getR (b := 603) Q_X11_person (k := 73) rfl F_X11_13 rfl (n_ hB33.1 rfl) (k_602 hB33.1) (r_602_1 hB33.1) ?_
          refine y_bipush Q_X11_person (k := 74) rfl (by decide) ?_
          refine z_dup2 Q_X11_person (k := 75) rfl rfl rfl ?_
          refine q_iald (o := 603) (N := 594) Q_X11_person (k := 76) rfl rfl (n_ hB33.1 rfl) (k_603 hB33.1) rfl ⟨by decide, by decide⟩ (by decide) ?_
          refine y_iconst Q_X11_person (k := 77) rfl ?_
          obtain ⟨q34, h⟩ := h
          refine y_iadd Q_X11_person (k := 78) rfl ?_
          refine q_iast (o := 603) (N := 594) Q_X11_person (k := 79) rfl rfl (n_ hB33.1 rfl) (k_603 hB33.1) rfl ⟨by decide, by decide⟩ (by decide) ?_
          have hB35 := qB.u (a := 603) (j := 21) (x := (V33 603 21) + 1) hB33 q34 (Or.inl (by decide))
          refine z_iload_n Q_X11_person (k := 80) rfl rfl ?_
          exact y_iret Q_X11_person (k := 81) rfl rfl (qI_iV hB35 (hB23.2.1 _ _) h)
        · replace h := h.1 c
          refine y_iconst Q_X11_person (k := 26) rfl ?_
          exact y_iret Q_X11_person (k := 27) rfl rfl (qI_iV hB23 ⟨by decide, by decide⟩ h)
      · replace h := h.1 c
        refine y_iconst Q_X11_person (k := 18) rfl ?_
        exact y_iret Q_X11_person (k := 19) rfl rfl (qI_iV hB23 ⟨by decide, by decide⟩ h)
    · replace h := h.2 c
      refine y_iconst Q_X11_person (k := 12) rfl ?_
      refine z_goto (tgt := 27) Q_X11_person (k := 13) rfl (by decide) ?_
      refine y_iconst Q_X11_person (k := 15) rfl ?_
      refine q_callV2_zV Q_X11_person (k := 16) rfl rfl K_X11_may V_X11_may L_X11_187 (n_ hB1.1 rfl) (k_602 hB1.1) (Nat.le_of_ble_eq_true rfl) (Nat.le_of_ble_eq_true rfl) rfl (Nat.zero_le _) (Nat.zero_le _) (w_X11_may (d + 1) hB1 ⟨by decide, by decide⟩ (Or.inr rfl) ⟨by decide, by decide⟩ h) (fun r36 V36 hB36 hz36 hb36 h => ?_)
      refine y_if_ne 36 Q_X11_person (k := 17) rfl (by decide) hz36 (fun c => ?_) (fun c => ?_)
      · replace h := h.2 c
        refine z_aload_n Q_X11_person (k := 20) rfl rfl ?_
        refine z_getR (b := 603) Q_X11_person (k := 21) rfl F_X11_13 rfl (n_ hB36.1 rfl) (k_602 hB36.1) (r_602_1 hB36.1) ?_
        refine y_bipush Q_X11_person (k := 22) rfl (by decide) ?_
        refine q_iald (o := 603) (N := 594) Q_X11_person (k := 23) rfl rfl (n_ hB36.1 rfl) (k_603 hB36.1) rfl ⟨by decide, by decide⟩ (by decide) ?_
        refine y_bipush Q_X11_person (k := 24) rfl (by decide) ?_
        refine y_icmp_ne 50 Q_X11_person (k := 25) rfl (by decide) (hB36.2.1 _ _) ⟨by decide, by decide⟩ (fun c => ?_) (fun c => ?_)
        · replace h := h.2 c
          refine z_aload_n Q_X11_person (k := 28) rfl rfl ?_
          refine z_getR (b := 603) Q_X11_person (k := 29) rfl F_X11_13 rfl (n_ hB36.1 rfl) (k_602 hB36.1) (r_602_1 hB36.1) ?_
          refine y_bipush Q_X11_person (k := 30) rfl (by decide) ?_
          refine q_iald (o := 603) (N := 594) Q_X11_person (k := 31) rfl rfl (n_ hB36.1 rfl) (k_603 hB36.1) rfl ⟨by decide, by decide⟩ (by decide) ?_
          refine y_istore_n (L' := [some (.ref 602), some (.int (iI a1)), some (.int (iI a2)), some (.int (iI (V36 603 21))), none]) Q_X11_person (k := 32) rfl (by decide) rfl ?_
          refine z_aload_n Q_X11_person (k := 33) rfl rfl ?_
          refine z_getR (b := 603) Q_X11_person (k := 34) rfl F_X11_13 rfl (n_ hB36.1 rfl) (k_602 hB36.1) (r_602_1 hB36.1) ?_
          refine y_bipush Q_X11_person (k := 35) rfl (by decide) ?_
          refine z_iload_n Q_X11_person (k := 36) rfl rfl ?_
          obtain ⟨q37, h⟩ := h
          refine y_iadd Q_X11_person (k := 37) rfl ?_
          refine z_iload_n Q_X11_person (k := 38) rfl rfl ?_
          obtain ⟨q38, h⟩ := h
          refine q_iast (o := 603) (N := 594) Q_X11_person (k := 39) rfl rfl (n_ hB36.1 rfl) (k_603 hB36.1) rfl q38 (by decide) ?_
          have hB39 := qB.u (a := 603) (j := 22 + (V36 603 21)) (x := a1) hB36 z1 (Or.inl (by decide))
          refine z_aload_n Q_X11_person (k := 40) rfl rfl ?_
          refine z_getR (b := 603) Q_X11_person (k := 41) rfl F_X11_13 rfl (n_ hB39.1 rfl) (k_602 hB39.1) (r_602_1 hB39.1) ?_
          refine y_bipush Q_X11_person (k := 42) rfl (by decide) ?_
          refine z_iload_n Q_X11_person (k := 43) rfl rfl ?_
          obtain ⟨q40, h⟩ := h
          refine y_iadd Q_X11_person (k := 44) rfl ?_
          refine z_iload_n Q_X11_person (k := 45) rfl rfl ?_
          obtain ⟨q41, h⟩ := h
          refine q_iast (o := 603) (N := 594) Q_X11_person (k := 46) rfl rfl (n_ hB39.1 rfl) (k_603 hB39.1) rfl q41 (by decide) ?_
          have hB42 := qB.u (a := 603) (j := 38 + (V36 603 21)) (x := a2) hB39 z2 (Or.inl (by decide))
          refine z_aload_n Q_X11_person (k := 47) rfl rfl ?_
          refine z_getR (b := 603) Q_X11_person (k := 48) rfl F_X11_13 rfl (n_ hB42.1 rfl) (k_602 hB42.1) (r_602_1 hB42.1) ?_
          refine y_bipush Q_X11_person (k := 49) rfl (by decide) ?_
          refine z_iload_n Q_X11_person (k := 50) rfl rfl ?_
          obtain ⟨q43, h⟩ := h
          refine y_iadd Q_X11_person (k := 51) rfl ?_
          refine y_iconst Q_X11_person (k := 52) rfl ?_
          obtain ⟨q44, h⟩ := h
          refine q_iast (o := 603) (N := 594) Q_X11_person (k := 53) rfl rfl (n_ hB42.1 rfl) (k_603 hB42.1) rfl q44 (by decide) ?_
          have hB45 := qB.u (a := 603) (j := 54 + (V36 603 21)) (x := 0) hB42 ⟨by decide, by decide⟩ (Or.inl (by decide))
          refine y_iconst Q_X11_person (k := 54) rfl ?_
          refine y_istore (L' := [some (.ref 602), some (.int (iI a1)), some (.int (iI a2)), some (.int (iI (V36 603 21))), some (.int (iI 0))]) Q_X11_person (k := 55) rfl (by decide) rfl ?_
          refine y_fg (zsb_c rfl (zsb_n (zsb_n (zsb_c rfl (zsb_c rfl zsb_e))))) (v_X11_person_91 d (hB36.2.1 _ _) (fun l4x46 V46 hB46 zl4x46 h => ?_) 100000 0 (qu (qu (qu V36 603 (22 + (V36 603 21)) a1) 603 (38 + (V36 603 21)) a2) 603 (54 + (V36 603 21)) 0) hB45 ⟨by decide, by decide⟩ h)
          refine z_aload_n Q_X11_person (k := 72) rfl rfl ?_
          refine z_getR (b := 603) Q_X11_person (k := 73) rfl F_X11_13 rfl (n_ hB46.1 rfl) (k_602 hB46.1) (r_602_1 hB46.1) ?_
          refine y_bipush Q_X11_person (k := 74) rfl (by decide) ?_
          refine z_dup2 Q_X11_person (k := 75) rfl rfl rfl ?_
          refine q_iald (o := 603) (N := 594) Q_X11_person (k := 76) rfl rfl (n_ hB46.1 rfl) (k_603 hB46.1) rfl ⟨by decide, by decide⟩ (by decide) ?_
          refine y_iconst Q_X11_person (k := 77) rfl ?_
          obtain ⟨q47, h⟩ := h
          refine y_iadd Q_X11_person (k := 78) rfl ?_
          refine q_iast (o := 603) (N := 594) Q_X11_person (k := 79) rfl rfl (n_ hB46.1 rfl) (k_603 hB46.1) rfl ⟨by decide, by decide⟩ (by decide) ?_
          have hB48 := qB.u (a := 603) (j := 21) (x := (V46 603 21) + 1) hB46 q47 (Or.inl (by decide))
          refine z_iload_n Q_X11_person (k := 80) rfl rfl ?_
          exact y_iret Q_X11_person (k := 81) rfl rfl (qI_iV hB48 (hB36.2.1 _ _) h)
        · replace h := h.1 c
          refine y_iconst Q_X11_person (k := 26) rfl ?_
          exact y_iret Q_X11_person (k := 27) rfl rfl (qI_iV hB36 ⟨by decide, by decide⟩ h)
      · replace h := h.1 c
        refine y_iconst Q_X11_person (k := 18) rfl ?_
        exact y_iret Q_X11_person (k := 19) rfl rfl (qI_iV hB36 ⟨by decide, by decide⟩ h)
