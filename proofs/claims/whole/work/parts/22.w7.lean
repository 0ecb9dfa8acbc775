/-! methods keep their predicates -/
set_option maxHeartbeats 4000000 in
set_option maxRecDepth 20000 in
theorem v_X11_parts_2 {S : zS} {J : qJ} {K : Int → qV → Prop} {Q : Int → qV → Prop} {kc ks : Nat} (d : Nat) {l1 : Int} (z1 : zr l1) {l2 : Int} (z2 : zr l2) (hK : ∀ (l3 : Int) (V : qV), qB S V → zr l3 → K l3 V → Z M_X11_parts (d + 3) kc ks 41 [some (.ref 602), some (.int (iI l1)), some (.int (iI l2)), some (.int (iI l3))] [] S (qi V) (qj J) (qP_zV S J Q)) : ∀ (f : Nat) (l3 : Int) (V : qV), qB S V → zr l3 → lp_X11_parts_2 l1 l2 K Q f l3 V → Z M_X11_parts (d + 3) kc ks 2 [some (.ref 602), some (.int (iI l1)), some (.int (iI l2)), some (.int (iI l3))] [] S (qi V) (qj J) (qP_zV S J Q) := by
  intro f
  induction f with
  | zero =>
    intro l3 V hB z3 h
    exact h.elim
  | succ f ih =>
    intro l3 V hB z3 h
    rw [lp_X11_parts_2] at h
    refine z_iload_n Q_X11_parts (k := 2) rfl rfl ?_
    refine y_sipush Q_X11_parts (k := 3) rfl (by decide) ?_
    refine y_icmp_ge 41 Q_X11_parts (k := 4) rfl (by decide) z3 ⟨by decide, by decide⟩ (fun c => ?_) (fun c => ?_)
    · replace h := h.1 c
      exact y_fg (zsb_c rfl (zsb_c rfl (zsb_c rfl (zsb_c rfl zsb_e)))) (hK l3 V hB z3 h)
    · replace h := h.2 c
      refine z_aload_n Q_X11_parts (k := 5) rfl rfl ?_
      refine z_getR (b := 622) Q_X11_parts (k := 6) rfl F_X11_76 rfl (n_ hB.1 rfl) (k_602 hB.1) (r_602_32 hB.1) ?_
      refine z_iload_n Q_X11_parts (k := 7) rfl rfl ?_
      obtain ⟨q1, h⟩ := h
      refine q_zald (o := 622) (N := 1024) Q_X11_parts (k := 8) rfl rfl (n_ hB.1 rfl) (k_622 hB.1) rfl q1 (by decide) ?_
      refine y_if_eq 35 Q_X11_parts (k := 9) rfl (by decide) (hB.2.1 _ _) (fun c => ?_) (fun c => ?_)
      · replace h := h.1 c
        obtain ⟨q2, h⟩ := h
        refine y_iinc (L' := [some (.ref 602), some (.int (iI l1)), some (.int (iI l2)), some (.int (iI (l3 + 1)))]) Q_X11_parts (k := 21) rfl (by decide) rfl rfl ?_
        refine z_goto (tgt := 2) Q_X11_parts (k := 22) rfl (by decide) ?_
        exact y_fg (zsb_c rfl (zsb_c rfl (zsb_c rfl (zsb_c rfl zsb_e)))) (ih (l3 + 1) V hB q2 h)
      · replace h := h.2 c
        refine z_aload_n Q_X11_parts (k := 10) rfl rfl ?_
        refine z_iload_n Q_X11_parts (k := 11) rfl rfl ?_
        refine z_iload_n Q_X11_parts (k := 12) rfl rfl ?_
        refine q_callV2_iV Q_X11_parts (k := 13) rfl rfl K_X11_whoIn V_X11_whoIn L_X11_261 (n_ hB.1 rfl) (k_602 hB.1) (Nat.le_of_ble_eq_true rfl) (Nat.le_of_ble_eq_true rfl) rfl (Nat.zero_le _) (Nat.zero_le _) (w_X11_whoIn d hB z1 z3 h) (fun r3 V3 hB3 hz3 h => ?_)
        refine z_aload_n Q_X11_parts (k := 14) rfl rfl ?_
        refine z_iload_n Q_X11_parts (k := 15) rfl rfl ?_
        refine z_iload_n Q_X11_parts (k := 16) rfl rfl ?_
        refine q_callV2_iV Q_X11_parts (k := 17) rfl rfl K_X11_whoIn V_X11_whoIn L_X11_261 (n_ hB3.1 rfl) (k_602 hB3.1) (Nat.le_of_ble_eq_true rfl) (Nat.le_of_ble_eq_true rfl) rfl (Nat.zero_le _) (Nat.zero_le _) (w_X11_whoIn d hB3 z2 z3 h) (fun r4 V4 hB4 hz4 h => ?_)
        refine y_icmp_eq 35 Q_X11_parts (k := 18) rfl (by decide) hz3 hz4 (fun c => ?_) (fun c => ?_)
        · replace h := h.1 c
          obtain ⟨q5, h⟩ := h
          refine y_iinc (L' := [some (.ref 602), some (.int (iI l1)), some (.int (iI l2)), some (.int (iI (l3 + 1)))]) Q_X11_parts (k := 21) rfl (by decide) rfl rfl ?_
          refine z_goto (tgt := 2) Q_X11_parts (k := 22) rfl (by decide) ?_
          exact y_fg (zsb_c rfl (zsb_c rfl (zsb_c rfl (zsb_c rfl zsb_e)))) (ih (l3 + 1) V4 hB4 q5 h)
        · replace h := h.2 c
          refine y_iconst Q_X11_parts (k := 19) rfl ?_
          exact y_zret Q_X11_parts (k := 20) rfl rfl (Or.inr rfl) (qI_zV hB4 ⟨by decide, by decide⟩ (Or.inr rfl) h)
set_option maxHeartbeats 4000000 in
set_option maxRecDepth 20000 in
theorem w_X11_parts {S : zS} {V : qV} {J : qJ} {Q : Int → qV → Prop} (d : Nat) (hB : qB S V) {a1 : Int} (z1 : zr a1) {a2 : Int} (z2 : zr a2) (h : W_X11_parts a1 a2 V Q) : Z M_X11_parts (d + 3) 0 0 0 [some (.ref 602), some (.int (iI a1)), some (.int (iI a2)), none] [] S (qi V) (qj J) (qP_zV S J Q) := by
  unfold W_X11_parts at h
  refine y_iconst Q_X11_parts (k := 0) rfl ?_
  refine y_istore_n (L' := [some (.ref 602), some (.int (iI a1)), some (.int (iI a2)), some (.int (iI 0))]) Q_X11_parts (k := 1) rfl (by decide) rfl ?_
  refine y_fg (zsb_c rfl (zsb_c rfl (zsb_c rfl (zsb_c rfl zsb_e)))) (v_X11_parts_2 d z1 z2 (fun l3x6 V6 hB6 zl3x6 h => ?_) 100000 0 V hB ⟨by decide, by decide⟩ h)
  refine y_iconst Q_X11_parts (k := 23) rfl ?_
  exact y_zret Q_X11_parts (k := 24) rfl rfl (Or.inl rfl) (qI_zV hB6 ⟨by decide, by decide⟩ (Or.inl rfl) h)
set_option maxHeartbeats 4000000 in
set_option maxRecDepth 20000 in
theorem v_X11_beside_36 {S : zS} {J : qJ} {K : Int → Int → qV → Prop} {Q : Int → qV → Prop} {kc ks : Nat} (d : Nat) {l1 : Int} (z1 : zr l1) {l2 : Int} (z2 : zr l2) (hK : ∀ (l3 : Int) (l4 : Int) (V : qV), qB S V → zr l3 → zr l4 → K l3 l4 V → Z M_X11_beside (d + 4) kc ks 78 [some (.ref 602), some (.int (iI l1)), some (.int (iI l2)), some (.int (iI l3)), some (.int (iI l4))] [] S (qi V) (qj J) (qP_iV S J Q)) : ∀ (f : Nat) (l3 : Int) (l4 : Int) (V : qV), qB S V → zr l3 → zr l4 → lp_X11_beside_36 l1 l2 K f l3 l4 V → Z M_X11_beside (d + 4) kc ks 36 [some (.ref 602), some (.int (iI l1)), some (.int (iI l2)), some (.int (iI l3)), some (.int (iI l4))] [] S (qi V) (qj J) (qP_iV S J Q) := by
  intro f
  induction f with
  | zero =>
    intro l3 l4 V hB z3 z4 h
    exact h.elim
  | succ f ih =>
    intro l3 l4 V hB z3 z4 h
    rw [lp_X11_beside_36] at h
    refine z_iload Q_X11_beside (k := 23) rfl rfl ?_
    refine z_aload_n Q_X11_beside (k := 24) rfl rfl ?_
    refine z_getR (b := 603) Q_X11_beside (k := 25) rfl F_X11_13 rfl (n_ hB.1 rfl) (k_602 hB.1) (r_602_1 hB.1) ?_
    refine y_sipush Q_X11_beside (k := 26) rfl (by decide) ?_
    refine q_iald (o := 603) (N := 594) Q_X11_beside (k := 27) rfl rfl (n_ hB.1 rfl) (k_603 hB.1) rfl ⟨by decide, by decide⟩ (by decide) ?_
    refine y_icmp_ge 78 Q_X11_beside (k := 28) rfl (by decide) z4 (hB.2.1 _ _) (fun c => ?_) (fun c => ?_)
    · replace h := h.1 c
      exact y_fg (zsb_c rfl (zsb_c rfl (zsb_c rfl (zsb_c rfl (zsb_c rfl zsb_e))))) (hK l3 l4 V hB z3 z4 h)
    · replace h := h.2 c
      refine z_aload_n Q_X11_beside (k := 29) rfl rfl ?_
      refine z_iload Q_X11_beside (k := 30) rfl rfl ?_
      refine q_callV1_uV Q_X11_beside (k := 31) rfl rfl K_X11_nameFind V_X11_nameFind L_X11_248 (n_ hB.1 rfl) (k_602 hB.1) (Nat.le_of_ble_eq_true rfl) (Nat.le_of_ble_eq_true rfl) rfl (Nat.zero_le _) (Nat.zero_le _) (w_X11_nameFind (d + 2) hB z4 h) (fun V5 hB5 h => ?_)
      refine z_iload_n Q_X11_beside (k := 32) rfl rfl ?_
      refine z_aload_n Q_X11_beside (k := 33) rfl rfl ?_
      refine z_iload_n Q_X11_beside (k := 34) rfl rfl ?_
      refine z_iload_n Q_X11_beside (k := 35) rfl rfl ?_
      refine q_callV2_zV Q_X11_beside (k := 36) rfl rfl K_X11_parts V_X11_parts L_X11_312 (n_ hB5.1 rfl) (k_602 hB5.1) (Nat.le_of_ble_eq_true rfl) (Nat.le_of_ble_eq_true rfl) rfl (Nat.zero_le _) (Nat.zero_le _) (w_X11_parts d hB5 z1 z2 h) (fun r6 V6 hB6 hz6 hb6 h => ?_)
      refine y_if_eq 69 Q_X11_beside (k := 37) rfl (by decide) hz6 (fun c => ?_) (fun c => ?_)
      · replace h := h.1 c
        refine y_iconst Q_X11_beside (k := 40) rfl ?_
        obtain ⟨q7, h⟩ := h
        refine y_iadd Q_X11_beside (k := 41) rfl ?_
        refine y_istore_n (L' := [some (.ref 602), some (.int (iI l1)), some (.int (iI l2)), some (.int (iI (l3 + 0))), some (.int (iI l4))]) Q_X11_beside (k := 42) rfl (by decide) rfl ?_
        obtain ⟨q8, h⟩ := h
        refine y_iinc (L' := [some (.ref 602), some (.int (iI l1)), some (.int (iI l2)), some (.int (iI (l3 + 0))), some (.int (iI (l4 + 1)))]) Q_X11_beside (k := 43) rfl (by decide) rfl rfl ?_
        refine z_goto (tgt := 36) Q_X11_beside (k := 44) rfl (by decide) ?_
        exact y_fg (zsb_c rfl (zsb_c rfl (zsb_c rfl (zsb_c rfl (zsb_c rfl zsb_e))))) (ih (l3 + 0) (l4 + 1) V6 hB6 q7 q8 h)
      · replace h := h.2 c
        refine y_iconst Q_X11_beside (k := 38) rfl ?_
        refine z_goto (tgt := 70) Q_X11_beside (k := 39) rfl (by decide) ?_
        obtain ⟨q9, h⟩ := h
        refine y_iadd Q_X11_beside (k := 41) rfl ?_
        refine y_istore_n (L' := [some (.ref 602), some (.int (iI l1)), some (.int (iI l2)), some (.int (iI (l3 + 1))), some (.int (iI l4))]) Q_X11_beside (k := 42) rfl (by decide) rfl ?_
        obtain ⟨q10, h⟩ := h
        refine y_iinc (L' := [some (.ref 602), some (.int (iI l1)), some (.int (iI l2)), some (.int (iI (l3 + 1))), some (.int (iI (l4 + 1)))]) Q_X11_beside (k := 43) rfl (by decide) rfl rfl ?_
        refine z_goto (tgt := 36) Q_X11_beside (k := 44) rfl (by decide) ?_
        exact y_fg (zsb_c rfl (zsb_c rfl (zsb_c rfl (zsb_c rfl (zsb_c rfl zsb_e))))) (ih (l3 + 1) (l4 + 1) V6 hB6 q9 q10 h)
set_option maxHeartbeats 4000000 in
set_option maxRecDepth 20000 in
theorem w_X11_beside {S : zS} {V : qV} {J : qJ} {Q : Int → qV → Prop} (d : Nat) (hB : qB S V) {a1 : Int} (z1 : zr a1) {a2 : Int} (z2 : zr a2) (h : W_X11_beside a1 a2 V Q) : Z M_X11_beside (d + 4) 0 0 0 [some (.ref 602), some (.int (iI a1)), some (.int (iI a2)), none, none] [] S (qi V) (qj J) (qP_iV S J Q) := by
  unfold W_X11_beside at h
  refine z_aload_n Q_X11_beside (k := 0) rfl rfl ?_
  refine y_iconst Q_X11_beside (k := 1) rfl ?_
  refine q_putI (o := 602) (z := 0) Q_X11_beside (k := 2) rfl F_X11_1 rfl rfl rfl (n_ hB.1 rfl) (k_602 hB.1) ?_
  have hB1 := qB.u (a := 602) (j := 0) (x := 0) hB ⟨by decide, by decide⟩ (Or.inl (by decide))
  refine z_aload_n Q_X11_beside (k := 3) rfl rfl ?_
  refine z_iload_n Q_X11_beside (k := 4) rfl rfl ?_
  refine y_iconst Q_X11_beside (k := 5) rfl ?_
  refine q_callV2_zV Q_X11_beside (k := 6) rfl rfl K_X11_isLaw V_X11_isLaw L_X11_258 (n_ hB1.1 rfl) (k_602 hB1.1) (Nat.le_of_ble_eq_true rfl) (Nat.le_of_ble_eq_true rfl) rfl (Nat.zero_le _) (Nat.zero_le _) (w_X11_isLaw (d + 2) hB1 z1 ⟨by decide, by decide⟩ h) (fun r2 V2 hB2 hz2 hb2 h => ?_)
  refine y_if_eq 23 Q_X11_beside (k := 7) rfl (by decide) hz2 (fun c => ?_) (fun c => ?_)
  · replace h := h.1 c
    refine y_iconst Q_X11_beside (k := 13) rfl ?_
    exact y_iret Q_X11_beside (k := 14) rfl rfl (qI_iV hB2 ⟨by decide, by decide⟩ h)
  · replace h := h.2 c
    refine z_aload_n Q_X11_beside (k := 8) rfl rfl ?_
    refine z_iload_n Q_X11_beside (k := 9) rfl rfl ?_
    refine y_iconst Q_X11_beside (k := 10) rfl ?_
    refine q_callV2_zV Q_X11_beside (k := 11) rfl rfl K_X11_isLaw V_X11_isLaw L_X11_258 (n_ hB2.1 rfl) (k_602 hB2.1) (Nat.le_of_ble_eq_true rfl) (Nat.le_of_ble_eq_true rfl) rfl (Nat.zero_le _) (Nat.zero_le _) (w_X11_isLaw (d + 2) hB2 z2 ⟨by decide, by decide⟩ h) (fun r3 V3 hB3 hz3 hb3 h => ?_)
    refine y_if_ne 25 Q_X11_beside (k := 12) rfl (by decide) hz3 (fun c => ?_) (fun c => ?_)
    · replace h := h.2 c
      refine z_aload_n Q_X11_beside (k := 15) rfl rfl ?_
      refine z_iload_n Q_X11_beside (k := 16) rfl rfl ?_
      refine z_iload_n Q_X11_beside (k := 17) rfl rfl ?_
      refine q_callV2_uV Q_X11_beside (k := 18) rfl rfl K_X11_findViews V_X11_findViews L_X11_309 (n_ hB3.1 rfl) (k_602 hB3.1) (Nat.le_of_ble_eq_true rfl) (Nat.le_of_ble_eq_true rfl) rfl (Nat.zero_le _) (Nat.zero_le _) (w_X11_findViews (d + 1) hB3 z1 z2 h) (fun V4 hB4 h => ?_)
      refine y_iconst Q_X11_beside (k := 19) rfl ?_
      refine y_istore_n (L' := [some (.ref 602), some (.int (iI a1)), some (.int (iI a2)), some (.int (iI 0)), none]) Q_X11_beside (k := 20) rfl (by decide) rfl ?_
      refine y_iconst Q_X11_beside (k := 21) rfl ?_
      refine y_istore (L' := [some (.ref 602), some (.int (iI a1)), some (.int (iI a2)), some (.int (iI 0)), some (.int (iI 0))]) Q_X11_beside (k := 22) rfl (by decide) rfl ?_
      refine y_fg (zsb_c rfl (zsb_c rfl (zsb_c rfl (zsb_c rfl (zsb_c rfl zsb_e))))) (v_X11_beside_36 d z1 z2 (fun l3x11 l4x11 V11 hB11 zl3x11 zl4x11 h => ?_) 100000 0 0 V4 hB4 ⟨by decide, by decide⟩ ⟨by decide, by decide⟩ h)
      refine z_iload_n Q_X11_beside (k := 45) rfl rfl ?_
      exact y_iret Q_X11_beside (k := 46) rfl rfl (qI_iV hB11 zl3x11 h)
    · replace h := h.1 c
      refine y_iconst Q_X11_beside (k := 13) rfl ?_
      exact y_iret Q_X11_beside (k := 14) rfl rfl (qI_iV hB3 ⟨by decide, by decide⟩ h)
set_option maxHeartbeats 4000000 in
set_option maxRecDepth 20000 in
theorem v_X11_least_48 {S : zS} {J : qJ} {K : Int → qV → Prop} {Q : Int → qV → Prop} {kc ks : Nat} (d : Nat) {l1 : Int} (z1 : zr l1) {l2 : Int} (z2 : zr l2) {l3 : Int} (z3 : zr l3) (hK : ∀ (l4 : Int) (V : qV), qB S V → zr l4 → K l4 V → Z M_X11_least (d + 4) kc ks 69 [some (.ref 602), some (.int (iI l1)), some (.int (iI l2)), some (.int (iI l3)), some (.int (iI l4))] [] S (qi V) (qj J) (qP_iV S J Q)) : ∀ (f : Nat) (l4 : Int) (V : qV), qB S V → zr l4 → lp_X11_least_48 l1 l2 l3 K f l4 V → Z M_X11_least (d + 4) kc ks 48 [some (.ref 602), some (.int (iI l1)), some (.int (iI l2)), some (.int (iI l3)), some (.int (iI l4))] [] S (qi V) (qj J) (qP_iV S J Q) := by
  intro f
  induction f with
  | zero =>
    intro l4 V hB z4 h
    exact h.elim
  | succ f ih =>
    intro l4 V hB z4 h
    rw [lp_X11_least_48] at h
    refine z_iload Q_X11_least (k := 29) rfl rfl ?_
    refine y_bipush Q_X11_least (k := 30) rfl (by decide) ?_
    refine y_icmp_ge 69 Q_X11_least (k := 31) rfl (by decide) z4 ⟨by decide, by decide⟩ (fun c => ?_) (fun c => ?_)
    · replace h := h.1 c
      exact y_fg (zsb_c rfl (zsb_c rfl (zsb_c rfl (zsb_c rfl (zsb_c rfl zsb_e))))) (hK l4 V hB z4 h)
    · replace h := h.2 c
      refine z_aload_n Q_X11_least (k := 32) rfl rfl ?_
      refine z_getR (b := 614) Q_X11_least (k := 33) rfl F_X11_50 rfl (n_ hB.1 rfl) (k_602 hB.1) (r_602_22 hB.1) ?_
      refine z_iload Q_X11_least (k := 34) rfl rfl ?_
      refine y_iconst Q_X11_least (k := 35) rfl ?_
      obtain ⟨q7, h⟩ := h
      refine q_iast (o := 614) (N := 10) Q_X11_least (k := 36) rfl rfl (n_ hB.1 rfl) (k_614 hB.1) rfl q7 (by decide) ?_
      have hB8 := qB.u (a := 614) (j := l4) (x := 0) hB ⟨by decide, by decide⟩ (Or.inl (by decide))
      obtain ⟨q9, h⟩ := h
      refine y_iinc (L' := [some (.ref 602), some (.int (iI l1)), some (.int (iI l2)), some (.int (iI l3)), some (.int (iI (l4 + 1)))]) Q_X11_least (k := 37) rfl (by decide) rfl rfl ?_
      refine z_goto (tgt := 48) Q_X11_least (k := 38) rfl (by decide) ?_
      exact y_fg (zsb_c rfl (zsb_c rfl (zsb_c rfl (zsb_c rfl (zsb_c rfl zsb_e))))) (ih (l4 + 1) (qu V 614 l4 0) hB8 q9 h)
set_option maxHeartbeats 4000000 in
set_option maxRecDepth 20000 in
theorem v_X11_least_72 {S : zS} {J : qJ} {K : Int → qV → Prop} {Q : Int → qV → Prop} {kc ks : Nat} (d : Nat) {l1 : Int} (z1 : zr l1) {l2 : Int} (z2 : zr l2) {l3 : Int} (z3 : zr l3) (hK : ∀ (l4 : Int) (V : qV), qB S V → zr l4 → K l4 V → Z M_X11_least (d + 4) kc ks 199 [some (.ref 602), some (.int (iI l1)), some (.int (iI l2)), some (.int (iI l3)), some (.int (iI l4))] [] S (qi V) (qj J) (qP_iV S J Q)) : ∀ (f : Nat) (l4 : Int) (V : qV), qB S V → zr l4 → lp_X11_least_72 l1 l2 l3 K Q f l4 V → Z M_X11_least (d + 4) kc ks 72 [some (.ref 602), some (.int (iI l1)), some (.int (iI l2)), some (.int (iI l3)), some (.int (iI l4))] [] S (qi V) (qj J) (qP_iV S J Q) := by
  intro f
  induction f with
  | zero =>
    intro l4 V hB z4 h
    exact h.elim
  | succ f ih =>
    intro l4 V hB z4 h
    rw [lp_X11_least_72] at h
    refine z_iload Q_X11_least (k := 41) rfl rfl ?_
    refine y_sipush Q_X11_least (k := 42) rfl (by decide) ?_
    refine y_icmp_ge 199 Q_X11_least (k := 43) rfl (by decide) z4 ⟨by decide, by decide⟩ (fun c => ?_) (fun c => ?_)
    · replace h := h.1 c
      exact y_fg (zsb_c rfl (zsb_c rfl (zsb_c rfl (zsb_c rfl (zsb_c rfl zsb_e))))) (hK l4 V hB z4 h)
    · replace h := h.2 c
      refine z_aload_n Q_X11_least (k := 44) rfl rfl ?_
      refine z_getR (b := 614) Q_X11_least (k := 45) rfl F_X11_50 rfl (n_ hB.1 rfl) (k_602 hB.1) (r_602_22 hB.1) ?_
      refine y_iconst Q_X11_least (k := 46) rfl ?_
      refine y_iconst Q_X11_least (k := 47) rfl ?_
      refine z_iload Q_X11_least (k := 48) rfl rfl ?_
      refine y_bipush Q_X11_least (k := 49) rfl (by decide) ?_
      refine y_idiv Q_X11_least (k := 50) rfl z4 (by decide) ⟨by decide, by decide⟩ ?_
      obtain ⟨q11, h⟩ := h
      refine y_iadd Q_X11_least (k := 51) rfl ?_
      refine q_iast (o := 614) (N := 10) Q_X11_least (k := 52) rfl rfl (n_ hB.1 rfl) (k_614 hB.1) rfl ⟨by decide, by decide⟩ (by decide) ?_
      have hB12 := qB.u (a := 614) (j := 2) (x := 1 + (l4.tdiv 24)) hB q11 (Or.inl (by decide))
      refine z_aload_n Q_X11_least (k := 53) rfl rfl ?_
      refine z_getR (b := 614) Q_X11_least (k := 54) rfl F_X11_50 rfl (n_ hB12.1 rfl) (k_602 hB12.1) (r_602_22 hB12.1) ?_
      refine y_iconst Q_X11_least (k := 55) rfl ?_
      refine z_iload Q_X11_least (k := 56) rfl rfl ?_
      refine y_iconst Q_X11_least (k := 57) rfl ?_
      refine y_idiv Q_X11_least (k := 58) rfl z4 (by decide) ⟨by decide, by decide⟩ ?_
      refine y_bipush Q_X11_least (k := 59) rfl (by decide) ?_
      refine q_irem Q_X11_least (k := 60) rfl (q_tdiv z4 (by decide)) (by decide) ⟨by decide, by decide⟩ ?_
      refine q_iast (o := 614) (N := 10) Q_X11_least (k := 61) rfl rfl (n_ hB12.1 rfl) (k_614 hB12.1) rfl ⟨by decide, by decide⟩ (by decide) ?_
      have hB13 := qB.u (a := 614) (j := 0) (x := (l4.tdiv 4).tmod 6) hB12 (q_tmod (q_tdiv z4 (by decide))) (Or.inl (by decide))
      refine z_aload_n Q_X11_least (k := 62) rfl rfl ?_
      refine z_getR (b := 614) Q_X11_least (k := 63) rfl F_X11_50 rfl (n_ hB13.1 rfl) (k_602 hB13.1) (r_602_22 hB13.1) ?_
      refine y_iconst Q_X11_least (k := 64) rfl ?_
      refine z_iload Q_X11_least (k := 65) rfl rfl ?_
      refine y_iconst Q_X11_least (k := 66) rfl ?_
      refine q_irem Q_X11_least (k := 67) rfl z4 (by decide) ⟨by decide, by decide⟩ ?_
      refine q_iast (o := 614) (N := 10) Q_X11_least (k := 68) rfl rfl (n_ hB13.1 rfl) (k_614 hB13.1) rfl ⟨by decide, by decide⟩ (by decide) ?_
      have hB14 := qB.u (a := 614) (j := 1) (x := l4.tmod 4) hB13 (q_tmod z4) (Or.inl (by decide))
      refine z_aload_n Q_X11_least (k := 69) rfl rfl ?_
      refine z_getR (b := 614) Q_X11_least (k := 70) rfl F_X11_50 rfl (n_ hB14.1 rfl) (k_602 hB14.1) (r_602_22 hB14.1) ?_
      refine y_iconst Q_X11_least (k := 71) rfl ?_
      refine z_aload_n Q_X11_least (k := 72) rfl rfl ?_
      refine z_getR (b := 603) Q_X11_least (k := 73) rfl F_X11_13 rfl (n_ hB14.1 rfl) (k_602 hB14.1) (r_602_1 hB14.1) ?_
      refine y_sipush Q_X11_least (k := 74) rfl (by decide) ?_
      refine z_iload Q_X11_least (k := 75) rfl rfl ?_
      refine y_iconst Q_X11_least (k := 76) rfl ?_
      refine q_irem Q_X11_least (k := 77) rfl z4 (by decide) ⟨by decide, by decide⟩ ?_
      obtain ⟨q15, h⟩ := h
      refine y_iadd Q_X11_least (k := 78) rfl ?_
      obtain ⟨q16, h⟩ := h
      refine q_iald (o := 603) (N := 594) Q_X11_least (k := 79) rfl rfl (n_ hB14.1 rfl) (k_603 hB14.1) rfl q16 (by decide) ?_
      refine q_iast (o := 614) (N := 10) Q_X11_least (k := 80) rfl rfl (n_ hB14.1 rfl) (k_614 hB14.1) rfl ⟨by decide, by decide⟩ (by decide) ?_
      have hB17 := qB.u (a := 614) (j := 3) (x := (qu (qu (qu V 614 2 (1 + (l4.tdiv 24))) 614 0 ((l4.tdiv 4).tmod 6)) 614 1 (l4.tmod 4)) 603 (134 + (l4.tmod 4))) hB14 (hB14.2.1 _ _) (Or.inl (by decide))
      refine z_aload_n Q_X11_least (k := 81) rfl rfl ?_
      refine z_getR (b := 614) Q_X11_least (k := 82) rfl F_X11_50 rfl (n_ hB17.1 rfl) (k_602 hB17.1) (r_602_22 hB17.1) ?_
      refine y_bipush Q_X11_least (k := 83) rfl (by decide) ?_
      refine z_aload_n Q_X11_least (k := 84) rfl rfl ?_
      refine z_iload Q_X11_least (k := 85) rfl rfl ?_
      refine y_iconst Q_X11_least (k := 86) rfl ?_
      refine q_irem Q_X11_least (k := 87) rfl z4 (by decide) ⟨by decide, by decide⟩ ?_
      refine q_callV1_i Q_X11_least (k := 88) rfl rfl K_X11_ownOf V_X11_ownOf L_X11_242 (n_ hB17.1 rfl) (k_602 hB17.1) (Nat.le_of_ble_eq_true rfl) (Nat.le_of_ble_eq_true rfl) rfl (Nat.zero_le _) (Nat.zero_le _) (w_X11_ownOf (d + 3) hB17 (q_tmod z4) h) (fun r18 hz18 h => ?_)
      refine q_iast (o := 614) (N := 10) Q_X11_least (k := 89) rfl rfl (n_ hB17.1 rfl) (k_614 hB17.1) rfl ⟨by decide, by decide⟩ (by decide) ?_
      have hB19 := qB.u (a := 614) (j := 6) (x := r18) hB17 hz18 (Or.inl (by decide))
      refine z_aload_n Q_X11_least (k := 90) rfl rfl ?_
      refine z_iload_n Q_X11_least (k := 91) rfl rfl ?_
      refine z_iload_n Q_X11_least (k := 92) rfl rfl ?_
      refine q_callV2_zV Q_X11_least (k := 93) rfl rfl K_X11_parts V_X11_parts L_X11_312 (n_ hB19.1 rfl) (k_602 hB19.1) (Nat.le_of_ble_eq_true rfl) (Nat.le_of_ble_eq_true rfl) rfl (Nat.zero_le _) (Nat.zero_le _) (w_X11_parts d hB19 z1 z2 h) (fun r20 V20 hB20 hz20 hb20 h => ?_)
      refine y_if_eq 193 Q_X11_least (k := 94) rfl (by decide) hz20 (fun c => ?_) (fun c => ?_)
      · replace h := h.1 c
        obtain ⟨q21, h⟩ := h
        refine y_iinc (L' := [some (.ref 602), some (.int (iI l1)), some (.int (iI l2)), some (.int (iI l3)), some (.int (iI (l4 + 1)))]) Q_X11_least (k := 115) rfl (by decide) rfl rfl ?_
        refine z_goto (tgt := 72) Q_X11_least (k := 116) rfl (by decide) ?_
        exact y_fg (zsb_c rfl (zsb_c rfl (zsb_c rfl (zsb_c rfl (zsb_c rfl zsb_e))))) (ih (l4 + 1) V20 hB20 q21 h)
      · replace h := h.2 c
        refine z_iload_n Q_X11_least (k := 95) rfl rfl ?_
        refine y_if_ne 172 Q_X11_least (k := 96) rfl (by decide) z3 (fun c => ?_) (fun c => ?_)
        · replace h := h.2 c
          refine z_iload_n Q_X11_least (k := 102) rfl rfl ?_
          refine y_iconst Q_X11_least (k := 103) rfl ?_
          refine y_icmp_ne 186 Q_X11_least (k := 104) rfl (by decide) z3 ⟨by decide, by decide⟩ (fun c => ?_) (fun c => ?_)
          · replace h := h.2 c
            refine z_aload_n Q_X11_least (k := 110) rfl rfl ?_
            refine z_getR (b := 614) Q_X11_least (k := 111) rfl F_X11_50 rfl (n_ hB20.1 rfl) (k_602 hB20.1) (r_602_22 hB20.1) ?_
            refine y_iconst Q_X11_least (k := 112) rfl ?_
            refine q_iald (o := 614) (N := 10) Q_X11_least (k := 113) rfl rfl (n_ hB20.1 rfl) (k_614 hB20.1) rfl ⟨by decide, by decide⟩ (by decide) ?_
            exact y_iret Q_X11_least (k := 114) rfl rfl (qI_iV hB20 (hB20.2.1 _ _) h)
          · replace h := h.1 c
            refine z_aload_n Q_X11_least (k := 105) rfl rfl ?_
            refine z_getR (b := 614) Q_X11_least (k := 106) rfl F_X11_50 rfl (n_ hB20.1 rfl) (k_602 hB20.1) (r_602_22 hB20.1) ?_
            refine y_iconst Q_X11_least (k := 107) rfl ?_
            refine q_iald (o := 614) (N := 10) Q_X11_least (k := 108) rfl rfl (n_ hB20.1 rfl) (k_614 hB20.1) rfl ⟨by decide, by decide⟩ (by decide) ?_
            refine z_goto (tgt := 192) Q_X11_least (k := 109) rfl (by decide) ?_
            exact y_iret Q_X11_least (k := 114) rfl rfl (qI_iV hB20 (hB20.2.1 _ _) h)
        · replace h := h.1 c
          refine z_aload_n Q_X11_least (k := 97) rfl rfl ?_
          refine z_getR (b := 614) Q_X11_least (k := 98) rfl F_X11_50 rfl (n_ hB20.1 rfl) (k_602 hB20.1) (r_602_22 hB20.1) ?_
          refine y_iconst Q_X11_least (k := 99) rfl ?_
          refine q_iald (o := 614) (N := 10) Q_X11_least (k := 100) rfl rfl (n_ hB20.1 rfl) (k_614 hB20.1) rfl ⟨by decide, by decide⟩ (by decide) ?_
          refine z_goto (tgt := 192) Q_X11_least (k := 101) rfl (by decide) ?_
          exact y_iret Q_X11_least (k := 114) rfl rfl (qI_iV hB20 (hB20.2.1 _ _) h)
set_option maxHeartbeats 4000000 in
set_option maxRecDepth 20000 in
theorem w_X11_least {S : zS} {V : qV} {J : qJ} {Q : Int → qV → Prop} (d : Nat) (hB : qB S V) {a1 : Int} (z1 : zr a1) {a2 : Int} (z2 : zr a2) {a3 : Int} (z3 : zr a3) (h : W_X11_least a1 a2 a3 V Q) : Z M_X11_least (d + 4) 0 0 0 [some (.ref 602), some (.int (iI a1)), some (.int (iI a2)), some (.int (iI a3)), none] [] S (qi V) (qj J) (qP_iV S J Q) := by
  unfold W_X11_least at h
  refine z_aload_n Q_X11_least (k := 0) rfl rfl ?_
  refine y_iconst Q_X11_least (k := 1) rfl ?_
  refine q_putI (o := 602) (z := 0) Q_X11_least (k := 2) rfl F_X11_1 rfl rfl rfl (n_ hB.1 rfl) (k_602 hB.1) ?_
  have hB1 := qB.u (a := 602) (j := 0) (x := 0) hB ⟨by decide, by decide⟩ (Or.inl (by decide))
  refine z_aload_n Q_X11_least (k := 3) rfl rfl ?_
  refine z_iload_n Q_X11_least (k := 4) rfl rfl ?_
  refine y_iconst Q_X11_least (k := 5) rfl ?_
  refine q_callV2_zV Q_X11_least (k := 6) rfl rfl K_X11_isLaw V_X11_isLaw L_X11_258 (n_ hB1.1 rfl) (k_602 hB1.1) (Nat.le_of_ble_eq_true rfl) (Nat.le_of_ble_eq_true rfl) rfl (Nat.zero_le _) (Nat.zero_le _) (w_X11_isLaw (d + 2) hB1 z1 ⟨by decide, by decide⟩ h) (fun r2 V2 hB2 hz2 hb2 h => ?_)
  refine y_if_eq 37 Q_X11_least (k := 7) rfl (by decide) hz2 (fun c => ?_) (fun c => ?_)
  · replace h := h.1 c
    refine y_iconst Q_X11_least (k := 21) rfl ?_
    exact y_iret Q_X11_least (k := 22) rfl rfl (qI_iV hB2 ⟨by decide, by decide⟩ h)
  · replace h := h.2 c
    refine z_aload_n Q_X11_least (k := 8) rfl rfl ?_
    refine z_iload_n Q_X11_least (k := 9) rfl rfl ?_
    refine y_iconst Q_X11_least (k := 10) rfl ?_
    refine q_callV2_zV Q_X11_least (k := 11) rfl rfl K_X11_isLaw V_X11_isLaw L_X11_258 (n_ hB2.1 rfl) (k_602 hB2.1) (Nat.le_of_ble_eq_true rfl) (Nat.le_of_ble_eq_true rfl) rfl (Nat.zero_le _) (Nat.zero_le _) (w_X11_isLaw (d + 2) hB2 z2 ⟨by decide, by decide⟩ h) (fun r3 V3 hB3 hz3 hb3 h => ?_)
    refine y_if_eq 37 Q_X11_least (k := 12) rfl (by decide) hz3 (fun c => ?_) (fun c => ?_)
    · replace h := h.1 c
      refine y_iconst Q_X11_least (k := 21) rfl ?_
      exact y_iret Q_X11_least (k := 22) rfl rfl (qI_iV hB3 ⟨by decide, by decide⟩ h)
    · replace h := h.2 c
      refine z_aload_n Q_X11_least (k := 13) rfl rfl ?_
      refine z_iload_n Q_X11_least (k := 14) rfl rfl ?_
      refine y_iconst Q_X11_least (k := 15) rfl ?_
      refine y_iconst Q_X11_least (k := 16) rfl ?_
      refine q_callS3_z Q_X11_least (k := 17) rfl rfl K_X11_within S_X11_within L_X11_207 (Nat.le_of_ble_eq_true rfl) (Nat.le_of_ble_eq_true rfl) rfl (Nat.zero_le _) (Nat.zero_le _) (w_X11_within (d + 3) hB3 z3 ⟨by decide, by decide⟩ ⟨by decide, by decide⟩ h) (fun r4 hz4 hb4 h => ?_)
      refine y_iconst Q_X11_least (k := 18) rfl ?_
      refine q_callV2_zV Q_X11_least (k := 19) rfl rfl K_X11_may V_X11_may L_X11_187 (n_ hB3.1 rfl) (k_602 hB3.1) (Nat.le_of_ble_eq_true rfl) (Nat.le_of_ble_eq_true rfl) rfl (Nat.zero_le _) (Nat.zero_le _) (w_X11_may (d + 3) hB3 hz4 hb4 ⟨by decide, by decide⟩ h) (fun r5 V5 hB5 hz5 hb5 h => ?_)
      refine y_if_ne 39 Q_X11_least (k := 20) rfl (by decide) hz5 (fun c => ?_) (fun c => ?_)
      · replace h := h.2 c
        refine z_aload_n Q_X11_least (k := 23) rfl rfl ?_
        refine z_iload_n Q_X11_least (k := 24) rfl rfl ?_
        refine z_iload_n Q_X11_least (k := 25) rfl rfl ?_
        refine q_callV2_uV Q_X11_least (k := 26) rfl rfl K_X11_findViews V_X11_findViews L_X11_309 (n_ hB5.1 rfl) (k_602 hB5.1) (Nat.le_of_ble_eq_true rfl) (Nat.le_of_ble_eq_true rfl) rfl (Nat.zero_le _) (Nat.zero_le _) (w_X11_findViews (d + 1) hB5 z1 z2 h) (fun V6 hB6 h => ?_)
        refine y_iconst Q_X11_least (k := 27) rfl ?_
        refine y_istore (L' := [some (.ref 602), some (.int (iI a1)), some (.int (iI a2)), some (.int (iI a3)), some (.int (iI 0))]) Q_X11_least (k := 28) rfl (by decide) rfl ?_
        refine y_fg (zsb_c rfl (zsb_c rfl (zsb_c rfl (zsb_c rfl (zsb_c rfl zsb_e))))) (v_X11_least_48 d z1 z2 z3 (fun l4x10 V10 hB10 zl4x10 h => ?_) 100000 0 V6 hB6 ⟨by decide, by decide⟩ h)
        refine y_iconst Q_X11_least (k := 39) rfl ?_
        refine y_istore (L' := [some (.ref 602), some (.int (iI a1)), some (.int (iI a2)), some (.int (iI a3)), some (.int (iI 0))]) Q_X11_least (k := 40) rfl (by decide) rfl ?_
        refine y_fg (zsb_c rfl (zsb_c rfl (zsb_c rfl (zsb_c rfl (zsb_c rfl zsb_e))))) (v_X11_least_72 d z1 z2 z3 (fun l4x22 V22 hB22 zl4x22 h => ?_) 100000 0 V10 hB10 ⟨by decide, by decide⟩ h)
        refine y_iconst Q_X11_least (k := 117) rfl ?_
        exact y_iret Q_X11_least (k := 118) rfl rfl (qI_iV hB22 ⟨by decide, by decide⟩ h)
      · replace h := h.1 c
        refine y_iconst Q_X11_least (k := 21) rfl ?_
        exact y_iret Q_X11_least (k := 22) rfl rfl (qI_iV hB5 ⟨by decide, by decide⟩ h)
set_option maxHeartbeats 4000000 in
set_option maxRecDepth 20000 in
theorem v_X11_image_17 {S : zS} {J : qJ} {K : Int → qV → Prop} {Q : Int → qV → Prop} {kc ks : Nat} (d : Nat) (hK : ∀ (l1 : Int) (V : qV), qB S V → zr l1 → K l1 V → Z M_X11_image d kc ks 51 [some (.ref 602), some (.int (iI l1))] [] S (qi V) (qj J) (qP_iV S J Q)) : ∀ (f : Nat) (l1 : Int) (V : qV), qB S V → zr l1 → lp_X11_image_17 K f l1 V → Z M_X11_image d kc ks 17 [some (.ref 602), some (.int (iI l1))] [] S (qi V) (qj J) (qP_iV S J Q) := by
  intro f
  induction f with
  | zero =>
    intro l1 V hB z1 h
    exact h.elim
  | succ f ih =>
    intro l1 V hB z1 h
    rw [lp_X11_image_17] at h
    refine z_iload_n Q_X11_image (k := 11) rfl rfl ?_
    refine y_sipush Q_X11_image (k := 12) rfl (by decide) ?_
    refine y_icmp_ge 51 Q_X11_image (k := 13) rfl (by decide) z1 ⟨by decide, by decide⟩ (fun c => ?_) (fun c => ?_)
    · replace h := h.1 c
      exact y_fg (zsb_c rfl (zsb_c rfl zsb_e)) (hK l1 V hB z1 h)
    · replace h := h.2 c
      refine z_aload_n Q_X11_image (k := 14) rfl rfl ?_
      refine z_getR (b := 623) Q_X11_image (k := 15) rfl F_X11_79 rfl (n_ hB.1 rfl) (k_602 hB.1) (r_602_34 hB.1) ?_
      refine y_sipush Q_X11_image (k := 16) rfl (by decide) ?_
      refine z_aload_n Q_X11_image (k := 17) rfl rfl ?_
      refine q_getI (o := 602) (z := 33) Q_X11_image (k := 18) rfl F_X11_315 rfl rfl rfl (n_ hB.1 rfl) (k_602 hB.1) ?_
      obtain ⟨q2, h⟩ := h
      refine y_imul Q_X11_image (k := 19) rfl ?_
      refine z_iload_n Q_X11_image (k := 20) rfl rfl ?_
      obtain ⟨q3, h⟩ := h
      refine y_iadd Q_X11_image (k := 21) rfl ?_
      refine z_aload_n Q_X11_image (k := 22) rfl rfl ?_
      refine z_getR (b := 603) Q_X11_image (k := 23) rfl F_X11_13 rfl (n_ hB.1 rfl) (k_602 hB.1) (r_602_1 hB.1) ?_
      refine z_iload_n Q_X11_image (k := 24) rfl rfl ?_
      obtain ⟨q4, h⟩ := h
      refine q_iald (o := 603) (N := 594) Q_X11_image (k := 25) rfl rfl (n_ hB.1 rfl) (k_603 hB.1) rfl q4 (by decide) ?_
      obtain ⟨q5, h⟩ := h
      refine q_iast (o := 623) (N := 1782) Q_X11_image (k := 26) rfl rfl (n_ hB.1 rfl) (k_623 hB.1) rfl q5 (by decide) ?_
      have hB6 := qB.u (a := 623) (j := (594 * (V 602 33)) + l1) (x := V 603 l1) hB (hB.2.1 _ _) (Or.inl (by decide))
      obtain ⟨q7, h⟩ := h
      refine y_iinc (L' := [some (.ref 602), some (.int (iI (l1 + 1)))]) Q_X11_image (k := 27) rfl (by decide) rfl rfl ?_
      refine z_goto (tgt := 17) Q_X11_image (k := 28) rfl (by decide) ?_
      exact y_fg (zsb_c rfl (zsb_c rfl zsb_e)) (ih (l1 + 1) (qu V 623 ((594 * (V 602 33)) + l1) (V 603 l1)) hB6 q7 h)
set_option maxHeartbeats 4000000 in
set_option maxRecDepth 20000 in
theorem w_X11_image {S : zS} {V : qV} {J : qJ} {Q : Int → qV → Prop} (d : Nat) (hB : qB S V) (h : W_X11_image V Q) : Z M_X11_image d 0 0 0 [some (.ref 602), none] [] S (qi V) (qj J) (qP_iV S J Q) := by
  unfold W_X11_image at h
  refine z_aload_n Q_X11_image (k := 0) rfl rfl ?_
  refine y_iconst Q_X11_image (k := 1) rfl ?_
  refine q_putI (o := 602) (z := 0) Q_X11_image (k := 2) rfl F_X11_1 rfl rfl rfl (n_ hB.1 rfl) (k_602 hB.1) ?_
  have hB1 := qB.u (a := 602) (j := 0) (x := 0) hB ⟨by decide, by decide⟩ (Or.inl (by decide))
  refine z_aload_n Q_X11_image (k := 3) rfl rfl ?_
  refine q_getI (o := 602) (z := 33) Q_X11_image (k := 4) rfl F_X11_315 rfl rfl rfl (n_ hB1.1 rfl) (k_602 hB1.1) ?_
  refine y_iconst Q_X11_image (k := 5) rfl ?_
  refine y_icmp_ne 15 Q_X11_image (k := 6) rfl (by decide) (hB1.2.1 _ _) ⟨by decide, by decide⟩ (fun c => ?_) (fun c => ?_)
  · replace h := h.2 c
    refine y_iconst Q_X11_image (k := 9) rfl ?_
    refine y_istore_n (L' := [some (.ref 602), some (.int (iI 0))]) Q_X11_image (k := 10) rfl (by decide) rfl ?_
    refine y_fg (zsb_c rfl (zsb_c rfl zsb_e)) (v_X11_image_17 d (fun l1x8 V8 hB8 zl1x8 h => ?_) 100000 0 (qu V 602 0 0) hB1 ⟨by decide, by decide⟩ h)
    refine z_aload_n Q_X11_image (k := 29) rfl rfl ?_
    refine z_dup Q_X11_image (k := 30) rfl rfl ?_
    refine q_getI (o := 602) (z := 33) Q_X11_image (k := 31) rfl F_X11_315 rfl rfl rfl (n_ hB8.1 rfl) (k_602 hB8.1) ?_
    refine y_iconst Q_X11_image (k := 32) rfl ?_
    obtain ⟨q9, h⟩ := h
    refine y_iadd Q_X11_image (k := 33) rfl ?_
    refine q_putI (o := 602) (z := 33) Q_X11_image (k := 34) rfl F_X11_315 rfl rfl rfl (n_ hB8.1 rfl) (k_602 hB8.1) ?_
    have hB10 := qB.u (a := 602) (j := 33) (x := (V8 602 33) + 1) hB8 q9 (Or.inl (by decide))
    refine z_aload_n Q_X11_image (k := 35) rfl rfl ?_
    refine q_getI (o := 602) (z := 33) Q_X11_image (k := 36) rfl F_X11_315 rfl rfl rfl (n_ hB10.1 rfl) (k_602 hB10.1) ?_
    exact y_iret Q_X11_image (k := 37) rfl rfl (qI_iV hB10 (hB10.2.1 _ _) h)
  · replace h := h.1 c
    refine y_iconst Q_X11_image (k := 7) rfl ?_
    exact y_iret Q_X11_image (k := 8) rfl rfl (qI_iV hB1 ⟨by decide, by decide⟩ h)
set_option maxHeartbeats 4000000 in
set_option maxRecDepth 20000 in
theorem v_X11_restore_26 {S : zS} {J : qJ} {K : Int → qV → Prop} {Q : Int → qV → Prop} {kc ks : Nat} (d : Nat) (hK : ∀ (l1 : Int) (V : qV), qB S V → zr l1 → K l1 V → Z M_X11_restore d kc ks 60 [some (.ref 602), some (.int (iI l1))] [] S (qi V) (qj J) (qP_iV S J Q)) : ∀ (f : Nat) (l1 : Int) (V : qV), qB S V → zr l1 → lp_X11_restore_26 K f l1 V → Z M_X11_restore d kc ks 26 [some (.ref 602), some (.int (iI l1))] [] S (qi V) (qj J) (qP_iV S J Q) := by
  intro f
  induction f with
  | zero =>
    intro l1 V hB z1 h
    exact h.elim
  | succ f ih =>
    intro l1 V hB z1 h
    rw [lp_X11_restore_26] at h
    refine z_iload_n Q_X11_restore (k := 16) rfl rfl ?_
    refine y_sipush Q_X11_restore (k := 17) rfl (by decide) ?_
    refine y_icmp_ge 60 Q_X11_restore (k := 18) rfl (by decide) z1 ⟨by decide, by decide⟩ (fun c => ?_) (fun c => ?_)
    · replace h := h.1 c
      exact y_fg (zsb_c rfl (zsb_c rfl zsb_e)) (hK l1 V hB z1 h)
    · replace h := h.2 c
      refine z_aload_n Q_X11_restore (k := 19) rfl rfl ?_
      refine z_getR (b := 603) Q_X11_restore (k := 20) rfl F_X11_13 rfl (n_ hB.1 rfl) (k_602 hB.1) (r_602_1 hB.1) ?_
      refine z_iload_n Q_X11_restore (k := 21) rfl rfl ?_
      refine z_aload_n Q_X11_restore (k := 22) rfl rfl ?_
      refine z_getR (b := 623) Q_X11_restore (k := 23) rfl F_X11_79 rfl (n_ hB.1 rfl) (k_602 hB.1) (r_602_34 hB.1) ?_
      refine y_sipush Q_X11_restore (k := 24) rfl (by decide) ?_
      refine z_aload_n Q_X11_restore (k := 25) rfl rfl ?_
      refine q_getI (o := 602) (z := 33) Q_X11_restore (k := 26) rfl F_X11_315 rfl rfl rfl (n_ hB.1 rfl) (k_602 hB.1) ?_
      obtain ⟨q4, h⟩ := h
      refine y_imul Q_X11_restore (k := 27) rfl ?_
      refine z_iload_n Q_X11_restore (k := 28) rfl rfl ?_
      obtain ⟨q5, h⟩ := h
      refine y_iadd Q_X11_restore (k := 29) rfl ?_
      obtain ⟨q6, h⟩ := h
      refine q_iald (o := 623) (N := 1782) Q_X11_restore (k := 30) rfl rfl (n_ hB.1 rfl) (k_623 hB.1) rfl q6 (by decide) ?_
      obtain ⟨q7, h⟩ := h
      refine q_iast (o := 603) (N := 594) Q_X11_restore (k := 31) rfl rfl (n_ hB.1 rfl) (k_603 hB.1) rfl q7 (by decide) ?_
      have hB8 := qB.u (a := 603) (j := l1) (x := V 623 ((594 * (V 602 33)) + l1)) hB (hB.2.1 _ _) (Or.inl (by decide))
      obtain ⟨q9, h⟩ := h
      refine y_iinc (L' := [some (.ref 602), some (.int (iI (l1 + 1)))]) Q_X11_restore (k := 32) rfl (by decide) rfl rfl ?_
      refine z_goto (tgt := 26) Q_X11_restore (k := 33) rfl (by decide) ?_
      exact y_fg (zsb_c rfl (zsb_c rfl zsb_e)) (ih (l1 + 1) (qu V 603 l1 (V 623 ((594 * (V 602 33)) + l1))) hB8 q9 h)
set_option maxHeartbeats 4000000 in
set_option maxRecDepth 20000 in
theorem w_X11_restore {S : zS} {V : qV} {J : qJ} {Q : Int → qV → Prop} (d : Nat) (hB : qB S V) (h : W_X11_restore V Q) : Z M_X11_restore d 0 0 0 [some (.ref 602), none] [] S (qi V) (qj J) (qP_iV S J Q) := by
  unfold W_X11_restore at h
  refine z_aload_n Q_X11_restore (k := 0) rfl rfl ?_
  refine y_iconst Q_X11_restore (k := 1) rfl ?_
  refine q_putI (o := 602) (z := 0) Q_X11_restore (k := 2) rfl F_X11_1 rfl rfl rfl (n_ hB.1 rfl) (k_602 hB.1) ?_
  have hB1 := qB.u (a := 602) (j := 0) (x := 0) hB ⟨by decide, by decide⟩ (Or.inl (by decide))
  refine z_aload_n Q_X11_restore (k := 3) rfl rfl ?_
  refine q_getI (o := 602) (z := 33) Q_X11_restore (k := 4) rfl F_X11_315 rfl rfl rfl (n_ hB1.1 rfl) (k_602 hB1.1) ?_
  refine y_if_ne 14 Q_X11_restore (k := 5) rfl (by decide) (hB1.2.1 _ _) (fun c => ?_) (fun c => ?_)
  · replace h := h.2 c
    refine z_aload_n Q_X11_restore (k := 8) rfl rfl ?_
    refine z_dup Q_X11_restore (k := 9) rfl rfl ?_
    refine q_getI (o := 602) (z := 33) Q_X11_restore (k := 10) rfl F_X11_315 rfl rfl rfl (n_ hB1.1 rfl) (k_602 hB1.1) ?_
    refine y_iconst Q_X11_restore (k := 11) rfl ?_
    obtain ⟨q2, h⟩ := h
    refine y_isub Q_X11_restore (k := 12) rfl ?_
    refine q_putI (o := 602) (z := 33) Q_X11_restore (k := 13) rfl F_X11_315 rfl rfl rfl (n_ hB1.1 rfl) (k_602 hB1.1) ?_
    have hB3 := qB.u (a := 602) (j := 33) (x := ((qu V 602 0 0) 602 33) - 1) hB1 q2 (Or.inl (by decide))
    refine y_iconst Q_X11_restore (k := 14) rfl ?_
    refine y_istore_n (L' := [some (.ref 602), some (.int (iI 0))]) Q_X11_restore (k := 15) rfl (by decide) rfl ?_
    refine y_fg (zsb_c rfl (zsb_c rfl zsb_e)) (v_X11_restore_26 d (fun l1x10 V10 hB10 zl1x10 h => ?_) 100000 0 (qu (qu V 602 0 0) 602 33 (((qu V 602 0 0) 602 33) - 1)) hB3 ⟨by decide, by decide⟩ h)
    refine z_aload_n Q_X11_restore (k := 34) rfl rfl ?_
    refine q_getI (o := 602) (z := 33) Q_X11_restore (k := 35) rfl F_X11_315 rfl rfl rfl (n_ hB10.1 rfl) (k_602 hB10.1) ?_
    exact y_iret Q_X11_restore (k := 36) rfl rfl (qI_iV hB10 (hB10.2.1 _ _) h)
  · replace h := h.1 c
    refine y_iconst Q_X11_restore (k := 6) rfl ?_
    exact y_iret Q_X11_restore (k := 7) rfl rfl (qI_iV hB1 ⟨by decide, by decide⟩ h)
set_option maxHeartbeats 4000000 in
set_option maxRecDepth 20000 in
theorem w_X11_count {S : zS} {V : qV} {J : qJ} {Q : Int → qV → Prop} (d : Nat) (hB : qB S V) {a1 : Int} (z1 : zr a1) (h : W_X11_count a1 V Q) : Z M_X11_count (d + 1) 0 0 0 [some (.ref 602), some (.int (iI a1))] [] S (qi V) (qj J) (qP_iV S J Q) := by
  unfold W_X11_count at h
  refine z_aload_n Q_X11_count (k := 0) rfl rfl ?_
  refine y_iconst Q_X11_count (k := 1) rfl ?_
  refine q_putI (o := 602) (z := 0) Q_X11_count (k := 2) rfl F_X11_1 rfl rfl rfl (n_ hB.1 rfl) (k_602 hB.1) ?_
  have hB1 := qB.u (a := 602) (j := 0) (x := 0) hB ⟨by decide, by decide⟩ (Or.inl (by decide))
  refine z_iload_n Q_X11_count (k := 3) rfl rfl ?_
  by_cases c2_0 : a1 = 0
  · replace h := h.1 c2_0
    refine y_switchK (j := 0) (tgt := 60) Q_X11_count (k := 4) rfl (by rw [c2_0]; decide) (by decide) z1 rfl (by decide) ?_
    refine z_aload_n Q_X11_count (k := 5) rfl rfl ?_
    refine q_getI (o := 602) (z := 11) Q_X11_count (k := 6) rfl F_X11_184 rfl rfl rfl (n_ hB1.1 rfl) (k_602 hB1.1) ?_
    exact y_iret Q_X11_count (k := 7) rfl rfl (qI_iV hB1 (hB1.2.1 _ _) h)
  replace h := h.2
  by_cases c2_1 : a1 = 1
  · replace h := h.1 c2_1
    refine y_switchK (j := 1) (tgt := 65) Q_X11_count (k := 4) rfl (by rw [c2_1]; decide) (by decide) z1 rfl (by decide) ?_
    refine z_aload_n Q_X11_count (k := 8) rfl rfl ?_
    refine z_getR (b := 603) Q_X11_count (k := 9) rfl F_X11_13 rfl (n_ hB1.1 rfl) (k_602 hB1.1) (r_602_1 hB1.1) ?_
    refine y_sipush Q_X11_count (k := 10) rfl (by decide) ?_
    refine q_iald (o := 603) (N := 594) Q_X11_count (k := 11) rfl rfl (n_ hB1.1 rfl) (k_603 hB1.1) rfl ⟨by decide, by decide⟩ (by decide) ?_
    exact y_iret Q_X11_count (k := 12) rfl rfl (qI_iV hB1 (hB1.2.1 _ _) h)
  replace h := h.2
  by_cases c2_2 : a1 = 2
  · replace h := h.1 c2_2
    refine y_switchK (j := 2) (tgt := 74) Q_X11_count (k := 4) rfl (by rw [c2_2]; decide) (by decide) z1 rfl (by decide) ?_
    refine z_aload_n Q_X11_count (k := 13) rfl rfl ?_
    refine q_callV0_i Q_X11_count (k := 14) rfl rfl K_X11_openBits V_X11_openBits L_X11_279 (n_ hB1.1 rfl) (k_602 hB1.1) (Nat.le_of_ble_eq_true rfl) (Nat.le_of_ble_eq_true rfl) rfl (Nat.zero_le _) (Nat.zero_le _) (w_X11_openBits d hB1  h) (fun r3 hz3 h => ?_)
    refine q_callS1_i Q_X11_count (k := 15) rfl rfl K_X11_bitsOf S_X11_bitsOf L_X11_233 (Nat.le_of_ble_eq_true rfl) (Nat.le_of_ble_eq_true rfl) rfl (Nat.zero_le _) (Nat.zero_le _) (w_X11_bitsOf d hB1 hz3 h) (fun r4 hz4 h => ?_)
    exact y_iret Q_X11_count (k := 16) rfl rfl (qI_iV hB1 hz4 h)
  replace h := h.2
  by_cases c2_3 : a1 = 3
  · replace h := h.1 c2_3
    refine y_switchK (j := 3) (tgt := 82) Q_X11_count (k := 4) rfl (by rw [c2_3]; decide) (by decide) z1 rfl (by decide) ?_
    refine z_aload_n Q_X11_count (k := 17) rfl rfl ?_
    refine z_getR (b := 603) Q_X11_count (k := 18) rfl F_X11_13 rfl (n_ hB1.1 rfl) (k_602 hB1.1) (r_602_1 hB1.1) ?_
    refine y_bipush Q_X11_count (k := 19) rfl (by decide) ?_
    refine q_iald (o := 603) (N := 594) Q_X11_count (k := 20) rfl rfl (n_ hB1.1 rfl) (k_603 hB1.1) rfl ⟨by decide, by decide⟩ (by decide) ?_
    exact y_iret Q_X11_count (k := 21) rfl rfl (qI_iV hB1 (hB1.2.1 _ _) h)
  replace h := h.2
  by_cases c2_4 : a1 = 4
  · replace h := h.1 c2_4
    refine y_switchK (j := 4) (tgt := 90) Q_X11_count (k := 4) rfl (by rw [c2_4]; decide) (by decide) z1 rfl (by decide) ?_
    refine z_aload_n Q_X11_count (k := 22) rfl rfl ?_
    refine z_getR (b := 603) Q_X11_count (k := 23) rfl F_X11_13 rfl (n_ hB1.1 rfl) (k_602 hB1.1) (r_602_1 hB1.1) ?_
    refine y_bipush Q_X11_count (k := 24) rfl (by decide) ?_
    refine q_iald (o := 603) (N := 594) Q_X11_count (k := 25) rfl rfl (n_ hB1.1 rfl) (k_603 hB1.1) rfl ⟨by decide, by decide⟩ (by decide) ?_
    exact y_iret Q_X11_count (k := 26) rfl rfl (qI_iV hB1 (hB1.2.1 _ _) h)
  replace h := h.2
  by_cases c2_5 : a1 = 5
  · replace h := h.1 c2_5
    refine y_switchK (j := 5) (tgt := 98) Q_X11_count (k := 4) rfl (by rw [c2_5]; decide) (by decide) z1 rfl (by decide) ?_
    refine z_aload_n Q_X11_count (k := 27) rfl rfl ?_
    refine z_getR (b := 603) Q_X11_count (k := 28) rfl F_X11_13 rfl (n_ hB1.1 rfl) (k_602 hB1.1) (r_602_1 hB1.1) ?_
    refine y_sipush Q_X11_count (k := 29) rfl (by decide) ?_
    refine q_iald (o := 603) (N := 594) Q_X11_count (k := 30) rfl rfl (n_ hB1.1 rfl) (k_603 hB1.1) rfl ⟨by decide, by decide⟩ (by decide) ?_
    exact y_iret Q_X11_count (k := 31) rfl rfl (qI_iV hB1 (hB1.2.1 _ _) h)
  replace h := h.2
  by_cases c2_6 : a1 = 6
  · replace h := h.1 c2_6
    refine y_switchK (j := 6) (tgt := 107) Q_X11_count (k := 4) rfl (by rw [c2_6]; decide) (by decide) z1 rfl (by decide) ?_
    refine z_aload_n Q_X11_count (k := 32) rfl rfl ?_
    refine z_getR (b := 603) Q_X11_count (k := 33) rfl F_X11_13 rfl (n_ hB1.1 rfl) (k_602 hB1.1) (r_602_1 hB1.1) ?_
    refine y_sipush Q_X11_count (k := 34) rfl (by decide) ?_
    refine q_iald (o := 603) (N := 594) Q_X11_count (k := 35) rfl rfl (n_ hB1.1 rfl) (k_603 hB1.1) rfl ⟨by decide, by decide⟩ (by decide) ?_
    exact y_iret Q_X11_count (k := 36) rfl rfl (qI_iV hB1 (hB1.2.1 _ _) h)
  replace h := h.2
  by_cases c2_7 : a1 = 7
  · replace h := h.1 c2_7
    refine y_switchK (j := 7) (tgt := 116) Q_X11_count (k := 4) rfl (by rw [c2_7]; decide) (by decide) z1 rfl (by decide) ?_
    refine z_aload_n Q_X11_count (k := 37) rfl rfl ?_
    refine z_getR (b := 603) Q_X11_count (k := 38) rfl F_X11_13 rfl (n_ hB1.1 rfl) (k_602 hB1.1) (r_602_1 hB1.1) ?_
    refine y_sipush Q_X11_count (k := 39) rfl (by decide) ?_
    refine q_iald (o := 603) (N := 594) Q_X11_count (k := 40) rfl rfl (n_ hB1.1 rfl) (k_603 hB1.1) rfl ⟨by decide, by decide⟩ (by decide) ?_
    exact y_iret Q_X11_count (k := 41) rfl rfl (qI_iV hB1 (hB1.2.1 _ _) h)
  replace h := h.2
  by_cases c2_8 : a1 = 8
  · replace h := h.1 c2_8
    refine y_switchK (j := 8) (tgt := 125) Q_X11_count (k := 4) rfl (by rw [c2_8]; decide) (by decide) z1 rfl (by decide) ?_
    refine z_aload_n Q_X11_count (k := 42) rfl rfl ?_
    refine q_getI (o := 602) (z := 33) Q_X11_count (k := 43) rfl F_X11_315 rfl rfl rfl (n_ hB1.1 rfl) (k_602 hB1.1) ?_
    exact y_iret Q_X11_count (k := 44) rfl rfl (qI_iV hB1 (hB1.2.1 _ _) h)
  replace h := h.2
  by_cases c2_9 : a1 = 9
  · replace h := h.1 c2_9
    refine y_switchK (j := 9) (tgt := 130) Q_X11_count (k := 4) rfl (by rw [c2_9]; decide) (by decide) z1 rfl (by decide) ?_
    refine z_aload_n Q_X11_count (k := 45) rfl rfl ?_
    refine q_getI (o := 602) (z := 12) Q_X11_count (k := 46) rfl F_X11_82 rfl rfl rfl (n_ hB1.1 rfl) (k_602 hB1.1) ?_
    exact y_iret Q_X11_count (k := 47) rfl rfl (qI_iV hB1 (hB1.2.1 _ _) h)
  replace h := h.2
  have cd2 : a1 < 0 ∨ 9 < a1 := by omega
  replace h := h cd2
  refine y_switchD (tgt := 135) Q_X11_count (k := 4) rfl cd2 z1 (by decide) ?_
  refine y_iconst Q_X11_count (k := 48) rfl ?_
  exact y_iret Q_X11_count (k := 49) rfl rfl (qI_iV hB1 ⟨by decide, by decide⟩ h)
