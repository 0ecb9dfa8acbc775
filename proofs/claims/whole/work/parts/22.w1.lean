/-! methods keep their predicates -/
set_option maxHeartbeats 4000000 in
set_option maxRecDepth 20000 in
theorem w_X6_readComparison {S : zS} {V : qV} {J : qJ} {Q : Int → qV → Prop} (d : Nat) (hB : qB S V) (h : W_X6_readComparison V Q) : Z M_X6_readComparison (d + 63) 0 0 0 [some (.ref 1), none] [] S (qi V) (qj J) (qP_zV S J Q) := by
  unfold W_X6_readComparison at h
  refine z_aload_n Q_X6_readComparison (k := 0) rfl rfl ?_
  refine q_callV0_zV Q_X6_readComparison (k := 1) rfl rfl K_X6_readSum V_X6_readSum L_X6_131 (n_ hB.1 rfl) (k_1 hB.1) (Nat.le_of_ble_eq_true rfl) (Nat.le_of_ble_eq_true rfl) rfl (Nat.zero_le _) (Nat.zero_le _) (w_X6_readSum d hB  h) (fun r1 V1 hB1 hz1 hb1 h => ?_)
  refine y_if_ne 9 Q_X6_readComparison (k := 2) rfl (by decide) hz1 (fun c => ?_) (fun c => ?_)
  · replace h := h.2 c
    refine z_aload_n Q_X6_readComparison (k := 5) rfl rfl ?_
    refine y_bipush Q_X6_readComparison (k := 6) rfl (by decide) ?_
    refine q_callV1_z Q_X6_readComparison (k := 7) rfl rfl K_X6_isSign V_X6_isSign L_X6_119 (n_ hB1.1 rfl) (k_1 hB1.1) (Nat.le_of_ble_eq_true rfl) (Nat.le_of_ble_eq_true rfl) rfl (Nat.zero_le _) (Nat.zero_le _) (w_X6_isSign (d + 62) hB1 ⟨by decide, by decide⟩ h) (fun r2 hz2 hb2 h => ?_)
    refine y_if_eq 23 Q_X6_readComparison (k := 8) rfl (by decide) hz2 (fun c => ?_) (fun c => ?_)
    · replace h := h.1 c
      refine z_aload_n Q_X6_readComparison (k := 11) rfl rfl ?_
      refine y_bipush Q_X6_readComparison (k := 12) rfl (by decide) ?_
      refine q_callV1_z Q_X6_readComparison (k := 13) rfl rfl K_X6_isSign V_X6_isSign L_X6_119 (n_ hB1.1 rfl) (k_1 hB1.1) (Nat.le_of_ble_eq_true rfl) (Nat.le_of_ble_eq_true rfl) rfl (Nat.zero_le _) (Nat.zero_le _) (w_X6_isSign (d + 62) hB1 ⟨by decide, by decide⟩ h) (fun r3 hz3 hb3 h => ?_)
      refine y_if_eq 37 Q_X6_readComparison (k := 14) rfl (by decide) hz3 (fun c => ?_) (fun c => ?_)
      · replace h := h.1 c
        refine y_bipush Q_X6_readComparison (k := 17) rfl (by decide) ?_
        refine y_istore_n (L' := [some (.ref 1), some (.int (iI 10))]) Q_X6_readComparison (k := 18) rfl (by decide) rfl ?_
        refine z_iload_n Q_X6_readComparison (k := 19) rfl rfl ?_
        refine y_bipush Q_X6_readComparison (k := 20) rfl (by decide) ?_
        refine y_icmp_ne 61 Q_X6_readComparison (k := 21) rfl (by decide) ⟨by decide, by decide⟩ ⟨by decide, by decide⟩ (fun q => absurd q (by decide)) (fun _ => ?_)
        refine z_aload_n Q_X6_readComparison (k := 22) rfl rfl ?_
        refine y_bipush Q_X6_readComparison (k := 23) rfl (by decide) ?_
        refine q_callV1_z Q_X6_readComparison (k := 24) rfl rfl K_X6_isSign V_X6_isSign L_X6_119 (n_ hB1.1 rfl) (k_1 hB1.1) (Nat.le_of_ble_eq_true rfl) (Nat.le_of_ble_eq_true rfl) rfl (Nat.zero_le _) (Nat.zero_le _) (w_X6_isSign (d + 62) hB1 ⟨by decide, by decide⟩ h) (fun r4 hz4 hb4 h => ?_)
        refine y_if_ne 61 Q_X6_readComparison (k := 25) rfl (by decide) hz4 (fun c => ?_) (fun c => ?_)
        · replace h := h.2 c
          refine z_aload_n Q_X6_readComparison (k := 30) rfl rfl ?_
          refine q_callV0_uV Q_X6_readComparison (k := 31) rfl rfl K_X6_goOn V_X6_goOn L_X6_89 (n_ hB1.1 rfl) (k_1 hB1.1) (Nat.le_of_ble_eq_true rfl) (Nat.le_of_ble_eq_true rfl) rfl (Nat.zero_le _) (Nat.zero_le _) (w_X6_goOn (d + 62) hB1  h) (fun V5 hB5 h => ?_)
          refine z_aload_n Q_X6_readComparison (k := 32) rfl rfl ?_
          refine q_callV0_zV Q_X6_readComparison (k := 33) rfl rfl K_X6_readSum V_X6_readSum L_X6_131 (n_ hB5.1 rfl) (k_1 hB5.1) (Nat.le_of_ble_eq_true rfl) (Nat.le_of_ble_eq_true rfl) rfl (Nat.zero_le _) (Nat.zero_le _) (w_X6_readSum d hB5  h) (fun r6 V6 hB6 hz6 hb6 h => ?_)
          refine y_if_ne 74 Q_X6_readComparison (k := 34) rfl (by decide) hz6 (fun c => ?_) (fun c => ?_)
          · replace h := h.2 c
            refine z_aload_n Q_X6_readComparison (k := 37) rfl rfl ?_
            refine z_getR (b := (V6 1 14).toNat) Q_X6_readComparison (k := 38) rfl F_X6_36 rfl (n_ hB6.1 rfl) (k_1 hB6.1) hB6.2.2.1.2 ?_
            refine z_iload_n Q_X6_readComparison (k := 39) rfl rfl ?_
            refine y_iconst Q_X6_readComparison (k := 40) rfl ?_
            refine q_callV2_uV Q_X6_readComparison (k := 41) rfl rfl K_X3_addCode V_X3_addCode L_X6_110 hB6.2.2.1.1.1.2.1 hB6.2.2.1.1.1.2.2.1 (Nat.le_of_ble_eq_true rfl) (Nat.le_of_ble_eq_true rfl) rfl (Nat.zero_le _) (Nat.zero_le _) (w_X3_addCode (d + 62) hB6 hB6.2.2.1.1 ⟨by decide, by decide⟩ ⟨by decide, by decide⟩ h) (fun V7 hB7 h => ?_)
            refine y_iconst Q_X6_readComparison (k := 42) rfl ?_
            exact y_zret Q_X6_readComparison (k := 43) rfl rfl (Or.inr rfl) (qI_zV hB7 ⟨by decide, by decide⟩ (Or.inr rfl) h)
          · replace h := h.1 c
            refine y_iconst Q_X6_readComparison (k := 35) rfl ?_
            exact y_zret Q_X6_readComparison (k := 36) rfl rfl (Or.inl rfl) (qI_zV hB6 ⟨by decide, by decide⟩ (Or.inl rfl) h)
        · replace h := h.1 c
          refine z_aload_n Q_X6_readComparison (k := 26) rfl rfl ?_
          refine y_iconst Q_X6_readComparison (k := 27) rfl ?_
          refine q_callV1_zV Q_X6_readComparison (k := 28) rfl rfl K_X6_refuse V_X6_refuse L_X6_64 (n_ hB1.1 rfl) (k_1 hB1.1) (Nat.le_of_ble_eq_true rfl) (Nat.le_of_ble_eq_true rfl) rfl (Nat.zero_le _) (Nat.zero_le _) (w_X6_refuse (d + 62) hB1 ⟨by decide, by decide⟩ h) (fun r8 V8 hB8 hz8 hb8 h => ?_)
          exact y_zret Q_X6_readComparison (k := 29) rfl rfl hb8 (qI_zV hB8 hz8 hb8 h)
      · replace h := h.2 c
        refine y_bipush Q_X6_readComparison (k := 15) rfl (by decide) ?_
        refine z_goto (tgt := 39) Q_X6_readComparison (k := 16) rfl (by decide) ?_
        refine y_istore_n (L' := [some (.ref 1), some (.int (iI 9))]) Q_X6_readComparison (k := 18) rfl (by decide) rfl ?_
        refine z_iload_n Q_X6_readComparison (k := 19) rfl rfl ?_
        refine y_bipush Q_X6_readComparison (k := 20) rfl (by decide) ?_
        refine y_icmp_ne 61 Q_X6_readComparison (k := 21) rfl (by decide) ⟨by decide, by decide⟩ ⟨by decide, by decide⟩ (fun _ => ?_) (fun q => absurd q (by decide))
        refine z_aload_n Q_X6_readComparison (k := 30) rfl rfl ?_
        refine q_callV0_uV Q_X6_readComparison (k := 31) rfl rfl K_X6_goOn V_X6_goOn L_X6_89 (n_ hB1.1 rfl) (k_1 hB1.1) (Nat.le_of_ble_eq_true rfl) (Nat.le_of_ble_eq_true rfl) rfl (Nat.zero_le _) (Nat.zero_le _) (w_X6_goOn (d + 62) hB1  h) (fun V9 hB9 h => ?_)
        refine z_aload_n Q_X6_readComparison (k := 32) rfl rfl ?_
        refine q_callV0_zV Q_X6_readComparison (k := 33) rfl rfl K_X6_readSum V_X6_readSum L_X6_131 (n_ hB9.1 rfl) (k_1 hB9.1) (Nat.le_of_ble_eq_true rfl) (Nat.le_of_ble_eq_true rfl) rfl (Nat.zero_le _) (Nat.zero_le _) (w_X6_readSum d hB9  h) (fun r10 V10 hB10 hz10 hb10 h => ?_)
        refine y_if_ne 74 Q_X6_readComparison (k := 34) rfl (by decide) hz10 (fun c => ?_) (fun c => ?_)
        · replace h := h.2 c
          refine z_aload_n Q_X6_readComparison (k := 37) rfl rfl ?_
          refine z_getR (b := (V10 1 14).toNat) Q_X6_readComparison (k := 38) rfl F_X6_36 rfl (n_ hB10.1 rfl) (k_1 hB10.1) hB10.2.2.1.2 ?_
          refine z_iload_n Q_X6_readComparison (k := 39) rfl rfl ?_
          refine y_iconst Q_X6_readComparison (k := 40) rfl ?_
          refine q_callV2_uV Q_X6_readComparison (k := 41) rfl rfl K_X3_addCode V_X3_addCode L_X6_110 hB10.2.2.1.1.1.2.1 hB10.2.2.1.1.1.2.2.1 (Nat.le_of_ble_eq_true rfl) (Nat.le_of_ble_eq_true rfl) rfl (Nat.zero_le _) (Nat.zero_le _) (w_X3_addCode (d + 62) hB10 hB10.2.2.1.1 ⟨by decide, by decide⟩ ⟨by decide, by decide⟩ h) (fun V11 hB11 h => ?_)
          refine y_iconst Q_X6_readComparison (k := 42) rfl ?_
          exact y_zret Q_X6_readComparison (k := 43) rfl rfl (Or.inr rfl) (qI_zV hB11 ⟨by decide, by decide⟩ (Or.inr rfl) h)
        · replace h := h.1 c
          refine y_iconst Q_X6_readComparison (k := 35) rfl ?_
          exact y_zret Q_X6_readComparison (k := 36) rfl rfl (Or.inl rfl) (qI_zV hB10 ⟨by decide, by decide⟩ (Or.inl rfl) h)
    · replace h := h.2 c
      refine y_bipush Q_X6_readComparison (k := 9) rfl (by decide) ?_
      refine z_goto (tgt := 39) Q_X6_readComparison (k := 10) rfl (by decide) ?_
      refine y_istore_n (L' := [some (.ref 1), some (.int (iI 8))]) Q_X6_readComparison (k := 18) rfl (by decide) rfl ?_
      refine z_iload_n Q_X6_readComparison (k := 19) rfl rfl ?_
      refine y_bipush Q_X6_readComparison (k := 20) rfl (by decide) ?_
      refine y_icmp_ne 61 Q_X6_readComparison (k := 21) rfl (by decide) ⟨by decide, by decide⟩ ⟨by decide, by decide⟩ (fun _ => ?_) (fun q => absurd q (by decide))
      refine z_aload_n Q_X6_readComparison (k := 30) rfl rfl ?_
      refine q_callV0_uV Q_X6_readComparison (k := 31) rfl rfl K_X6_goOn V_X6_goOn L_X6_89 (n_ hB1.1 rfl) (k_1 hB1.1) (Nat.le_of_ble_eq_true rfl) (Nat.le_of_ble_eq_true rfl) rfl (Nat.zero_le _) (Nat.zero_le _) (w_X6_goOn (d + 62) hB1  h) (fun V12 hB12 h => ?_)
      refine z_aload_n Q_X6_readComparison (k := 32) rfl rfl ?_
      refine q_callV0_zV Q_X6_readComparison (k := 33) rfl rfl K_X6_readSum V_X6_readSum L_X6_131 (n_ hB12.1 rfl) (k_1 hB12.1) (Nat.le_of_ble_eq_true rfl) (Nat.le_of_ble_eq_true rfl) rfl (Nat.zero_le _) (Nat.zero_le _) (w_X6_readSum d hB12  h) (fun r13 V13 hB13 hz13 hb13 h => ?_)
      refine y_if_ne 74 Q_X6_readComparison (k := 34) rfl (by decide) hz13 (fun c => ?_) (fun c => ?_)
      · replace h := h.2 c
        refine z_aload_n Q_X6_readComparison (k := 37) rfl rfl ?_
        refine z_getR (b := (V13 1 14).toNat) Q_X6_readComparison (k := 38) rfl F_X6_36 rfl (n_ hB13.1 rfl) (k_1 hB13.1) hB13.2.2.1.2 ?_
        refine z_iload_n Q_X6_readComparison (k := 39) rfl rfl ?_
        refine y_iconst Q_X6_readComparison (k := 40) rfl ?_
        refine q_callV2_uV Q_X6_readComparison (k := 41) rfl rfl K_X3_addCode V_X3_addCode L_X6_110 hB13.2.2.1.1.1.2.1 hB13.2.2.1.1.1.2.2.1 (Nat.le_of_ble_eq_true rfl) (Nat.le_of_ble_eq_true rfl) rfl (Nat.zero_le _) (Nat.zero_le _) (w_X3_addCode (d + 62) hB13 hB13.2.2.1.1 ⟨by decide, by decide⟩ ⟨by decide, by decide⟩ h) (fun V14 hB14 h => ?_)
        refine y_iconst Q_X6_readComparison (k := 42) rfl ?_
        exact y_zret Q_X6_readComparison (k := 43) rfl rfl (Or.inr rfl) (qI_zV hB14 ⟨by decide, by decide⟩ (Or.inr rfl) h)
      · replace h := h.1 c
        refine y_iconst Q_X6_readComparison (k := 35) rfl ?_
        exact y_zret Q_X6_readComparison (k := 36) rfl rfl (Or.inl rfl) (qI_zV hB13 ⟨by decide, by decide⟩ (Or.inl rfl) h)
  · replace h := h.1 c
    refine y_iconst Q_X6_readComparison (k := 3) rfl ?_
    exact y_zret Q_X6_readComparison (k := 4) rfl rfl (Or.inl rfl) (qI_zV hB1 ⟨by decide, by decide⟩ (Or.inl rfl) h)
set_option maxHeartbeats 4000000 in
set_option maxRecDepth 20000 in
theorem v_X6_readOr_11 {S : zS} {J : qJ} {g_X6_readAnd : qV → (Int → qV → Prop) → Prop} {K : Int → qV → Prop} {Q : Int → qV → Prop} {kc ks : Nat} (d : Nat) (hg_X6_readAnd : ∀ {V : qV} {Q : Int → qV → Prop}, qB S V → g_X6_readAnd V Q → Z M_X6_readAnd (d + 63) 0 0 0 [some (.ref 1), none] [] S (qi V) (qj J) (qP_zV S J Q)) (hK : ∀ (l1 : Int) (V : qV), qB S V → zr l1 → K l1 V → Z M_X6_readOr (d + 64) kc ks 55 [some (.ref 1), some (.int (iI l1))] [] S (qi V) (qj J) (qP_zV S J Q)) : ∀ (f : Nat) (l1 : Int) (V : qV), qB S V → zr l1 → lp_X6_readOr_11 g_X6_readAnd K Q f l1 V → Z M_X6_readOr (d + 64) kc ks 11 [some (.ref 1), some (.int (iI l1))] [] S (qi V) (qj J) (qP_zV S J Q) := by
  intro f
  induction f with
  | zero =>
    intro l1 V hB z1 h
    exact h.elim
  | succ f ih =>
    intro l1 V hB z1 h
    rw [lp_X6_readOr_11] at h
    refine z_iload_n Q_X6_readOr (k := 7) rfl rfl ?_
    refine y_sipush Q_X6_readOr (k := 8) rfl (by decide) ?_
    refine y_icmp_ge 55 Q_X6_readOr (k := 9) rfl (by decide) z1 ⟨by decide, by decide⟩ (fun c => ?_) (fun c => ?_)
    · replace h := h.1 c
      exact y_fg (zsb_c rfl (zsb_c rfl zsb_e)) (hK l1 V hB z1 h)
    · replace h := h.2 c
      refine z_aload_n Q_X6_readOr (k := 10) rfl rfl ?_
      refine y_bipush Q_X6_readOr (k := 11) rfl (by decide) ?_
      refine q_callV1_z Q_X6_readOr (k := 12) rfl rfl K_X6_isWord V_X6_isWord L_X6_101 (n_ hB.1 rfl) (k_1 hB.1) (Nat.le_of_ble_eq_true rfl) (Nat.le_of_ble_eq_true rfl) rfl (Nat.zero_le _) (Nat.zero_le _) (w_X6_isWord (d + 63) hB ⟨by decide, by decide⟩ h) (fun r2 hz2 hb2 h => ?_)
      refine y_if_eq 55 Q_X6_readOr (k := 13) rfl (by decide) hz2 (fun c => ?_) (fun c => ?_)
      · replace h := h.1 c
        exact y_fg (zsb_c rfl (zsb_c rfl zsb_e)) (hK l1 V hB z1 h)
      · replace h := h.2 c
        refine z_aload_n Q_X6_readOr (k := 14) rfl rfl ?_
        refine q_callV0_uV Q_X6_readOr (k := 15) rfl rfl K_X6_goOn V_X6_goOn L_X6_89 (n_ hB.1 rfl) (k_1 hB.1) (Nat.le_of_ble_eq_true rfl) (Nat.le_of_ble_eq_true rfl) rfl (Nat.zero_le _) (Nat.zero_le _) (w_X6_goOn (d + 63) hB  h) (fun V3 hB3 h => ?_)
        refine z_aload_n Q_X6_readOr (k := 16) rfl rfl ?_
        refine q_callV0_zV Q_X6_readOr (k := 17) rfl rfl K_X6_readAnd V_X6_readAnd L_X6_107 (n_ hB3.1 rfl) (k_1 hB3.1) (Nat.le_of_ble_eq_true rfl) (Nat.le_of_ble_eq_true rfl) rfl (Nat.zero_le _) (Nat.zero_le _) (hg_X6_readAnd hB3 h) (fun r4 V4 hB4 hz4 hb4 h => ?_)
        refine y_if_ne 40 Q_X6_readOr (k := 18) rfl (by decide) hz4 (fun c => ?_) (fun c => ?_)
        · replace h := h.2 c
          refine z_aload_n Q_X6_readOr (k := 21) rfl rfl ?_
          refine z_getR (b := (V4 1 14).toNat) Q_X6_readOr (k := 22) rfl F_X6_36 rfl (n_ hB4.1 rfl) (k_1 hB4.1) hB4.2.2.1.2 ?_
          refine y_iconst Q_X6_readOr (k := 23) rfl ?_
          refine y_iconst Q_X6_readOr (k := 24) rfl ?_
          refine q_callV2_uV Q_X6_readOr (k := 25) rfl rfl K_X3_addCode V_X3_addCode L_X6_110 hB4.2.2.1.1.1.2.1 hB4.2.2.1.1.1.2.2.1 (Nat.le_of_ble_eq_true rfl) (Nat.le_of_ble_eq_true rfl) rfl (Nat.zero_le _) (Nat.zero_le _) (w_X3_addCode (d + 63) hB4 hB4.2.2.1.1 ⟨by decide, by decide⟩ ⟨by decide, by decide⟩ h) (fun V5 hB5 h => ?_)
          obtain ⟨q6, h⟩ := h
          refine y_iinc (L' := [some (.ref 1), some (.int (iI (l1 + 1)))]) Q_X6_readOr (k := 26) rfl (by decide) rfl rfl ?_
          refine z_goto (tgt := 11) Q_X6_readOr (k := 27) rfl (by decide) ?_
          exact y_fg (zsb_c rfl (zsb_c rfl zsb_e)) (ih (l1 + 1) V5 hB5 q6 h)
        · replace h := h.1 c
          refine y_iconst Q_X6_readOr (k := 19) rfl ?_
          exact y_zret Q_X6_readOr (k := 20) rfl rfl (Or.inl rfl) (qI_zV hB4 ⟨by decide, by decide⟩ (Or.inl rfl) h)
set_option maxHeartbeats 4000000 in
set_option maxRecDepth 20000 in
theorem b_X6_readOr {S : zS} {V : qV} {J : qJ} {g_X6_readAnd : qV → (Int → qV → Prop) → Prop} {Q : Int → qV → Prop} (d : Nat) (hg_X6_readAnd : ∀ {V : qV} {Q : Int → qV → Prop}, qB S V → g_X6_readAnd V Q → Z M_X6_readAnd (d + 63) 0 0 0 [some (.ref 1), none] [] S (qi V) (qj J) (qP_zV S J Q)) (hB : qB S V) (h : B_X6_readOr g_X6_readAnd V Q) : Z M_X6_readOr (d + 64) 0 0 0 [some (.ref 1), none] [] S (qi V) (qj J) (qP_zV S J Q) := by
  unfold B_X6_readOr at h
  refine z_aload_n Q_X6_readOr (k := 0) rfl rfl ?_
  refine q_callV0_zV Q_X6_readOr (k := 1) rfl rfl K_X6_readAnd V_X6_readAnd L_X6_107 (n_ hB.1 rfl) (k_1 hB.1) (Nat.le_of_ble_eq_true rfl) (Nat.le_of_ble_eq_true rfl) rfl (Nat.zero_le _) (Nat.zero_le _) (hg_X6_readAnd hB h) (fun r1 V1 hB1 hz1 hb1 h => ?_)
  refine y_if_ne 9 Q_X6_readOr (k := 2) rfl (by decide) hz1 (fun c => ?_) (fun c => ?_)
  · replace h := h.2 c
    refine y_iconst Q_X6_readOr (k := 5) rfl ?_
    refine y_istore_n (L' := [some (.ref 1), some (.int (iI 0))]) Q_X6_readOr (k := 6) rfl (by decide) rfl ?_
    refine y_fg (zsb_c rfl (zsb_c rfl zsb_e)) (v_X6_readOr_11 d hg_X6_readAnd (fun l1x7 V7 hB7 zl1x7 h => ?_) 100000 0 V1 hB1 ⟨by decide, by decide⟩ h)
    refine y_iconst Q_X6_readOr (k := 28) rfl ?_
    exact y_zret Q_X6_readOr (k := 29) rfl rfl (Or.inr rfl) (qI_zV hB7 ⟨by decide, by decide⟩ (Or.inr rfl) h)
  · replace h := h.1 c
    refine y_iconst Q_X6_readOr (k := 3) rfl ?_
    exact y_zret Q_X6_readOr (k := 4) rfl rfl (Or.inl rfl) (qI_zV hB1 ⟨by decide, by decide⟩ (Or.inl rfl) h)
set_option maxHeartbeats 4000000 in
set_option maxRecDepth 20000 in
theorem v_X6_readAnd_11 {S : zS} {J : qJ} {g_X6_readBasic : qV → (Int → qV → Prop) → Prop} {K : Int → qV → Prop} {Q : Int → qV → Prop} {kc ks : Nat} (d : Nat) (hg_X6_readBasic : ∀ {V : qV} {Q : Int → qV → Prop}, qB S V → g_X6_readBasic V Q → Z M_X6_readBasic (d + 63) 0 0 0 [some (.ref 1)] [] S (qi V) (qj J) (qP_zV S J Q)) (hK : ∀ (l1 : Int) (V : qV), qB S V → zr l1 → K l1 V → Z M_X6_readAnd (d + 64) kc ks 55 [some (.ref 1), some (.int (iI l1))] [] S (qi V) (qj J) (qP_zV S J Q)) : ∀ (f : Nat) (l1 : Int) (V : qV), qB S V → zr l1 → lp_X6_readAnd_11 g_X6_readBasic K Q f l1 V → Z M_X6_readAnd (d + 64) kc ks 11 [some (.ref 1), some (.int (iI l1))] [] S (qi V) (qj J) (qP_zV S J Q) := by
  intro f
  induction f with
  | zero =>
    intro l1 V hB z1 h
    exact h.elim
  | succ f ih =>
    intro l1 V hB z1 h
    rw [lp_X6_readAnd_11] at h
    refine z_iload_n Q_X6_readAnd (k := 7) rfl rfl ?_
    refine y_sipush Q_X6_readAnd (k := 8) rfl (by decide) ?_
    refine y_icmp_ge 55 Q_X6_readAnd (k := 9) rfl (by decide) z1 ⟨by decide, by decide⟩ (fun c => ?_) (fun c => ?_)
    · replace h := h.1 c
      exact y_fg (zsb_c rfl (zsb_c rfl zsb_e)) (hK l1 V hB z1 h)
    · replace h := h.2 c
      refine z_aload_n Q_X6_readAnd (k := 10) rfl rfl ?_
      refine y_bipush Q_X6_readAnd (k := 11) rfl (by decide) ?_
      refine q_callV1_z Q_X6_readAnd (k := 12) rfl rfl K_X6_isWord V_X6_isWord L_X6_101 (n_ hB.1 rfl) (k_1 hB.1) (Nat.le_of_ble_eq_true rfl) (Nat.le_of_ble_eq_true rfl) rfl (Nat.zero_le _) (Nat.zero_le _) (w_X6_isWord (d + 63) hB ⟨by decide, by decide⟩ h) (fun r2 hz2 hb2 h => ?_)
      refine y_if_eq 55 Q_X6_readAnd (k := 13) rfl (by decide) hz2 (fun c => ?_) (fun c => ?_)
      · replace h := h.1 c
        exact y_fg (zsb_c rfl (zsb_c rfl zsb_e)) (hK l1 V hB z1 h)
      · replace h := h.2 c
        refine z_aload_n Q_X6_readAnd (k := 14) rfl rfl ?_
        refine q_callV0_uV Q_X6_readAnd (k := 15) rfl rfl K_X6_goOn V_X6_goOn L_X6_89 (n_ hB.1 rfl) (k_1 hB.1) (Nat.le_of_ble_eq_true rfl) (Nat.le_of_ble_eq_true rfl) rfl (Nat.zero_le _) (Nat.zero_le _) (w_X6_goOn (d + 63) hB  h) (fun V3 hB3 h => ?_)
        refine z_aload_n Q_X6_readAnd (k := 16) rfl rfl ?_
        refine q_callV0_zV Q_X6_readAnd (k := 17) rfl rfl K_X6_readBasic V_X6_readBasic L_X6_113 (n_ hB3.1 rfl) (k_1 hB3.1) (Nat.le_of_ble_eq_true rfl) (Nat.le_of_ble_eq_true rfl) rfl (Nat.zero_le _) (Nat.zero_le _) (hg_X6_readBasic hB3 h) (fun r4 V4 hB4 hz4 hb4 h => ?_)
        refine y_if_ne 40 Q_X6_readAnd (k := 18) rfl (by decide) hz4 (fun c => ?_) (fun c => ?_)
        · replace h := h.2 c
          refine z_aload_n Q_X6_readAnd (k := 21) rfl rfl ?_
          refine z_getR (b := (V4 1 14).toNat) Q_X6_readAnd (k := 22) rfl F_X6_36 rfl (n_ hB4.1 rfl) (k_1 hB4.1) hB4.2.2.1.2 ?_
          refine y_iconst Q_X6_readAnd (k := 23) rfl ?_
          refine y_iconst Q_X6_readAnd (k := 24) rfl ?_
          refine q_callV2_uV Q_X6_readAnd (k := 25) rfl rfl K_X3_addCode V_X3_addCode L_X6_110 hB4.2.2.1.1.1.2.1 hB4.2.2.1.1.1.2.2.1 (Nat.le_of_ble_eq_true rfl) (Nat.le_of_ble_eq_true rfl) rfl (Nat.zero_le _) (Nat.zero_le _) (w_X3_addCode (d + 63) hB4 hB4.2.2.1.1 ⟨by decide, by decide⟩ ⟨by decide, by decide⟩ h) (fun V5 hB5 h => ?_)
          obtain ⟨q6, h⟩ := h
          refine y_iinc (L' := [some (.ref 1), some (.int (iI (l1 + 1)))]) Q_X6_readAnd (k := 26) rfl (by decide) rfl rfl ?_
          refine z_goto (tgt := 11) Q_X6_readAnd (k := 27) rfl (by decide) ?_
          exact y_fg (zsb_c rfl (zsb_c rfl zsb_e)) (ih (l1 + 1) V5 hB5 q6 h)
        · replace h := h.1 c
          refine y_iconst Q_X6_readAnd (k := 19) rfl ?_
          exact y_zret Q_X6_readAnd (k := 20) rfl rfl (Or.inl rfl) (qI_zV hB4 ⟨by decide, by decide⟩ (Or.inl rfl) h)
set_option maxHeartbeats 4000000 in
set_option maxRecDepth 20000 in
theorem b_X6_readAnd {S : zS} {V : qV} {J : qJ} {g_X6_readBasic : qV → (Int → qV → Prop) → Prop} {Q : Int → qV → Prop} (d : Nat) (hg_X6_readBasic : ∀ {V : qV} {Q : Int → qV → Prop}, qB S V → g_X6_readBasic V Q → Z M_X6_readBasic (d + 63) 0 0 0 [some (.ref 1)] [] S (qi V) (qj J) (qP_zV S J Q)) (hB : qB S V) (h : B_X6_readAnd g_X6_readBasic V Q) : Z M_X6_readAnd (d + 64) 0 0 0 [some (.ref 1), none] [] S (qi V) (qj J) (qP_zV S J Q) := by
  unfold B_X6_readAnd at h
  refine z_aload_n Q_X6_readAnd (k := 0) rfl rfl ?_
  refine q_callV0_zV Q_X6_readAnd (k := 1) rfl rfl K_X6_readBasic V_X6_readBasic L_X6_113 (n_ hB.1 rfl) (k_1 hB.1) (Nat.le_of_ble_eq_true rfl) (Nat.le_of_ble_eq_true rfl) rfl (Nat.zero_le _) (Nat.zero_le _) (hg_X6_readBasic hB h) (fun r1 V1 hB1 hz1 hb1 h => ?_)
  refine y_if_ne 9 Q_X6_readAnd (k := 2) rfl (by decide) hz1 (fun c => ?_) (fun c => ?_)
  · replace h := h.2 c
    refine y_iconst Q_X6_readAnd (k := 5) rfl ?_
    refine y_istore_n (L' := [some (.ref 1), some (.int (iI 0))]) Q_X6_readAnd (k := 6) rfl (by decide) rfl ?_
    refine y_fg (zsb_c rfl (zsb_c rfl zsb_e)) (v_X6_readAnd_11 d hg_X6_readBasic (fun l1x7 V7 hB7 zl1x7 h => ?_) 100000 0 V1 hB1 ⟨by decide, by decide⟩ h)
    refine y_iconst Q_X6_readAnd (k := 28) rfl ?_
    exact y_zret Q_X6_readAnd (k := 29) rfl rfl (Or.inr rfl) (qI_zV hB7 ⟨by decide, by decide⟩ (Or.inr rfl) h)
  · replace h := h.1 c
    refine y_iconst Q_X6_readAnd (k := 3) rfl ?_
    exact y_zret Q_X6_readAnd (k := 4) rfl rfl (Or.inl rfl) (qI_zV hB1 ⟨by decide, by decide⟩ (Or.inl rfl) h)
set_option maxHeartbeats 4000000 in
set_option maxRecDepth 20000 in
theorem b_X6_readBasic {S : zS} {V : qV} {J : qJ} {g_X6_readBracket : qV → (Int → qV → Prop) → Prop} {g_X6_readNot : qV → (Int → qV → Prop) → Prop} {Q : Int → qV → Prop} (d : Nat) (hg_X6_readBracket : ∀ {V : qV} {Q : Int → qV → Prop}, qB S V → g_X6_readBracket V Q → Z M_X6_readBracket (d + 63) 0 0 0 [some (.ref 1)] [] S (qi V) (qj J) (qP_zV S J Q)) (hg_X6_readNot : ∀ {V : qV} {Q : Int → qV → Prop}, qB S V → g_X6_readNot V Q → Z M_X6_readNot (d + 63) 0 0 0 [some (.ref 1)] [] S (qi V) (qj J) (qP_zV S J Q)) (hB : qB S V) (h : B_X6_readBasic g_X6_readBracket g_X6_readNot V Q) : Z M_X6_readBasic (d + 64) 0 0 0 [some (.ref 1)] [] S (qi V) (qj J) (qP_zV S J Q) := by
  unfold B_X6_readBasic at h
  refine z_aload_n Q_X6_readBasic (k := 0) rfl rfl ?_
  refine y_bipush Q_X6_readBasic (k := 1) rfl (by decide) ?_
  refine q_callV1_z Q_X6_readBasic (k := 2) rfl rfl K_X6_isWord V_X6_isWord L_X6_101 (n_ hB.1 rfl) (k_1 hB.1) (Nat.le_of_ble_eq_true rfl) (Nat.le_of_ble_eq_true rfl) rfl (Nat.zero_le _) (Nat.zero_le _) (w_X6_isWord (d + 63) hB ⟨by decide, by decide⟩ h) (fun r1 hz1 hb1 h => ?_)
  refine y_if_eq 14 Q_X6_readBasic (k := 3) rfl (by decide) hz1 (fun c => ?_) (fun c => ?_)
  · replace h := h.1 c
    refine z_aload_n Q_X6_readBasic (k := 7) rfl rfl ?_
    refine y_bipush Q_X6_readBasic (k := 8) rfl (by decide) ?_
    refine q_callV1_z Q_X6_readBasic (k := 9) rfl rfl K_X6_isSign V_X6_isSign L_X6_119 (n_ hB.1 rfl) (k_1 hB.1) (Nat.le_of_ble_eq_true rfl) (Nat.le_of_ble_eq_true rfl) rfl (Nat.zero_le _) (Nat.zero_le _) (w_X6_isSign (d + 63) hB ⟨by decide, by decide⟩ h) (fun r2 hz2 hb2 h => ?_)
    refine y_if_eq 28 Q_X6_readBasic (k := 10) rfl (by decide) hz2 (fun c => ?_) (fun c => ?_)
    · replace h := h.1 c
      refine z_aload_n Q_X6_readBasic (k := 14) rfl rfl ?_
      refine q_getI (o := 1) (z := 8) Q_X6_readBasic (k := 15) rfl F_X6_46 rfl rfl rfl (n_ hB.1 rfl) (k_1 hB.1) ?_
      refine y_iconst Q_X6_readBasic (k := 16) rfl ?_
      refine y_icmp_ne 54 Q_X6_readBasic (k := 17) rfl (by decide) (hB.2.1 _ _) ⟨by decide, by decide⟩ (fun c => ?_) (fun c => ?_)
      · replace h := h.2 c
        refine z_aload_n Q_X6_readBasic (k := 28) rfl rfl ?_
        refine q_callV0_zV Q_X6_readBasic (k := 29) rfl rfl K_X6_readComparison V_X6_readComparison L_X6_125 (n_ hB.1 rfl) (k_1 hB.1) (Nat.le_of_ble_eq_true rfl) (Nat.le_of_ble_eq_true rfl) rfl (Nat.zero_le _) (Nat.zero_le _) (w_X6_readComparison d hB  h) (fun r3 V3 hB3 hz3 hb3 h => ?_)
        exact y_zret Q_X6_readBasic (k := 30) rfl rfl hb3 (qI_zV hB3 hz3 hb3 h)
      · replace h := h.1 c
        refine z_aload_n Q_X6_readBasic (k := 18) rfl rfl ?_
        refine z_getR (b := (V 1 14).toNat) Q_X6_readBasic (k := 19) rfl F_X6_36 rfl (n_ hB.1 rfl) (k_1 hB.1) hB.2.2.1.2 ?_
        refine y_iconst Q_X6_readBasic (k := 20) rfl ?_
        refine z_aload_n Q_X6_readBasic (k := 21) rfl rfl ?_
        refine q_getI (o := 1) (z := 9) Q_X6_readBasic (k := 22) rfl F_X6_95 rfl rfl rfl (n_ hB.1 rfl) (k_1 hB.1) ?_
        refine q_callV2_uV Q_X6_readBasic (k := 23) rfl rfl K_X3_addCode V_X3_addCode L_X6_110 hB.2.2.1.1.1.2.1 hB.2.2.1.1.1.2.2.1 (Nat.le_of_ble_eq_true rfl) (Nat.le_of_ble_eq_true rfl) rfl (Nat.zero_le _) (Nat.zero_le _) (w_X3_addCode (d + 63) hB hB.2.2.1.1 ⟨by decide, by decide⟩ (hB.2.1 _ _) h) (fun V4 hB4 h => ?_)
        refine z_aload_n Q_X6_readBasic (k := 24) rfl rfl ?_
        refine q_callV0_uV Q_X6_readBasic (k := 25) rfl rfl K_X6_goOn V_X6_goOn L_X6_89 (n_ hB4.1 rfl) (k_1 hB4.1) (Nat.le_of_ble_eq_true rfl) (Nat.le_of_ble_eq_true rfl) rfl (Nat.zero_le _) (Nat.zero_le _) (w_X6_goOn (d + 63) hB4  h) (fun V5 hB5 h => ?_)
        refine y_iconst Q_X6_readBasic (k := 26) rfl ?_
        exact y_zret Q_X6_readBasic (k := 27) rfl rfl (Or.inr rfl) (qI_zV hB5 ⟨by decide, by decide⟩ (Or.inr rfl) h)
    · replace h := h.2 c
      refine z_aload_n Q_X6_readBasic (k := 11) rfl rfl ?_
      refine q_callV0_zV Q_X6_readBasic (k := 12) rfl rfl K_X6_readBracket V_X6_readBracket L_X6_122 (n_ hB.1 rfl) (k_1 hB.1) (Nat.le_of_ble_eq_true rfl) (Nat.le_of_ble_eq_true rfl) rfl (Nat.zero_le _) (Nat.zero_le _) (hg_X6_readBracket hB h) (fun r6 V6 hB6 hz6 hb6 h => ?_)
      exact y_zret Q_X6_readBasic (k := 13) rfl rfl hb6 (qI_zV hB6 hz6 hb6 h)
  · replace h := h.2 c
    refine z_aload_n Q_X6_readBasic (k := 4) rfl rfl ?_
    refine q_callV0_zV Q_X6_readBasic (k := 5) rfl rfl K_X6_readNot V_X6_readNot L_X6_116 (n_ hB.1 rfl) (k_1 hB.1) (Nat.le_of_ble_eq_true rfl) (Nat.le_of_ble_eq_true rfl) rfl (Nat.zero_le _) (Nat.zero_le _) (hg_X6_readNot hB h) (fun r7 V7 hB7 hz7 hb7 h => ?_)
    exact y_zret Q_X6_readBasic (k := 6) rfl rfl hb7 (qI_zV hB7 hz7 hb7 h)
set_option maxHeartbeats 4000000 in
set_option maxRecDepth 20000 in
theorem b_X6_readNot {S : zS} {V : qV} {J : qJ} {g_X6_readBasic : qV → (Int → qV → Prop) → Prop} {Q : Int → qV → Prop} (d : Nat) (hg_X6_readBasic : ∀ {V : qV} {Q : Int → qV → Prop}, qB S V → g_X6_readBasic V Q → Z M_X6_readBasic (d + 63) 0 0 0 [some (.ref 1)] [] S (qi V) (qj J) (qP_zV S J Q)) (hB : qB S V) (h : B_X6_readNot g_X6_readBasic V Q) : Z M_X6_readNot (d + 64) 0 0 0 [some (.ref 1)] [] S (qi V) (qj J) (qP_zV S J Q) := by
  unfold B_X6_readNot at h
  refine z_aload_n Q_X6_readNot (k := 0) rfl rfl ?_
  refine q_callV0_zV Q_X6_readNot (k := 1) rfl rfl K_X6_mayOpen V_X6_mayOpen L_X6_128 (n_ hB.1 rfl) (k_1 hB.1) (Nat.le_of_ble_eq_true rfl) (Nat.le_of_ble_eq_true rfl) rfl (Nat.zero_le _) (Nat.zero_le _) (w_X6_mayOpen (d + 62) hB  h) (fun r1 V1 hB1 hz1 hb1 h => ?_)
  refine y_if_ne 9 Q_X6_readNot (k := 2) rfl (by decide) hz1 (fun c => ?_) (fun c => ?_)
  · replace h := h.2 c
    refine z_aload_n Q_X6_readNot (k := 5) rfl rfl ?_
    refine q_callV0_uV Q_X6_readNot (k := 6) rfl rfl K_X6_goOn V_X6_goOn L_X6_89 (n_ hB1.1 rfl) (k_1 hB1.1) (Nat.le_of_ble_eq_true rfl) (Nat.le_of_ble_eq_true rfl) rfl (Nat.zero_le _) (Nat.zero_le _) (w_X6_goOn (d + 63) hB1  h) (fun V2 hB2 h => ?_)
    refine z_aload_n Q_X6_readNot (k := 7) rfl rfl ?_
    refine q_callV0_zV Q_X6_readNot (k := 8) rfl rfl K_X6_readBasic V_X6_readBasic L_X6_113 (n_ hB2.1 rfl) (k_1 hB2.1) (Nat.le_of_ble_eq_true rfl) (Nat.le_of_ble_eq_true rfl) rfl (Nat.zero_le _) (Nat.zero_le _) (hg_X6_readBasic hB2 h) (fun r3 V3 hB3 hz3 hb3 h => ?_)
    refine y_if_ne 22 Q_X6_readNot (k := 9) rfl (by decide) hz3 (fun c => ?_) (fun c => ?_)
    · replace h := h.2 c
      refine z_aload_n Q_X6_readNot (k := 12) rfl rfl ?_
      refine z_dup Q_X6_readNot (k := 13) rfl rfl ?_
      refine q_getI (o := 1) (z := 10) Q_X6_readNot (k := 14) rfl F_X6_80 rfl rfl rfl (n_ hB3.1 rfl) (k_1 hB3.1) ?_
      refine y_iconst Q_X6_readNot (k := 15) rfl ?_
      obtain ⟨q4, h⟩ := h
      refine y_isub Q_X6_readNot (k := 16) rfl ?_
      refine q_putI (o := 1) (z := 10) Q_X6_readNot (k := 17) rfl F_X6_80 rfl rfl rfl (n_ hB3.1 rfl) (k_1 hB3.1) ?_
      have hB5 := qB.u (a := 1) (j := 10) (x := (V3 1 10) - 1) hB3 q4 (Or.inr (Or.inl ⟨rfl, by decide⟩))
      refine z_aload_n Q_X6_readNot (k := 18) rfl rfl ?_
      refine z_getR (b := ((qu V3 1 10 ((V3 1 10) - 1)) 1 14).toNat) Q_X6_readNot (k := 19) rfl F_X6_36 rfl (n_ hB5.1 rfl) (k_1 hB5.1) hB5.2.2.1.2 ?_
      refine y_iconst Q_X6_readNot (k := 20) rfl ?_
      refine y_iconst Q_X6_readNot (k := 21) rfl ?_
      refine q_callV2_uV Q_X6_readNot (k := 22) rfl rfl K_X3_addCode V_X3_addCode L_X6_110 hB5.2.2.1.1.1.2.1 hB5.2.2.1.1.1.2.2.1 (Nat.le_of_ble_eq_true rfl) (Nat.le_of_ble_eq_true rfl) rfl (Nat.zero_le _) (Nat.zero_le _) (w_X3_addCode (d + 63) hB5 hB5.2.2.1.1 ⟨by decide, by decide⟩ ⟨by decide, by decide⟩ h) (fun V6 hB6 h => ?_)
      refine y_iconst Q_X6_readNot (k := 23) rfl ?_
      exact y_zret Q_X6_readNot (k := 24) rfl rfl (Or.inr rfl) (qI_zV hB6 ⟨by decide, by decide⟩ (Or.inr rfl) h)
    · replace h := h.1 c
      refine y_iconst Q_X6_readNot (k := 10) rfl ?_
      exact y_zret Q_X6_readNot (k := 11) rfl rfl (Or.inl rfl) (qI_zV hB3 ⟨by decide, by decide⟩ (Or.inl rfl) h)
  · replace h := h.1 c
    refine y_iconst Q_X6_readNot (k := 3) rfl ?_
    exact y_zret Q_X6_readNot (k := 4) rfl rfl (Or.inl rfl) (qI_zV hB1 ⟨by decide, by decide⟩ (Or.inl rfl) h)
set_option maxHeartbeats 4000000 in
set_option maxRecDepth 20000 in
theorem b_X6_readBracket {S : zS} {V : qV} {J : qJ} {g_X6_readOr : qV → (Int → qV → Prop) → Prop} {Q : Int → qV → Prop} (d : Nat) (hg_X6_readOr : ∀ {V : qV} {Q : Int → qV → Prop}, qB S V → g_X6_readOr V Q → Z M_X6_readOr (d + 63) 0 0 0 [some (.ref 1), none] [] S (qi V) (qj J) (qP_zV S J Q)) (hB : qB S V) (h : B_X6_readBracket g_X6_readOr V Q) : Z M_X6_readBracket (d + 64) 0 0 0 [some (.ref 1)] [] S (qi V) (qj J) (qP_zV S J Q) := by
  unfold B_X6_readBracket at h
  refine z_aload_n Q_X6_readBracket (k := 0) rfl rfl ?_
  refine q_callV0_zV Q_X6_readBracket (k := 1) rfl rfl K_X6_mayOpen V_X6_mayOpen L_X6_128 (n_ hB.1 rfl) (k_1 hB.1) (Nat.le_of_ble_eq_true rfl) (Nat.le_of_ble_eq_true rfl) rfl (Nat.zero_le _) (Nat.zero_le _) (w_X6_mayOpen (d + 62) hB  h) (fun r1 V1 hB1 hz1 hb1 h => ?_)
  refine y_if_ne 9 Q_X6_readBracket (k := 2) rfl (by decide) hz1 (fun c => ?_) (fun c => ?_)
  · replace h := h.2 c
    refine z_aload_n Q_X6_readBracket (k := 5) rfl rfl ?_
    refine q_callV0_uV Q_X6_readBracket (k := 6) rfl rfl K_X6_goOn V_X6_goOn L_X6_89 (n_ hB1.1 rfl) (k_1 hB1.1) (Nat.le_of_ble_eq_true rfl) (Nat.le_of_ble_eq_true rfl) rfl (Nat.zero_le _) (Nat.zero_le _) (w_X6_goOn (d + 63) hB1  h) (fun V2 hB2 h => ?_)
    refine z_aload_n Q_X6_readBracket (k := 7) rfl rfl ?_
    refine q_callV0_zV Q_X6_readBracket (k := 8) rfl rfl K_X6_readOr V_X6_readOr L_X6_57 (n_ hB2.1 rfl) (k_1 hB2.1) (Nat.le_of_ble_eq_true rfl) (Nat.le_of_ble_eq_true rfl) rfl (Nat.zero_le _) (Nat.zero_le _) (hg_X6_readOr hB2 h) (fun r3 V3 hB3 hz3 hb3 h => ?_)
    refine y_if_eq 29 Q_X6_readBracket (k := 9) rfl (by decide) hz3 (fun c => ?_) (fun c => ?_)
    · replace h := h.1 c
      refine y_iconst Q_X6_readBracket (k := 14) rfl ?_
      exact y_zret Q_X6_readBracket (k := 15) rfl rfl (Or.inl rfl) (qI_zV hB3 ⟨by decide, by decide⟩ (Or.inl rfl) h)
    · replace h := h.2 c
      refine z_aload_n Q_X6_readBracket (k := 10) rfl rfl ?_
      refine y_bipush Q_X6_readBracket (k := 11) rfl (by decide) ?_
      refine q_callV1_zV Q_X6_readBracket (k := 12) rfl rfl K_X6_readSign V_X6_readSign L_X6_60 (n_ hB3.1 rfl) (k_1 hB3.1) (Nat.le_of_ble_eq_true rfl) (Nat.le_of_ble_eq_true rfl) rfl (Nat.zero_le _) (Nat.zero_le _) (w_X6_readSign (d + 62) hB3 ⟨by decide, by decide⟩ h) (fun r4 V4 hB4 hz4 hb4 h => ?_)
      refine y_if_ne 31 Q_X6_readBracket (k := 13) rfl (by decide) hz4 (fun c => ?_) (fun c => ?_)
      · replace h := h.2 c
        refine z_aload_n Q_X6_readBracket (k := 16) rfl rfl ?_
        refine z_dup Q_X6_readBracket (k := 17) rfl rfl ?_
        refine q_getI (o := 1) (z := 10) Q_X6_readBracket (k := 18) rfl F_X6_80 rfl rfl rfl (n_ hB4.1 rfl) (k_1 hB4.1) ?_
        refine y_iconst Q_X6_readBracket (k := 19) rfl ?_
        obtain ⟨q5, h⟩ := h
        refine y_isub Q_X6_readBracket (k := 20) rfl ?_
        refine q_putI (o := 1) (z := 10) Q_X6_readBracket (k := 21) rfl F_X6_80 rfl rfl rfl (n_ hB4.1 rfl) (k_1 hB4.1) ?_
        have hB6 := qB.u (a := 1) (j := 10) (x := (V4 1 10) - 1) hB4 q5 (Or.inr (Or.inl ⟨rfl, by decide⟩))
        refine y_iconst Q_X6_readBracket (k := 22) rfl ?_
        exact y_zret Q_X6_readBracket (k := 23) rfl rfl (Or.inr rfl) (qI_zV hB6 ⟨by decide, by decide⟩ (Or.inr rfl) h)
      · replace h := h.1 c
        refine y_iconst Q_X6_readBracket (k := 14) rfl ?_
        exact y_zret Q_X6_readBracket (k := 15) rfl rfl (Or.inl rfl) (qI_zV hB4 ⟨by decide, by decide⟩ (Or.inl rfl) h)
  · replace h := h.1 c
    refine y_iconst Q_X6_readBracket (k := 3) rfl ?_
    exact y_zret Q_X6_readBracket (k := 4) rfl rfl (Or.inl rfl) (qI_zV hB1 ⟨by decide, by decide⟩ (Or.inl rfl) h)
theorem g_ro {S : zS} {J : qJ} (d : Nat) : ∀ n : Nat, (∀ {V : qV} {Q : Int → qV → Prop}, qB S V → G_ro n 0 V Q → Z M_X6_readOr (d + n + 63) 0 0 0 [some (.ref 1), none] [] S (qi V) (qj J) (qP_zV S J Q)) ∧ (∀ {V : qV} {Q : Int → qV → Prop}, qB S V → G_ro n 1 V Q → Z M_X6_readAnd (d + n + 63) 0 0 0 [some (.ref 1), none] [] S (qi V) (qj J) (qP_zV S J Q)) ∧ (∀ {V : qV} {Q : Int → qV → Prop}, qB S V → G_ro n 2 V Q → Z M_X6_readBasic (d + n + 63) 0 0 0 [some (.ref 1)] [] S (qi V) (qj J) (qP_zV S J Q)) ∧ (∀ {V : qV} {Q : Int → qV → Prop}, qB S V → G_ro n 3 V Q → Z M_X6_readNot (d + n + 63) 0 0 0 [some (.ref 1)] [] S (qi V) (qj J) (qP_zV S J Q)) ∧ (∀ {V : qV} {Q : Int → qV → Prop}, qB S V → G_ro n 4 V Q → Z M_X6_readBracket (d + n + 63) 0 0 0 [some (.ref 1)] [] S (qi V) (qj J) (qP_zV S J Q)) := by
  intro n
  induction n with
  | zero => exact ⟨fun _ h => h.elim, fun _ h => h.elim, fun _ h => h.elim, fun _ h => h.elim, fun _ h => h.elim⟩
  | succ n ih =>
    obtain ⟨i0, i1, i2, i3, i4⟩ := ih
    refine ⟨?_, ?_, ?_, ?_, ?_⟩
    · intro V Q hB h
      have h2 : B_X6_readOr (G_ro n 1) V Q := by simpa [G_ro] using h
      exact b_X6_readOr (d + n) (fun hB h => i1 hB h) hB h2
    · intro V Q hB h
      have h2 : B_X6_readAnd (G_ro n 2) V Q := by simpa [G_ro] using h
      exact b_X6_readAnd (d + n) (fun hB h => i2 hB h) hB h2
    · intro V Q hB h
      have h2 : B_X6_readBasic (G_ro n 4) (G_ro n 3) V Q := by simpa [G_ro] using h
      exact b_X6_readBasic (d + n) (fun hB h => i4 hB h) (fun hB h => i3 hB h) hB h2
    · intro V Q hB h
      have h2 : B_X6_readNot (G_ro n 2) V Q := by simpa [G_ro] using h
      exact b_X6_readNot (d + n) (fun hB h => i2 hB h) hB h2
    · intro V Q hB h
      have h2 : B_X6_readBracket (G_ro n 0) V Q := by simpa [G_ro] using h
      exact b_X6_readBracket (d + n) (fun hB h => i0 hB h) hB h2
theorem w_X6_readOr {S : zS} {V : qV} {J : qJ} {Q : Int → qV → Prop} (d : Nat) (hB : qB S V) (h : W_X6_readOr V Q) : Z M_X6_readOr (d + 61 + 63) 0 0 0 [some (.ref 1), none] [] S (qi V) (qj J) (qP_zV S J Q) := (g_ro d 61).1 hB h
theorem w_X6_readAnd {S : zS} {V : qV} {J : qJ} {Q : Int → qV → Prop} (d : Nat) (hB : qB S V) (h : W_X6_readAnd V Q) : Z M_X6_readAnd (d + 61 + 63) 0 0 0 [some (.ref 1), none] [] S (qi V) (qj J) (qP_zV S J Q) := (g_ro d 61).2.1 hB h
theorem w_X6_readBasic {S : zS} {V : qV} {J : qJ} {Q : Int → qV → Prop} (d : Nat) (hB : qB S V) (h : W_X6_readBasic V Q) : Z M_X6_readBasic (d + 61 + 63) 0 0 0 [some (.ref 1)] [] S (qi V) (qj J) (qP_zV S J Q) := (g_ro d 61).2.2.1 hB h
theorem w_X6_readNot {S : zS} {V : qV} {J : qJ} {Q : Int → qV → Prop} (d : Nat) (hB : qB S V) (h : W_X6_readNot V Q) : Z M_X6_readNot (d + 61 + 63) 0 0 0 [some (.ref 1)] [] S (qi V) (qj J) (qP_zV S J Q) := (g_ro d 61).2.2.2.1 hB h
theorem w_X6_readBracket {S : zS} {V : qV} {J : qJ} {Q : Int → qV → Prop} (d : Nat) (hB : qB S V) (h : W_X6_readBracket V Q) : Z M_X6_readBracket (d + 61 + 63) 0 0 0 [some (.ref 1)] [] S (qi V) (qj J) (qP_zV S J Q) := (g_ro d 61).2.2.2.2 hB h
set_option maxHeartbeats 4000000 in
set_option maxRecDepth 20000 in
theorem w_X6_readRule {S : zS} {V : qV} {J : qJ} {Q : Int → qV → Prop} (d : Nat) (hB : qB S V) (h : W_X6_readRule V Q) : Z M_X6_readRule (d + 125) 0 0 0 [some (.ref 1), none, none] [] S (qi V) (qj J) (qP_zV S J Q) := by
  unfold W_X6_readRule at h
  refine z_aload_n Q_X6_readRule (k := 0) rfl rfl ?_
  refine q_getI (o := 1) (z := 9) Q_X6_readRule (k := 1) rfl F_X6_95 rfl rfl rfl (n_ hB.1 rfl) (k_1 hB.1) ?_
  refine y_istore_n (L' := [some (.ref 1), some (.int (iI (V 1 9))), none]) Q_X6_readRule (k := 2) rfl (by decide) rfl ?_
  refine z_aload_n Q_X6_readRule (k := 3) rfl rfl ?_
  refine q_getI (o := 1) (z := 8) Q_X6_readRule (k := 4) rfl F_X6_46 rfl rfl rfl (n_ hB.1 rfl) (k_1 hB.1) ?_
  refine y_iconst Q_X6_readRule (k := 5) rfl ?_
  refine y_icmp_ne 22 Q_X6_readRule (k := 6) rfl (by decide) (hB.2.1 _ _) ⟨by decide, by decide⟩ (fun c => ?_) (fun c => ?_)
  · replace h := h.2 c
    refine z_aload_n Q_X6_readRule (k := 12) rfl rfl ?_
    refine y_iconst Q_X6_readRule (k := 13) rfl ?_
    refine q_callV1_zV Q_X6_readRule (k := 14) rfl rfl K_X6_refuse V_X6_refuse L_X6_64 (n_ hB.1 rfl) (k_1 hB.1) (Nat.le_of_ble_eq_true rfl) (Nat.le_of_ble_eq_true rfl) rfl (Nat.zero_le _) (Nat.zero_le _) (w_X6_refuse (d + 124) hB ⟨by decide, by decide⟩ h) (fun r1 V1 hB1 hz1 hb1 h => ?_)
    exact y_zret Q_X6_readRule (k := 15) rfl rfl hb1 (qI_zV hB1 hz1 hb1 h)
  · replace h := h.1 c
    refine z_iload_n Q_X6_readRule (k := 7) rfl rfl ?_
    refine y_if_lt 22 Q_X6_readRule (k := 8) rfl (by decide) (hB.2.1 _ _) (fun c => ?_) (fun c => ?_)
    · replace h := h.1 c
      refine z_aload_n Q_X6_readRule (k := 12) rfl rfl ?_
      refine y_iconst Q_X6_readRule (k := 13) rfl ?_
      refine q_callV1_zV Q_X6_readRule (k := 14) rfl rfl K_X6_refuse V_X6_refuse L_X6_64 (n_ hB.1 rfl) (k_1 hB.1) (Nat.le_of_ble_eq_true rfl) (Nat.le_of_ble_eq_true rfl) rfl (Nat.zero_le _) (Nat.zero_le _) (w_X6_refuse (d + 124) hB ⟨by decide, by decide⟩ h) (fun r2 V2 hB2 hz2 hb2 h => ?_)
      exact y_zret Q_X6_readRule (k := 15) rfl rfl hb2 (qI_zV hB2 hz2 hb2 h)
    · replace h := h.2 c
      refine z_iload_n Q_X6_readRule (k := 9) rfl rfl ?_
      refine y_iconst Q_X6_readRule (k := 10) rfl ?_
      refine y_icmp_lt 28 Q_X6_readRule (k := 11) rfl (by decide) (hB.2.1 _ _) ⟨by decide, by decide⟩ (fun c => ?_) (fun c => ?_)
      · replace h := h.1 c
        refine z_aload_n Q_X6_readRule (k := 16) rfl rfl ?_
        refine z_getR (b := (V 1 14).toNat) Q_X6_readRule (k := 17) rfl F_X6_36 rfl (n_ hB.1 rfl) (k_1 hB.1) hB.2.2.1.2 ?_
        refine q_getI (o := V 1 14) (z := 0) Q_X6_readRule (k := 18) rfl F_X6_98 rfl (Int.toNat_of_nonneg hB.2.2.1.1.1.1) rfl hB.2.2.1.1.1.2.1 hB.2.2.1.1.1.2.2.1 ?_
        refine y_bipush Q_X6_readRule (k := 19) rfl (by decide) ?_
        refine y_icmp_lt 46 Q_X6_readRule (k := 20) rfl (by decide) (hB.2.1 _ _) ⟨by decide, by decide⟩ (fun c => ?_) (fun c => ?_)
        · replace h := h.1 c
          refine z_aload_n Q_X6_readRule (k := 25) rfl rfl ?_
          refine q_callV0_uV Q_X6_readRule (k := 26) rfl rfl K_X6_goOn V_X6_goOn L_X6_89 (n_ hB.1 rfl) (k_1 hB.1) (Nat.le_of_ble_eq_true rfl) (Nat.le_of_ble_eq_true rfl) rfl (Nat.zero_le _) (Nat.zero_le _) (w_X6_goOn (d + 124) hB  h) (fun V3 hB3 h => ?_)
          refine y_iconst Q_X6_readRule (k := 27) rfl ?_
          refine y_istore_n (L' := [some (.ref 1), some (.int (iI (V 1 9))), some (.int (iI 0))]) Q_X6_readRule (k := 28) rfl (by decide) rfl ?_
          refine z_aload_n Q_X6_readRule (k := 29) rfl rfl ?_
          refine y_bipush Q_X6_readRule (k := 30) rfl (by decide) ?_
          refine q_callV1_z Q_X6_readRule (k := 31) rfl rfl K_X6_isWord V_X6_isWord L_X6_101 (n_ hB3.1 rfl) (k_1 hB3.1) (Nat.le_of_ble_eq_true rfl) (Nat.le_of_ble_eq_true rfl) rfl (Nat.zero_le _) (Nat.zero_le _) (w_X6_isWord (d + 124) hB3 ⟨by decide, by decide⟩ h) (fun r4 hz4 hb4 h => ?_)
          refine y_if_eq 83 Q_X6_readRule (k := 32) rfl (by decide) hz4 (fun c => ?_) (fun c => ?_)
          · replace h := h.1 c
            refine z_aload_n Q_X6_readRule (k := 45) rfl rfl ?_
            refine z_getR (b := (V3 1 14).toNat) Q_X6_readRule (k := 46) rfl F_X6_36 rfl (n_ hB3.1 rfl) (k_1 hB3.1) hB3.2.2.1.2 ?_
            refine z_iload_n Q_X6_readRule (k := 47) rfl rfl ?_
            refine z_iload_n Q_X6_readRule (k := 48) rfl rfl ?_
            refine q_callV2_uV Q_X6_readRule (k := 49) rfl rfl K_X3_addRule V_X3_addRule L_X6_53 hB3.2.2.1.1.1.2.1 hB3.2.2.1.1.1.2.2.1 (Nat.le_of_ble_eq_true rfl) (Nat.le_of_ble_eq_true rfl) rfl (Nat.zero_le _) (Nat.zero_le _) (w_X3_addRule (d + 124) hB3 hB3.2.2.1.1 (hB.2.1 _ _) ⟨by decide, by decide⟩ h) (fun V5 hB5 h => ?_)
            refine z_aload_n Q_X6_readRule (k := 50) rfl rfl ?_
            refine y_bipush Q_X6_readRule (k := 51) rfl (by decide) ?_
            refine q_callV1_z Q_X6_readRule (k := 52) rfl rfl K_X6_isWord V_X6_isWord L_X6_101 (n_ hB5.1 rfl) (k_1 hB5.1) (Nat.le_of_ble_eq_true rfl) (Nat.le_of_ble_eq_true rfl) rfl (Nat.zero_le _) (Nat.zero_le _) (w_X6_isWord (d + 124) hB5 ⟨by decide, by decide⟩ h) (fun r6 hz6 hb6 h => ?_)
            refine y_if_eq 114 Q_X6_readRule (k := 53) rfl (by decide) hz6 (fun c => ?_) (fun c => ?_)
            · replace h := h.1 c
              refine z_aload_n Q_X6_readRule (k := 61) rfl rfl ?_
              refine y_bipush Q_X6_readRule (k := 62) rfl (by decide) ?_
              refine q_callV1_zV Q_X6_readRule (k := 63) rfl rfl K_X6_readSign V_X6_readSign L_X6_60 (n_ hB5.1 rfl) (k_1 hB5.1) (Nat.le_of_ble_eq_true rfl) (Nat.le_of_ble_eq_true rfl) rfl (Nat.zero_le _) (Nat.zero_le _) (w_X6_readSign (d + 123) hB5 ⟨by decide, by decide⟩ h) (fun r7 V7 hB7 hz7 hb7 h => ?_)
              exact y_zret Q_X6_readRule (k := 64) rfl rfl hb7 (qI_zV hB7 hz7 hb7 h)
            · replace h := h.2 c
              refine z_aload_n Q_X6_readRule (k := 54) rfl rfl ?_
              refine q_callV0_uV Q_X6_readRule (k := 55) rfl rfl K_X6_goOn V_X6_goOn L_X6_89 (n_ hB5.1 rfl) (k_1 hB5.1) (Nat.le_of_ble_eq_true rfl) (Nat.le_of_ble_eq_true rfl) rfl (Nat.zero_le _) (Nat.zero_le _) (w_X6_goOn (d + 124) hB5  h) (fun V8 hB8 h => ?_)
              refine z_aload_n Q_X6_readRule (k := 56) rfl rfl ?_
              refine q_callV0_zV Q_X6_readRule (k := 57) rfl rfl K_X6_readOr V_X6_readOr L_X6_57 (n_ hB8.1 rfl) (k_1 hB8.1) (Nat.le_of_ble_eq_true rfl) (Nat.le_of_ble_eq_true rfl) rfl (Nat.zero_le _) (Nat.zero_le _) (w_X6_readOr d hB8  h) (fun r9 V9 hB9 hz9 hb9 h => ?_)
              refine y_if_ne 114 Q_X6_readRule (k := 58) rfl (by decide) hz9 (fun c => ?_) (fun c => ?_)
              · replace h := h.2 c
                refine z_aload_n Q_X6_readRule (k := 61) rfl rfl ?_
                refine y_bipush Q_X6_readRule (k := 62) rfl (by decide) ?_
                refine q_callV1_zV Q_X6_readRule (k := 63) rfl rfl K_X6_readSign V_X6_readSign L_X6_60 (n_ hB9.1 rfl) (k_1 hB9.1) (Nat.le_of_ble_eq_true rfl) (Nat.le_of_ble_eq_true rfl) rfl (Nat.zero_le _) (Nat.zero_le _) (w_X6_readSign (d + 123) hB9 ⟨by decide, by decide⟩ h) (fun r10 V10 hB10 hz10 hb10 h => ?_)
                exact y_zret Q_X6_readRule (k := 64) rfl rfl hb10 (qI_zV hB10 hz10 hb10 h)
              · replace h := h.1 c
                refine y_iconst Q_X6_readRule (k := 59) rfl ?_
                exact y_zret Q_X6_readRule (k := 60) rfl rfl (Or.inl rfl) (qI_zV hB9 ⟨by decide, by decide⟩ (Or.inl rfl) h)
          · replace h := h.2 c
            refine z_aload_n Q_X6_readRule (k := 33) rfl rfl ?_
            refine q_callV0_uV Q_X6_readRule (k := 34) rfl rfl K_X6_goOn V_X6_goOn L_X6_89 (n_ hB3.1 rfl) (k_1 hB3.1) (Nat.le_of_ble_eq_true rfl) (Nat.le_of_ble_eq_true rfl) rfl (Nat.zero_le _) (Nat.zero_le _) (w_X6_goOn (d + 124) hB3  h) (fun V11 hB11 h => ?_)
            refine z_aload_n Q_X6_readRule (k := 35) rfl rfl ?_
            refine q_callV0_zV Q_X6_readRule (k := 36) rfl rfl K_X6_needNumber V_X6_needNumber L_X6_104 (n_ hB11.1 rfl) (k_1 hB11.1) (Nat.le_of_ble_eq_true rfl) (Nat.le_of_ble_eq_true rfl) rfl (Nat.zero_le _) (Nat.zero_le _) (w_X6_needNumber (d + 123) hB11  h) (fun r12 V12 hB12 hz12 hb12 h => ?_)
            refine y_if_ne 74 Q_X6_readRule (k := 37) rfl (by decide) hz12 (fun c => ?_) (fun c => ?_)
            · replace h := h.2 c
              refine z_aload_n Q_X6_readRule (k := 40) rfl rfl ?_
              refine q_getI (o := 1) (z := 9) Q_X6_readRule (k := 41) rfl F_X6_95 rfl rfl rfl (n_ hB12.1 rfl) (k_1 hB12.1) ?_
              refine y_istore_n (L' := [some (.ref 1), some (.int (iI (V 1 9))), some (.int (iI (V12 1 9)))]) Q_X6_readRule (k := 42) rfl (by decide) rfl ?_
              refine z_aload_n Q_X6_readRule (k := 43) rfl rfl ?_
              refine q_callV0_uV Q_X6_readRule (k := 44) rfl rfl K_X6_goOn V_X6_goOn L_X6_89 (n_ hB12.1 rfl) (k_1 hB12.1) (Nat.le_of_ble_eq_true rfl) (Nat.le_of_ble_eq_true rfl) rfl (Nat.zero_le _) (Nat.zero_le _) (w_X6_goOn (d + 124) hB12  h) (fun V13 hB13 h => ?_)
              refine z_aload_n Q_X6_readRule (k := 45) rfl rfl ?_
              refine z_getR (b := (V13 1 14).toNat) Q_X6_readRule (k := 46) rfl F_X6_36 rfl (n_ hB13.1 rfl) (k_1 hB13.1) hB13.2.2.1.2 ?_
              refine z_iload_n Q_X6_readRule (k := 47) rfl rfl ?_
              refine z_iload_n Q_X6_readRule (k := 48) rfl rfl ?_
              refine q_callV2_uV Q_X6_readRule (k := 49) rfl rfl K_X3_addRule V_X3_addRule L_X6_53 hB13.2.2.1.1.1.2.1 hB13.2.2.1.1.1.2.2.1 (Nat.le_of_ble_eq_true rfl) (Nat.le_of_ble_eq_true rfl) rfl (Nat.zero_le _) (Nat.zero_le _) (w_X3_addRule (d + 124) hB13 hB13.2.2.1.1 (hB.2.1 _ _) (hB12.2.1 _ _) h) (fun V14 hB14 h => ?_)
              refine z_aload_n Q_X6_readRule (k := 50) rfl rfl ?_
              refine y_bipush Q_X6_readRule (k := 51) rfl (by decide) ?_
              refine q_callV1_z Q_X6_readRule (k := 52) rfl rfl K_X6_isWord V_X6_isWord L_X6_101 (n_ hB14.1 rfl) (k_1 hB14.1) (Nat.le_of_ble_eq_true rfl) (Nat.le_of_ble_eq_true rfl) rfl (Nat.zero_le _) (Nat.zero_le _) (w_X6_isWord (d + 124) hB14 ⟨by decide, by decide⟩ h) (fun r15 hz15 hb15 h => ?_)
              refine y_if_eq 114 Q_X6_readRule (k := 53) rfl (by decide) hz15 (fun c => ?_) (fun c => ?_)
              · replace h := h.1 c
                refine z_aload_n Q_X6_readRule (k := 61) rfl rfl ?_
                refine y_bipush Q_X6_readRule (k := 62) rfl (by decide) ?_
                refine q_callV1_zV Q_X6_readRule (k := 63) rfl rfl K_X6_readSign V_X6_readSign L_X6_60 (n_ hB14.1 rfl) (k_1 hB14.1) (Nat.le_of_ble_eq_true rfl) (Nat.le_of_ble_eq_true rfl) rfl (Nat.zero_le _) (Nat.zero_le _) (w_X6_readSign (d + 123) hB14 ⟨by decide, by decide⟩ h) (fun r16 V16 hB16 hz16 hb16 h => ?_)
                exact y_zret Q_X6_readRule (k := 64) rfl rfl hb16 (qI_zV hB16 hz16 hb16 h)
              · replace h := h.2 c
                refine z_aload_n Q_X6_readRule (k := 54) rfl rfl ?_
                refine q_callV0_uV Q_X6_readRule (k := 55) rfl rfl K_X6_goOn V_X6_goOn L_X6_89 (n_ hB14.1 rfl) (k_1 hB14.1) (Nat.le_of_ble_eq_true rfl) (Nat.le_of_ble_eq_true rfl) rfl (Nat.zero_le _) (Nat.zero_le _) (w_X6_goOn (d + 124) hB14  h) (fun V17 hB17 h => ?_)
                refine z_aload_n Q_X6_readRule (k := 56) rfl rfl ?_
                refine q_callV0_zV Q_X6_readRule (k := 57) rfl rfl K_X6_readOr V_X6_readOr L_X6_57 (n_ hB17.1 rfl) (k_1 hB17.1) (Nat.le_of_ble_eq_true rfl) (Nat.le_of_ble_eq_true rfl) rfl (Nat.zero_le _) (Nat.zero_le _) (w_X6_readOr d hB17  h) (fun r18 V18 hB18 hz18 hb18 h => ?_)
                refine y_if_ne 114 Q_X6_readRule (k := 58) rfl (by decide) hz18 (fun c => ?_) (fun c => ?_)
                · replace h := h.2 c
                  refine z_aload_n Q_X6_readRule (k := 61) rfl rfl ?_
                  refine y_bipush Q_X6_readRule (k := 62) rfl (by decide) ?_
                  refine q_callV1_zV Q_X6_readRule (k := 63) rfl rfl K_X6_readSign V_X6_readSign L_X6_60 (n_ hB18.1 rfl) (k_1 hB18.1) (Nat.le_of_ble_eq_true rfl) (Nat.le_of_ble_eq_true rfl) rfl (Nat.zero_le _) (Nat.zero_le _) (w_X6_readSign (d + 123) hB18 ⟨by decide, by decide⟩ h) (fun r19 V19 hB19 hz19 hb19 h => ?_)
                  exact y_zret Q_X6_readRule (k := 64) rfl rfl hb19 (qI_zV hB19 hz19 hb19 h)
                · replace h := h.1 c
                  refine y_iconst Q_X6_readRule (k := 59) rfl ?_
                  exact y_zret Q_X6_readRule (k := 60) rfl rfl (Or.inl rfl) (qI_zV hB18 ⟨by decide, by decide⟩ (Or.inl rfl) h)
            · replace h := h.1 c
              refine y_iconst Q_X6_readRule (k := 38) rfl ?_
              exact y_zret Q_X6_readRule (k := 39) rfl rfl (Or.inl rfl) (qI_zV hB12 ⟨by decide, by decide⟩ (Or.inl rfl) h)
        · replace h := h.2 c
          refine z_aload_n Q_X6_readRule (k := 21) rfl rfl ?_
          refine y_iconst Q_X6_readRule (k := 22) rfl ?_
          refine q_callV1_zV Q_X6_readRule (k := 23) rfl rfl K_X6_refuse V_X6_refuse L_X6_64 (n_ hB.1 rfl) (k_1 hB.1) (Nat.le_of_ble_eq_true rfl) (Nat.le_of_ble_eq_true rfl) rfl (Nat.zero_le _) (Nat.zero_le _) (w_X6_refuse (d + 124) hB ⟨by decide, by decide⟩ h) (fun r20 V20 hB20 hz20 hb20 h => ?_)
          exact y_zret Q_X6_readRule (k := 24) rfl rfl hb20 (qI_zV hB20 hz20 hb20 h)
      · replace h := h.2 c
        refine z_aload_n Q_X6_readRule (k := 12) rfl rfl ?_
        refine y_iconst Q_X6_readRule (k := 13) rfl ?_
        refine q_callV1_zV Q_X6_readRule (k := 14) rfl rfl K_X6_refuse V_X6_refuse L_X6_64 (n_ hB.1 rfl) (k_1 hB.1) (Nat.le_of_ble_eq_true rfl) (Nat.le_of_ble_eq_true rfl) rfl (Nat.zero_le _) (Nat.zero_le _) (w_X6_refuse (d + 124) hB ⟨by decide, by decide⟩ h) (fun r21 V21 hB21 hz21 hb21 h => ?_)
        exact y_zret Q_X6_readRule (k := 15) rfl rfl hb21 (qI_zV hB21 hz21 hb21 h)
set_option maxHeartbeats 4000000 in
set_option maxRecDepth 20000 in
theorem v_X6_readLaw_8 {S S0 : zS} {J : qJ} {K : Int → qV → Prop} {Q : Int → qV → Prop} {kc ks : Nat} (d : Nat) (hn : S.2.2 = S0.2.2) (hK : ∀ (l3 : Int) (V : qV), qB S V → zr l3 → K l3 V → Z M_X6_readLaw (d + 126) kc ks 36 [some (.ref 1), none, none, some (.int (iI l3))] [] S (qi V) (qj J) (qP_zSV S0 J Q)) : ∀ (f : Nat) (l3 : Int) (V : qV), qB S V → zr l3 → lp_X6_readLaw_8 K Q f l3 V → Z M_X6_readLaw (d + 126) kc ks 8 [some (.ref 1), none, none, some (.int (iI l3))] [] S (qi V) (qj J) (qP_zSV S0 J Q) := by
  intro f
  induction f with
  | zero =>
    intro l3 V hB z3 h
    exact h.elim
  | succ f ih =>
    intro l3 V hB z3 h
    rw [lp_X6_readLaw_8] at h
    refine z_iload_n Q_X6_readLaw (k := 6) rfl rfl ?_
    refine y_bipush Q_X6_readLaw (k := 7) rfl (by decide) ?_
    refine y_icmp_gt 36 Q_X6_readLaw (k := 8) rfl (by decide) z3 ⟨by decide, by decide⟩ (fun c => ?_) (fun c => ?_)
    · replace h := h.1 c
      exact y_fg (zsb_c rfl (zsb_n (zsb_n (zsb_c rfl zsb_e)))) (hK l3 V hB z3 h)
    · replace h := h.2 c
      refine z_aload_n Q_X6_readLaw (k := 9) rfl rfl ?_
      refine q_getI (o := 1) (z := 8) Q_X6_readLaw (k := 10) rfl F_X6_46 rfl rfl rfl (n_ hB.1 rfl) (k_1 hB.1) ?_
      refine y_if_eq 36 Q_X6_readLaw (k := 11) rfl (by decide) (hB.2.1 _ _) (fun c => ?_) (fun c => ?_)
      · replace h := h.1 c
        exact y_fg (zsb_c rfl (zsb_n (zsb_n (zsb_c rfl zsb_e)))) (hK l3 V hB z3 h)
      · replace h := h.2 c
        refine z_aload_n Q_X6_readLaw (k := 12) rfl rfl ?_
        refine q_callV0_zV Q_X6_readLaw (k := 13) rfl rfl K_X6_readRule V_X6_readRule L_X6_49 (n_ hB.1 rfl) (k_1 hB.1) (Nat.le_of_ble_eq_true rfl) (Nat.le_of_ble_eq_true rfl) rfl (Nat.zero_le _) (Nat.zero_le _) (w_X6_readRule d hB  h) (fun r2 V2 hB2 hz2 hb2 h => ?_)
        refine y_if_ne 30 Q_X6_readLaw (k := 14) rfl (by decide) hz2 (fun c => ?_) (fun c => ?_)
        · replace h := h.2 c
          obtain ⟨q3, h⟩ := h
          refine y_iinc (L' := [some (.ref 1), none, none, some (.int (iI (l3 + 1)))]) Q_X6_readLaw (k := 17) rfl (by decide) rfl rfl ?_
          refine z_goto (tgt := 8) Q_X6_readLaw (k := 18) rfl (by decide) ?_
          exact y_fg (zsb_c rfl (zsb_n (zsb_n (zsb_c rfl zsb_e)))) (ih (l3 + 1) V2 hB2 q3 h)
        · replace h := h.1 c
          refine y_iconst Q_X6_readLaw (k := 15) rfl ?_
          exact y_zret Q_X6_readLaw (k := 16) rfl rfl (Or.inl rfl) (qI_zSV hB2 hn ⟨by decide, by decide⟩ (Or.inl rfl) h)
set_option maxHeartbeats 4000000 in
set_option maxRecDepth 20000 in
theorem w_X6_readLaw {S : zS} {V : qV} {J : qJ} {Q : Int → qV → Prop} (d : Nat) (hB : qB S V) {a1 : Int} (z1 : zr a1) {a2 : Int} (p2 : qLa S a2) (h : W_X6_readLaw a1 a2 V Q) : Z M_X6_readLaw (d + 126) 0 0 0 [some (.ref 1), some (.int (iI a1)), some (.ref a2.toNat), none] [] S (qi V) (qj J) (qP_zSV S J Q) := by
  unfold W_X6_readLaw at h
  refine z_aload_n Q_X6_readLaw (k := 0) rfl rfl ?_
  refine z_iload_n Q_X6_readLaw (k := 1) rfl rfl ?_
  refine z_aload_n Q_X6_readLaw (k := 2) rfl rfl ?_
  refine q_callV2_uSV Q_X6_readLaw (k := 3) rfl rfl K_X6_start V_X6_start L_X6_42 (n_ hB.1 rfl) (k_1 hB.1) (Nat.le_of_ble_eq_true rfl) (Nat.le_of_ble_eq_true rfl) rfl (Nat.zero_le _) (Nat.zero_le _) (w_X6_start (d + 118) hB z1 p2 h) (fun S1 V1 hB1 hn1 h => ?_)
  refine y_iconst Q_X6_readLaw (k := 4) rfl ?_
  refine y_istore_n (L' := [some (.ref 1), some (.int (iI a1)), some (.ref a2.toNat), some (.int (iI 0))]) Q_X6_readLaw (k := 5) rfl (by decide) rfl ?_
  refine y_fg (zsb_c rfl (zsb_n (zsb_n (zsb_c rfl zsb_e)))) (v_X6_readLaw_8 d (hn1.trans rfl) (fun l3x4 V4 hB4 zl3x4 h => ?_) 100000 0 V1 hB1 ⟨by decide, by decide⟩ h)
  refine y_iconst Q_X6_readLaw (k := 19) rfl ?_
  exact y_zret Q_X6_readLaw (k := 20) rfl rfl (Or.inr rfl) (qI_zSV hB4 (hn1.trans rfl) ⟨by decide, by decide⟩ (Or.inr rfl) h)
set_option maxHeartbeats 4000000 in
set_option maxRecDepth 20000 in
theorem w_X6_readCondition {S : zS} {V : qV} {J : qJ} {Q : Int → qV → Prop} (d : Nat) (hB : qB S V) {a1 : Int} (z1 : zr a1) (h : W_X6_readCondition a1 V Q) : Z M_X6_readCondition (d + 125) 0 0 0 [some (.ref 1), some (.int (iI a1))] [] S (qi V) (qj J) (qP_zSV S J Q) := by
  unfold W_X6_readCondition at h
  refine z_aload_n Q_X6_readCondition (k := 0) rfl rfl ?_
  refine z_iload_n Q_X6_readCondition (k := 1) rfl rfl ?_
  refine z_aload_n Q_X6_readCondition (k := 2) rfl rfl ?_
  refine z_getR (b := 6) Q_X6_readCondition (k := 3) rfl F_X6_32 rfl (n_ hB.1 rfl) (k_1 hB.1) (r_1_13 hB.1) ?_
  refine q_callV2_uSV Q_X6_readCondition (k := 4) rfl rfl K_X6_start V_X6_start L_X6_42 (n_ hB.1 rfl) (k_1 hB.1) (Nat.le_of_ble_eq_true rfl) (Nat.le_of_ble_eq_true rfl) rfl (Nat.zero_le _) (Nat.zero_le _) (w_X6_start (d + 117) hB z1 (qLa_6 hB.1) h) (fun S1 V1 hB1 hn1 h => ?_)
  refine z_aload_n Q_X6_readCondition (k := 5) rfl rfl ?_
  refine z_getR (b := (V1 1 14).toNat) Q_X6_readCondition (k := 6) rfl F_X6_36 rfl (n_ hB1.1 rfl) (k_1 hB1.1) hB1.2.2.1.2 ?_
  refine y_iconst Q_X6_readCondition (k := 7) rfl ?_
  refine y_iconst Q_X6_readCondition (k := 8) rfl ?_
  refine q_callV2_uV Q_X6_readCondition (k := 9) rfl rfl K_X3_addRule V_X3_addRule L_X6_53 hB1.2.2.1.1.1.2.1 hB1.2.2.1.1.1.2.2.1 (Nat.le_of_ble_eq_true rfl) (Nat.le_of_ble_eq_true rfl) rfl (Nat.zero_le _) (Nat.zero_le _) (w_X3_addRule (d + 124) hB1 hB1.2.2.1.1 ⟨by decide, by decide⟩ ⟨by decide, by decide⟩ h) (fun V2 hB2 h => ?_)
  refine z_aload_n Q_X6_readCondition (k := 10) rfl rfl ?_
  refine q_callV0_zV Q_X6_readCondition (k := 11) rfl rfl K_X6_readOr V_X6_readOr L_X6_57 (n_ hB2.1 rfl) (k_1 hB2.1) (Nat.le_of_ble_eq_true rfl) (Nat.le_of_ble_eq_true rfl) rfl (Nat.zero_le _) (Nat.zero_le _) (w_X6_readOr d hB2  h) (fun r3 V3 hB3 hz3 hb3 h => ?_)
  refine y_if_eq 34 Q_X6_readCondition (k := 12) rfl (by decide) hz3 (fun c => ?_) (fun c => ?_)
  · replace h := h.1 c
    refine y_iconst Q_X6_readCondition (k := 17) rfl ?_
    exact y_zret Q_X6_readCondition (k := 18) rfl rfl (Or.inl rfl) (qI_zSV hB3 (hn1.trans rfl) ⟨by decide, by decide⟩ (Or.inl rfl) h)
  · replace h := h.2 c
    refine z_aload_n Q_X6_readCondition (k := 13) rfl rfl ?_
    refine y_bipush Q_X6_readCondition (k := 14) rfl (by decide) ?_
    refine q_callV1_zV Q_X6_readCondition (k := 15) rfl rfl K_X6_readSign V_X6_readSign L_X6_60 (n_ hB3.1 rfl) (k_1 hB3.1) (Nat.le_of_ble_eq_true rfl) (Nat.le_of_ble_eq_true rfl) rfl (Nat.zero_le _) (Nat.zero_le _) (w_X6_readSign (d + 123) hB3 ⟨by decide, by decide⟩ h) (fun r4 V4 hB4 hz4 hb4 h => ?_)
    refine y_if_ne 36 Q_X6_readCondition (k := 16) rfl (by decide) hz4 (fun c => ?_) (fun c => ?_)
    · replace h := h.2 c
      refine z_aload_n Q_X6_readCondition (k := 19) rfl rfl ?_
      refine q_getI (o := 1) (z := 8) Q_X6_readCondition (k := 20) rfl F_X6_46 rfl rfl rfl (n_ hB4.1 rfl) (k_1 hB4.1) ?_
      refine y_if_eq 51 Q_X6_readCondition (k := 21) rfl (by decide) (hB4.2.1 _ _) (fun c => ?_) (fun c => ?_)
      · replace h := h.1 c
        refine y_iconst Q_X6_readCondition (k := 26) rfl ?_
        refine z_goto (tgt := 56) Q_X6_readCondition (k := 27) rfl (by decide) ?_
        exact y_zret Q_X6_readCondition (k := 29) rfl rfl (Or.inr rfl) (qI_zSV hB4 (hn1.trans rfl) ⟨by decide, by decide⟩ (Or.inr rfl) h)
      · replace h := h.2 c
        refine z_aload_n Q_X6_readCondition (k := 22) rfl rfl ?_
        refine y_iconst Q_X6_readCondition (k := 23) rfl ?_
        refine q_callV1_zV Q_X6_readCondition (k := 24) rfl rfl K_X6_refuse V_X6_refuse L_X6_64 (n_ hB4.1 rfl) (k_1 hB4.1) (Nat.le_of_ble_eq_true rfl) (Nat.le_of_ble_eq_true rfl) rfl (Nat.zero_le _) (Nat.zero_le _) (w_X6_refuse (d + 124) hB4 ⟨by decide, by decide⟩ h) (fun r5 V5 hB5 hz5 hb5 h => ?_)
        refine y_if_eq 55 Q_X6_readCondition (k := 25) rfl (by decide) hz5 (fun c => ?_) (fun c => ?_)
        · replace h := h.1 c
          refine y_iconst Q_X6_readCondition (k := 28) rfl ?_
          exact y_zret Q_X6_readCondition (k := 29) rfl rfl (Or.inl rfl) (qI_zSV hB5 (hn1.trans rfl) ⟨by decide, by decide⟩ (Or.inl rfl) h)
        · replace h := h.2 c
          refine y_iconst Q_X6_readCondition (k := 26) rfl ?_
          refine z_goto (tgt := 56) Q_X6_readCondition (k := 27) rfl (by decide) ?_
          exact y_zret Q_X6_readCondition (k := 29) rfl rfl (Or.inr rfl) (qI_zSV hB5 (hn1.trans rfl) ⟨by decide, by decide⟩ (Or.inr rfl) h)
    · replace h := h.1 c
      refine y_iconst Q_X6_readCondition (k := 17) rfl ?_
      exact y_zret Q_X6_readCondition (k := 18) rfl rfl (Or.inl rfl) (qI_zSV hB4 (hn1.trans rfl) ⟨by decide, by decide⟩ (Or.inl rfl) h)
set_option maxHeartbeats 4000000 in
set_option maxRecDepth 20000 in
theorem w_X10_hasWorld {S : zS} {V : qV} {J : qJ} {Q : Int → Prop} (d : Nat) (hB : qB S V) {a0 : Int} (p0 : qLs a0) {a1 : Int} (z1 : zr a1) {a2 : Int} (z2 : zr a2) (h : W_X10_hasWorld a0 a1 a2 V J Q) : Z M_X10_hasWorld d 0 0 0 [some (.ref a0.toNat), some (.int (iI a1)), some (.int (iI a2)), none] [] S (qi V) (qj J) (qP_z S V J Q) := by
  unfold W_X10_hasWorld at h
  refine z_iload_n Q_X10_hasWorld (k := 0) rfl rfl ?_
  refine y_bipush Q_X10_hasWorld (k := 1) rfl (by decide) ?_
  obtain ⟨q1, h⟩ := h
  refine y_imul Q_X10_hasWorld (k := 2) rfl ?_
  refine z_iload_n Q_X10_hasWorld (k := 3) rfl rfl ?_
  refine y_bipush Q_X10_hasWorld (k := 4) rfl (by decide) ?_
  refine y_ishr Q_X10_hasWorld (k := 5) rfl ?_
  obtain ⟨q2, h⟩ := h
  refine y_iadd Q_X10_hasWorld (k := 6) rfl ?_
  refine y_istore_n (L' := [some (.ref a0.toNat), some (.int (iI a1)), some (.int (iI a2)), some (.int (iI ((a1 * 16) + (zshr a2 6))))]) Q_X10_hasWorld (k := 7) rfl (by decide) rfl ?_
  refine z_iload_n Q_X10_hasWorld (k := 8) rfl rfl ?_
  refine y_if_lt 39 Q_X10_hasWorld (k := 9) rfl (by decide) q2 (fun c => ?_) (fun c => ?_)
  · replace h := h.1 c
    refine y_iconst Q_X10_hasWorld (k := 28) rfl ?_
    exact y_zret Q_X10_hasWorld (k := 29) rfl rfl (Or.inl rfl) (qI_z ⟨by decide, by decide⟩ (Or.inl rfl) h)
  · replace h := h.2 c
    refine z_iload_n Q_X10_hasWorld (k := 10) rfl rfl ?_
    refine z_aload_n Q_X10_hasWorld (k := 11) rfl rfl ?_
    refine q_alen (t := 1) Q_X10_hasWorld (k := 12) rfl (qLs_ hB.1 p0).1.2.1 (qLs_ hB.1 p0).1.2.2.1 rfl (qLs_ hB.1 p0).2.1 ?_
    refine y_icmp_ge 39 Q_X10_hasWorld (k := 13) rfl (by decide) q2 (qLn_r _) (fun c => ?_) (fun c => ?_)
    · replace h := h.1 c
      refine y_iconst Q_X10_hasWorld (k := 28) rfl ?_
      exact y_zret Q_X10_hasWorld (k := 29) rfl rfl (Or.inl rfl) (qI_z ⟨by decide, by decide⟩ (Or.inl rfl) h)
    · replace h := h.2 c
      refine z_aload_n Q_X10_hasWorld (k := 14) rfl rfl ?_
      refine z_iload_n Q_X10_hasWorld (k := 15) rfl rfl ?_
      obtain ⟨q3, h⟩ := h
      refine q_lald (o := a0) Q_X10_hasWorld (k := 16) rfl (Int.toNat_of_nonneg (qLs_ hB.1 p0).1.1) (qLs_ hB.1 p0).1.2.1 (qLs_ hB.1 p0).1.2.2.1 (qLs_ hB.1 p0).2.1 q3 (qLs_ hB.1 p0).2.2 ?_
      refine z_iload_n Q_X10_hasWorld (k := 17) rfl rfl ?_
      refine y_bipush Q_X10_hasWorld (k := 18) rfl (by decide) ?_
      refine y_iand Q_X10_hasWorld (k := 19) rfl ?_
      refine z_lshr Q_X10_hasWorld (k := 20) rfl ?_
      refine z_lconst_ Q_X10_hasWorld (k := 21) rfl (v := 1) rfl ?_
      refine z_land Q_X10_hasWorld (k := 22) rfl ?_
      refine z_lconst_ Q_X10_hasWorld (k := 23) rfl (v := 1) rfl ?_
      refine y_lcmp Q_X10_hasWorld (k := 24) rfl ?_
      refine y_if_ne 39 Q_X10_hasWorld (k := 25) rfl (by decide) (zlc_r _ _) (fun c => ?_) (fun c => ?_)
      · replace h := h.2 c
        refine y_iconst Q_X10_hasWorld (k := 28) rfl ?_
        exact y_zret Q_X10_hasWorld (k := 29) rfl rfl (Or.inl rfl) (qI_z ⟨by decide, by decide⟩ (Or.inl rfl) h)
      · replace h := h.1 c
        refine y_iconst Q_X10_hasWorld (k := 26) rfl ?_
        refine z_goto (tgt := 40) Q_X10_hasWorld (k := 27) rfl (by decide) ?_
        exact y_zret Q_X10_hasWorld (k := 29) rfl rfl (Or.inr rfl) (qI_z ⟨by decide, by decide⟩ (Or.inr rfl) h)
set_option maxHeartbeats 4000000 in
set_option maxRecDepth 20000 in
theorem v_X9_whoIn_2 {S : zS} {V : qV} {J : qJ} {K : Int → Prop} {Q : Int → Prop} {kc ks : Nat} (d : Nat) (hB : qB S V) {l0 : Int} (o0_ : qVe S l0) {l1 : Int} (z1 : zr l1) (hK : ∀ (l2 : Int), zr l2 → K l2 → Z M_X9_whoIn (d + 1) kc ks 27 [some (.ref l0.toNat), some (.int (iI l1)), some (.int (iI l2))] [] S (qi V) (qj J) (qP_i S V J Q)) : ∀ (f : Nat) (l2 : Int), zr l2 → lp_X9_whoIn_2 l0 l1 V J K Q f l2 → Z M_X9_whoIn (d + 1) kc ks 2 [some (.ref l0.toNat), some (.int (iI l1)), some (.int (iI l2))] [] S (qi V) (qj J) (qP_i S V J Q) := by
  intro f
  induction f with
  | zero =>
    intro l2 z2 h
    exact h.elim
  | succ f ih =>
    intro l2 z2 h
    rw [lp_X9_whoIn_2] at h
    refine z_iload_n Q_X9_whoIn (k := 2) rfl rfl ?_
    refine y_iconst Q_X9_whoIn (k := 3) rfl ?_
    refine y_icmp_ge 27 Q_X9_whoIn (k := 4) rfl (by decide) z2 ⟨by decide, by decide⟩ (fun c => ?_) (fun c => ?_)
    · replace h := h.1 c
      exact y_fg (zsb_c rfl (zsb_c rfl (zsb_c rfl zsb_e))) (hK l2 z2 h)
    · replace h := h.2 c
      refine z_aload_n Q_X9_whoIn (k := 5) rfl rfl ?_
      refine z_getR (b := (l0 + 1).toNat) Q_X9_whoIn (k := 6) rfl F_X9_9 rfl o0_.1.2.1 o0_.1.2.2.1 o0_.2.1 ?_
      refine z_iload_n Q_X9_whoIn (k := 7) rfl rfl ?_
      refine z_iload_n Q_X9_whoIn (k := 8) rfl rfl ?_
      refine q_callSN3_z Q_X9_whoIn (k := 9) rfl rfl K_X10_hasWorld S_X10_hasWorld L_X9_22 (Nat.le_of_ble_eq_true rfl) (Nat.le_of_ble_eq_true rfl) rfl (Nat.zero_le _) (Nat.zero_le _) (w_X10_hasWorld d hB (qLs_v o0_) z2 z1 h) (fun r1 hz1 hb1 h => ?_)
      refine y_if_eq 21 Q_X9_whoIn (k := 10) rfl (by decide) hz1 (fun c => ?_) (fun c => ?_)
      · replace h := h.1 c
        obtain ⟨q2, h⟩ := h
        refine y_iinc (L' := [some (.ref l0.toNat), some (.int (iI l1)), some (.int (iI (l2 + 1)))]) Q_X9_whoIn (k := 13) rfl (by decide) rfl rfl ?_
        refine z_goto (tgt := 2) Q_X9_whoIn (k := 14) rfl (by decide) ?_
        exact y_fg (zsb_c rfl (zsb_c rfl (zsb_c rfl zsb_e))) (ih (l2 + 1) q2 h)
      · replace h := h.2 c
        refine z_iload_n Q_X9_whoIn (k := 11) rfl rfl ?_
        exact y_iret Q_X9_whoIn (k := 12) rfl rfl (qI_i z2 h)
set_option maxHeartbeats 4000000 in
set_option maxRecDepth 20000 in
theorem w_X9_whoIn {S : zS} {V : qV} {J : qJ} {Q : Int → Prop} (d : Nat) (hB : qB S V) {a0 : Int} (p0 : qVe S a0) {a1 : Int} (z1 : zr a1) (h : W_X9_whoIn a0 a1 V J Q) : Z M_X9_whoIn (d + 1) 0 0 0 [some (.ref a0.toNat), some (.int (iI a1)), none] [] S (qi V) (qj J) (qP_i S V J Q) := by
  unfold W_X9_whoIn at h
  refine y_iconst Q_X9_whoIn (k := 0) rfl ?_
  refine y_istore_n (L' := [some (.ref a0.toNat), some (.int (iI a1)), some (.int (iI 0))]) Q_X9_whoIn (k := 1) rfl (by decide) rfl ?_
  refine y_fg (zsb_c rfl (zsb_c rfl (zsb_c rfl zsb_e))) (v_X9_whoIn_2 d hB p0 z1 (fun l2x3 zl2x3 h => ?_) 100000 0 ⟨by decide, by decide⟩ h)
  refine y_iconst Q_X9_whoIn (k := 15) rfl ?_
  exact y_iret Q_X9_whoIn (k := 16) rfl rfl (qI_i ⟨by decide, by decide⟩ h)
set_option maxHeartbeats 4000000 in
set_option maxRecDepth 20000 in
theorem v_X7_differs_2 {S : zS} {V : qV} {J : qJ} {K : Int → Prop} {Q : Int → Prop} {kc ks : Nat} (d : Nat) (hB : qB S V) {l1 : Int} (z1 : zr l1) {l2 : Int} (z2 : zr l2) (hK : ∀ (l3 : Int), zr l3 → K l3 → Z M_X7_differs d kc ks 75 [some (.ref 159), some (.int (iI l1)), some (.int (iI l2)), some (.int (iI l3)), none] [] S (qi V) (qj J) (qP_z S V J Q)) : ∀ (f : Nat) (l3 : Int), zr l3 → lp_X7_differs_2 l1 l2 V K Q f l3 → Z M_X7_differs d kc ks 2 [some (.ref 159), some (.int (iI l1)), some (.int (iI l2)), some (.int (iI l3)), none] [] S (qi V) (qj J) (qP_z S V J Q) := by
  intro f
  induction f with
  | zero =>
    intro l3 z3 h
    exact h.elim
  | succ f ih =>
    intro l3 z3 h
    rw [lp_X7_differs_2] at h
    refine z_iload_n Q_X7_differs (k := 2) rfl rfl ?_
    refine y_sipush Q_X7_differs (k := 3) rfl (by decide) ?_
    refine y_icmp_ge 75 Q_X7_differs (k := 4) rfl (by decide) z3 ⟨by decide, by decide⟩ (fun c => ?_) (fun c => ?_)
    · replace h := h.1 c
      exact y_fg (zsb_c rfl (zsb_c rfl (zsb_c rfl (zsb_c rfl (zsb_n zsb_e))))) (hK l3 z3 h)
    · replace h := h.2 c
      refine z_iload_n Q_X7_differs (k := 5) rfl rfl ?_
      refine z_iload_n Q_X7_differs (k := 6) rfl rfl ?_
      refine y_ior Q_X7_differs (k := 7) rfl ?_
      refine y_istore (L' := [some (.ref 159), some (.int (iI l1)), some (.int (iI l2)), some (.int (iI l3)), some (.int (iI (zor l3 l1)))]) Q_X7_differs (k := 8) rfl (by decide) rfl ?_
      refine z_iload Q_X7_differs (k := 9) rfl rfl ?_
      refine z_iload_n Q_X7_differs (k := 10) rfl rfl ?_
      refine y_icmp_eq 69 Q_X7_differs (k := 11) rfl (by decide) (zor_r _ _) z3 (fun c => ?_) (fun c => ?_)
      · replace h := h.1 c
        obtain ⟨q1, h⟩ := h
        refine y_iinc (L' := [some (.ref 159), some (.int (iI l1)), some (.int (iI l2)), some (.int (iI (l3 + 1))), some (.int (iI (zor l3 l1)))]) Q_X7_differs (k := 38) rfl (by decide) rfl rfl ?_
        refine z_goto (tgt := 2) Q_X7_differs (k := 39) rfl (by decide) ?_
        exact y_fg (zsb_c rfl (zsb_c rfl (zsb_c rfl (zsb_c rfl (zsb_n zsb_e))))) (ih (l3 + 1) q1 h)
      · replace h := h.2 c
        refine z_iload Q_X7_differs (k := 12) rfl rfl ?_
        refine y_sipush Q_X7_differs (k := 13) rfl (by decide) ?_
        refine y_icmp_ge 69 Q_X7_differs (k := 14) rfl (by decide) (zor_r _ _) ⟨by decide, by decide⟩ (fun c => ?_) (fun c => ?_)
        · replace h := h.1 c
          obtain ⟨q2, h⟩ := h
          refine y_iinc (L' := [some (.ref 159), some (.int (iI l1)), some (.int (iI l2)), some (.int (iI (l3 + 1))), some (.int (iI (zor l3 l1)))]) Q_X7_differs (k := 38) rfl (by decide) rfl rfl ?_
          refine z_goto (tgt := 2) Q_X7_differs (k := 39) rfl (by decide) ?_
          exact y_fg (zsb_c rfl (zsb_c rfl (zsb_c rfl (zsb_c rfl (zsb_n zsb_e))))) (ih (l3 + 1) q2 h)
        · replace h := h.2 c
          refine z_aload_n Q_X7_differs (k := 15) rfl rfl ?_
          refine z_getR (b := 160) Q_X7_differs (k := 16) rfl F_X7_9 rfl (n_ hB.1 rfl) (k_159 hB.1) (r_159_0 hB.1) ?_
          refine z_iload_n Q_X7_differs (k := 17) rfl rfl ?_
          obtain ⟨q3, h⟩ := h
          refine q_bald (o := 160) (N := 1024) Q_X7_differs (k := 18) rfl rfl (n_ hB.1 rfl) (k_160 hB.1) rfl q3 (by decide) ?_
          refine z_aload_n Q_X7_differs (k := 19) rfl rfl ?_
          refine z_getR (b := 160) Q_X7_differs (k := 20) rfl F_X7_9 rfl (n_ hB.1 rfl) (k_159 hB.1) (r_159_0 hB.1) ?_
          refine z_iload Q_X7_differs (k := 21) rfl rfl ?_
          obtain ⟨q4, h⟩ := h
          refine q_bald (o := 160) (N := 1024) Q_X7_differs (k := 22) rfl rfl (n_ hB.1 rfl) (k_160 hB.1) rfl q4 (by decide) ?_
          refine y_icmp_eq 69 Q_X7_differs (k := 23) rfl (by decide) (hB.2.1 _ _) (hB.2.1 _ _) (fun c => ?_) (fun c => ?_)
          · replace h := h.1 c
            obtain ⟨q5, h⟩ := h
            refine y_iinc (L' := [some (.ref 159), some (.int (iI l1)), some (.int (iI l2)), some (.int (iI (l3 + 1))), some (.int (iI (zor l3 l1)))]) Q_X7_differs (k := 38) rfl (by decide) rfl rfl ?_
            refine z_goto (tgt := 2) Q_X7_differs (k := 39) rfl (by decide) ?_
            exact y_fg (zsb_c rfl (zsb_c rfl (zsb_c rfl (zsb_c rfl (zsb_n zsb_e))))) (ih (l3 + 1) q5 h)
          · replace h := h.2 c
            refine z_iload_n Q_X7_differs (k := 24) rfl rfl ?_
            refine y_if_eq 67 Q_X7_differs (k := 25) rfl (by decide) z2 (fun c => ?_) (fun c => ?_)
            · replace h := h.1 c
              refine y_iconst Q_X7_differs (k := 36) rfl ?_
              exact y_zret Q_X7_differs (k := 37) rfl rfl (Or.inr rfl) (qI_z ⟨by decide, by decide⟩ (Or.inr rfl) h)
            · replace h := h.2 c
              refine z_aload_n Q_X7_differs (k := 26) rfl rfl ?_
              refine z_getR (b := 160) Q_X7_differs (k := 27) rfl F_X7_9 rfl (n_ hB.1 rfl) (k_159 hB.1) (r_159_0 hB.1) ?_
              refine z_iload_n Q_X7_differs (k := 28) rfl rfl ?_
              obtain ⟨q6, h⟩ := h
              refine q_bald (o := 160) (N := 1024) Q_X7_differs (k := 29) rfl rfl (n_ hB.1 rfl) (k_160 hB.1) rfl q6 (by decide) ?_
              refine y_if_eq 69 Q_X7_differs (k := 30) rfl (by decide) (hB.2.1 _ _) (fun c => ?_) (fun c => ?_)
              · replace h := h.1 c
                obtain ⟨q7, h⟩ := h
                refine y_iinc (L' := [some (.ref 159), some (.int (iI l1)), some (.int (iI l2)), some (.int (iI (l3 + 1))), some (.int (iI (zor l3 l1)))]) Q_X7_differs (k := 38) rfl (by decide) rfl rfl ?_
                refine z_goto (tgt := 2) Q_X7_differs (k := 39) rfl (by decide) ?_
                exact y_fg (zsb_c rfl (zsb_c rfl (zsb_c rfl (zsb_c rfl (zsb_n zsb_e))))) (ih (l3 + 1) q7 h)
              · replace h := h.2 c
                refine z_aload_n Q_X7_differs (k := 31) rfl rfl ?_
                refine z_getR (b := 160) Q_X7_differs (k := 32) rfl F_X7_9 rfl (n_ hB.1 rfl) (k_159 hB.1) (r_159_0 hB.1) ?_
                refine z_iload Q_X7_differs (k := 33) rfl rfl ?_
                obtain ⟨q8, h⟩ := h
                refine q_bald (o := 160) (N := 1024) Q_X7_differs (k := 34) rfl rfl (n_ hB.1 rfl) (k_160 hB.1) rfl q8 (by decide) ?_
                refine y_if_eq 69 Q_X7_differs (k := 35) rfl (by decide) (hB.2.1 _ _) (fun c => ?_) (fun c => ?_)
                · replace h := h.1 c
                  obtain ⟨q9, h⟩ := h
                  refine y_iinc (L' := [some (.ref 159), some (.int (iI l1)), some (.int (iI l2)), some (.int (iI (l3 + 1))), some (.int (iI (zor l3 l1)))]) Q_X7_differs (k := 38) rfl (by decide) rfl rfl ?_
                  refine z_goto (tgt := 2) Q_X7_differs (k := 39) rfl (by decide) ?_
                  exact y_fg (zsb_c rfl (zsb_c rfl (zsb_c rfl (zsb_c rfl (zsb_n zsb_e))))) (ih (l3 + 1) q9 h)
                · replace h := h.2 c
                  refine y_iconst Q_X7_differs (k := 36) rfl ?_
                  exact y_zret Q_X7_differs (k := 37) rfl rfl (Or.inr rfl) (qI_z ⟨by decide, by decide⟩ (Or.inr rfl) h)
set_option maxHeartbeats 4000000 in
set_option maxRecDepth 20000 in
theorem w_X7_differs {S : zS} {V : qV} {J : qJ} {Q : Int → Prop} (d : Nat) (hB : qB S V) {a1 : Int} (z1 : zr a1) {a2 : Int} (z2 : zr a2) (b2 : a2 = 0 ∨ a2 = 1) (h : W_X7_differs a1 a2 V Q) : Z M_X7_differs d 0 0 0 [some (.ref 159), some (.int (iI a1)), some (.int (iI a2)), none, none] [] S (qi V) (qj J) (qP_z S V J Q) := by
  unfold W_X7_differs at h
  refine y_iconst Q_X7_differs (k := 0) rfl ?_
  refine y_istore_n (L' := [some (.ref 159), some (.int (iI a1)), some (.int (iI a2)), some (.int (iI 0)), none]) Q_X7_differs (k := 1) rfl (by decide) rfl ?_
  refine y_fg (zsb_c rfl (zsb_c rfl (zsb_c rfl (zsb_c rfl (zsb_n zsb_e))))) (v_X7_differs_2 d hB z1 z2 (fun l3x10 zl3x10 h => ?_) 100000 0 ⟨by decide, by decide⟩ h)
  refine y_iconst Q_X7_differs (k := 40) rfl ?_
  exact y_zret Q_X7_differs (k := 41) rfl rfl (Or.inl rfl) (qI_z ⟨by decide, by decide⟩ (Or.inl rfl) h)
set_option maxHeartbeats 4000000 in
set_option maxRecDepth 20000 in
theorem v_X7_seekTelling_7 {S : zS} {J : qJ} {K : Int → qV → Prop} {Q : qV → Prop} {kc ks : Nat} (d : Nat) (hK : ∀ (l1 : Int) (V : qV), qB S V → zr l1 → K l1 V → Z M_X7_seekTelling (d + 1) kc ks 71 [some (.ref 159), some (.int (iI l1))] [] S (qi V) (qj J) (qP_uV S J Q)) : ∀ (f : Nat) (l1 : Int) (V : qV), qB S V → zr l1 → lp_X7_seekTelling_7 K f l1 V → Z M_X7_seekTelling (d + 1) kc ks 7 [some (.ref 159), some (.int (iI l1))] [] S (qi V) (qj J) (qP_uV S J Q) := by
  intro f
  induction f with
  | zero =>
    intro l1 V hB z1 h
    exact h.elim
  | succ f ih =>
    intro l1 V hB z1 h
    rw [lp_X7_seekTelling_7] at h
    refine z_iload_n Q_X7_seekTelling (k := 5) rfl rfl ?_
    refine y_bipush Q_X7_seekTelling (k := 6) rfl (by decide) ?_
    refine y_icmp_ge 71 Q_X7_seekTelling (k := 7) rfl (by decide) z1 ⟨by decide, by decide⟩ (fun c => ?_) (fun c => ?_)
    · replace h := h.1 c
      exact y_fg (zsb_c rfl (zsb_c rfl zsb_e)) (hK l1 V hB z1 h)
    · replace h := h.2 c
      refine z_aload_n Q_X7_seekTelling (k := 8) rfl rfl ?_
      refine q_getI (o := 159) (z := 6) Q_X7_seekTelling (k := 9) rfl F_X7_51 rfl rfl rfl (n_ hB.1 rfl) (k_159 hB.1) ?_
      refine y_bipush Q_X7_seekTelling (k := 10) rfl (by decide) ?_
      refine y_icmp_ge 65 Q_X7_seekTelling (k := 11) rfl (by decide) (hB.2.1 _ _) ⟨by decide, by decide⟩ (fun c => ?_) (fun c => ?_)
      · replace h := h.1 c
        obtain ⟨q2, h⟩ := h
        refine y_iinc (L' := [some (.ref 159), some (.int (iI (l1 + 1)))]) Q_X7_seekTelling (k := 39) rfl (by decide) rfl rfl ?_
        refine z_goto (tgt := 7) Q_X7_seekTelling (k := 40) rfl (by decide) ?_
        exact y_fg (zsb_c rfl (zsb_c rfl zsb_e)) (ih (l1 + 1) V hB q2 h)
      · replace h := h.2 c
        refine z_aload_n Q_X7_seekTelling (k := 12) rfl rfl ?_
        refine q_getI (o := 159) (z := 3) Q_X7_seekTelling (k := 13) rfl F_X7_31 rfl rfl rfl (n_ hB.1 rfl) (k_159 hB.1) ?_
        refine z_iload_n Q_X7_seekTelling (k := 14) rfl rfl ?_
        refine y_ishr Q_X7_seekTelling (k := 15) rfl ?_
        refine y_iconst Q_X7_seekTelling (k := 16) rfl ?_
        refine y_iand Q_X7_seekTelling (k := 17) rfl ?_
        refine y_iconst Q_X7_seekTelling (k := 18) rfl ?_
        refine y_icmp_ne 65 Q_X7_seekTelling (k := 19) rfl (by decide) (zand_r _ _) ⟨by decide, by decide⟩ (fun c => ?_) (fun c => ?_)
        · replace h := h.2 c
          obtain ⟨q3, h⟩ := h
          refine y_iinc (L' := [some (.ref 159), some (.int (iI (l1 + 1)))]) Q_X7_seekTelling (k := 39) rfl (by decide) rfl rfl ?_
          refine z_goto (tgt := 7) Q_X7_seekTelling (k := 40) rfl (by decide) ?_
          exact y_fg (zsb_c rfl (zsb_c rfl zsb_e)) (ih (l1 + 1) V hB q3 h)
        · replace h := h.1 c
          refine z_aload_n Q_X7_seekTelling (k := 20) rfl rfl ?_
          refine y_iconst Q_X7_seekTelling (k := 21) rfl ?_
          refine z_iload_n Q_X7_seekTelling (k := 22) rfl rfl ?_
          refine y_ishl Q_X7_seekTelling (k := 23) rfl ?_
          refine y_iconst Q_X7_seekTelling (k := 24) rfl ?_
          refine q_callV2_z Q_X7_seekTelling (k := 25) rfl rfl K_X7_differs V_X7_differs L_X7_54 (n_ hB.1 rfl) (k_159 hB.1) (Nat.le_of_ble_eq_true rfl) (Nat.le_of_ble_eq_true rfl) rfl (Nat.zero_le _) (Nat.zero_le _) (w_X7_differs d hB (zshl_r _ _) ⟨by decide, by decide⟩ (Or.inl rfl) h) (fun r4 hz4 hb4 h => ?_)
          refine y_if_eq 65 Q_X7_seekTelling (k := 26) rfl (by decide) hz4 (fun c => ?_) (fun c => ?_)
          · replace h := h.1 c
            obtain ⟨q5, h⟩ := h
            refine y_iinc (L' := [some (.ref 159), some (.int (iI (l1 + 1)))]) Q_X7_seekTelling (k := 39) rfl (by decide) rfl rfl ?_
            refine z_goto (tgt := 7) Q_X7_seekTelling (k := 40) rfl (by decide) ?_
            exact y_fg (zsb_c rfl (zsb_c rfl zsb_e)) (ih (l1 + 1) V hB q5 h)
          · replace h := h.2 c
            refine z_aload_n Q_X7_seekTelling (k := 27) rfl rfl ?_
            refine z_getR (b := 162) Q_X7_seekTelling (k := 28) rfl F_X7_19 rfl (n_ hB.1 rfl) (k_159 hB.1) (r_159_5 hB.1) ?_
            refine z_aload_n Q_X7_seekTelling (k := 29) rfl rfl ?_
            refine q_getI (o := 159) (z := 6) Q_X7_seekTelling (k := 30) rfl F_X7_51 rfl rfl rfl (n_ hB.1 rfl) (k_159 hB.1) ?_
            refine z_iload_n Q_X7_seekTelling (k := 31) rfl rfl ?_
            obtain ⟨q6, h⟩ := h
            refine q_iast (o := 162) (N := 10) Q_X7_seekTelling (k := 32) rfl rfl (n_ hB.1 rfl) (k_162 hB.1) rfl q6 (by decide) ?_
            have hB7 := qB.u (a := 162) (j := V 159 6) (x := l1) hB z1 (Or.inl (by decide))
            refine z_aload_n Q_X7_seekTelling (k := 33) rfl rfl ?_
            refine z_dup Q_X7_seekTelling (k := 34) rfl rfl ?_
            refine q_getI (o := 159) (z := 6) Q_X7_seekTelling (k := 35) rfl F_X7_51 rfl rfl rfl (n_ hB7.1 rfl) (k_159 hB7.1) ?_
            refine y_iconst Q_X7_seekTelling (k := 36) rfl ?_
            obtain ⟨q8, h⟩ := h
            refine y_iadd Q_X7_seekTelling (k := 37) rfl ?_
            refine q_putI (o := 159) (z := 6) Q_X7_seekTelling (k := 38) rfl F_X7_51 rfl rfl rfl (n_ hB7.1 rfl) (k_159 hB7.1) ?_
            have hB9 := qB.u (a := 159) (j := 6) (x := ((qu V 162 (V 159 6) l1) 159 6) + 1) hB7 q8 (Or.inr (Or.inr ⟨rfl, by decide, by decide⟩))
            obtain ⟨q10, h⟩ := h
            refine y_iinc (L' := [some (.ref 159), some (.int (iI (l1 + 1)))]) Q_X7_seekTelling (k := 39) rfl (by decide) rfl rfl ?_
            refine z_goto (tgt := 7) Q_X7_seekTelling (k := 40) rfl (by decide) ?_
            exact y_fg (zsb_c rfl (zsb_c rfl zsb_e)) (ih (l1 + 1) (qu (qu V 162 (V 159 6) l1) 159 6 (((qu V 162 (V 159 6) l1) 159 6) + 1)) hB9 q10 h)
set_option maxHeartbeats 4000000 in
set_option maxRecDepth 20000 in
theorem w_X7_seekTelling {S : zS} {V : qV} {J : qJ} {Q : qV → Prop} (d : Nat) (hB : qB S V) (h : W_X7_seekTelling V Q) : Z M_X7_seekTelling (d + 1) 0 0 0 [some (.ref 159), none] [] S (qi V) (qj J) (qP_uV S J Q) := by
  unfold W_X7_seekTelling at h
  refine z_aload_n Q_X7_seekTelling (k := 0) rfl rfl ?_
  refine y_iconst Q_X7_seekTelling (k := 1) rfl ?_
  refine q_putI (o := 159) (z := 6) Q_X7_seekTelling (k := 2) rfl F_X7_51 rfl rfl rfl (n_ hB.1 rfl) (k_159 hB.1) ?_
  have hB1 := qB.u (a := 159) (j := 6) (x := 0) hB ⟨by decide, by decide⟩ (Or.inr (Or.inr ⟨rfl, by decide, by decide⟩))
  refine y_iconst Q_X7_seekTelling (k := 3) rfl ?_
  refine y_istore_n (L' := [some (.ref 159), some (.int (iI 0))]) Q_X7_seekTelling (k := 4) rfl (by decide) rfl ?_
  refine y_fg (zsb_c rfl (zsb_c rfl zsb_e)) (v_X7_seekTelling_7 d (fun l1x11 V11 hB11 zl1x11 h => ?_) 100000 0 (qu V 159 6 0) hB1 ⟨by decide, by decide⟩ h)
  exact z_vret Q_X7_seekTelling (k := 41) rfl rfl (qI_uV hB11 h)
set_option maxHeartbeats 4000000 in
set_option maxRecDepth 20000 in
theorem v_X7_pose_36 {S : zS} {J : qJ} {K : Int → Int → qV → Prop} {Q : qV → Prop} {kc ks : Nat} (d : Nat) (hK : ∀ (l4 : Int) (l5 : Int) (V : qV), qB S V → zr l4 → zr l5 → K l4 l5 V → Z M_X7_pose (d + 2) kc ks 92 [some (.ref 159), some (.ref 155), none, none, some (.int (iI l4)), some (.int (iI l5)), none] [] S (qi V) (qj J) (qP_uV S J Q)) : ∀ (f : Nat) (l4 : Int) (l5 : Int) (V : qV), qB S V → zr l4 → zr l5 → lp_X7_pose_36 J K f l4 l5 V → Z M_X7_pose (d + 2) kc ks 36 [some (.ref 159), some (.ref 155), none, none, some (.int (iI l4)), some (.int (iI l5)), none] [] S (qi V) (qj J) (qP_uV S J Q) := by
  intro f
  induction f with
  | zero =>
    intro l4 l5 V hB z4 z5 h
    exact h.elim
  | succ f ih =>
    intro l4 l5 V hB z4 z5 h
    rw [lp_X7_pose_36] at h
    refine z_iload Q_X7_pose (k := 20) rfl rfl ?_
    refine y_sipush Q_X7_pose (k := 21) rfl (by decide) ?_
    refine y_icmp_ge 92 Q_X7_pose (k := 22) rfl (by decide) z5 ⟨by decide, by decide⟩ (fun c => ?_) (fun c => ?_)
    · replace h := h.1 c
      exact y_fg (zsb_c rfl (zsb_c rfl (zsb_n (zsb_n (zsb_c rfl (zsb_c rfl (zsb_n zsb_e))))))) (hK l4 l5 V hB z4 z5 h)
    · replace h := h.2 c
      refine z_aload_n Q_X7_pose (k := 23) rfl rfl ?_
      refine z_iload Q_X7_pose (k := 24) rfl rfl ?_
      refine q_callV1_i Q_X7_pose (k := 25) rfl rfl K_X9_whoIn V_X9_whoIn L_X7_38 (n_ hB.1 rfl) (k_155 hB.1) (Nat.le_of_ble_eq_true rfl) (Nat.le_of_ble_eq_true rfl) rfl (Nat.zero_le _) (Nat.zero_le _) (w_X9_whoIn d hB (qVe_155 hB.1) z5 h) (fun r3 hz3 h => ?_)
      refine y_iconst Q_X7_pose (k := 26) rfl ?_
      obtain ⟨q4, h⟩ := h
      refine y_iadd Q_X7_pose (k := 27) rfl ?_
      refine y_i2b Q_X7_pose (k := 28) rfl q4 ?_
      refine y_istore (L' := [some (.ref 159), some (.ref 155), none, none, some (.int (iI l4)), some (.int (iI l5)), some (.int (iI ((r3 + 1).bmod 256)))]) Q_X7_pose (k := 29) rfl (by decide) rfl ?_
      refine z_iload Q_X7_pose (k := 30) rfl rfl ?_
      refine z_aload_n Q_X7_pose (k := 31) rfl rfl ?_
      refine z_getR (b := 160) Q_X7_pose (k := 32) rfl F_X7_9 rfl (n_ hB.1 rfl) (k_159 hB.1) (r_159_0 hB.1) ?_
      refine z_iload Q_X7_pose (k := 33) rfl rfl ?_
      obtain ⟨q5, h⟩ := h
      refine q_bald (o := 160) (N := 1024) Q_X7_pose (k := 34) rfl rfl (n_ hB.1 rfl) (k_160 hB.1) rfl q5 (by decide) ?_
      refine z_iload Q_X7_pose (k := 35) rfl rfl ?_
      refine y_icmp_eq 73 Q_X7_pose (k := 36) rfl (by decide) (hB.2.1 _ _) q_bm (fun c => ?_) (fun c => ?_)
      · replace h := h.1 c
        refine y_iconst Q_X7_pose (k := 39) rfl ?_
        refine y_ior Q_X7_pose (k := 40) rfl ?_
        refine y_istore (L' := [some (.ref 159), some (.ref 155), none, none, some (.int (iI (zor l4 0))), some (.int (iI l5)), some (.int (iI ((r3 + 1).bmod 256)))]) Q_X7_pose (k := 41) rfl (by decide) rfl ?_
        refine z_aload_n Q_X7_pose (k := 42) rfl rfl ?_
        refine z_getR (b := 160) Q_X7_pose (k := 43) rfl F_X7_9 rfl (n_ hB.1 rfl) (k_159 hB.1) (r_159_0 hB.1) ?_
        refine z_iload Q_X7_pose (k := 44) rfl rfl ?_
        refine z_iload Q_X7_pose (k := 45) rfl rfl ?_
        obtain ⟨q6, h⟩ := h
        refine q_bast (o := 160) (N := 1024) Q_X7_pose (k := 46) rfl rfl (n_ hB.1 rfl) (k_160 hB.1) rfl q6 (by decide) q_bm2 ?_
        have hB7 := qB.u (a := 160) (j := l5) (x := (r3 + 1).bmod 256) hB q_bm (Or.inl (by decide))
        obtain ⟨q8, h⟩ := h
        refine y_iinc (L' := [some (.ref 159), some (.ref 155), none, none, some (.int (iI (zor l4 0))), some (.int (iI (l5 + 1))), some (.int (iI ((r3 + 1).bmod 256)))]) Q_X7_pose (k := 47) rfl (by decide) rfl rfl ?_
        refine z_goto (tgt := 36) Q_X7_pose (k := 48) rfl (by decide) ?_
        exact y_fg (zsb_c rfl (zsb_c rfl (zsb_n (zsb_n (zsb_c rfl (zsb_c rfl (zsb_n zsb_e))))))) (ih (zor l4 0) (l5 + 1) (qu V 160 l5 ((r3 + 1).bmod 256)) hB7 (zor_r _ _) q8 h)
      · replace h := h.2 c
        refine y_iconst Q_X7_pose (k := 37) rfl ?_
        refine z_goto (tgt := 74) Q_X7_pose (k := 38) rfl (by decide) ?_
        refine y_ior Q_X7_pose (k := 40) rfl ?_
        refine y_istore (L' := [some (.ref 159), some (.ref 155), none, none, some (.int (iI (zor l4 1))), some (.int (iI l5)), some (.int (iI ((r3 + 1).bmod 256)))]) Q_X7_pose (k := 41) rfl (by decide) rfl ?_
        refine z_aload_n Q_X7_pose (k := 42) rfl rfl ?_
        refine z_getR (b := 160) Q_X7_pose (k := 43) rfl F_X7_9 rfl (n_ hB.1 rfl) (k_159 hB.1) (r_159_0 hB.1) ?_
        refine z_iload Q_X7_pose (k := 44) rfl rfl ?_
        refine z_iload Q_X7_pose (k := 45) rfl rfl ?_
        obtain ⟨q9, h⟩ := h
        refine q_bast (o := 160) (N := 1024) Q_X7_pose (k := 46) rfl rfl (n_ hB.1 rfl) (k_160 hB.1) rfl q9 (by decide) q_bm2 ?_
        have hB10 := qB.u (a := 160) (j := l5) (x := (r3 + 1).bmod 256) hB q_bm (Or.inl (by decide))
        obtain ⟨q11, h⟩ := h
        refine y_iinc (L' := [some (.ref 159), some (.ref 155), none, none, some (.int (iI (zor l4 1))), some (.int (iI (l5 + 1))), some (.int (iI ((r3 + 1).bmod 256)))]) Q_X7_pose (k := 47) rfl (by decide) rfl rfl ?_
        refine z_goto (tgt := 36) Q_X7_pose (k := 48) rfl (by decide) ?_
        exact y_fg (zsb_c rfl (zsb_c rfl (zsb_n (zsb_n (zsb_c rfl (zsb_c rfl (zsb_n zsb_e))))))) (ih (zor l4 1) (l5 + 1) (qu V 160 l5 ((r3 + 1).bmod 256)) hB10 (zor_r _ _) q11 h)
set_option maxHeartbeats 4000000 in
set_option maxRecDepth 20000 in
theorem w_X7_pose {S : zS} {V : qV} {J : qJ} {Q : qV → Prop} (d : Nat) (hB : qB S V) {a2 : Int} (z2 : zr a2) {a3 : Int} (z3 : zr a3) (h : W_X7_pose a2 a3 V J Q) : Z M_X7_pose (d + 2) 0 0 0 [some (.ref 159), some (.ref 155), some (.int (iI a2)), some (.int (iI a3)), none, none, none] [] S (qi V) (qj J) (qP_uV S J Q) := by
  unfold W_X7_pose at h
  refine z_aload_n Q_X7_pose (k := 0) rfl rfl ?_
  refine q_getI (o := 159) (z := 3) Q_X7_pose (k := 1) rfl F_X7_31 rfl rfl rfl (n_ hB.1 rfl) (k_159 hB.1) ?_
  refine z_iload_n Q_X7_pose (k := 2) rfl rfl ?_
  refine y_icmp_ne 16 Q_X7_pose (k := 3) rfl (by decide) (hB.2.1 _ _) z2 (fun c => ?_) (fun c => ?_)
  · replace h := h.2 c
    refine y_iconst Q_X7_pose (k := 8) rfl ?_
    refine z_goto (tgt := 21) Q_X7_pose (k := 9) rfl (by decide) ?_
    refine y_istore (L' := [some (.ref 159), some (.ref 155), some (.int (iI a2)), some (.int (iI a3)), some (.int (iI 1)), none, none]) Q_X7_pose (k := 11) rfl (by decide) rfl ?_
    refine z_aload_n Q_X7_pose (k := 12) rfl rfl ?_
    refine z_iload_n Q_X7_pose (k := 13) rfl rfl ?_
    refine q_putI (o := 159) (z := 3) Q_X7_pose (k := 14) rfl F_X7_31 rfl rfl rfl (n_ hB.1 rfl) (k_159 hB.1) ?_
    have hB1 := qB.u (a := 159) (j := 3) (x := a2) hB z2 (Or.inr (Or.inr ⟨rfl, by decide, by decide⟩))
    refine z_aload_n Q_X7_pose (k := 15) rfl rfl ?_
    refine z_iload_n Q_X7_pose (k := 16) rfl rfl ?_
    refine q_putI (o := 159) (z := 4) Q_X7_pose (k := 17) rfl F_X7_35 rfl rfl rfl (n_ hB1.1 rfl) (k_159 hB1.1) ?_
    have hB2 := qB.u (a := 159) (j := 4) (x := a3) hB1 z3 (Or.inr (Or.inr ⟨rfl, by decide, by decide⟩))
    refine y_iconst Q_X7_pose (k := 18) rfl ?_
    refine y_istore (L' := [some (.ref 159), some (.ref 155), some (.int (iI a2)), some (.int (iI a3)), some (.int (iI 1)), some (.int (iI 0)), none]) Q_X7_pose (k := 19) rfl (by decide) rfl ?_
    refine y_fg (zsb_c rfl (zsb_c rfl (zsb_n (zsb_n (zsb_c rfl (zsb_c rfl (zsb_n zsb_e))))))) (v_X7_pose_36 d (fun l4x12 l5x12 V12 hB12 zl4x12 zl5x12 h => ?_) 100000 1 0 (qu (qu V 159 3 a2) 159 4 a3) hB2 ⟨by decide, by decide⟩ ⟨by decide, by decide⟩ h)
    refine z_iload Q_X7_pose (k := 49) rfl rfl ?_
    refine y_if_eq 106 Q_X7_pose (k := 50) rfl (by decide) zl4x12 (fun c => ?_) (fun c => ?_)
    · replace h := h.1 c
      exact z_vret Q_X7_pose (k := 56) rfl rfl (qI_uV hB12 h)
    · replace h := h.2 c
      refine z_aload_n Q_X7_pose (k := 51) rfl rfl ?_
      refine y_iconst Q_X7_pose (k := 52) rfl ?_
      refine q_putZ (o := 159) (z := 8) Q_X7_pose (k := 53) rfl F_X7_44 rfl (Or.inl rfl) rfl rfl (n_ hB12.1 rfl) (k_159 hB12.1) ?_
      have hB13 := qB.u (a := 159) (j := 8) (x := 0) hB12 ⟨by decide, by decide⟩ (Or.inr (Or.inr ⟨rfl, by decide, by decide⟩))
      refine z_aload_n Q_X7_pose (k := 54) rfl rfl ?_
      refine q_callV0_uV Q_X7_pose (k := 55) rfl rfl K_X7_seekTelling V_X7_seekTelling L_X7_48 (n_ hB13.1 rfl) (k_159 hB13.1) (Nat.le_of_ble_eq_true rfl) (Nat.le_of_ble_eq_true rfl) rfl (Nat.zero_le _) (Nat.zero_le _) (w_X7_seekTelling d hB13  h) (fun V14 hB14 h => ?_)
      exact z_vret Q_X7_pose (k := 56) rfl rfl (qI_uV hB14 h)
  · replace h := h.1 c
    refine z_aload_n Q_X7_pose (k := 4) rfl rfl ?_
    refine q_getI (o := 159) (z := 4) Q_X7_pose (k := 5) rfl F_X7_35 rfl rfl rfl (n_ hB.1 rfl) (k_159 hB.1) ?_
    refine z_iload_n Q_X7_pose (k := 6) rfl rfl ?_
    refine y_icmp_eq 20 Q_X7_pose (k := 7) rfl (by decide) (hB.2.1 _ _) z3 (fun c => ?_) (fun c => ?_)
    · replace h := h.1 c
      refine y_iconst Q_X7_pose (k := 10) rfl ?_
      refine y_istore (L' := [some (.ref 159), some (.ref 155), some (.int (iI a2)), some (.int (iI a3)), some (.int (iI 0)), none, none]) Q_X7_pose (k := 11) rfl (by decide) rfl ?_
      refine z_aload_n Q_X7_pose (k := 12) rfl rfl ?_
      refine z_iload_n Q_X7_pose (k := 13) rfl rfl ?_
      refine q_putI (o := 159) (z := 3) Q_X7_pose (k := 14) rfl F_X7_31 rfl rfl rfl (n_ hB.1 rfl) (k_159 hB.1) ?_
      have hB15 := qB.u (a := 159) (j := 3) (x := a2) hB z2 (Or.inr (Or.inr ⟨rfl, by decide, by decide⟩))
      refine z_aload_n Q_X7_pose (k := 15) rfl rfl ?_
      refine z_iload_n Q_X7_pose (k := 16) rfl rfl ?_
      refine q_putI (o := 159) (z := 4) Q_X7_pose (k := 17) rfl F_X7_35 rfl rfl rfl (n_ hB15.1 rfl) (k_159 hB15.1) ?_
      have hB16 := qB.u (a := 159) (j := 4) (x := a3) hB15 z3 (Or.inr (Or.inr ⟨rfl, by decide, by decide⟩))
      refine y_iconst Q_X7_pose (k := 18) rfl ?_
      refine y_istore (L' := [some (.ref 159), some (.ref 155), some (.int (iI a2)), some (.int (iI a3)), some (.int (iI 0)), some (.int (iI 0)), none]) Q_X7_pose (k := 19) rfl (by decide) rfl ?_
      refine y_fg (zsb_c rfl (zsb_c rfl (zsb_n (zsb_n (zsb_c rfl (zsb_c rfl (zsb_n zsb_e))))))) (v_X7_pose_36 d (fun l4x17 l5x17 V17 hB17 zl4x17 zl5x17 h => ?_) 100000 0 0 (qu (qu V 159 3 a2) 159 4 a3) hB16 ⟨by decide, by decide⟩ ⟨by decide, by decide⟩ h)
      refine z_iload Q_X7_pose (k := 49) rfl rfl ?_
      refine y_if_eq 106 Q_X7_pose (k := 50) rfl (by decide) zl4x17 (fun c => ?_) (fun c => ?_)
      · replace h := h.1 c
        exact z_vret Q_X7_pose (k := 56) rfl rfl (qI_uV hB17 h)
      · replace h := h.2 c
        refine z_aload_n Q_X7_pose (k := 51) rfl rfl ?_
        refine y_iconst Q_X7_pose (k := 52) rfl ?_
        refine q_putZ (o := 159) (z := 8) Q_X7_pose (k := 53) rfl F_X7_44 rfl (Or.inl rfl) rfl rfl (n_ hB17.1 rfl) (k_159 hB17.1) ?_
        have hB18 := qB.u (a := 159) (j := 8) (x := 0) hB17 ⟨by decide, by decide⟩ (Or.inr (Or.inr ⟨rfl, by decide, by decide⟩))
        refine z_aload_n Q_X7_pose (k := 54) rfl rfl ?_
        refine q_callV0_uV Q_X7_pose (k := 55) rfl rfl K_X7_seekTelling V_X7_seekTelling L_X7_48 (n_ hB18.1 rfl) (k_159 hB18.1) (Nat.le_of_ble_eq_true rfl) (Nat.le_of_ble_eq_true rfl) rfl (Nat.zero_le _) (Nat.zero_le _) (w_X7_seekTelling d hB18  h) (fun V19 hB19 h => ?_)
        exact z_vret Q_X7_pose (k := 56) rfl rfl (qI_uV hB19 h)
    · replace h := h.2 c
      refine y_iconst Q_X7_pose (k := 8) rfl ?_
      refine z_goto (tgt := 21) Q_X7_pose (k := 9) rfl (by decide) ?_
      refine y_istore (L' := [some (.ref 159), some (.ref 155), some (.int (iI a2)), some (.int (iI a3)), some (.int (iI 1)), none, none]) Q_X7_pose (k := 11) rfl (by decide) rfl ?_
      refine z_aload_n Q_X7_pose (k := 12) rfl rfl ?_
      refine z_iload_n Q_X7_pose (k := 13) rfl rfl ?_
      refine q_putI (o := 159) (z := 3) Q_X7_pose (k := 14) rfl F_X7_31 rfl rfl rfl (n_ hB.1 rfl) (k_159 hB.1) ?_
      have hB20 := qB.u (a := 159) (j := 3) (x := a2) hB z2 (Or.inr (Or.inr ⟨rfl, by decide, by decide⟩))
      refine z_aload_n Q_X7_pose (k := 15) rfl rfl ?_
      refine z_iload_n Q_X7_pose (k := 16) rfl rfl ?_
      refine q_putI (o := 159) (z := 4) Q_X7_pose (k := 17) rfl F_X7_35 rfl rfl rfl (n_ hB20.1 rfl) (k_159 hB20.1) ?_
      have hB21 := qB.u (a := 159) (j := 4) (x := a3) hB20 z3 (Or.inr (Or.inr ⟨rfl, by decide, by decide⟩))
      refine y_iconst Q_X7_pose (k := 18) rfl ?_
      refine y_istore (L' := [some (.ref 159), some (.ref 155), some (.int (iI a2)), some (.int (iI a3)), some (.int (iI 1)), some (.int (iI 0)), none]) Q_X7_pose (k := 19) rfl (by decide) rfl ?_
      refine y_fg (zsb_c rfl (zsb_c rfl (zsb_n (zsb_n (zsb_c rfl (zsb_c rfl (zsb_n zsb_e))))))) (v_X7_pose_36 d (fun l4x22 l5x22 V22 hB22 zl4x22 zl5x22 h => ?_) 100000 1 0 (qu (qu V 159 3 a2) 159 4 a3) hB21 ⟨by decide, by decide⟩ ⟨by decide, by decide⟩ h)
      refine z_iload Q_X7_pose (k := 49) rfl rfl ?_
      refine y_if_eq 106 Q_X7_pose (k := 50) rfl (by decide) zl4x22 (fun c => ?_) (fun c => ?_)
      · replace h := h.1 c
        exact z_vret Q_X7_pose (k := 56) rfl rfl (qI_uV hB22 h)
      · replace h := h.2 c
        refine z_aload_n Q_X7_pose (k := 51) rfl rfl ?_
        refine y_iconst Q_X7_pose (k := 52) rfl ?_
        refine q_putZ (o := 159) (z := 8) Q_X7_pose (k := 53) rfl F_X7_44 rfl (Or.inl rfl) rfl rfl (n_ hB22.1 rfl) (k_159 hB22.1) ?_
        have hB23 := qB.u (a := 159) (j := 8) (x := 0) hB22 ⟨by decide, by decide⟩ (Or.inr (Or.inr ⟨rfl, by decide, by decide⟩))
        refine z_aload_n Q_X7_pose (k := 54) rfl rfl ?_
        refine q_callV0_uV Q_X7_pose (k := 55) rfl rfl K_X7_seekTelling V_X7_seekTelling L_X7_48 (n_ hB23.1 rfl) (k_159 hB23.1) (Nat.le_of_ble_eq_true rfl) (Nat.le_of_ble_eq_true rfl) rfl (Nat.zero_le _) (Nat.zero_le _) (w_X7_seekTelling d hB23  h) (fun V24 hB24 h => ?_)
        exact z_vret Q_X7_pose (k := 56) rfl rfl (qI_uV hB24 h)
set_option maxHeartbeats 4000000 in
set_option maxRecDepth 20000 in
theorem v_X7_hanging_4 {S : zS} {V : qV} {J : qJ} {K : Int → Int → Prop} {Q : Int → Prop} {kc ks : Nat} (d : Nat) (hB : qB S V) (hK : ∀ (l1 : Int) (l2 : Int), zr l1 → zr l2 → K l1 l2 → Z M_X7_hanging (d + 1) kc ks 51 [some (.ref 159), some (.int (iI l1)), some (.int (iI l2))] [] S (qi V) (qj J) (qP_i S V J Q)) : ∀ (f : Nat) (l1 : Int) (l2 : Int), zr l1 → zr l2 → lp_X7_hanging_4 V K f l1 l2 → Z M_X7_hanging (d + 1) kc ks 4 [some (.ref 159), some (.int (iI l1)), some (.int (iI l2))] [] S (qi V) (qj J) (qP_i S V J Q) := by
  intro f
  induction f with
  | zero =>
    intro l1 l2 z1 z2 h
    exact h.elim
  | succ f ih =>
    intro l1 l2 z1 z2 h
    rw [lp_X7_hanging_4] at h
    refine z_iload_n Q_X7_hanging (k := 4) rfl rfl ?_
    refine z_aload_n Q_X7_hanging (k := 5) rfl rfl ?_
    refine q_getI (o := 159) (z := 6) Q_X7_hanging (k := 6) rfl F_X7_51 rfl rfl rfl (n_ hB.1 rfl) (k_159 hB.1) ?_
    refine y_icmp_ge 51 Q_X7_hanging (k := 7) rfl (by decide) z2 (hB.2.1 _ _) (fun c => ?_) (fun c => ?_)
    · replace h := h.1 c
      exact y_fg (zsb_c rfl (zsb_c rfl (zsb_c rfl zsb_e))) (hK l1 l2 z1 z2 h)
    · replace h := h.2 c
      refine z_iload_n Q_X7_hanging (k := 8) rfl rfl ?_
      refine y_bipush Q_X7_hanging (k := 9) rfl (by decide) ?_
      refine y_icmp_ge 51 Q_X7_hanging (k := 10) rfl (by decide) z2 ⟨by decide, by decide⟩ (fun c => ?_) (fun c => ?_)
      · replace h := h.1 c
        exact y_fg (zsb_c rfl (zsb_c rfl (zsb_c rfl zsb_e))) (hK l1 l2 z1 z2 h)
      · replace h := h.2 c
        refine z_aload_n Q_X7_hanging (k := 11) rfl rfl ?_
        refine y_iconst Q_X7_hanging (k := 12) rfl ?_
        refine z_aload_n Q_X7_hanging (k := 13) rfl rfl ?_
        refine z_getR (b := 162) Q_X7_hanging (k := 14) rfl F_X7_19 rfl (n_ hB.1 rfl) (k_159 hB.1) (r_159_5 hB.1) ?_
        refine z_iload_n Q_X7_hanging (k := 15) rfl rfl ?_
        obtain ⟨q1, h⟩ := h
        refine q_iald (o := 162) (N := 10) Q_X7_hanging (k := 16) rfl rfl (n_ hB.1 rfl) (k_162 hB.1) rfl q1 (by decide) ?_
        refine y_ishl Q_X7_hanging (k := 17) rfl ?_
        refine y_iconst Q_X7_hanging (k := 18) rfl ?_
        refine q_callV2_z Q_X7_hanging (k := 19) rfl rfl K_X7_differs V_X7_differs L_X7_54 (n_ hB.1 rfl) (k_159 hB.1) (Nat.le_of_ble_eq_true rfl) (Nat.le_of_ble_eq_true rfl) rfl (Nat.zero_le _) (Nat.zero_le _) (w_X7_differs d hB (zshl_r _ _) ⟨by decide, by decide⟩ (Or.inr rfl) h) (fun r2 hz2 hb2 h => ?_)
        refine y_if_eq 45 Q_X7_hanging (k := 20) rfl (by decide) hz2 (fun c => ?_) (fun c => ?_)
        · replace h := h.1 c
          obtain ⟨q3, h⟩ := h
          refine y_iinc (L' := [some (.ref 159), some (.int (iI l1)), some (.int (iI (l2 + 1)))]) Q_X7_hanging (k := 30) rfl (by decide) rfl rfl ?_
          refine z_goto (tgt := 4) Q_X7_hanging (k := 31) rfl (by decide) ?_
          exact y_fg (zsb_c rfl (zsb_c rfl (zsb_c rfl zsb_e))) (ih l1 (l2 + 1) z1 q3 h)
        · replace h := h.2 c
          refine z_iload_n Q_X7_hanging (k := 21) rfl rfl ?_
          refine y_iconst Q_X7_hanging (k := 22) rfl ?_
          refine z_aload_n Q_X7_hanging (k := 23) rfl rfl ?_
          refine z_getR (b := 162) Q_X7_hanging (k := 24) rfl F_X7_19 rfl (n_ hB.1 rfl) (k_159 hB.1) (r_159_5 hB.1) ?_
          refine z_iload_n Q_X7_hanging (k := 25) rfl rfl ?_
          obtain ⟨q4, h⟩ := h
          refine q_iald (o := 162) (N := 10) Q_X7_hanging (k := 26) rfl rfl (n_ hB.1 rfl) (k_162 hB.1) rfl q4 (by decide) ?_
          refine y_ishl Q_X7_hanging (k := 27) rfl ?_
          refine y_ior Q_X7_hanging (k := 28) rfl ?_
          refine y_istore_n (L' := [some (.ref 159), some (.int (iI (zor l1 (zshl 1 (V 162 l2))))), some (.int (iI l2))]) Q_X7_hanging (k := 29) rfl (by decide) rfl ?_
          obtain ⟨q5, h⟩ := h
          refine y_iinc (L' := [some (.ref 159), some (.int (iI (zor l1 (zshl 1 (V 162 l2))))), some (.int (iI (l2 + 1)))]) Q_X7_hanging (k := 30) rfl (by decide) rfl rfl ?_
          refine z_goto (tgt := 4) Q_X7_hanging (k := 31) rfl (by decide) ?_
          exact y_fg (zsb_c rfl (zsb_c rfl (zsb_c rfl zsb_e))) (ih (zor l1 (zshl 1 (V 162 l2))) (l2 + 1) (zor_r _ _) q5 h)
set_option maxHeartbeats 4000000 in
set_option maxRecDepth 20000 in
theorem w_X7_hanging {S : zS} {V : qV} {J : qJ} {Q : Int → Prop} (d : Nat) (hB : qB S V) (h : W_X7_hanging V Q) : Z M_X7_hanging (d + 1) 0 0 0 [some (.ref 159), none, none] [] S (qi V) (qj J) (qP_i S V J Q) := by
  unfold W_X7_hanging at h
  refine y_iconst Q_X7_hanging (k := 0) rfl ?_
  refine y_istore_n (L' := [some (.ref 159), some (.int (iI 0)), none]) Q_X7_hanging (k := 1) rfl (by decide) rfl ?_
  refine y_iconst Q_X7_hanging (k := 2) rfl ?_
  refine y_istore_n (L' := [some (.ref 159), some (.int (iI 0)), some (.int (iI 0))]) Q_X7_hanging (k := 3) rfl (by decide) rfl ?_
  refine y_fg (zsb_c rfl (zsb_c rfl (zsb_c rfl zsb_e))) (v_X7_hanging_4 d hB (fun l1x6 l2x6 zl1x6 zl2x6 h => ?_) 100000 0 0 ⟨by decide, by decide⟩ ⟨by decide, by decide⟩ h)
  refine z_iload_n Q_X7_hanging (k := 32) rfl rfl ?_
  exact y_iret Q_X7_hanging (k := 33) rfl rfl (qI_i zl1x6 h)
set_option maxHeartbeats 4000000 in
set_option maxRecDepth 20000 in
theorem w_J6_bitCount_0f7a4 {S : zS} {V : qV} {J : qJ} {Q : Int → Prop} (d : Nat) (hB : qB S V) {a0 : Int} (z0 : zr a0) (h : W_J6_bitCount_0f7a4 a0 V Q) : Z M_J6_bitCount_0f7a4 d 0 0 0 [some (.int (iI a0))] [] S (qi V) (qj J) (qP_i S V J Q) := by
  unfold W_J6_bitCount_0f7a4 at h
  refine z_iload_n Q_J6_bitCount_0f7a4 (k := 0) rfl rfl ?_
  refine z_iload_n Q_J6_bitCount_0f7a4 (k := 1) rfl rfl ?_
  refine y_iconst Q_J6_bitCount_0f7a4 (k := 2) rfl ?_
  refine y_iushr Q_J6_bitCount_0f7a4 (k := 3) rfl ?_
  refine z_ldcw Q_J6_bitCount_0f7a4 (k := 4) rfl cC_J6_265 (y_raw (y := 1431655765) rfl ?_)
  refine y_iand Q_J6_bitCount_0f7a4 (k := 5) rfl ?_
  refine y_isub Q_J6_bitCount_0f7a4 (k := 6) rfl (qw_as ?_)
  refine y_istore_n (L' := [some (.int (iI (qw (a0 - (zand (zushr a0 1) 1431655765)))))]) Q_J6_bitCount_0f7a4 (k := 7) rfl (by decide) rfl ?_
  refine z_iload_n Q_J6_bitCount_0f7a4 (k := 8) rfl rfl ?_
  refine z_ldcw Q_J6_bitCount_0f7a4 (k := 9) rfl cC_J6_266 (y_raw (y := 858993459) rfl ?_)
  refine y_iand Q_J6_bitCount_0f7a4 (k := 10) rfl ?_
  refine z_iload_n Q_J6_bitCount_0f7a4 (k := 11) rfl rfl ?_
  refine y_iconst Q_J6_bitCount_0f7a4 (k := 12) rfl ?_
  refine y_iushr Q_J6_bitCount_0f7a4 (k := 13) rfl ?_
  refine z_ldcw Q_J6_bitCount_0f7a4 (k := 14) rfl cC_J6_266 (y_raw (y := 858993459) rfl ?_)
  refine y_iand Q_J6_bitCount_0f7a4 (k := 15) rfl ?_
  refine y_iadd Q_J6_bitCount_0f7a4 (k := 16) rfl (qw_as ?_)
  refine y_istore_n (L' := [some (.int (iI (qw ((zand (qw (a0 - (zand (zushr a0 1) 1431655765))) 858993459) + (zand (zushr (qw (a0 - (zand (zushr a0 1) 1431655765))) 2) 858993459)))))]) Q_J6_bitCount_0f7a4 (k := 17) rfl (by decide) rfl ?_
  refine z_iload_n Q_J6_bitCount_0f7a4 (k := 18) rfl rfl ?_
  refine z_iload_n Q_J6_bitCount_0f7a4 (k := 19) rfl rfl ?_
  refine y_iconst Q_J6_bitCount_0f7a4 (k := 20) rfl ?_
  refine y_iushr Q_J6_bitCount_0f7a4 (k := 21) rfl ?_
  refine y_iadd Q_J6_bitCount_0f7a4 (k := 22) rfl (qw_as ?_)
  refine z_ldcw Q_J6_bitCount_0f7a4 (k := 23) rfl cC_J6_267 (y_raw (y := 252645135) rfl ?_)
  refine y_iand Q_J6_bitCount_0f7a4 (k := 24) rfl ?_
  refine y_istore_n (L' := [some (.int (iI (zand (qw ((qw ((zand (qw (a0 - (zand (zushr a0 1) 1431655765))) 858993459) + (zand (zushr (qw (a0 - (zand (zushr a0 1) 1431655765))) 2) 858993459))) + (zushr (qw ((zand (qw (a0 - (zand (zushr a0 1) 1431655765))) 858993459) + (zand (zushr (qw (a0 - (zand (zushr a0 1) 1431655765))) 2) 858993459))) 4))) 252645135)))]) Q_J6_bitCount_0f7a4 (k := 25) rfl (by decide) rfl ?_
  refine z_iload_n Q_J6_bitCount_0f7a4 (k := 26) rfl rfl ?_
  refine z_iload_n Q_J6_bitCount_0f7a4 (k := 27) rfl rfl ?_
  refine y_bipush Q_J6_bitCount_0f7a4 (k := 28) rfl (by decide) ?_
  refine y_iushr Q_J6_bitCount_0f7a4 (k := 29) rfl ?_
  refine y_iadd Q_J6_bitCount_0f7a4 (k := 30) rfl (qw_as ?_)
  refine y_istore_n (L' := [some (.int (iI (qw ((zand (qw ((qw ((zand (qw (a0 - (zand (zushr a0 1) 1431655765))) 858993459) + (zand (zushr (qw (a0 - (zand (zushr a0 1) 1431655765))) 2) 858993459))) + (zushr (qw ((zand (qw (a0 - (zand (zushr a0 1) 1431655765))) 858993459) + (zand (zushr (qw (a0 - (zand (zushr a0 1) 1431655765))) 2) 858993459))) 4))) 252645135) + (zushr (zand (qw ((qw ((zand (qw (a0 - (zand (zushr a0 1) 1431655765))) 858993459) + (zand (zushr (qw (a0 - (zand (zushr a0 1) 1431655765))) 2) 858993459))) + (zushr (qw ((zand (qw (a0 - (zand (zushr a0 1) 1431655765))) 858993459) + (zand (zushr (qw (a0 - (zand (zushr a0 1) 1431655765))) 2) 858993459))) 4))) 252645135) 8)))))]) Q_J6_bitCount_0f7a4 (k := 31) rfl (by decide) rfl ?_
  refine z_iload_n Q_J6_bitCount_0f7a4 (k := 32) rfl rfl ?_
  refine z_iload_n Q_J6_bitCount_0f7a4 (k := 33) rfl rfl ?_
  refine y_bipush Q_J6_bitCount_0f7a4 (k := 34) rfl (by decide) ?_
  refine y_iushr Q_J6_bitCount_0f7a4 (k := 35) rfl ?_
  refine y_iadd Q_J6_bitCount_0f7a4 (k := 36) rfl (qw_as ?_)
  refine y_istore_n (L' := [some (.int (iI (qw ((qw ((zand (qw ((qw ((zand (qw (a0 - (zand (zushr a0 1) 1431655765))) 858993459) + (zand (zushr (qw (a0 - (zand (zushr a0 1) 1431655765))) 2) 858993459))) + (zushr (qw ((zand (qw (a0 - (zand (zushr a0 1) 1431655765))) 858993459) + (zand (zushr (qw (a0 - (zand (zushr a0 1) 1431655765))) 2) 858993459))) 4))) 252645135) + (zushr (zand (qw ((qw ((zand (qw (a0 - (zand (zushr a0 1) 1431655765))) 858993459) + (zand (zushr (qw (a0 - (zand (zushr a0 1) 1431655765))) 2) 858993459))) + (zushr (qw ((zand (qw (a0 - (zand (zushr a0 1) 1431655765))) 858993459) + (zand (zushr (qw (a0 - (zand (zushr a0 1) 1431655765))) 2) 858993459))) 4))) 252645135) 8))) + (zushr (qw ((zand (qw ((qw ((zand (qw (a0 - (zand (zushr a0 1) 1431655765))) 858993459) + (zand (zushr (qw (a0 - (zand (zushr a0 1) 1431655765))) 2) 858993459))) + (zushr (qw ((zand (qw (a0 - (zand (zushr a0 1) 1431655765))) 858993459) + (zand (zushr (qw (a0 - (zand (zushr a0 1) 1431655765))) 2) 858993459))) 4))) 252645135) + (zushr (zand (qw ((qw ((zand (qw (a0 - (zand (zushr a0 1) 1431655765))) 858993459) + (zand (zushr (qw (a0 - (zand (zushr a0 1) 1431655765))) 2) 858993459))) + (zushr (qw ((zand (qw (a0 - (zand (zushr a0 1) 1431655765))) 858993459) + (zand (zushr (qw (a0 - (zand (zushr a0 1) 1431655765))) 2) 858993459))) 4))) 252645135) 8))) 16)))))]) Q_J6_bitCount_0f7a4 (k := 37) rfl (by decide) rfl ?_
  refine z_iload_n Q_J6_bitCount_0f7a4 (k := 38) rfl rfl ?_
  refine y_bipush Q_J6_bitCount_0f7a4 (k := 39) rfl (by decide) ?_
  refine y_iand Q_J6_bitCount_0f7a4 (k := 40) rfl ?_
  exact y_iret Q_J6_bitCount_0f7a4 (k := 41) rfl rfl (qI_i (zand_r _ _) h)
set_option maxHeartbeats 4000000 in
set_option maxRecDepth 20000 in
theorem v_X7_settling_12 {S : zS} {J : qJ} {K : Int → qV → Prop} {Q : Int → qV → Prop} {kc ks : Nat} (d : Nat) {l1 : Int} (z1 : zr l1) (hK : ∀ (l2 : Int) (V : qV), qB S V → zr l2 → K l2 V → Z M_X7_settling d kc ks 91 [some (.ref 159), some (.int (iI l1)), some (.int (iI l2)), none, none] [] S (qi V) (qj J) (qP_zV S J Q)) : ∀ (f : Nat) (l2 : Int) (V : qV), qB S V → zr l2 → lp_X7_settling_12 l1 K Q f l2 V → Z M_X7_settling d kc ks 12 [some (.ref 159), some (.int (iI l1)), some (.int (iI l2)), none, none] [] S (qi V) (qj J) (qP_zV S J Q) := by
  intro f
  induction f with
  | zero =>
    intro l2 V hB z2 h
    exact h.elim
  | succ f ih =>
    intro l2 V hB z2 h
    rw [lp_X7_settling_12] at h
    refine z_iload_n Q_X7_settling (k := 8) rfl rfl ?_
    refine y_sipush Q_X7_settling (k := 9) rfl (by decide) ?_
    refine y_icmp_ge 91 Q_X7_settling (k := 10) rfl (by decide) z2 ⟨by decide, by decide⟩ (fun c => ?_) (fun c => ?_)
    · replace h := h.1 c
      exact y_fg (zsb_c rfl (zsb_c rfl (zsb_c rfl (zsb_n (zsb_n zsb_e))))) (hK l2 V hB z2 h)
    · replace h := h.2 c
      refine z_aload_n Q_X7_settling (k := 11) rfl rfl ?_
      refine z_getR (b := 160) Q_X7_settling (k := 12) rfl F_X7_9 rfl (n_ hB.1 rfl) (k_159 hB.1) (r_159_0 hB.1) ?_
      refine z_iload_n Q_X7_settling (k := 13) rfl rfl ?_
      obtain ⟨q3, h⟩ := h
      refine q_bald (o := 160) (N := 1024) Q_X7_settling (k := 14) rfl rfl (n_ hB.1 rfl) (k_160 hB.1) rfl q3 (by decide) ?_
      refine y_if_eq 85 Q_X7_settling (k := 15) rfl (by decide) (hB.2.1 _ _) (fun c => ?_) (fun c => ?_)
      · replace h := h.1 c
        obtain ⟨q4, h⟩ := h
        refine y_iinc (L' := [some (.ref 159), some (.int (iI l1)), some (.int (iI (l2 + 1))), none, none]) Q_X7_settling (k := 52) rfl (by decide) rfl rfl ?_
        refine z_goto (tgt := 12) Q_X7_settling (k := 53) rfl (by decide) ?_
        exact y_fg (zsb_c rfl (zsb_c rfl (zsb_c rfl (zsb_n (zsb_n zsb_e))))) (ih (l2 + 1) V hB q4 h)
      · replace h := h.2 c
        refine z_iload_n Q_X7_settling (k := 16) rfl rfl ?_
        refine z_iload_n Q_X7_settling (k := 17) rfl rfl ?_
        refine y_iand Q_X7_settling (k := 18) rfl ?_
        refine y_istore_n (L' := [some (.ref 159), some (.int (iI l1)), some (.int (iI l2)), some (.int (iI (zand l2 l1))), none]) Q_X7_settling (k := 19) rfl (by decide) rfl ?_
        refine z_aload_n Q_X7_settling (k := 20) rfl rfl ?_
        refine q_getI (o := 159) (z := 2) Q_X7_settling (k := 21) rfl F_X7_71 rfl rfl rfl (n_ hB.1 rfl) (k_159 hB.1) ?_
        refine y_bipush Q_X7_settling (k := 22) rfl (by decide) ?_
        obtain ⟨q5, h⟩ := h
        refine y_imul Q_X7_settling (k := 23) rfl ?_
        refine z_aload_n Q_X7_settling (k := 24) rfl rfl ?_
        refine z_getR (b := 160) Q_X7_settling (k := 25) rfl F_X7_9 rfl (n_ hB.1 rfl) (k_159 hB.1) (r_159_0 hB.1) ?_
        refine z_iload_n Q_X7_settling (k := 26) rfl rfl ?_
        obtain ⟨q6, h⟩ := h
        refine q_bald (o := 160) (N := 1024) Q_X7_settling (k := 27) rfl rfl (n_ hB.1 rfl) (k_160 hB.1) rfl q6 (by decide) ?_
        obtain ⟨q7, h⟩ := h
        refine y_iadd Q_X7_settling (k := 28) rfl ?_
        refine y_istore (L' := [some (.ref 159), some (.int (iI l1)), some (.int (iI l2)), some (.int (iI (zand l2 l1))), some (.int (iI (((V 159 2) * 8) + (V 160 l2))))]) Q_X7_settling (k := 29) rfl (by decide) rfl ?_
        refine z_aload_n Q_X7_settling (k := 30) rfl rfl ?_
        refine z_getR (b := 161) Q_X7_settling (k := 31) rfl F_X7_15 rfl (n_ hB.1 rfl) (k_159 hB.1) (r_159_1 hB.1) ?_
        refine z_iload_n Q_X7_settling (k := 32) rfl rfl ?_
        obtain ⟨q8, h⟩ := h
        refine q_iald (o := 161) (N := 1024) Q_X7_settling (k := 33) rfl rfl (n_ hB.1 rfl) (k_161 hB.1) rfl q8 (by decide) ?_
        refine y_bipush Q_X7_settling (k := 34) rfl (by decide) ?_
        refine y_idiv Q_X7_settling (k := 35) rfl (hB.2.1 _ _) (by decide) ⟨by decide, by decide⟩ ?_
        refine z_aload_n Q_X7_settling (k := 36) rfl rfl ?_
        refine q_getI (o := 159) (z := 2) Q_X7_settling (k := 37) rfl F_X7_71 rfl rfl rfl (n_ hB.1 rfl) (k_159 hB.1) ?_
        refine y_icmp_ne 77 Q_X7_settling (k := 38) rfl (by decide) (q_tdiv (hB.2.1 _ _) (by decide)) (hB.2.1 _ _) (fun c => ?_) (fun c => ?_)
        · replace h := h.2 c
          refine z_aload_n Q_X7_settling (k := 47) rfl rfl ?_
          refine z_getR (b := 161) Q_X7_settling (k := 48) rfl F_X7_15 rfl (n_ hB.1 rfl) (k_159 hB.1) (r_159_1 hB.1) ?_
          refine z_iload_n Q_X7_settling (k := 49) rfl rfl ?_
          refine z_iload Q_X7_settling (k := 50) rfl rfl ?_
          obtain ⟨q9, h⟩ := h
          refine q_iast (o := 161) (N := 1024) Q_X7_settling (k := 51) rfl rfl (n_ hB.1 rfl) (k_161 hB.1) rfl q9 (by decide) ?_
          have hB10 := qB.u (a := 161) (j := zand l2 l1) (x := ((V 159 2) * 8) + (V 160 l2)) hB q7 (Or.inl (by decide))
          obtain ⟨q11, h⟩ := h
          refine y_iinc (L' := [some (.ref 159), some (.int (iI l1)), some (.int (iI (l2 + 1))), some (.int (iI (zand l2 l1))), some (.int (iI (((V 159 2) * 8) + (V 160 l2))))]) Q_X7_settling (k := 52) rfl (by decide) rfl rfl ?_
          refine z_goto (tgt := 12) Q_X7_settling (k := 53) rfl (by decide) ?_
          exact y_fg (zsb_c rfl (zsb_c rfl (zsb_c rfl (zsb_n (zsb_n zsb_e))))) (ih (l2 + 1) (qu V 161 (zand l2 l1) (((V 159 2) * 8) + (V 160 l2))) hB10 q11 h)
        · replace h := h.1 c
          refine z_aload_n Q_X7_settling (k := 39) rfl rfl ?_
          refine z_getR (b := 161) Q_X7_settling (k := 40) rfl F_X7_15 rfl (n_ hB.1 rfl) (k_159 hB.1) (r_159_1 hB.1) ?_
          refine z_iload_n Q_X7_settling (k := 41) rfl rfl ?_
          obtain ⟨q12, h⟩ := h
          refine q_iald (o := 161) (N := 1024) Q_X7_settling (k := 42) rfl rfl (n_ hB.1 rfl) (k_161 hB.1) rfl q12 (by decide) ?_
          refine z_iload Q_X7_settling (k := 43) rfl rfl ?_
          refine y_icmp_eq 77 Q_X7_settling (k := 44) rfl (by decide) (hB.2.1 _ _) q7 (fun c => ?_) (fun c => ?_)
          · replace h := h.1 c
            refine z_aload_n Q_X7_settling (k := 47) rfl rfl ?_
            refine z_getR (b := 161) Q_X7_settling (k := 48) rfl F_X7_15 rfl (n_ hB.1 rfl) (k_159 hB.1) (r_159_1 hB.1) ?_
            refine z_iload_n Q_X7_settling (k := 49) rfl rfl ?_
            refine z_iload Q_X7_settling (k := 50) rfl rfl ?_
            obtain ⟨q13, h⟩ := h
            refine q_iast (o := 161) (N := 1024) Q_X7_settling (k := 51) rfl rfl (n_ hB.1 rfl) (k_161 hB.1) rfl q13 (by decide) ?_
            have hB14 := qB.u (a := 161) (j := zand l2 l1) (x := ((V 159 2) * 8) + (V 160 l2)) hB q7 (Or.inl (by decide))
            obtain ⟨q15, h⟩ := h
            refine y_iinc (L' := [some (.ref 159), some (.int (iI l1)), some (.int (iI (l2 + 1))), some (.int (iI (zand l2 l1))), some (.int (iI (((V 159 2) * 8) + (V 160 l2))))]) Q_X7_settling (k := 52) rfl (by decide) rfl rfl ?_
            refine z_goto (tgt := 12) Q_X7_settling (k := 53) rfl (by decide) ?_
            exact y_fg (zsb_c rfl (zsb_c rfl (zsb_c rfl (zsb_n (zsb_n zsb_e))))) (ih (l2 + 1) (qu V 161 (zand l2 l1) (((V 159 2) * 8) + (V 160 l2))) hB14 q15 h)
          · replace h := h.2 c
            refine y_iconst Q_X7_settling (k := 45) rfl ?_
            exact y_zret Q_X7_settling (k := 46) rfl rfl (Or.inl rfl) (qI_zV hB ⟨by decide, by decide⟩ (Or.inl rfl) h)
set_option maxHeartbeats 4000000 in
set_option maxRecDepth 20000 in
theorem w_X7_settling {S : zS} {V : qV} {J : qJ} {Q : Int → qV → Prop} (d : Nat) (hB : qB S V) {a1 : Int} (z1 : zr a1) (h : W_X7_settling a1 V Q) : Z M_X7_settling d 0 0 0 [some (.ref 159), some (.int (iI a1)), none, none, none] [] S (qi V) (qj J) (qP_zV S J Q) := by
  unfold W_X7_settling at h
  refine z_aload_n Q_X7_settling (k := 0) rfl rfl ?_
  refine z_dup Q_X7_settling (k := 1) rfl rfl ?_
  refine q_getI (o := 159) (z := 2) Q_X7_settling (k := 2) rfl F_X7_71 rfl rfl rfl (n_ hB.1 rfl) (k_159 hB.1) ?_
  refine y_iconst Q_X7_settling (k := 3) rfl ?_
  obtain ⟨q1, h⟩ := h
  refine y_iadd Q_X7_settling (k := 4) rfl ?_
  refine q_putI (o := 159) (z := 2) Q_X7_settling (k := 5) rfl F_X7_71 rfl rfl rfl (n_ hB.1 rfl) (k_159 hB.1) ?_
  have hB2 := qB.u (a := 159) (j := 2) (x := (V 159 2) + 1) hB q1 (Or.inr (Or.inr ⟨rfl, by decide, by decide⟩))
  refine y_iconst Q_X7_settling (k := 6) rfl ?_
  refine y_istore_n (L' := [some (.ref 159), some (.int (iI a1)), some (.int (iI 0)), none, none]) Q_X7_settling (k := 7) rfl (by decide) rfl ?_
  refine y_fg (zsb_c rfl (zsb_c rfl (zsb_c rfl (zsb_n (zsb_n zsb_e))))) (v_X7_settling_12 d z1 (fun l2x16 V16 hB16 zl2x16 h => ?_) 100000 0 (qu V 159 2 ((V 159 2) + 1)) hB2 ⟨by decide, by decide⟩ h)
  refine y_iconst Q_X7_settling (k := 54) rfl ?_
  exact y_zret Q_X7_settling (k := 55) rfl rfl (Or.inr rfl) (qI_zV hB16 ⟨by decide, by decide⟩ (Or.inr rfl) h)
set_option maxHeartbeats 4000000 in
set_option maxRecDepth 20000 in
theorem v_X7_leastSettling_9 {S : zS} {V : qV} {J : qJ} {K : Int → Int → Prop} {Q : Int → qV → Prop} {kc ks : Nat} (d : Nat) (hB : qB S V) {l1 : Int} (z1 : zr l1) (hK : ∀ (l2 : Int) (l3 : Int), zr l2 → zr l3 → K l2 l3 → Z M_X7_leastSettling (d + 2) kc ks 40 [some (.ref 159), some (.int (iI l1)), some (.int (iI l2)), some (.int (iI l3)), none] [] S (qi V) (qj J) (qP_iV S J Q)) : ∀ (f : Nat) (l2 : Int) (l3 : Int), zr l2 → zr l3 → lp_X7_leastSettling_9 l1 V K f l2 l3 → Z M_X7_leastSettling (d + 2) kc ks 9 [some (.ref 159), some (.int (iI l1)), some (.int (iI l2)), some (.int (iI l3)), none] [] S (qi V) (qj J) (qP_iV S J Q) := by
  intro f
  induction f with
  | zero =>
    intro l2 l3 z2 z3 h
    exact h.elim
  | succ f ih =>
    intro l2 l3 z2 z3 h
    rw [lp_X7_leastSettling_9] at h
    refine z_iload_n Q_X7_leastSettling (k := 7) rfl rfl ?_
    refine z_aload_n Q_X7_leastSettling (k := 8) rfl rfl ?_
    refine q_getI (o := 159) (z := 6) Q_X7_leastSettling (k := 9) rfl F_X7_51 rfl rfl rfl (n_ hB.1 rfl) (k_159 hB.1) ?_
    refine y_icmp_ge 40 Q_X7_leastSettling (k := 10) rfl (by decide) z3 (hB.2.1 _ _) (fun c => ?_) (fun c => ?_)
    · replace h := h.1 c
      exact y_fg (zsb_c rfl (zsb_c rfl (zsb_c rfl (zsb_c rfl (zsb_n zsb_e))))) (hK l2 l3 z2 z3 h)
    · replace h := h.2 c
      refine z_iload_n Q_X7_leastSettling (k := 11) rfl rfl ?_
      refine y_bipush Q_X7_leastSettling (k := 12) rfl (by decide) ?_
      refine y_icmp_ge 40 Q_X7_leastSettling (k := 13) rfl (by decide) z3 ⟨by decide, by decide⟩ (fun c => ?_) (fun c => ?_)
      · replace h := h.1 c
        exact y_fg (zsb_c rfl (zsb_c rfl (zsb_c rfl (zsb_c rfl (zsb_n zsb_e))))) (hK l2 l3 z2 z3 h)
      · replace h := h.2 c
        refine z_iload_n Q_X7_leastSettling (k := 14) rfl rfl ?_
        refine y_iconst Q_X7_leastSettling (k := 15) rfl ?_
        refine z_aload_n Q_X7_leastSettling (k := 16) rfl rfl ?_
        refine z_getR (b := 162) Q_X7_leastSettling (k := 17) rfl F_X7_19 rfl (n_ hB.1 rfl) (k_159 hB.1) (r_159_5 hB.1) ?_
        refine z_iload_n Q_X7_leastSettling (k := 18) rfl rfl ?_
        obtain ⟨q2, h⟩ := h
        refine q_iald (o := 162) (N := 10) Q_X7_leastSettling (k := 19) rfl rfl (n_ hB.1 rfl) (k_162 hB.1) rfl q2 (by decide) ?_
        refine y_ishl Q_X7_leastSettling (k := 20) rfl ?_
        refine y_ior Q_X7_leastSettling (k := 21) rfl ?_
        refine y_istore_n (L' := [some (.ref 159), some (.int (iI l1)), some (.int (iI (zor l2 (zshl 1 (V 162 l3))))), some (.int (iI l3)), none]) Q_X7_leastSettling (k := 22) rfl (by decide) rfl ?_
        obtain ⟨q3, h⟩ := h
        refine y_iinc (L' := [some (.ref 159), some (.int (iI l1)), some (.int (iI (zor l2 (zshl 1 (V 162 l3))))), some (.int (iI (l3 + 1))), none]) Q_X7_leastSettling (k := 23) rfl (by decide) rfl rfl ?_
        refine z_goto (tgt := 9) Q_X7_leastSettling (k := 24) rfl (by decide) ?_
        exact y_fg (zsb_c rfl (zsb_c rfl (zsb_c rfl (zsb_c rfl (zsb_n zsb_e))))) (ih (zor l2 (zshl 1 (V 162 l3))) (l3 + 1) (zor_r _ _) q3 h)
set_option maxHeartbeats 4000000 in
set_option maxRecDepth 20000 in
theorem v_X7_leastSettling_56 {S : zS} {J : qJ} {K : Int → qV → Prop} {Q : Int → qV → Prop} {kc ks : Nat} (d : Nat) {l1 : Int} (z1 : zr l1) {l2 : Int} (z2 : zr l2) {l3 : Int} (z3 : zr l3) (hK : ∀ (l4 : Int) (V : qV), qB S V → zr l4 → K l4 V → Z M_X7_leastSettling (d + 2) kc ks 106 [some (.ref 159), some (.int (iI l1)), some (.int (iI l2)), some (.int (iI l3)), some (.int (iI l4))] [] S (qi V) (qj J) (qP_iV S J Q)) : ∀ (f : Nat) (l4 : Int) (V : qV), qB S V → zr l4 → lp_X7_leastSettling_56 l1 l2 l3 K Q f l4 V → Z M_X7_leastSettling (d + 2) kc ks 56 [some (.ref 159), some (.int (iI l1)), some (.int (iI l2)), some (.int (iI l3)), some (.int (iI l4))] [] S (qi V) (qj J) (qP_iV S J Q) := by
  intro f
  induction f with
  | zero =>
    intro l4 V hB z4 h
    exact h.elim
  | succ f ih =>
    intro l4 V hB z4 h
    rw [lp_X7_leastSettling_56] at h
    refine z_iload Q_X7_leastSettling (k := 34) rfl rfl ?_
    refine z_iload_n Q_X7_leastSettling (k := 35) rfl rfl ?_
    refine y_icmp_gt 106 Q_X7_leastSettling (k := 36) rfl (by decide) z4 z2 (fun c => ?_) (fun c => ?_)
    · replace h := h.1 c
      exact y_fg (zsb_c rfl (zsb_c rfl (zsb_c rfl (zsb_c rfl (zsb_c rfl zsb_e))))) (hK l4 V hB z4 h)
    · replace h := h.2 c
      refine z_iload Q_X7_leastSettling (k := 37) rfl rfl ?_
      refine z_iload_n Q_X7_leastSettling (k := 38) rfl rfl ?_
      refine y_iand Q_X7_leastSettling (k := 39) rfl ?_
      refine z_iload_n Q_X7_leastSettling (k := 40) rfl rfl ?_
      refine y_icmp_ne 100 Q_X7_leastSettling (k := 41) rfl (by decide) (zand_r _ _) z1 (fun c => ?_) (fun c => ?_)
      · replace h := h.2 c
        obtain ⟨q6, h⟩ := h
        refine y_iinc (L' := [some (.ref 159), some (.int (iI l1)), some (.int (iI l2)), some (.int (iI l3)), some (.int (iI (l4 + 1)))]) Q_X7_leastSettling (k := 58) rfl (by decide) rfl rfl ?_
        refine z_goto (tgt := 56) Q_X7_leastSettling (k := 59) rfl (by decide) ?_
        exact y_fg (zsb_c rfl (zsb_c rfl (zsb_c rfl (zsb_c rfl (zsb_c rfl zsb_e))))) (ih (l4 + 1) V hB q6 h)
      · replace h := h.1 c
        refine z_iload Q_X7_leastSettling (k := 42) rfl rfl ?_
        refine z_iload_n Q_X7_leastSettling (k := 43) rfl rfl ?_
        refine y_iconst Q_X7_leastSettling (k := 44) rfl ?_
        refine y_ixor Q_X7_leastSettling (k := 45) rfl ?_
        refine y_iand Q_X7_leastSettling (k := 46) rfl ?_
        refine y_if_ne 100 Q_X7_leastSettling (k := 47) rfl (by decide) (zand_r _ _) (fun c => ?_) (fun c => ?_)
        · replace h := h.2 c
          obtain ⟨q7, h⟩ := h
          refine y_iinc (L' := [some (.ref 159), some (.int (iI l1)), some (.int (iI l2)), some (.int (iI l3)), some (.int (iI (l4 + 1)))]) Q_X7_leastSettling (k := 58) rfl (by decide) rfl rfl ?_
          refine z_goto (tgt := 56) Q_X7_leastSettling (k := 59) rfl (by decide) ?_
          exact y_fg (zsb_c rfl (zsb_c rfl (zsb_c rfl (zsb_c rfl (zsb_c rfl zsb_e))))) (ih (l4 + 1) V hB q7 h)
        · replace h := h.1 c
          refine z_iload Q_X7_leastSettling (k := 48) rfl rfl ?_
          refine q_callS1_i Q_X7_leastSettling (k := 49) rfl rfl K_J6_bitCount_0f7a4 S_J6_bitCount_0f7a4 L_X7_62 (Nat.le_of_ble_eq_true rfl) (Nat.le_of_ble_eq_true rfl) rfl (Nat.zero_le _) (Nat.zero_le _) (w_J6_bitCount_0f7a4 (d + 1) hB z4 h) (fun r8 hz8 h => ?_)
          refine z_iload_n Q_X7_leastSettling (k := 50) rfl rfl ?_
          refine y_icmp_ne 100 Q_X7_leastSettling (k := 51) rfl (by decide) hz8 z3 (fun c => ?_) (fun c => ?_)
          · replace h := h.2 c
            obtain ⟨q9, h⟩ := h
            refine y_iinc (L' := [some (.ref 159), some (.int (iI l1)), some (.int (iI l2)), some (.int (iI l3)), some (.int (iI (l4 + 1)))]) Q_X7_leastSettling (k := 58) rfl (by decide) rfl rfl ?_
            refine z_goto (tgt := 56) Q_X7_leastSettling (k := 59) rfl (by decide) ?_
            exact y_fg (zsb_c rfl (zsb_c rfl (zsb_c rfl (zsb_c rfl (zsb_c rfl zsb_e))))) (ih (l4 + 1) V hB q9 h)
          · replace h := h.1 c
            refine z_aload_n Q_X7_leastSettling (k := 52) rfl rfl ?_
            refine z_iload Q_X7_leastSettling (k := 53) rfl rfl ?_
            refine q_callV1_zV Q_X7_leastSettling (k := 54) rfl rfl K_X7_settling V_X7_settling L_X7_67 (n_ hB.1 rfl) (k_159 hB.1) (Nat.le_of_ble_eq_true rfl) (Nat.le_of_ble_eq_true rfl) rfl (Nat.zero_le _) (Nat.zero_le _) (w_X7_settling (d + 1) hB z4 h) (fun r10 V10 hB10 hz10 hb10 h => ?_)
            refine y_if_eq 100 Q_X7_leastSettling (k := 55) rfl (by decide) hz10 (fun c => ?_) (fun c => ?_)
            · replace h := h.1 c
              obtain ⟨q11, h⟩ := h
              refine y_iinc (L' := [some (.ref 159), some (.int (iI l1)), some (.int (iI l2)), some (.int (iI l3)), some (.int (iI (l4 + 1)))]) Q_X7_leastSettling (k := 58) rfl (by decide) rfl rfl ?_
              refine z_goto (tgt := 56) Q_X7_leastSettling (k := 59) rfl (by decide) ?_
              exact y_fg (zsb_c rfl (zsb_c rfl (zsb_c rfl (zsb_c rfl (zsb_c rfl zsb_e))))) (ih (l4 + 1) V10 hB10 q11 h)
            · replace h := h.2 c
              refine z_iload Q_X7_leastSettling (k := 56) rfl rfl ?_
              exact y_iret Q_X7_leastSettling (k := 57) rfl rfl (qI_iV hB10 z4 h)
set_option maxHeartbeats 4000000 in
set_option maxRecDepth 20000 in
theorem v_X7_leastSettling_45 {S : zS} {J : qJ} {K : Int → qV → Prop} {Q : Int → qV → Prop} {kc ks : Nat} (d : Nat) {l1 : Int} (z1 : zr l1) {l2 : Int} (z2 : zr l2) (hK : ∀ (l3 : Int) (V : qV), qB S V → zr l3 → K l3 V → Z M_X7_leastSettling (d + 2) kc ks 112 [some (.ref 159), some (.int (iI l1)), some (.int (iI l2)), some (.int (iI l3)), none] [] S (qi V) (qj J) (qP_iV S J Q)) : ∀ (f : Nat) (l3 : Int) (V : qV), qB S V → zr l3 → lp_X7_leastSettling_45 l1 l2 K Q f l3 V → Z M_X7_leastSettling (d + 2) kc ks 45 [some (.ref 159), some (.int (iI l1)), some (.int (iI l2)), some (.int (iI l3)), none] [] S (qi V) (qj J) (qP_iV S J Q) := by
  intro f
  induction f with
  | zero =>
    intro l3 V hB z3 h
    exact h.elim
  | succ f ih =>
    intro l3 V hB z3 h
    rw [lp_X7_leastSettling_45] at h
    refine z_iload_n Q_X7_leastSettling (k := 28) rfl rfl ?_
    refine z_aload_n Q_X7_leastSettling (k := 29) rfl rfl ?_
    refine q_getI (o := 159) (z := 6) Q_X7_leastSettling (k := 30) rfl F_X7_51 rfl rfl rfl (n_ hB.1 rfl) (k_159 hB.1) ?_
    refine y_icmp_gt 112 Q_X7_leastSettling (k := 31) rfl (by decide) z3 (hB.2.1 _ _) (fun c => ?_) (fun c => ?_)
    · replace h := h.1 c
      exact y_fg (zsb_c rfl (zsb_c rfl (zsb_c rfl (zsb_c rfl (zsb_n zsb_e))))) (hK l3 V hB z3 h)
    · replace h := h.2 c
      refine z_iload_n Q_X7_leastSettling (k := 32) rfl rfl ?_
      refine y_istore (L' := [some (.ref 159), some (.int (iI l1)), some (.int (iI l2)), some (.int (iI l3)), some (.int (iI l1))]) Q_X7_leastSettling (k := 33) rfl (by decide) rfl ?_
      refine y_fg (zsb_c rfl (zsb_c rfl (zsb_c rfl (zsb_c rfl (zsb_c rfl zsb_e))))) (v_X7_leastSettling_56 d z1 z2 z3 (fun l4x12 V12 hB12 zl4x12 h => ?_) 100000 l1 V hB z1 h)
      obtain ⟨q13, h⟩ := h
      refine y_iinc (L' := [some (.ref 159), some (.int (iI l1)), some (.int (iI l2)), some (.int (iI (l3 + 1))), some (.int (iI l4x12))]) Q_X7_leastSettling (k := 60) rfl (by decide) rfl rfl ?_
      refine z_goto (tgt := 45) Q_X7_leastSettling (k := 61) rfl (by decide) ?_
      exact y_fg (zsb_c rfl (zsb_c rfl (zsb_c rfl (zsb_c rfl (zsb_n zsb_e))))) (ih (l3 + 1) V12 hB12 q13 h)
set_option maxHeartbeats 4000000 in
set_option maxRecDepth 20000 in
theorem w_X7_leastSettling {S : zS} {V : qV} {J : qJ} {Q : Int → qV → Prop} (d : Nat) (hB : qB S V) (h : W_X7_leastSettling V Q) : Z M_X7_leastSettling (d + 2) 0 0 0 [some (.ref 159), none, none, none, none] [] S (qi V) (qj J) (qP_iV S J Q) := by
  unfold W_X7_leastSettling at h
  refine z_aload_n Q_X7_leastSettling (k := 0) rfl rfl ?_
  refine q_callV0_i Q_X7_leastSettling (k := 1) rfl rfl K_X7_hanging V_X7_hanging L_X7_58 (n_ hB.1 rfl) (k_159 hB.1) (Nat.le_of_ble_eq_true rfl) (Nat.le_of_ble_eq_true rfl) rfl (Nat.zero_le _) (Nat.zero_le _) (w_X7_hanging d hB  h) (fun r1 hz1 h => ?_)
  refine y_istore_n (L' := [some (.ref 159), some (.int (iI r1)), none, none, none]) Q_X7_leastSettling (k := 2) rfl (by decide) rfl ?_
  refine y_iconst Q_X7_leastSettling (k := 3) rfl ?_
  refine y_istore_n (L' := [some (.ref 159), some (.int (iI r1)), some (.int (iI 0)), none, none]) Q_X7_leastSettling (k := 4) rfl (by decide) rfl ?_
  refine y_iconst Q_X7_leastSettling (k := 5) rfl ?_
  refine y_istore_n (L' := [some (.ref 159), some (.int (iI r1)), some (.int (iI 0)), some (.int (iI 0)), none]) Q_X7_leastSettling (k := 6) rfl (by decide) rfl ?_
  refine y_fg (zsb_c rfl (zsb_c rfl (zsb_c rfl (zsb_c rfl (zsb_n zsb_e))))) (v_X7_leastSettling_9 d hB hz1 (fun l2x4 l3x4 zl2x4 zl3x4 h => ?_) 100000 0 0 ⟨by decide, by decide⟩ ⟨by decide, by decide⟩ h)
  refine z_iload_n Q_X7_leastSettling (k := 25) rfl rfl ?_
  refine q_callS1_i Q_X7_leastSettling (k := 26) rfl rfl K_J6_bitCount_0f7a4 S_J6_bitCount_0f7a4 L_X7_62 (Nat.le_of_ble_eq_true rfl) (Nat.le_of_ble_eq_true rfl) rfl (Nat.zero_le _) (Nat.zero_le _) (w_J6_bitCount_0f7a4 (d + 1) hB hz1 h) (fun r5 hz5 h => ?_)
  refine y_istore_n (L' := [some (.ref 159), some (.int (iI r1)), some (.int (iI l2x4)), some (.int (iI r5)), none]) Q_X7_leastSettling (k := 27) rfl (by decide) rfl ?_
  refine y_fg (zsb_c rfl (zsb_c rfl (zsb_c rfl (zsb_c rfl (zsb_n zsb_e))))) (v_X7_leastSettling_45 d hz1 zl2x4 (fun l3x14 V14 hB14 zl3x14 h => ?_) 100000 r5 V hB hz5 h)
  refine z_iload_n Q_X7_leastSettling (k := 62) rfl rfl ?_
  exact y_iret Q_X7_leastSettling (k := 63) rfl rfl (qI_iV hB14 zl2x4 h)
set_option maxHeartbeats 4000000 in
set_option maxRecDepth 20000 in
theorem v_X7_powerOf_4 {S : zS} {V : qV} {J : qJ} {K : Int → Int → Prop} {Q : Int → Prop} {kc ks : Nat} (d : Nat) (hB : qB S V) {l0 : Int} (z0 : zr l0) (hK : ∀ (l1 : Int) (l2 : Int), zr l1 → zr l2 → K l1 l2 → Z M_X7_powerOf d kc ks 25 [some (.int (iI l0)), some (.int (iI l1)), some (.int (iI l2))] [] S (qi V) (qj J) (qP_i S V J Q)) : ∀ (f : Nat) (l1 : Int) (l2 : Int), zr l1 → zr l2 → lp_X7_powerOf_4 l0 V K f l1 l2 → Z M_X7_powerOf d kc ks 4 [some (.int (iI l0)), some (.int (iI l1)), some (.int (iI l2))] [] S (qi V) (qj J) (qP_i S V J Q) := by
  intro f
  induction f with
  | zero =>
    intro l1 l2 z1 z2 h
    exact h.elim
  | succ f ih =>
    intro l1 l2 z1 z2 h
    rw [lp_X7_powerOf_4] at h
    refine z_iload_n Q_X7_powerOf (k := 4) rfl rfl ?_
    refine z_iload_n Q_X7_powerOf (k := 5) rfl rfl ?_
    refine y_icmp_ge 25 Q_X7_powerOf (k := 6) rfl (by decide) z2 z0 (fun c => ?_) (fun c => ?_)
    · replace h := h.1 c
      exact y_fg (zsb_c rfl (zsb_c rfl (zsb_c rfl zsb_e))) (hK l1 l2 z1 z2 h)
    · replace h := h.2 c
      refine z_iload_n Q_X7_powerOf (k := 7) rfl rfl ?_
      refine y_bipush Q_X7_powerOf (k := 8) rfl (by decide) ?_
      refine y_icmp_ge 25 Q_X7_powerOf (k := 9) rfl (by decide) z2 ⟨by decide, by decide⟩ (fun c => ?_) (fun c => ?_)
      · replace h := h.1 c
        exact y_fg (zsb_c rfl (zsb_c rfl (zsb_c rfl zsb_e))) (hK l1 l2 z1 z2 h)
      · replace h := h.2 c
        refine z_iload_n Q_X7_powerOf (k := 10) rfl rfl ?_
        refine y_iconst Q_X7_powerOf (k := 11) rfl ?_
        obtain ⟨q1, h⟩ := h
        refine y_imul Q_X7_powerOf (k := 12) rfl ?_
        refine y_istore_n (L' := [some (.int (iI l0)), some (.int (iI (l1 * 3))), some (.int (iI l2))]) Q_X7_powerOf (k := 13) rfl (by decide) rfl ?_
        obtain ⟨q2, h⟩ := h
        refine y_iinc (L' := [some (.int (iI l0)), some (.int (iI (l1 * 3))), some (.int (iI (l2 + 1)))]) Q_X7_powerOf (k := 14) rfl (by decide) rfl rfl ?_
        refine z_goto (tgt := 4) Q_X7_powerOf (k := 15) rfl (by decide) ?_
        exact y_fg (zsb_c rfl (zsb_c rfl (zsb_c rfl zsb_e))) (ih (l1 * 3) (l2 + 1) q1 q2 h)
set_option maxHeartbeats 4000000 in
set_option maxRecDepth 20000 in
theorem w_X7_powerOf {S : zS} {V : qV} {J : qJ} {Q : Int → Prop} (d : Nat) (hB : qB S V) {a0 : Int} (z0 : zr a0) (h : W_X7_powerOf a0 V Q) : Z M_X7_powerOf d 0 0 0 [some (.int (iI a0)), none, none] [] S (qi V) (qj J) (qP_i S V J Q) := by
  unfold W_X7_powerOf at h
  refine y_iconst Q_X7_powerOf (k := 0) rfl ?_
  refine y_istore_n (L' := [some (.int (iI a0)), some (.int (iI 1)), none]) Q_X7_powerOf (k := 1) rfl (by decide) rfl ?_
  refine y_iconst Q_X7_powerOf (k := 2) rfl ?_
  refine y_istore_n (L' := [some (.int (iI a0)), some (.int (iI 1)), some (.int (iI 0))]) Q_X7_powerOf (k := 3) rfl (by decide) rfl ?_
  refine y_fg (zsb_c rfl (zsb_c rfl (zsb_c rfl zsb_e))) (v_X7_powerOf_4 d hB z0 (fun l1x3 l2x3 zl1x3 zl2x3 h => ?_) 100000 1 0 ⟨by decide, by decide⟩ ⟨by decide, by decide⟩ h)
  refine z_iload_n Q_X7_powerOf (k := 16) rfl rfl ?_
  exact y_iret Q_X7_powerOf (k := 17) rfl rfl (qI_i zl1x3 h)
set_option maxHeartbeats 4000000 in
set_option maxRecDepth 20000 in
theorem v_X7_firstFree_2 {S : zS} {V : qV} {J : qJ} {K : Int → Prop} {Q : Int → Prop} {kc ks : Nat} (d : Nat) (hB : qB S V) (hK : ∀ (l1 : Int), zr l1 → K l1 → Z M_X7_firstFree d kc ks 34 [some (.ref 159), some (.int (iI l1))] [] S (qi V) (qj J) (qP_i S V J Q)) : ∀ (f : Nat) (l1 : Int), zr l1 → lp_X7_firstFree_2 V K Q f l1 → Z M_X7_firstFree d kc ks 2 [some (.ref 159), some (.int (iI l1))] [] S (qi V) (qj J) (qP_i S V J Q) := by
  intro f
  induction f with
  | zero =>
    intro l1 z1 h
    exact h.elim
  | succ f ih =>
    intro l1 z1 h
    rw [lp_X7_firstFree_2] at h
    refine z_iload_n Q_X7_firstFree (k := 2) rfl rfl ?_
    refine z_aload_n Q_X7_firstFree (k := 3) rfl rfl ?_
    refine q_getI (o := 159) (z := 6) Q_X7_firstFree (k := 4) rfl F_X7_51 rfl rfl rfl (n_ hB.1 rfl) (k_159 hB.1) ?_
    refine y_icmp_ge 34 Q_X7_firstFree (k := 5) rfl (by decide) z1 (hB.2.1 _ _) (fun c => ?_) (fun c => ?_)
    · replace h := h.1 c
      exact y_fg (zsb_c rfl (zsb_c rfl zsb_e)) (hK l1 z1 h)
    · replace h := h.2 c
      refine z_iload_n Q_X7_firstFree (k := 6) rfl rfl ?_
      refine y_bipush Q_X7_firstFree (k := 7) rfl (by decide) ?_
      refine y_icmp_ge 34 Q_X7_firstFree (k := 8) rfl (by decide) z1 ⟨by decide, by decide⟩ (fun c => ?_) (fun c => ?_)
      · replace h := h.1 c
        exact y_fg (zsb_c rfl (zsb_c rfl zsb_e)) (hK l1 z1 h)
      · replace h := h.2 c
        refine z_aload_n Q_X7_firstFree (k := 9) rfl rfl ?_
        refine z_getR (b := 165) Q_X7_firstFree (k := 10) rfl F_X7_28 rfl (n_ hB.1 rfl) (k_159 hB.1) (r_159_10 hB.1) ?_
        refine z_iload_n Q_X7_firstFree (k := 11) rfl rfl ?_
        obtain ⟨q1, h⟩ := h
        refine q_iald (o := 165) (N := 10) Q_X7_firstFree (k := 12) rfl rfl (n_ hB.1 rfl) (k_165 hB.1) rfl q1 (by decide) ?_
        refine y_iconst Q_X7_firstFree (k := 13) rfl ?_
        refine y_icmp_ne 28 Q_X7_firstFree (k := 14) rfl (by decide) (hB.2.1 _ _) ⟨by decide, by decide⟩ (fun c => ?_) (fun c => ?_)
        · replace h := h.2 c
          obtain ⟨q2, h⟩ := h
          refine y_iinc (L' := [some (.ref 159), some (.int (iI (l1 + 1)))]) Q_X7_firstFree (k := 17) rfl (by decide) rfl rfl ?_
          refine z_goto (tgt := 2) Q_X7_firstFree (k := 18) rfl (by decide) ?_
          exact y_fg (zsb_c rfl (zsb_c rfl zsb_e)) (ih (l1 + 1) q2 h)
        · replace h := h.1 c
          refine z_iload_n Q_X7_firstFree (k := 15) rfl rfl ?_
          exact y_iret Q_X7_firstFree (k := 16) rfl rfl (qI_i z1 h)
set_option maxHeartbeats 4000000 in
set_option maxRecDepth 20000 in
theorem w_X7_firstFree {S : zS} {V : qV} {J : qJ} {Q : Int → Prop} (d : Nat) (hB : qB S V) (h : W_X7_firstFree V Q) : Z M_X7_firstFree d 0 0 0 [some (.ref 159), none] [] S (qi V) (qj J) (qP_i S V J Q) := by
  unfold W_X7_firstFree at h
  refine y_iconst Q_X7_firstFree (k := 0) rfl ?_
  refine y_istore_n (L' := [some (.ref 159), some (.int (iI 0))]) Q_X7_firstFree (k := 1) rfl (by decide) rfl ?_
  refine y_fg (zsb_c rfl (zsb_c rfl zsb_e)) (v_X7_firstFree_2 d hB (fun l1x3 zl1x3 h => ?_) 100000 0 ⟨by decide, by decide⟩ h)
  refine y_iconst Q_X7_firstFree (k := 19) rfl ?_
  exact y_iret Q_X7_firstFree (k := 20) rfl rfl (qI_i ⟨by decide, by decide⟩ h)
set_option maxHeartbeats 4000000 in
set_option maxRecDepth 20000 in
theorem v_X7_worldOfDigits_7 {S : zS} {V : qV} {J : qJ} {K : Int → Int → Prop} {Q : Int → Prop} {kc ks : Nat} (d : Nat) (hB : qB S V) (hK : ∀ (l1 : Int) (l2 : Int), zr l1 → zr l2 → K l1 l2 → Z M_X7_worldOfDigits d kc ks 48 [some (.ref 159), some (.int (iI l1)), some (.int (iI l2))] [] S (qi V) (qj J) (qP_i S V J Q)) : ∀ (f : Nat) (l1 : Int) (l2 : Int), zr l1 → zr l2 → lp_X7_worldOfDigits_7 V K f l1 l2 → Z M_X7_worldOfDigits d kc ks 7 [some (.ref 159), some (.int (iI l1)), some (.int (iI l2))] [] S (qi V) (qj J) (qP_i S V J Q) := by
  intro f
  induction f with
  | zero =>
    intro l1 l2 z1 z2 h
    exact h.elim
  | succ f ih =>
    intro l1 l2 z1 z2 h
    rw [lp_X7_worldOfDigits_7] at h
    refine z_iload_n Q_X7_worldOfDigits (k := 5) rfl rfl ?_
    refine z_aload_n Q_X7_worldOfDigits (k := 6) rfl rfl ?_
    refine q_getI (o := 159) (z := 6) Q_X7_worldOfDigits (k := 7) rfl F_X7_51 rfl rfl rfl (n_ hB.1 rfl) (k_159 hB.1) ?_
    refine y_icmp_ge 48 Q_X7_worldOfDigits (k := 8) rfl (by decide) z2 (hB.2.1 _ _) (fun c => ?_) (fun c => ?_)
    · replace h := h.1 c
      exact y_fg (zsb_c rfl (zsb_c rfl (zsb_c rfl zsb_e))) (hK l1 l2 z1 z2 h)
    · replace h := h.2 c
      refine z_iload_n Q_X7_worldOfDigits (k := 9) rfl rfl ?_
      refine y_bipush Q_X7_worldOfDigits (k := 10) rfl (by decide) ?_
      refine y_icmp_ge 48 Q_X7_worldOfDigits (k := 11) rfl (by decide) z2 ⟨by decide, by decide⟩ (fun c => ?_) (fun c => ?_)
      · replace h := h.1 c
        exact y_fg (zsb_c rfl (zsb_c rfl (zsb_c rfl zsb_e))) (hK l1 l2 z1 z2 h)
      · replace h := h.2 c
        refine z_aload_n Q_X7_worldOfDigits (k := 12) rfl rfl ?_
        refine z_getR (b := 165) Q_X7_worldOfDigits (k := 13) rfl F_X7_28 rfl (n_ hB.1 rfl) (k_159 hB.1) (r_159_10 hB.1) ?_
        refine z_iload_n Q_X7_worldOfDigits (k := 14) rfl rfl ?_
        obtain ⟨q1, h⟩ := h
        refine q_iald (o := 165) (N := 10) Q_X7_worldOfDigits (k := 15) rfl rfl (n_ hB.1 rfl) (k_165 hB.1) rfl q1 (by decide) ?_
        refine y_iconst Q_X7_worldOfDigits (k := 16) rfl ?_
        refine y_icmp_ne 42 Q_X7_worldOfDigits (k := 17) rfl (by decide) (hB.2.1 _ _) ⟨by decide, by decide⟩ (fun c => ?_) (fun c => ?_)
        · replace h := h.2 c
          obtain ⟨q2, h⟩ := h
          refine y_iinc (L' := [some (.ref 159), some (.int (iI l1)), some (.int (iI (l2 + 1)))]) Q_X7_worldOfDigits (k := 27) rfl (by decide) rfl rfl ?_
          refine z_goto (tgt := 7) Q_X7_worldOfDigits (k := 28) rfl (by decide) ?_
          exact y_fg (zsb_c rfl (zsb_c rfl (zsb_c rfl zsb_e))) (ih l1 (l2 + 1) z1 q2 h)
        · replace h := h.1 c
          refine z_iload_n Q_X7_worldOfDigits (k := 18) rfl rfl ?_
          refine y_iconst Q_X7_worldOfDigits (k := 19) rfl ?_
          refine z_aload_n Q_X7_worldOfDigits (k := 20) rfl rfl ?_
          refine z_getR (b := 162) Q_X7_worldOfDigits (k := 21) rfl F_X7_19 rfl (n_ hB.1 rfl) (k_159 hB.1) (r_159_5 hB.1) ?_
          refine z_iload_n Q_X7_worldOfDigits (k := 22) rfl rfl ?_
          obtain ⟨q3, h⟩ := h
          refine q_iald (o := 162) (N := 10) Q_X7_worldOfDigits (k := 23) rfl rfl (n_ hB.1 rfl) (k_162 hB.1) rfl q3 (by decide) ?_
          refine y_ishl Q_X7_worldOfDigits (k := 24) rfl ?_
          refine y_ior Q_X7_worldOfDigits (k := 25) rfl ?_
          refine y_istore_n (L' := [some (.ref 159), some (.int (iI (zor l1 (zshl 1 (V 162 l2))))), some (.int (iI l2))]) Q_X7_worldOfDigits (k := 26) rfl (by decide) rfl ?_
          obtain ⟨q4, h⟩ := h
          refine y_iinc (L' := [some (.ref 159), some (.int (iI (zor l1 (zshl 1 (V 162 l2))))), some (.int (iI (l2 + 1)))]) Q_X7_worldOfDigits (k := 27) rfl (by decide) rfl rfl ?_
          refine z_goto (tgt := 7) Q_X7_worldOfDigits (k := 28) rfl (by decide) ?_
          exact y_fg (zsb_c rfl (zsb_c rfl (zsb_c rfl zsb_e))) (ih (zor l1 (zshl 1 (V 162 l2))) (l2 + 1) (zor_r _ _) q4 h)
set_option maxHeartbeats 4000000 in
set_option maxRecDepth 20000 in
theorem w_X7_worldOfDigits {S : zS} {V : qV} {J : qJ} {Q : Int → Prop} (d : Nat) (hB : qB S V) (h : W_X7_worldOfDigits V Q) : Z M_X7_worldOfDigits d 0 0 0 [some (.ref 159), none, none] [] S (qi V) (qj J) (qP_i S V J Q) := by
  unfold W_X7_worldOfDigits at h
  refine z_aload_n Q_X7_worldOfDigits (k := 0) rfl rfl ?_
  refine q_getI (o := 159) (z := 4) Q_X7_worldOfDigits (k := 1) rfl F_X7_35 rfl rfl rfl (n_ hB.1 rfl) (k_159 hB.1) ?_
  refine y_istore_n (L' := [some (.ref 159), some (.int (iI (V 159 4))), none]) Q_X7_worldOfDigits (k := 2) rfl (by decide) rfl ?_
  refine y_iconst Q_X7_worldOfDigits (k := 3) rfl ?_
  refine y_istore_n (L' := [some (.ref 159), some (.int (iI (V 159 4))), some (.int (iI 0))]) Q_X7_worldOfDigits (k := 4) rfl (by decide) rfl ?_
  refine y_fg (zsb_c rfl (zsb_c rfl (zsb_c rfl zsb_e))) (v_X7_worldOfDigits_7 d hB (fun l1x5 l2x5 zl1x5 zl2x5 h => ?_) 100000 (V 159 4) 0 (hB.2.1 _ _) ⟨by decide, by decide⟩ h)
  refine z_iload_n Q_X7_worldOfDigits (k := 29) rfl rfl ?_
  refine y_sipush Q_X7_worldOfDigits (k := 30) rfl (by decide) ?_
  refine y_iand Q_X7_worldOfDigits (k := 31) rfl ?_
  exact y_iret Q_X7_worldOfDigits (k := 32) rfl rfl (qI_i (zand_r _ _) h)
set_option maxHeartbeats 4000000 in
set_option maxRecDepth 20000 in
theorem w_X7_valueAt {S : zS} {V : qV} {J : qJ} {Q : Int → Prop} (d : Nat) (hB : qB S V) {a1 : Int} (z1 : zr a1) (h : W_X7_valueAt a1 V Q) : Z M_X7_valueAt d 0 0 0 [some (.ref 159), some (.int (iI a1))] [] S (qi V) (qj J) (qP_i S V J Q) := by
  unfold W_X7_valueAt at h
  refine z_iload_n Q_X7_valueAt (k := 0) rfl rfl ?_
  refine y_if_lt 22 Q_X7_valueAt (k := 1) rfl (by decide) z1 (fun c => ?_) (fun c => ?_)
  · replace h := h.1 c
    refine y_iconst Q_X7_valueAt (k := 12) rfl ?_
    exact y_iret Q_X7_valueAt (k := 13) rfl rfl (qI_i ⟨by decide, by decide⟩ h)
  · replace h := h.2 c
    refine z_iload_n Q_X7_valueAt (k := 2) rfl rfl ?_
    refine z_aload_n Q_X7_valueAt (k := 3) rfl rfl ?_
    refine z_getR (b := (V 159 7).toNat) Q_X7_valueAt (k := 4) rfl F_X7_22 rfl (n_ hB.1 rfl) (k_159 hB.1) hB.2.2.2.1.2.1 ?_
    refine q_alen (t := 2) Q_X7_valueAt (k := 5) rfl hB.2.2.2.1.1.2.1 hB.2.2.2.1.1.2.2.1 rfl (Int.toNat_of_nonneg (by have := hB.2.2.2.1.2.2.1; omega)) ?_
    refine y_icmp_ge 22 Q_X7_valueAt (k := 6) rfl (by decide) z1 (hB.2.1 _ _) (fun c => ?_) (fun c => ?_)
    · replace h := h.1 c
      refine y_iconst Q_X7_valueAt (k := 12) rfl ?_
      exact y_iret Q_X7_valueAt (k := 13) rfl rfl (qI_i ⟨by decide, by decide⟩ h)
    · replace h := h.2 c
      refine z_aload_n Q_X7_valueAt (k := 7) rfl rfl ?_
      refine z_getR (b := (V 159 7).toNat) Q_X7_valueAt (k := 8) rfl F_X7_22 rfl (n_ hB.1 rfl) (k_159 hB.1) hB.2.2.2.1.2.1 ?_
      refine z_iload_n Q_X7_valueAt (k := 9) rfl rfl ?_
      obtain ⟨q1, h⟩ := h
      refine q_bald (o := V 159 7) Q_X7_valueAt (k := 10) rfl (Int.toNat_of_nonneg hB.2.2.2.1.1.1) hB.2.2.2.1.1.2.1 hB.2.2.2.1.1.2.2.1 (Int.toNat_of_nonneg (by have := hB.2.2.2.1.2.2.1; omega)) q1 (by have := hB.2.2.2.1.2.2.2; omega) ?_
      refine z_goto (tgt := 23) Q_X7_valueAt (k := 11) rfl (by decide) ?_
      exact y_iret Q_X7_valueAt (k := 13) rfl rfl (qI_i (hB.2.1 _ _) h)
set_option maxHeartbeats 4000000 in
set_option maxRecDepth 20000 in
theorem w_X7_questionsIn {S : zS} {V : qV} {J : qJ} {Q : Int → Prop} (d : Nat) (hB : qB S V) {a1 : Int} (z1 : zr a1) (h : W_X7_questionsIn a1 V Q) : Z M_X7_questionsIn d 0 0 0 [some (.ref 159), some (.int (iI a1))] [] S (qi V) (qj J) (qP_i S V J Q) := by
  unfold W_X7_questionsIn at h
  refine z_iload_n Q_X7_questionsIn (k := 0) rfl rfl ?_
  refine y_if_lt 28 Q_X7_questionsIn (k := 1) rfl (by decide) z1 (fun c => ?_) (fun c => ?_)
  · replace h := h.1 c
    refine y_iconst Q_X7_questionsIn (k := 16) rfl ?_
    exact y_iret Q_X7_questionsIn (k := 17) rfl rfl (qI_i ⟨by decide, by decide⟩ h)
  · replace h := h.2 c
    refine z_iload_n Q_X7_questionsIn (k := 2) rfl rfl ?_
    refine z_aload_n Q_X7_questionsIn (k := 3) rfl rfl ?_
    refine z_getR (b := (V 159 7).toNat) Q_X7_questionsIn (k := 4) rfl F_X7_22 rfl (n_ hB.1 rfl) (k_159 hB.1) hB.2.2.2.1.2.1 ?_
    refine q_alen (t := 2) Q_X7_questionsIn (k := 5) rfl hB.2.2.2.1.1.2.1 hB.2.2.2.1.1.2.2.1 rfl (Int.toNat_of_nonneg (by have := hB.2.2.2.1.2.2.1; omega)) ?_
    refine y_icmp_ge 28 Q_X7_questionsIn (k := 6) rfl (by decide) z1 (hB.2.1 _ _) (fun c => ?_) (fun c => ?_)
    · replace h := h.1 c
      refine y_iconst Q_X7_questionsIn (k := 16) rfl ?_
      exact y_iret Q_X7_questionsIn (k := 17) rfl rfl (qI_i ⟨by decide, by decide⟩ h)
    · replace h := h.2 c
      refine y_iconst Q_X7_questionsIn (k := 7) rfl ?_
      refine z_aload_n Q_X7_questionsIn (k := 8) rfl rfl ?_
      refine z_getR (b := (V 159 7).toNat) Q_X7_questionsIn (k := 9) rfl F_X7_22 rfl (n_ hB.1 rfl) (k_159 hB.1) hB.2.2.2.1.2.1 ?_
      refine z_iload_n Q_X7_questionsIn (k := 10) rfl rfl ?_
      obtain ⟨q1, h⟩ := h
      refine q_bald (o := V 159 7) Q_X7_questionsIn (k := 11) rfl (Int.toNat_of_nonneg hB.2.2.2.1.1.1) hB.2.2.2.1.1.2.1 hB.2.2.2.1.1.2.2.1 (Int.toNat_of_nonneg (by have := hB.2.2.2.1.2.2.1; omega)) q1 (by have := hB.2.2.2.1.2.2.2; omega) ?_
      refine y_iconst Q_X7_questionsIn (k := 12) rfl ?_
      obtain ⟨q2, h⟩ := h
      refine y_isub Q_X7_questionsIn (k := 13) rfl ?_
      refine y_max Q_X7_questionsIn (k := 14) rfl L_X7_110 G_max (Nat.le_of_ble_eq_true rfl) ⟨by decide, by decide⟩ q2 ?_
      refine z_goto (tgt := 29) Q_X7_questionsIn (k := 15) rfl (by decide) ?_
      exact y_iret Q_X7_questionsIn (k := 17) rfl rfl (qI_i (q_mx ⟨by decide, by decide⟩ q2) h)
set_option maxHeartbeats 4000000 in
set_option maxRecDepth 20000 in
theorem w_X7_questionsBy {S : zS} {V : qV} {J : qJ} {Q : Int → Prop} (d : Nat) (hB : qB S V) {a1 : Int} (z1 : zr a1) {a2 : Int} (z2 : zr a2) (h : W_X7_questionsBy a1 a2 V Q) : Z M_X7_questionsBy (d + 1) 0 0 0 [some (.ref 159), some (.int (iI a1)), some (.int (iI a2))] [] S (qi V) (qj J) (qP_i S V J Q) := by
  unfold W_X7_questionsBy at h
  refine y_iconst Q_X7_questionsBy (k := 0) rfl ?_
  refine z_aload_n Q_X7_questionsBy (k := 1) rfl rfl ?_
  refine z_iload_n Q_X7_questionsBy (k := 2) rfl rfl ?_
  refine y_iconst Q_X7_questionsBy (k := 3) rfl ?_
  refine z_aload_n Q_X7_questionsBy (k := 4) rfl rfl ?_
  refine z_getR (b := 164) Q_X7_questionsBy (k := 5) rfl F_X7_25 rfl (n_ hB.1 rfl) (k_159 hB.1) (r_159_9 hB.1) ?_
  refine z_iload_n Q_X7_questionsBy (k := 6) rfl rfl ?_
  obtain ⟨q1, h⟩ := h
  refine q_iald (o := 164) (N := 10) Q_X7_questionsBy (k := 7) rfl rfl (n_ hB.1 rfl) (k_164 hB.1) rfl q1 (by decide) ?_
  obtain ⟨q2, h⟩ := h
  refine y_imul Q_X7_questionsBy (k := 8) rfl ?_
  obtain ⟨q3, h⟩ := h
  refine y_isub Q_X7_questionsBy (k := 9) rfl ?_
  refine q_callV1_i Q_X7_questionsBy (k := 10) rfl rfl K_X7_questionsIn V_X7_questionsIn L_X7_80 (n_ hB.1 rfl) (k_159 hB.1) (Nat.le_of_ble_eq_true rfl) (Nat.le_of_ble_eq_true rfl) rfl (Nat.zero_le _) (Nat.zero_le _) (w_X7_questionsIn d hB q3 h) (fun r4 hz4 h => ?_)
  refine z_aload_n Q_X7_questionsBy (k := 11) rfl rfl ?_
  refine z_iload_n Q_X7_questionsBy (k := 12) rfl rfl ?_
  refine z_aload_n Q_X7_questionsBy (k := 13) rfl rfl ?_
  refine z_getR (b := 164) Q_X7_questionsBy (k := 14) rfl F_X7_25 rfl (n_ hB.1 rfl) (k_159 hB.1) (r_159_9 hB.1) ?_
  refine z_iload_n Q_X7_questionsBy (k := 15) rfl rfl ?_
  obtain ⟨q5, h⟩ := h
  refine q_iald (o := 164) (N := 10) Q_X7_questionsBy (k := 16) rfl rfl (n_ hB.1 rfl) (k_164 hB.1) rfl q5 (by decide) ?_
  obtain ⟨q6, h⟩ := h
  refine y_isub Q_X7_questionsBy (k := 17) rfl ?_
  refine q_callV1_i Q_X7_questionsBy (k := 18) rfl rfl K_X7_questionsIn V_X7_questionsIn L_X7_80 (n_ hB.1 rfl) (k_159 hB.1) (Nat.le_of_ble_eq_true rfl) (Nat.le_of_ble_eq_true rfl) rfl (Nat.zero_le _) (Nat.zero_le _) (w_X7_questionsIn d hB q6 h) (fun r7 hz7 h => ?_)
  refine y_max Q_X7_questionsBy (k := 19) rfl L_X7_110 G_max (Nat.le_of_ble_eq_true rfl) hz4 hz7 ?_
  obtain ⟨q8, h⟩ := h
  refine y_iadd Q_X7_questionsBy (k := 20) rfl ?_
  exact y_iret Q_X7_questionsBy (k := 21) rfl rfl (qI_i q8 h)
set_option maxHeartbeats 4000000 in
set_option maxRecDepth 20000 in
theorem v_X7_cubeValue_85 {S : zS} {V : qV} {J : qJ} {K : Int → Int → Prop} {Q : Int → Prop} {kc ks : Nat} (d : Nat) (hB : qB S V) {l1 : Int} (z1 : zr l1) (hK : ∀ (l5 : Int) (l6 : Int), zr l5 → zr l6 → K l5 l6 → Z M_X7_cubeValue (d + 2) kc ks 132 [some (.ref 159), some (.int (iI l1)), none, none, none, some (.int (iI l5)), some (.int (iI l6))] [] S (qi V) (qj J) (qP_i S V J Q)) : ∀ (f : Nat) (l5 : Int) (l6 : Int), zr l5 → zr l6 → lp_X7_cubeValue_85 l1 V K f l5 l6 → Z M_X7_cubeValue (d + 2) kc ks 85 [some (.ref 159), some (.int (iI l1)), none, none, none, some (.int (iI l5)), some (.int (iI l6))] [] S (qi V) (qj J) (qP_i S V J Q) := by
  intro f
  induction f with
  | zero =>
    intro l5 l6 z5 z6 h
    exact h.elim
  | succ f ih =>
    intro l5 l6 z5 z6 h
    rw [lp_X7_cubeValue_85] at h
    refine z_iload Q_X7_cubeValue (k := 52) rfl rfl ?_
    refine z_aload_n Q_X7_cubeValue (k := 53) rfl rfl ?_
    refine q_getI (o := 159) (z := 6) Q_X7_cubeValue (k := 54) rfl F_X7_51 rfl rfl rfl (n_ hB.1 rfl) (k_159 hB.1) ?_
    refine y_icmp_ge 132 Q_X7_cubeValue (k := 55) rfl (by decide) z6 (hB.2.1 _ _) (fun c => ?_) (fun c => ?_)
    · replace h := h.1 c
      exact y_fg (zsb_c rfl (zsb_c rfl (zsb_n (zsb_n (zsb_n (zsb_c rfl (zsb_c rfl zsb_e))))))) (hK l5 l6 z5 z6 h)
    · replace h := h.2 c
      refine z_iload Q_X7_cubeValue (k := 56) rfl rfl ?_
      refine y_bipush Q_X7_cubeValue (k := 57) rfl (by decide) ?_
      refine y_icmp_ge 132 Q_X7_cubeValue (k := 58) rfl (by decide) z6 ⟨by decide, by decide⟩ (fun c => ?_) (fun c => ?_)
      · replace h := h.1 c
        exact y_fg (zsb_c rfl (zsb_c rfl (zsb_n (zsb_n (zsb_n (zsb_c rfl (zsb_c rfl zsb_e))))))) (hK l5 l6 z5 z6 h)
      · replace h := h.2 c
        refine z_aload_n Q_X7_cubeValue (k := 59) rfl rfl ?_
        refine z_getR (b := 165) Q_X7_cubeValue (k := 60) rfl F_X7_28 rfl (n_ hB.1 rfl) (k_159 hB.1) (r_159_10 hB.1) ?_
        refine z_iload Q_X7_cubeValue (k := 61) rfl rfl ?_
        obtain ⟨q10, h⟩ := h
        refine q_iald (o := 165) (N := 10) Q_X7_cubeValue (k := 62) rfl rfl (n_ hB.1 rfl) (k_165 hB.1) rfl q10 (by decide) ?_
        refine y_iconst Q_X7_cubeValue (k := 63) rfl ?_
        refine y_icmp_ne 126 Q_X7_cubeValue (k := 64) rfl (by decide) (hB.2.1 _ _) ⟨by decide, by decide⟩ (fun c => ?_) (fun c => ?_)
        · replace h := h.2 c
          obtain ⟨q11, h⟩ := h
          refine y_iinc (L' := [some (.ref 159), some (.int (iI l1)), none, none, none, some (.int (iI l5)), some (.int (iI (l6 + 1)))]) Q_X7_cubeValue (k := 72) rfl (by decide) rfl rfl ?_
          refine z_goto (tgt := 85) Q_X7_cubeValue (k := 73) rfl (by decide) ?_
          exact y_fg (zsb_c rfl (zsb_c rfl (zsb_n (zsb_n (zsb_n (zsb_c rfl (zsb_c rfl zsb_e))))))) (ih l5 (l6 + 1) z5 q11 h)
        · replace h := h.1 c
          refine z_iload Q_X7_cubeValue (k := 65) rfl rfl ?_
          refine z_aload_n Q_X7_cubeValue (k := 66) rfl rfl ?_
          refine z_iload_n Q_X7_cubeValue (k := 67) rfl rfl ?_
          refine z_iload Q_X7_cubeValue (k := 68) rfl rfl ?_
          refine q_callV2_i Q_X7_cubeValue (k := 69) rfl rfl K_X7_questionsBy V_X7_questionsBy L_X7_86 (n_ hB.1 rfl) (k_159 hB.1) (Nat.le_of_ble_eq_true rfl) (Nat.le_of_ble_eq_true rfl) rfl (Nat.zero_le _) (Nat.zero_le _) (w_X7_questionsBy d hB z1 z6 h) (fun r12 hz12 h => ?_)
          refine y_min Q_X7_cubeValue (k := 70) rfl L_X7_105 G_min (Nat.le_of_ble_eq_true rfl) z5 hz12 ?_
          refine y_istore (L' := [some (.ref 159), some (.int (iI l1)), none, none, none, some (.int (iI (min l5 r12))), some (.int (iI l6))]) Q_X7_cubeValue (k := 71) rfl (by decide) rfl ?_
          obtain ⟨q13, h⟩ := h
          refine y_iinc (L' := [some (.ref 159), some (.int (iI l1)), none, none, none, some (.int (iI (min l5 r12))), some (.int (iI (l6 + 1)))]) Q_X7_cubeValue (k := 72) rfl (by decide) rfl rfl ?_
          refine z_goto (tgt := 85) Q_X7_cubeValue (k := 73) rfl (by decide) ?_
          exact y_fg (zsb_c rfl (zsb_c rfl (zsb_n (zsb_n (zsb_n (zsb_c rfl (zsb_c rfl zsb_e))))))) (ih (min l5 r12) (l6 + 1) (q_mn z5 hz12) q13 h)
set_option maxHeartbeats 4000000 in
set_option maxRecDepth 20000 in
theorem w_X7_cubeValue {S : zS} {V : qV} {J : qJ} {Q : Int → Prop} (d : Nat) (hB : qB S V) {a1 : Int} (z1 : zr a1) (h : W_X7_cubeValue a1 V Q) : Z M_X7_cubeValue (d + 2) 0 0 0 [some (.ref 159), some (.int (iI a1)), none, none, none, none, none] [] S (qi V) (qj J) (qP_i S V J Q) := by
  unfold W_X7_cubeValue at h
  refine z_aload_n Q_X7_cubeValue (k := 0) rfl rfl ?_
  refine q_callV0_i Q_X7_cubeValue (k := 1) rfl rfl K_X7_firstFree V_X7_firstFree L_X7_96 (n_ hB.1 rfl) (k_159 hB.1) (Nat.le_of_ble_eq_true rfl) (Nat.le_of_ble_eq_true rfl) rfl (Nat.zero_le _) (Nat.zero_le _) (w_X7_firstFree (d + 1) hB  h) (fun r1 hz1 h => ?_)
  refine y_istore_n (L' := [some (.ref 159), some (.int (iI a1)), some (.int (iI r1)), none, none, none, none]) Q_X7_cubeValue (k := 2) rfl (by decide) rfl ?_
  refine z_iload_n Q_X7_cubeValue (k := 3) rfl rfl ?_
  refine y_iconst Q_X7_cubeValue (k := 4) rfl ?_
  refine y_icmp_ne 20 Q_X7_cubeValue (k := 5) rfl (by decide) hz1 ⟨by decide, by decide⟩ (fun c => ?_) (fun c => ?_)
  · replace h := h.2 c
    refine z_aload_n Q_X7_cubeValue (k := 12) rfl rfl ?_
    refine z_iload_n Q_X7_cubeValue (k := 13) rfl rfl ?_
    refine y_iconst Q_X7_cubeValue (k := 14) rfl ?_
    refine z_aload_n Q_X7_cubeValue (k := 15) rfl rfl ?_
    refine z_getR (b := 164) Q_X7_cubeValue (k := 16) rfl F_X7_25 rfl (n_ hB.1 rfl) (k_159 hB.1) (r_159_9 hB.1) ?_
    refine z_iload_n Q_X7_cubeValue (k := 17) rfl rfl ?_
    obtain ⟨q2, h⟩ := h
    refine q_iald (o := 164) (N := 10) Q_X7_cubeValue (k := 18) rfl rfl (n_ hB.1 rfl) (k_164 hB.1) rfl q2 (by decide) ?_
    obtain ⟨q3, h⟩ := h
    refine y_imul Q_X7_cubeValue (k := 19) rfl ?_
    obtain ⟨q4, h⟩ := h
    refine y_isub Q_X7_cubeValue (k := 20) rfl ?_
    refine q_callV1_i Q_X7_cubeValue (k := 21) rfl rfl K_X7_valueAt V_X7_valueAt L_X7_102 (n_ hB.1 rfl) (k_159 hB.1) (Nat.le_of_ble_eq_true rfl) (Nat.le_of_ble_eq_true rfl) rfl (Nat.zero_le _) (Nat.zero_le _) (w_X7_valueAt (d + 1) hB q4 h) (fun r5 hz5 h => ?_)
    refine y_istore_n (L' := [some (.ref 159), some (.int (iI a1)), some (.int (iI r1)), some (.int (iI r5)), none, none, none]) Q_X7_cubeValue (k := 22) rfl (by decide) rfl ?_
    refine z_aload_n Q_X7_cubeValue (k := 23) rfl rfl ?_
    refine z_iload_n Q_X7_cubeValue (k := 24) rfl rfl ?_
    refine z_aload_n Q_X7_cubeValue (k := 25) rfl rfl ?_
    refine z_getR (b := 164) Q_X7_cubeValue (k := 26) rfl F_X7_25 rfl (n_ hB.1 rfl) (k_159 hB.1) (r_159_9 hB.1) ?_
    refine z_iload_n Q_X7_cubeValue (k := 27) rfl rfl ?_
    obtain ⟨q6, h⟩ := h
    refine q_iald (o := 164) (N := 10) Q_X7_cubeValue (k := 28) rfl rfl (n_ hB.1 rfl) (k_164 hB.1) rfl q6 (by decide) ?_
    obtain ⟨q7, h⟩ := h
    refine y_isub Q_X7_cubeValue (k := 29) rfl ?_
    refine q_callV1_i Q_X7_cubeValue (k := 30) rfl rfl K_X7_valueAt V_X7_valueAt L_X7_102 (n_ hB.1 rfl) (k_159 hB.1) (Nat.le_of_ble_eq_true rfl) (Nat.le_of_ble_eq_true rfl) rfl (Nat.zero_le _) (Nat.zero_le _) (w_X7_valueAt (d + 1) hB q7 h) (fun r8 hz8 h => ?_)
    refine y_istore (L' := [some (.ref 159), some (.int (iI a1)), some (.int (iI r1)), some (.int (iI r5)), some (.int (iI r8)), none, none]) Q_X7_cubeValue (k := 31) rfl (by decide) rfl ?_
    refine z_iload_n Q_X7_cubeValue (k := 32) rfl rfl ?_
    refine y_if_eq 58 Q_X7_cubeValue (k := 33) rfl (by decide) hz5 (fun c => ?_) (fun c => ?_)
    · replace h := h.1 c
      refine z_iload_n Q_X7_cubeValue (k := 36) rfl rfl ?_
      refine z_iload Q_X7_cubeValue (k := 37) rfl rfl ?_
      obtain ⟨q9, h⟩ := h
      refine y_iadd Q_X7_cubeValue (k := 38) rfl ?_
      exact y_iret Q_X7_cubeValue (k := 39) rfl rfl (qI_i q9 h)
    · replace h := h.2 c
      refine z_iload Q_X7_cubeValue (k := 34) rfl rfl ?_
      refine y_if_ne 63 Q_X7_cubeValue (k := 35) rfl (by decide) hz8 (fun c => ?_) (fun c => ?_)
      · replace h := h.2 c
        refine z_iload_n Q_X7_cubeValue (k := 40) rfl rfl ?_
        refine z_iload Q_X7_cubeValue (k := 41) rfl rfl ?_
        refine y_icmp_ne 78 Q_X7_cubeValue (k := 42) rfl (by decide) hz5 hz8 (fun c => ?_) (fun c => ?_)
        · replace h := h.2 c
          refine y_bipush Q_X7_cubeValue (k := 48) rfl (by decide) ?_
          refine y_istore (L' := [some (.ref 159), some (.int (iI a1)), some (.int (iI r1)), some (.int (iI r5)), some (.int (iI r8)), some (.int (iI 10)), none]) Q_X7_cubeValue (k := 49) rfl (by decide) rfl ?_
          refine z_iload_n Q_X7_cubeValue (k := 50) rfl rfl ?_
          refine y_istore (L' := [some (.ref 159), some (.int (iI a1)), some (.int (iI r1)), some (.int (iI r5)), some (.int (iI r8)), some (.int (iI 10)), some (.int (iI r1))]) Q_X7_cubeValue (k := 51) rfl (by decide) rfl ?_
          refine y_fg (zsb_c rfl (zsb_c rfl (zsb_n (zsb_n (zsb_n (zsb_c rfl (zsb_c rfl zsb_e))))))) (v_X7_cubeValue_85 d hB z1 (fun l5x14 l6x14 zl5x14 zl6x14 h => ?_) 100000 10 r1 ⟨by decide, by decide⟩ hz1 h)
          refine y_iconst Q_X7_cubeValue (k := 74) rfl ?_
          refine z_iload Q_X7_cubeValue (k := 75) rfl rfl ?_
          obtain ⟨q15, h⟩ := h
          refine y_iadd Q_X7_cubeValue (k := 76) rfl ?_
          exact y_iret Q_X7_cubeValue (k := 77) rfl rfl (qI_i q15 h)
        · replace h := h.1 c
          refine z_iload Q_X7_cubeValue (k := 43) rfl rfl ?_
          refine y_iconst Q_X7_cubeValue (k := 44) rfl ?_
          refine y_icmp_gt 78 Q_X7_cubeValue (k := 45) rfl (by decide) hz8 ⟨by decide, by decide⟩ (fun c => ?_) (fun c => ?_)
          · replace h := h.1 c
            refine y_bipush Q_X7_cubeValue (k := 48) rfl (by decide) ?_
            refine y_istore (L' := [some (.ref 159), some (.int (iI a1)), some (.int (iI r1)), some (.int (iI r5)), some (.int (iI r8)), some (.int (iI 10)), none]) Q_X7_cubeValue (k := 49) rfl (by decide) rfl ?_
            refine z_iload_n Q_X7_cubeValue (k := 50) rfl rfl ?_
            refine y_istore (L' := [some (.ref 159), some (.int (iI a1)), some (.int (iI r1)), some (.int (iI r5)), some (.int (iI r8)), some (.int (iI 10)), some (.int (iI r1))]) Q_X7_cubeValue (k := 51) rfl (by decide) rfl ?_
            refine y_fg (zsb_c rfl (zsb_c rfl (zsb_n (zsb_n (zsb_n (zsb_c rfl (zsb_c rfl zsb_e))))))) (v_X7_cubeValue_85 d hB z1 (fun l5x16 l6x16 zl5x16 zl6x16 h => ?_) 100000 10 r1 ⟨by decide, by decide⟩ hz1 h)
            refine y_iconst Q_X7_cubeValue (k := 74) rfl ?_
            refine z_iload Q_X7_cubeValue (k := 75) rfl rfl ?_
            obtain ⟨q17, h⟩ := h
            refine y_iadd Q_X7_cubeValue (k := 76) rfl ?_
            exact y_iret Q_X7_cubeValue (k := 77) rfl rfl (qI_i q17 h)
          · replace h := h.2 c
            refine z_iload Q_X7_cubeValue (k := 46) rfl rfl ?_
            exact y_iret Q_X7_cubeValue (k := 47) rfl rfl (qI_i hz8 h)
      · replace h := h.1 c
        refine z_iload_n Q_X7_cubeValue (k := 36) rfl rfl ?_
        refine z_iload Q_X7_cubeValue (k := 37) rfl rfl ?_
        obtain ⟨q18, h⟩ := h
        refine y_iadd Q_X7_cubeValue (k := 38) rfl ?_
        exact y_iret Q_X7_cubeValue (k := 39) rfl rfl (qI_i q18 h)
  · replace h := h.1 c
    refine z_aload_n Q_X7_cubeValue (k := 6) rfl rfl ?_
    refine z_getR (b := 160) Q_X7_cubeValue (k := 7) rfl F_X7_9 rfl (n_ hB.1 rfl) (k_159 hB.1) (r_159_0 hB.1) ?_
    refine z_aload_n Q_X7_cubeValue (k := 8) rfl rfl ?_
    refine q_callV0_i Q_X7_cubeValue (k := 9) rfl rfl K_X7_worldOfDigits V_X7_worldOfDigits L_X7_99 (n_ hB.1 rfl) (k_159 hB.1) (Nat.le_of_ble_eq_true rfl) (Nat.le_of_ble_eq_true rfl) rfl (Nat.zero_le _) (Nat.zero_le _) (w_X7_worldOfDigits (d + 1) hB  h) (fun r19 hz19 h => ?_)
    obtain ⟨q20, h⟩ := h
    refine q_bald (o := 160) (N := 1024) Q_X7_cubeValue (k := 10) rfl rfl (n_ hB.1 rfl) (k_160 hB.1) rfl q20 (by decide) ?_
    exact y_iret Q_X7_cubeValue (k := 11) rfl rfl (qI_i (hB.2.1 _ _) h)
set_option maxHeartbeats 4000000 in
set_option maxRecDepth 20000 in
theorem v_X7_countOn_2 {S : zS} {J : qJ} {K : Int → qV → Prop} {Q : qV → Prop} {kc ks : Nat} (d : Nat) (hK : ∀ (l1 : Int) (V : qV), qB S V → zr l1 → K l1 V → Z M_X7_countOn d kc ks 42 [some (.ref 159), some (.int (iI l1))] [] S (qi V) (qj J) (qP_uV S J Q)) : ∀ (f : Nat) (l1 : Int) (V : qV), qB S V → zr l1 → lp_X7_countOn_2 K Q f l1 V → Z M_X7_countOn d kc ks 2 [some (.ref 159), some (.int (iI l1))] [] S (qi V) (qj J) (qP_uV S J Q) := by
  intro f
  induction f with
  | zero =>
    intro l1 V hB z1 h
    exact h.elim
  | succ f ih =>
    intro l1 V hB z1 h
    rw [lp_X7_countOn_2] at h
    refine z_iload_n Q_X7_countOn (k := 2) rfl rfl ?_
    refine y_bipush Q_X7_countOn (k := 3) rfl (by decide) ?_
    refine y_icmp_ge 42 Q_X7_countOn (k := 4) rfl (by decide) z1 ⟨by decide, by decide⟩ (fun c => ?_) (fun c => ?_)
    · replace h := h.1 c
      exact y_fg (zsb_c rfl (zsb_c rfl zsb_e)) (hK l1 V hB z1 h)
    · replace h := h.2 c
      refine z_aload_n Q_X7_countOn (k := 5) rfl rfl ?_
      refine z_getR (b := 165) Q_X7_countOn (k := 6) rfl F_X7_28 rfl (n_ hB.1 rfl) (k_159 hB.1) (r_159_10 hB.1) ?_
      refine z_iload_n Q_X7_countOn (k := 7) rfl rfl ?_
      obtain ⟨q1, h⟩ := h
      refine q_iald (o := 165) (N := 10) Q_X7_countOn (k := 8) rfl rfl (n_ hB.1 rfl) (k_165 hB.1) rfl q1 (by decide) ?_
      refine y_iconst Q_X7_countOn (k := 9) rfl ?_
      refine y_icmp_ge 29 Q_X7_countOn (k := 10) rfl (by decide) (hB.2.1 _ _) ⟨by decide, by decide⟩ (fun c => ?_) (fun c => ?_)
      · replace h := h.1 c
        refine z_aload_n Q_X7_countOn (k := 20) rfl rfl ?_
        refine z_getR (b := 165) Q_X7_countOn (k := 21) rfl F_X7_28 rfl (n_ hB.1 rfl) (k_159 hB.1) (r_159_10 hB.1) ?_
        refine z_iload_n Q_X7_countOn (k := 22) rfl rfl ?_
        refine y_iconst Q_X7_countOn (k := 23) rfl ?_
        obtain ⟨q2, h⟩ := h
        refine q_iast (o := 165) (N := 10) Q_X7_countOn (k := 24) rfl rfl (n_ hB.1 rfl) (k_165 hB.1) rfl q2 (by decide) ?_
        have hB3 := qB.u (a := 165) (j := l1) (x := 0) hB ⟨by decide, by decide⟩ (Or.inl (by decide))
        obtain ⟨q4, h⟩ := h
        refine y_iinc (L' := [some (.ref 159), some (.int (iI (l1 + 1)))]) Q_X7_countOn (k := 25) rfl (by decide) rfl rfl ?_
        refine z_goto (tgt := 2) Q_X7_countOn (k := 26) rfl (by decide) ?_
        exact y_fg (zsb_c rfl (zsb_c rfl zsb_e)) (ih (l1 + 1) (qu V 165 l1 0) hB3 q4 h)
      · replace h := h.2 c
        refine z_aload_n Q_X7_countOn (k := 11) rfl rfl ?_
        refine z_getR (b := 165) Q_X7_countOn (k := 12) rfl F_X7_28 rfl (n_ hB.1 rfl) (k_159 hB.1) (r_159_10 hB.1) ?_
        refine z_iload_n Q_X7_countOn (k := 13) rfl rfl ?_
        refine z_dup2 Q_X7_countOn (k := 14) rfl rfl rfl ?_
        obtain ⟨q5, h⟩ := h
        refine q_iald (o := 165) (N := 10) Q_X7_countOn (k := 15) rfl rfl (n_ hB.1 rfl) (k_165 hB.1) rfl q5 (by decide) ?_
        refine y_iconst Q_X7_countOn (k := 16) rfl ?_
        obtain ⟨q6, h⟩ := h
        refine y_iadd Q_X7_countOn (k := 17) rfl ?_
        obtain ⟨q7, h⟩ := h
        refine q_iast (o := 165) (N := 10) Q_X7_countOn (k := 18) rfl rfl (n_ hB.1 rfl) (k_165 hB.1) rfl q7 (by decide) ?_
        have hB8 := qB.u (a := 165) (j := l1) (x := (V 165 l1) + 1) hB q6 (Or.inl (by decide))
        exact z_vret Q_X7_countOn (k := 19) rfl rfl (qI_uV hB8 h)
set_option maxHeartbeats 4000000 in
set_option maxRecDepth 20000 in
theorem w_X7_countOn {S : zS} {V : qV} {J : qJ} {Q : qV → Prop} (d : Nat) (hB : qB S V) (h : W_X7_countOn V Q) : Z M_X7_countOn d 0 0 0 [some (.ref 159), none] [] S (qi V) (qj J) (qP_uV S J Q) := by
  unfold W_X7_countOn at h
  refine y_iconst Q_X7_countOn (k := 0) rfl ?_
  refine y_istore_n (L' := [some (.ref 159), some (.int (iI 0))]) Q_X7_countOn (k := 1) rfl (by decide) rfl ?_
  refine y_fg (zsb_c rfl (zsb_c rfl zsb_e)) (v_X7_countOn_2 d (fun l1x9 V9 hB9 zl1x9 h => ?_) 100000 0 V hB ⟨by decide, by decide⟩ h)
  exact z_vret Q_X7_countOn (k := 27) rfl rfl (qI_uV hB9 h)
set_option maxHeartbeats 4000000 in
set_option maxRecDepth 20000 in
theorem v_X7_fillCubes_34 {S S0 : zS} {J : qJ} {K : Int → qV → Prop} {Q : qV → Prop} {kc ks : Nat} (d : Nat) (hn : S0.2.2 ≤ S.2.2) {l1 : Int} (z1 : zr l1) (hK : ∀ (l2 : Int) (V : qV), qB S V → zr l2 → K l2 V → Z M_X7_fillCubes (d + 3) kc ks 63 [some (.ref 159), some (.int (iI l1)), some (.int (iI l2))] [] S (qi V) (qj J) (qP_uCV S0 J Q)) : ∀ (f : Nat) (l2 : Int) (V : qV), qB S V → zr l2 → lp_X7_fillCubes_34 l1 K f l2 V → Z M_X7_fillCubes (d + 3) kc ks 34 [some (.ref 159), some (.int (iI l1)), some (.int (iI l2))] [] S (qi V) (qj J) (qP_uCV S0 J Q) := by
  intro f
  induction f with
  | zero =>
    intro l2 V hB z2 h
    exact h.elim
  | succ f ih =>
    intro l2 V hB z2 h
    rw [lp_X7_fillCubes_34] at h
    refine z_iload_n Q_X7_fillCubes (k := 19) rfl rfl ?_
    refine y_bipush Q_X7_fillCubes (k := 20) rfl (by decide) ?_
    refine y_icmp_ge 63 Q_X7_fillCubes (k := 21) rfl (by decide) z2 ⟨by decide, by decide⟩ (fun c => ?_) (fun c => ?_)
    · replace h := h.1 c
      exact y_fg (zsb_c rfl (zsb_c rfl (zsb_c rfl zsb_e))) (hK l2 V hB z2 h)
    · replace h := h.2 c
      refine z_aload_n Q_X7_fillCubes (k := 22) rfl rfl ?_
      refine z_getR (b := 164) Q_X7_fillCubes (k := 23) rfl F_X7_25 rfl (n_ hB.1 rfl) (k_159 hB.1) (r_159_9 hB.1) ?_
      refine z_iload_n Q_X7_fillCubes (k := 24) rfl rfl ?_
      refine z_iload_n Q_X7_fillCubes (k := 25) rfl rfl ?_
      refine q_callS1_i Q_X7_fillCubes (k := 26) rfl rfl K_X7_powerOf S_X7_powerOf L_X7_77 (Nat.le_of_ble_eq_true rfl) (Nat.le_of_ble_eq_true rfl) rfl (Nat.zero_le _) (Nat.zero_le _) (w_X7_powerOf (d + 2) hB z2 h) (fun r2 hz2 h => ?_)
      obtain ⟨q3, h⟩ := h
      refine q_iast (o := 164) (N := 10) Q_X7_fillCubes (k := 27) rfl rfl (n_ hB.1 rfl) (k_164 hB.1) rfl q3 (by decide) ?_
      have hB4 := qB.u (a := 164) (j := l2) (x := r2) hB hz2 (Or.inl (by decide))
      refine z_aload_n Q_X7_fillCubes (k := 28) rfl rfl ?_
      refine z_getR (b := 165) Q_X7_fillCubes (k := 29) rfl F_X7_28 rfl (n_ hB4.1 rfl) (k_159 hB4.1) (r_159_10 hB4.1) ?_
      refine z_iload_n Q_X7_fillCubes (k := 30) rfl rfl ?_
      refine y_iconst Q_X7_fillCubes (k := 31) rfl ?_
      obtain ⟨q5, h⟩ := h
      refine q_iast (o := 165) (N := 10) Q_X7_fillCubes (k := 32) rfl rfl (n_ hB4.1 rfl) (k_165 hB4.1) rfl q5 (by decide) ?_
      have hB6 := qB.u (a := 165) (j := l2) (x := 0) hB4 ⟨by decide, by decide⟩ (Or.inl (by decide))
      obtain ⟨q7, h⟩ := h
      refine y_iinc (L' := [some (.ref 159), some (.int (iI l1)), some (.int (iI (l2 + 1)))]) Q_X7_fillCubes (k := 33) rfl (by decide) rfl rfl ?_
      refine z_goto (tgt := 34) Q_X7_fillCubes (k := 34) rfl (by decide) ?_
      exact y_fg (zsb_c rfl (zsb_c rfl (zsb_c rfl zsb_e))) (ih (l2 + 1) (qu (qu V 164 l2 r2) 165 l2 0) hB6 q7 h)
set_option maxHeartbeats 4000000 in
set_option maxRecDepth 20000 in
theorem v_X7_fillCubes_65 {S S0 : zS} {J : qJ} {K : Int → qV → Prop} {Q : qV → Prop} {kc ks : Nat} (d : Nat) (hn : S0.2.2 ≤ S.2.2) {l1 : Int} (z1 : zr l1) (hK : ∀ (l2 : Int) (V : qV), qB S V → zr l2 → K l2 V → Z M_X7_fillCubes (d + 3) kc ks 101 [some (.ref 159), some (.int (iI l1)), some (.int (iI l2))] [] S (qi V) (qj J) (qP_uCV S0 J Q)) : ∀ (f : Nat) (l2 : Int) (V : qV), qB S V → zr l2 → lp_X7_fillCubes_65 l1 K f l2 V → Z M_X7_fillCubes (d + 3) kc ks 65 [some (.ref 159), some (.int (iI l1)), some (.int (iI l2))] [] S (qi V) (qj J) (qP_uCV S0 J Q) := by
  intro f
  induction f with
  | zero =>
    intro l2 V hB z2 h
    exact h.elim
  | succ f ih =>
    intro l2 V hB z2 h
    rw [lp_X7_fillCubes_65] at h
    refine z_iload_n Q_X7_fillCubes (k := 37) rfl rfl ?_
    refine z_iload_n Q_X7_fillCubes (k := 38) rfl rfl ?_
    refine y_icmp_ge 101 Q_X7_fillCubes (k := 39) rfl (by decide) z2 z1 (fun c => ?_) (fun c => ?_)
    · replace h := h.1 c
      exact y_fg (zsb_c rfl (zsb_c rfl (zsb_c rfl zsb_e))) (hK l2 V hB z2 h)
    · replace h := h.2 c
      refine z_iload_n Q_X7_fillCubes (k := 40) rfl rfl ?_
      refine z_aload_n Q_X7_fillCubes (k := 41) rfl rfl ?_
      refine z_getR (b := (V 159 7).toNat) Q_X7_fillCubes (k := 42) rfl F_X7_22 rfl (n_ hB.1 rfl) (k_159 hB.1) hB.2.2.2.1.2.1 ?_
      refine q_alen (t := 2) Q_X7_fillCubes (k := 43) rfl hB.2.2.2.1.1.2.1 hB.2.2.2.1.1.2.2.1 rfl (Int.toNat_of_nonneg (by have := hB.2.2.2.1.2.2.1; omega)) ?_
      refine y_icmp_ge 101 Q_X7_fillCubes (k := 44) rfl (by decide) z2 (hB.2.1 _ _) (fun c => ?_) (fun c => ?_)
      · replace h := h.1 c
        exact y_fg (zsb_c rfl (zsb_c rfl (zsb_c rfl zsb_e))) (hK l2 V hB z2 h)
      · replace h := h.2 c
        refine z_aload_n Q_X7_fillCubes (k := 45) rfl rfl ?_
        refine z_getR (b := (V 159 7).toNat) Q_X7_fillCubes (k := 46) rfl F_X7_22 rfl (n_ hB.1 rfl) (k_159 hB.1) hB.2.2.2.1.2.1 ?_
        refine z_iload_n Q_X7_fillCubes (k := 47) rfl rfl ?_
        refine z_aload_n Q_X7_fillCubes (k := 48) rfl rfl ?_
        refine z_iload_n Q_X7_fillCubes (k := 49) rfl rfl ?_
        refine q_callV1_i Q_X7_fillCubes (k := 50) rfl rfl K_X7_cubeValue V_X7_cubeValue L_X7_90 (n_ hB.1 rfl) (k_159 hB.1) (Nat.le_of_ble_eq_true rfl) (Nat.le_of_ble_eq_true rfl) rfl (Nat.zero_le _) (Nat.zero_le _) (w_X7_cubeValue d hB z2 h) (fun r9 hz9 h => ?_)
        refine y_i2b Q_X7_fillCubes (k := 51) rfl hz9 ?_
        obtain ⟨q10, h⟩ := h
        refine q_bast (o := V 159 7) Q_X7_fillCubes (k := 52) rfl (Int.toNat_of_nonneg hB.2.2.2.1.1.1) hB.2.2.2.1.1.2.1 hB.2.2.2.1.1.2.2.1 (Int.toNat_of_nonneg (by have := hB.2.2.2.1.2.2.1; omega)) q10 (by have := hB.2.2.2.1.2.2.2; omega) q_bm2 ?_
        have hB11 := qB.u (a := V 159 7) (j := l2) (x := r9.bmod 256) hB q_bm (Or.inl hB.2.2.2.1.1.2.2.2)
        refine z_aload_n Q_X7_fillCubes (k := 53) rfl rfl ?_
        refine q_callV0_uV Q_X7_fillCubes (k := 54) rfl rfl K_X7_countOn V_X7_countOn L_X7_93 (n_ hB11.1 rfl) (k_159 hB11.1) (Nat.le_of_ble_eq_true rfl) (Nat.le_of_ble_eq_true rfl) rfl (Nat.zero_le _) (Nat.zero_le _) (w_X7_countOn (d + 2) hB11  h) (fun V12 hB12 h => ?_)
        obtain ⟨q13, h⟩ := h
        refine y_iinc (L' := [some (.ref 159), some (.int (iI l1)), some (.int (iI (l2 + 1)))]) Q_X7_fillCubes (k := 55) rfl (by decide) rfl rfl ?_
        refine z_goto (tgt := 65) Q_X7_fillCubes (k := 56) rfl (by decide) ?_
        exact y_fg (zsb_c rfl (zsb_c rfl (zsb_c rfl zsb_e))) (ih (l2 + 1) V12 hB12 q13 h)
set_option maxHeartbeats 4000000 in
set_option maxRecDepth 20000 in
theorem w_X7_fillCubes {S : zS} {V : qV} {J : qJ} {Q : qV → Prop} {kz : Nat} (d : Nat) (hB : qB S V) (h : W_X7_fillCubes V kz Q) : Z M_X7_fillCubes (d + 3) 1 (0 + kz) 0 [some (.ref 159), none, none] [] S (qi V) (qj J) (qP_uCV S J Q) := by
  unfold W_X7_fillCubes at h
  refine z_aload_n Q_X7_fillCubes (k := 0) rfl rfl ?_
  refine q_getI (o := 159) (z := 8) Q_X7_fillCubes (k := 1) rfl F_X7_44 rfl rfl rfl (n_ hB.1 rfl) (k_159 hB.1) ?_
  refine y_if_eq 8 Q_X7_fillCubes (k := 2) rfl (by decide) (hB.2.1 _ _) (fun c => ?_) (fun c => ?_)
  · replace h := h.1 c
    refine z_aload_n Q_X7_fillCubes (k := 4) rfl rfl ?_
    refine q_getI (o := 159) (z := 6) Q_X7_fillCubes (k := 5) rfl F_X7_51 rfl rfl rfl (n_ hB.1 rfl) (k_159 hB.1) ?_
    refine q_callS1_i Q_X7_fillCubes (k := 6) rfl rfl K_X7_powerOf S_X7_powerOf L_X7_77 (Nat.le_of_ble_eq_true rfl) (Nat.le_of_ble_eq_true rfl) rfl (Nat.zero_le _) (Nat.zero_le _) (w_X7_powerOf (d + 2) hB (hB.2.1 _ _) h) (fun r1 hz1 h => ?_)
    refine y_istore_n (L' := [some (.ref 159), some (.int (iI r1)), none]) Q_X7_fillCubes (k := 7) rfl (by decide) rfl ?_
    refine z_aload_n Q_X7_fillCubes (k := 8) rfl rfl ?_
    refine z_getR (b := (V 159 7).toNat) Q_X7_fillCubes (k := 9) rfl F_X7_22 rfl (n_ hB.1 rfl) (k_159 hB.1) hB.2.2.2.1.2.1 ?_
    refine q_alen (t := 2) Q_X7_fillCubes (k := 10) rfl hB.2.2.2.1.1.2.1 hB.2.2.2.1.1.2.2.1 rfl (Int.toNat_of_nonneg (by have := hB.2.2.2.1.2.2.1; omega)) ?_
    refine z_iload_n Q_X7_fillCubes (k := 11) rfl rfl ?_
    refine y_icmp_ge 32 Q_X7_fillCubes (k := 12) rfl (by decide) (hB.2.1 _ _) hz1 (fun c => ?_) (fun c => ?_)
    · replace h := h.1 c
      refine y_iconst Q_X7_fillCubes (k := 17) rfl ?_
      refine y_istore_n (L' := [some (.ref 159), some (.int (iI r1)), some (.int (iI 0))]) Q_X7_fillCubes (k := 18) rfl (by decide) rfl ?_
      refine y_fg (zsb_c rfl (zsb_c rfl (zsb_c rfl zsb_e))) (v_X7_fillCubes_34 d (Nat.le_refl _) hz1 (fun l2x8 V8 hB8 zl2x8 h => ?_) 100000 0 V hB ⟨by decide, by decide⟩ h)
      refine y_iconst Q_X7_fillCubes (k := 35) rfl ?_
      refine y_istore_n (L' := [some (.ref 159), some (.int (iI r1)), some (.int (iI 0))]) Q_X7_fillCubes (k := 36) rfl (by decide) rfl ?_
      refine y_fg (zsb_c rfl (zsb_c rfl (zsb_c rfl zsb_e))) (v_X7_fillCubes_65 d (Nat.le_refl _) hz1 (fun l2x14 V14 hB14 zl2x14 h => ?_) 100000 0 V8 hB8 ⟨by decide, by decide⟩ h)
      refine z_aload_n Q_X7_fillCubes (k := 57) rfl rfl ?_
      refine y_iconst Q_X7_fillCubes (k := 58) rfl ?_
      refine q_putZ (o := 159) (z := 8) Q_X7_fillCubes (k := 59) rfl F_X7_44 rfl (Or.inr rfl) rfl rfl (n_ hB14.1 rfl) (k_159 hB14.1) ?_
      have hB15 := qB.u (a := 159) (j := 8) (x := 1) hB14 ⟨by decide, by decide⟩ (Or.inr (Or.inr ⟨rfl, by decide, by decide⟩))
      exact z_vret Q_X7_fillCubes (k := 60) rfl rfl (qI_uCV hB15 (Nat.le_refl _) h)
    · replace h := h.2 c
      refine z_aload_n Q_X7_fillCubes (k := 13) rfl rfl ?_
      refine z_iload_n Q_X7_fillCubes (k := 14) rfl rfl ?_
      obtain ⟨q17, h⟩ := h
      obtain ⟨q18, h⟩ := h
      refine q_newc (n := r1) hB Q_X7_fillCubes (k := 15) rfl Q_X7_fillCubes (k2 := 16) rfl F_X7_22 (fun _ => rfl) (fun _ => rfl) (zRbc rfl rfl hB.1.1) q17.1 q17.2 (by omega) (by omega) ?_
      replace h := h _ (qcnt hB) (qcnt2 hB)
      have hB16 := qB.cub hB q17.1 q17.2
      generalize hV16 : qcub V _ r1 = Vc16 at h hB16 ⊢
      refine y_iconst Q_X7_fillCubes (k := 17) rfl ?_
      refine y_istore_n (L' := [some (.ref 159), some (.int (iI r1)), some (.int (iI 0))]) Q_X7_fillCubes (k := 18) rfl (by decide) rfl ?_
      refine y_fg (zsb_c rfl (zsb_c rfl (zsb_c rfl zsb_e))) (v_X7_fillCubes_34 d (Nat.le_succ _) hz1 (fun l2x19 V19 hB19 zl2x19 h => ?_) 100000 0 Vc16 hB16 ⟨by decide, by decide⟩ h)
      refine y_iconst Q_X7_fillCubes (k := 35) rfl ?_
      refine y_istore_n (L' := [some (.ref 159), some (.int (iI r1)), some (.int (iI 0))]) Q_X7_fillCubes (k := 36) rfl (by decide) rfl ?_
      refine y_fg (zsb_c rfl (zsb_c rfl (zsb_c rfl zsb_e))) (v_X7_fillCubes_65 d (Nat.le_succ _) hz1 (fun l2x20 V20 hB20 zl2x20 h => ?_) 100000 0 V19 hB19 ⟨by decide, by decide⟩ h)
      refine z_aload_n Q_X7_fillCubes (k := 57) rfl rfl ?_
      refine y_iconst Q_X7_fillCubes (k := 58) rfl ?_
      refine q_putZ (o := 159) (z := 8) Q_X7_fillCubes (k := 59) rfl F_X7_44 rfl (Or.inr rfl) rfl rfl (n_ hB20.1 rfl) (k_159 hB20.1) ?_
      have hB21 := qB.u (a := 159) (j := 8) (x := 1) hB20 ⟨by decide, by decide⟩ (Or.inr (Or.inr ⟨rfl, by decide, by decide⟩))
      exact z_vret Q_X7_fillCubes (k := 60) rfl rfl (qI_uCV hB21 (Nat.le_succ _) h)
  · replace h := h.2 c
    exact z_vret Q_X7_fillCubes (k := 3) rfl rfl (qI_uCV hB (Nat.le_refl _) h)
set_option maxHeartbeats 4000000 in
set_option maxRecDepth 20000 in
theorem w_X7_fewestQuestions {S : zS} {V : qV} {J : qJ} {Q : Int → qV → Prop} {kz : Nat} (d : Nat) (hB : qB S V) (h : W_X7_fewestQuestions V kz Q) : Z M_X7_fewestQuestions (d + 4) 1 (0 + kz) 0 [some (.ref 159)] [] S (qi V) (qj J) (qP_iCV S J Q) := by
  unfold W_X7_fewestQuestions at h
  refine z_aload_n Q_X7_fewestQuestions (k := 0) rfl rfl ?_
  refine q_callV0_uCV Q_X7_fewestQuestions (k := 1) rfl rfl K_X7_fillCubes V_X7_fillCubes L_X7_74 (n_ hB.1 rfl) (k_159 hB.1) (Nat.le_of_ble_eq_true rfl) (Nat.le_of_ble_eq_true rfl) rfl (by omega) (by omega) (zRbc rfl rfl hB.1.1) (w_X7_fillCubes d hB  h) (fun S1 V1 hB1 hn1 h => ?_)
  refine z_aload_n Q_X7_fewestQuestions (k := 2) rfl rfl ?_
  refine z_aload_n Q_X7_fewestQuestions (k := 3) rfl rfl ?_
  refine q_getI (o := 159) (z := 6) Q_X7_fewestQuestions (k := 4) rfl F_X7_51 rfl rfl rfl (n_ hB1.1 rfl) (k_159 hB1.1) ?_
  refine q_callS1_i Q_X7_fewestQuestions (k := 5) rfl rfl K_X7_powerOf S_X7_powerOf L_X7_77 (Nat.le_of_ble_eq_true rfl) (Nat.le_of_ble_eq_true rfl) rfl (Nat.zero_le _) (Nat.zero_le _) (w_X7_powerOf (d + 3) hB1 (hB1.2.1 _ _) h) (fun r2 hz2 h => ?_)
  refine y_iconst Q_X7_fewestQuestions (k := 6) rfl ?_
  obtain ⟨q3, h⟩ := h
  refine y_isub Q_X7_fewestQuestions (k := 7) rfl ?_
  refine q_callV1_i Q_X7_fewestQuestions (k := 8) rfl rfl K_X7_questionsIn V_X7_questionsIn L_X7_80 (n_ hB1.1 rfl) (k_159 hB1.1) (Nat.le_of_ble_eq_true rfl) (Nat.le_of_ble_eq_true rfl) rfl (Nat.zero_le _) (Nat.zero_le _) (w_X7_questionsIn (d + 3) hB1 q3 h) (fun r4 hz4 h => ?_)
  exact y_iret Q_X7_fewestQuestions (k := 9) rfl rfl (qI_iCV hB1 (Nat.le_trans (Nat.le_refl _) hn1) hz4 h)
set_option maxHeartbeats 4000000 in
set_option maxRecDepth 20000 in
theorem v_X7_firstQuestion_23 {S S0 : zS} {V : qV} {J : qJ} {K : Int → Prop} {Q : Int → qV → Prop} {kc ks : Nat} (d : Nat) (hB : qB S V) (hn : S0.2.2 ≤ S.2.2) {l1 : Int} (z1 : zr l1) {l2 : Int} (z2 : zr l2) (hK : ∀ (l3 : Int), zr l3 → K l3 → Z M_X7_firstQuestion (d + 5) kc ks 60 [some (.ref 159), some (.int (iI l1)), some (.int (iI l2)), some (.int (iI l3))] [] S (qi V) (qj J) (qP_iCV S0 J Q)) : ∀ (f : Nat) (l3 : Int), zr l3 → lp_X7_firstQuestion_23 l1 l2 V K Q f l3 → Z M_X7_firstQuestion (d + 5) kc ks 23 [some (.ref 159), some (.int (iI l1)), some (.int (iI l2)), some (.int (iI l3))] [] S (qi V) (qj J) (qP_iCV S0 J Q) := by
  intro f
  induction f with
  | zero =>
    intro l3 z3 h
    exact h.elim
  | succ f ih =>
    intro l3 z3 h
    rw [lp_X7_firstQuestion_23] at h
    refine z_iload_n Q_X7_firstQuestion (k := 15) rfl rfl ?_
    refine z_aload_n Q_X7_firstQuestion (k := 16) rfl rfl ?_
    refine q_getI (o := 159) (z := 6) Q_X7_firstQuestion (k := 17) rfl F_X7_51 rfl rfl rfl (n_ hB.1 rfl) (k_159 hB.1) ?_
    refine y_icmp_ge 60 Q_X7_firstQuestion (k := 18) rfl (by decide) z3 (hB.2.1 _ _) (fun c => ?_) (fun c => ?_)
    · replace h := h.1 c
      exact y_fg (zsb_c rfl (zsb_c rfl (zsb_c rfl (zsb_c rfl zsb_e)))) (hK l3 z3 h)
    · replace h := h.2 c
      refine z_iload_n Q_X7_firstQuestion (k := 19) rfl rfl ?_
      refine y_bipush Q_X7_firstQuestion (k := 20) rfl (by decide) ?_
      refine y_icmp_ge 60 Q_X7_firstQuestion (k := 21) rfl (by decide) z3 ⟨by decide, by decide⟩ (fun c => ?_) (fun c => ?_)
      · replace h := h.1 c
        exact y_fg (zsb_c rfl (zsb_c rfl (zsb_c rfl (zsb_c rfl zsb_e)))) (hK l3 z3 h)
      · replace h := h.2 c
        refine z_aload_n Q_X7_firstQuestion (k := 22) rfl rfl ?_
        refine z_iload_n Q_X7_firstQuestion (k := 23) rfl rfl ?_
        refine z_iload_n Q_X7_firstQuestion (k := 24) rfl rfl ?_
        refine q_callV2_i Q_X7_firstQuestion (k := 25) rfl rfl K_X7_questionsBy V_X7_questionsBy L_X7_86 (n_ hB.1 rfl) (k_159 hB.1) (Nat.le_of_ble_eq_true rfl) (Nat.le_of_ble_eq_true rfl) rfl (Nat.zero_le _) (Nat.zero_le _) (w_X7_questionsBy (d + 3) hB z2 z3 h) (fun r4 hz4 h => ?_)
        refine z_iload_n Q_X7_firstQuestion (k := 26) rfl rfl ?_
        refine y_icmp_ne 54 Q_X7_firstQuestion (k := 27) rfl (by decide) hz4 z1 (fun c => ?_) (fun c => ?_)
        · replace h := h.2 c
          obtain ⟨q5, h⟩ := h
          refine y_iinc (L' := [some (.ref 159), some (.int (iI l1)), some (.int (iI l2)), some (.int (iI (l3 + 1)))]) Q_X7_firstQuestion (k := 33) rfl (by decide) rfl rfl ?_
          refine z_goto (tgt := 23) Q_X7_firstQuestion (k := 34) rfl (by decide) ?_
          exact y_fg (zsb_c rfl (zsb_c rfl (zsb_c rfl (zsb_c rfl zsb_e)))) (ih (l3 + 1) q5 h)
        · replace h := h.1 c
          refine z_aload_n Q_X7_firstQuestion (k := 28) rfl rfl ?_
          refine z_getR (b := 162) Q_X7_firstQuestion (k := 29) rfl F_X7_19 rfl (n_ hB.1 rfl) (k_159 hB.1) (r_159_5 hB.1) ?_
          refine z_iload_n Q_X7_firstQuestion (k := 30) rfl rfl ?_
          obtain ⟨q6, h⟩ := h
          refine q_iald (o := 162) (N := 10) Q_X7_firstQuestion (k := 31) rfl rfl (n_ hB.1 rfl) (k_162 hB.1) rfl q6 (by decide) ?_
          exact y_iret Q_X7_firstQuestion (k := 32) rfl rfl (qI_iCV hB hn (hB.2.1 _ _) h)
set_option maxHeartbeats 4000000 in
set_option maxRecDepth 20000 in
theorem w_X7_firstQuestion {S : zS} {V : qV} {J : qJ} {Q : Int → qV → Prop} {kz : Nat} (d : Nat) (hB : qB S V) (h : W_X7_firstQuestion V kz Q) : Z M_X7_firstQuestion (d + 5) 1 (0 + kz) 0 [some (.ref 159), none, none, none] [] S (qi V) (qj J) (qP_iCV S J Q) := by
  unfold W_X7_firstQuestion at h
  refine z_aload_n Q_X7_firstQuestion (k := 0) rfl rfl ?_
  refine q_callV0_iCV Q_X7_firstQuestion (k := 1) rfl rfl K_X7_fewestQuestions V_X7_fewestQuestions L_X7_83 (n_ hB.1 rfl) (k_159 hB.1) (Nat.le_of_ble_eq_true rfl) (Nat.le_of_ble_eq_true rfl) rfl (by omega) (by omega) (zRbc rfl rfl hB.1.1) (w_X7_fewestQuestions d hB  h) (fun r1 S1 V1 hB1 hn1 hz1 h => ?_)
  refine y_istore_n (L' := [some (.ref 159), some (.int (iI r1)), none, none]) Q_X7_firstQuestion (k := 2) rfl (by decide) rfl ?_
  refine z_iload_n Q_X7_firstQuestion (k := 3) rfl rfl ?_
  refine y_if_ne 11 Q_X7_firstQuestion (k := 4) rfl (by decide) hz1 (fun c => ?_) (fun c => ?_)
  · replace h := h.2 c
    refine z_aload_n Q_X7_firstQuestion (k := 7) rfl rfl ?_
    refine q_getI (o := 159) (z := 6) Q_X7_firstQuestion (k := 8) rfl F_X7_51 rfl rfl rfl (n_ hB1.1 rfl) (k_159 hB1.1) ?_
    refine q_callS1_i Q_X7_firstQuestion (k := 9) rfl rfl K_X7_powerOf S_X7_powerOf L_X7_77 (Nat.le_of_ble_eq_true rfl) (Nat.le_of_ble_eq_true rfl) rfl (Nat.zero_le _) (Nat.zero_le _) (w_X7_powerOf (d + 4) hB1 (hB1.2.1 _ _) h) (fun r2 hz2 h => ?_)
    refine y_iconst Q_X7_firstQuestion (k := 10) rfl ?_
    obtain ⟨q3, h⟩ := h
    refine y_isub Q_X7_firstQuestion (k := 11) rfl ?_
    refine y_istore_n (L' := [some (.ref 159), some (.int (iI r1)), some (.int (iI (r2 - 1))), none]) Q_X7_firstQuestion (k := 12) rfl (by decide) rfl ?_
    refine y_iconst Q_X7_firstQuestion (k := 13) rfl ?_
    refine y_istore_n (L' := [some (.ref 159), some (.int (iI r1)), some (.int (iI (r2 - 1))), some (.int (iI 0))]) Q_X7_firstQuestion (k := 14) rfl (by decide) rfl ?_
    refine y_fg (zsb_c rfl (zsb_c rfl (zsb_c rfl (zsb_c rfl zsb_e)))) (v_X7_firstQuestion_23 d hB1 (Nat.le_trans (Nat.le_refl _) hn1) hz1 q3 (fun l3x7 zl3x7 h => ?_) 100000 0 ⟨by decide, by decide⟩ h)
    refine y_iconst Q_X7_firstQuestion (k := 35) rfl ?_
    exact y_iret Q_X7_firstQuestion (k := 36) rfl rfl (qI_iCV hB1 (Nat.le_trans (Nat.le_refl _) hn1) ⟨by decide, by decide⟩ h)
  · replace h := h.1 c
    refine y_iconst Q_X7_firstQuestion (k := 5) rfl ?_
    exact y_iret Q_X7_firstQuestion (k := 6) rfl rfl (qI_iCV hB1 (Nat.le_trans (Nat.le_refl _) hn1) ⟨by decide, by decide⟩ h)
set_option maxHeartbeats 4000000 in
set_option maxRecDepth 20000 in
theorem v_X8_copy_123 {S : zS} {J : qJ} {K : Int → qV → Prop} {Q : qV → qJ → Prop} {kc ks : Nat} (d : Nat) {l0 : Int} (o0_ : qT l0) {l1 : Int} (o1_ : qT l1) (hK : ∀ (l2 : Int) (V : qV), qB S V → zr l2 → K l2 V → Z M_X8_copy (d + 2) kc ks 158 [some (.ref l0.toNat), some (.ref l1.toNat), some (.int (iI l2)), none] [] S (qi V) (qj J) (qP_uVJ S Q)) : ∀ (f : Nat) (l2 : Int) (V : qV), qB S V → zr l2 → lp_X8_copy_123 l0 l1 J K f l2 V → Z M_X8_copy (d + 2) kc ks 123 [some (.ref l0.toNat), some (.ref l1.toNat), some (.int (iI l2)), none] [] S (qi V) (qj J) (qP_uVJ S Q) := by
  intro f
  induction f with
  | zero =>
    intro l2 V hB z2 h
    exact h.elim
  | succ f ih =>
    intro l2 V hB z2 h
    rw [lp_X8_copy_123] at h
    refine z_iload_n Q_X8_copy (k := 66) rfl rfl ?_
    refine z_aload_n Q_X8_copy (k := 67) rfl rfl ?_
    refine q_getI (o := l0) (z := 8) Q_X8_copy (k := 68) rfl F_X8_65 rfl (Int.toNat_of_nonneg (qTo_ob hB.1 o0_).1) rfl (qTo_ob hB.1 o0_).2.1 (qTo_ob hB.1 o0_).2.2.1 ?_
    refine y_icmp_ge 158 Q_X8_copy (k := 69) rfl (by decide) z2 (hB.2.1 _ _) (fun c => ?_) (fun c => ?_)
    · replace h := h.1 c
      exact y_fg (zsb_c rfl (zsb_c rfl (zsb_c rfl (zsb_n zsb_e)))) (hK l2 V hB z2 h)
    · replace h := h.2 c
      refine z_iload_n Q_X8_copy (k := 70) rfl rfl ?_
      refine y_bipush Q_X8_copy (k := 71) rfl (by decide) ?_
      refine y_icmp_ge 158 Q_X8_copy (k := 72) rfl (by decide) z2 ⟨by decide, by decide⟩ (fun c => ?_) (fun c => ?_)
      · replace h := h.1 c
        exact y_fg (zsb_c rfl (zsb_c rfl (zsb_c rfl (zsb_n zsb_e)))) (hK l2 V hB z2 h)
      · replace h := h.2 c
        refine z_aload_n Q_X8_copy (k := 73) rfl rfl ?_
        refine z_getR (b := (l0 + 6).toNat) Q_X8_copy (k := 74) rfl F_X8_30 rfl (qTo_ob hB.1 o0_).2.1 (qTo_ob hB.1 o0_).2.2.1 (qTo_7 hB.1 o0_).1 ?_
        refine z_iload_n Q_X8_copy (k := 75) rfl rfl ?_
        obtain ⟨q11, h⟩ := h
        have o12 := (qE_person (t := l0) (i := l2) hB.1 o0_ q11)
        refine y_aald (t := 6) (b := (l0 + 10 + 2 * l2).toNat) Q_X8_copy (k := 76) rfl (qTo_7 hB.1 o0_).2.2.1 (qTo_7 hB.1 o0_).2.2.2.1 (by decide) rfl q11.1 q11.2 (by decide) o12.2 ?_
        refine z_aload_n Q_X8_copy (k := 77) rfl rfl ?_
        refine z_getR (b := (l1 + 6).toNat) Q_X8_copy (k := 78) rfl F_X8_30 rfl (qTo_ob hB.1 o1_).2.1 (qTo_ob hB.1 o1_).2.2.1 (qTo_7 hB.1 o1_).1 ?_
        refine z_iload_n Q_X8_copy (k := 79) rfl rfl ?_
        obtain ⟨q13, h⟩ := h
        have o14 := (qE_person (t := l1) (i := l2) hB.1 o1_ q13)
        refine y_aald (t := 6) (b := (l1 + 10 + 2 * l2).toNat) Q_X8_copy (k := 80) rfl (qTo_7 hB.1 o1_).2.2.1 (qTo_7 hB.1 o1_).2.2.2.1 (by decide) rfl q13.1 q13.2 (by decide) o14.2 ?_
        refine q_callV1_uV Q_X8_copy (k := 81) rfl rfl K_X5_copy V_X5_copy L_X8_83 o12.1.1.2.1 o12.1.1.2.2.1 (Nat.le_of_ble_eq_true rfl) (Nat.le_of_ble_eq_true rfl) rfl (Nat.zero_le _) (Nat.zero_le _) (w_X5_copy (d + 1) hB o12.1 o14.1 h) (fun V15 hB15 h => ?_)
        obtain ⟨q16, h⟩ := h
        refine y_iinc (L' := [some (.ref l0.toNat), some (.ref l1.toNat), some (.int (iI (l2 + 1))), none]) Q_X8_copy (k := 82) rfl (by decide) rfl rfl ?_
        refine z_goto (tgt := 123) Q_X8_copy (k := 83) rfl (by decide) ?_
        exact y_fg (zsb_c rfl (zsb_c rfl (zsb_c rfl (zsb_n zsb_e)))) (ih (l2 + 1) V15 hB15 q16 h)
set_option maxHeartbeats 4000000 in
set_option maxRecDepth 20000 in
theorem v_X8_copy_160 {S : zS} {J : qJ} {K : Int → qV → Prop} {Q : qV → qJ → Prop} {kc ks : Nat} (d : Nat) {l0 : Int} (o0_ : qT l0) {l1 : Int} (o1_ : qT l1) (hK : ∀ (l2 : Int) (V : qV), qB S V → zr l2 → K l2 V → Z M_X8_copy (d + 2) kc ks 195 [some (.ref l0.toNat), some (.ref l1.toNat), some (.int (iI l2)), none] [] S (qi V) (qj J) (qP_uVJ S Q)) : ∀ (f : Nat) (l2 : Int) (V : qV), qB S V → zr l2 → lp_X8_copy_160 l0 l1 J K f l2 V → Z M_X8_copy (d + 2) kc ks 160 [some (.ref l0.toNat), some (.ref l1.toNat), some (.int (iI l2)), none] [] S (qi V) (qj J) (qP_uVJ S Q) := by
  intro f
  induction f with
  | zero =>
    intro l2 V hB z2 h
    exact h.elim
  | succ f ih =>
    intro l2 V hB z2 h
    rw [lp_X8_copy_160] at h
    refine z_iload_n Q_X8_copy (k := 86) rfl rfl ?_
    refine z_aload_n Q_X8_copy (k := 87) rfl rfl ?_
    refine q_getI (o := l0) (z := 10) Q_X8_copy (k := 88) rfl F_X8_68 rfl (Int.toNat_of_nonneg (qTo_ob hB.1 o0_).1) rfl (qTo_ob hB.1 o0_).2.1 (qTo_ob hB.1 o0_).2.2.1 ?_
    refine y_icmp_ge 195 Q_X8_copy (k := 89) rfl (by decide) z2 (hB.2.1 _ _) (fun c => ?_) (fun c => ?_)
    · replace h := h.1 c
      exact y_fg (zsb_c rfl (zsb_c rfl (zsb_c rfl (zsb_n zsb_e)))) (hK l2 V hB z2 h)
    · replace h := h.2 c
      refine z_iload_n Q_X8_copy (k := 90) rfl rfl ?_
      refine y_bipush Q_X8_copy (k := 91) rfl (by decide) ?_
      refine y_icmp_ge 195 Q_X8_copy (k := 92) rfl (by decide) z2 ⟨by decide, by decide⟩ (fun c => ?_) (fun c => ?_)
      · replace h := h.1 c
        exact y_fg (zsb_c rfl (zsb_c rfl (zsb_c rfl (zsb_n zsb_e)))) (hK l2 V hB z2 h)
      · replace h := h.2 c
        refine z_aload_n Q_X8_copy (k := 93) rfl rfl ?_
        refine z_getR (b := (l0 + 7).toNat) Q_X8_copy (k := 94) rfl F_X8_36 rfl (qTo_ob hB.1 o0_).2.1 (qTo_ob hB.1 o0_).2.2.1 (qTo_9 hB.1 o0_).1 ?_
        refine z_iload_n Q_X8_copy (k := 95) rfl rfl ?_
        obtain ⟨q18, h⟩ := h
        have o19 := (qE_find (t := l0) (i := l2) hB.1 o0_ q18)
        refine y_aald (t := 7) (b := (l0 + 42 + 4 * l2).toNat) Q_X8_copy (k := 96) rfl (qTo_9 hB.1 o0_).2.2.1 (qTo_9 hB.1 o0_).2.2.2.1 (by decide) rfl q18.1 q18.2 (by decide) o19.2 ?_
        refine z_aload_n Q_X8_copy (k := 97) rfl rfl ?_
        refine z_getR (b := (l1 + 7).toNat) Q_X8_copy (k := 98) rfl F_X8_36 rfl (qTo_ob hB.1 o1_).2.1 (qTo_ob hB.1 o1_).2.2.1 (qTo_9 hB.1 o1_).1 ?_
        refine z_iload_n Q_X8_copy (k := 99) rfl rfl ?_
        obtain ⟨q20, h⟩ := h
        have o21 := (qE_find (t := l1) (i := l2) hB.1 o1_ q20)
        refine y_aald (t := 7) (b := (l1 + 42 + 4 * l2).toNat) Q_X8_copy (k := 100) rfl (qTo_9 hB.1 o1_).2.2.1 (qTo_9 hB.1 o1_).2.2.2.1 (by decide) rfl q20.1 q20.2 (by decide) o21.2 ?_
        refine q_callV1_uV Q_X8_copy (k := 101) rfl rfl K_X1_copy V_X1_copy L_X8_87 o19.1.1.2.1 o19.1.1.2.2.1 (Nat.le_of_ble_eq_true rfl) (Nat.le_of_ble_eq_true rfl) rfl (Nat.zero_le _) (Nat.zero_le _) (w_X1_copy d hB o19.1 o21.1 h) (fun V22 hB22 h => ?_)
        obtain ⟨q23, h⟩ := h
        refine y_iinc (L' := [some (.ref l0.toNat), some (.ref l1.toNat), some (.int (iI (l2 + 1))), none]) Q_X8_copy (k := 102) rfl (by decide) rfl rfl ?_
        refine z_goto (tgt := 160) Q_X8_copy (k := 103) rfl (by decide) ?_
        exact y_fg (zsb_c rfl (zsb_c rfl (zsb_c rfl (zsb_n zsb_e)))) (ih (l2 + 1) V22 hB22 q23 h)
set_option maxHeartbeats 4000000 in
set_option maxRecDepth 20000 in
theorem v_X8_copy_197 {S : zS} {J : qJ} {K : Int → qV → Prop} {Q : qV → qJ → Prop} {kc ks : Nat} (d : Nat) {l0 : Int} (o0_ : qT l0) {l1 : Int} (o1_ : qT l1) (hK : ∀ (l2 : Int) (V : qV), qB S V → zr l2 → K l2 V → Z M_X8_copy (d + 2) kc ks 245 [some (.ref l0.toNat), some (.ref l1.toNat), some (.int (iI l2)), none] [] S (qi V) (qj J) (qP_uVJ S Q)) : ∀ (f : Nat) (l2 : Int) (V : qV), qB S V → zr l2 → lp_X8_copy_197 l0 l1 J K f l2 V → Z M_X8_copy (d + 2) kc ks 197 [some (.ref l0.toNat), some (.ref l1.toNat), some (.int (iI l2)), none] [] S (qi V) (qj J) (qP_uVJ S Q) := by
  intro f
  induction f with
  | zero =>
    intro l2 V hB z2 h
    exact h.elim
  | succ f ih =>
    intro l2 V hB z2 h
    rw [lp_X8_copy_197] at h
    refine z_iload_n Q_X8_copy (k := 106) rfl rfl ?_
    refine z_aload_n Q_X8_copy (k := 107) rfl rfl ?_
    refine q_getI (o := l0) (z := 12) Q_X8_copy (k := 108) rfl F_X8_71 rfl (Int.toNat_of_nonneg (qTo_ob hB.1 o0_).1) rfl (qTo_ob hB.1 o0_).2.1 (qTo_ob hB.1 o0_).2.2.1 ?_
    refine y_icmp_ge 245 Q_X8_copy (k := 109) rfl (by decide) z2 (hB.2.1 _ _) (fun c => ?_) (fun c => ?_)
    · replace h := h.1 c
      exact y_fg (zsb_c rfl (zsb_c rfl (zsb_c rfl (zsb_n zsb_e)))) (hK l2 V hB z2 h)
    · replace h := h.2 c
      refine z_iload_n Q_X8_copy (k := 110) rfl rfl ?_
      refine y_bipush Q_X8_copy (k := 111) rfl (by decide) ?_
      refine y_icmp_ge 245 Q_X8_copy (k := 112) rfl (by decide) z2 ⟨by decide, by decide⟩ (fun c => ?_) (fun c => ?_)
      · replace h := h.1 c
        exact y_fg (zsb_c rfl (zsb_c rfl (zsb_c rfl (zsb_n zsb_e)))) (hK l2 V hB z2 h)
      · replace h := h.2 c
        refine z_aload_n Q_X8_copy (k := 113) rfl rfl ?_
        refine z_getR (b := (l1 + 8).toNat) Q_X8_copy (k := 114) rfl F_X8_42 rfl (qTo_ob hB.1 o1_).2.1 (qTo_ob hB.1 o1_).2.2.1 (qTo_11 hB.1 o1_).1 ?_
        refine z_iload_n Q_X8_copy (k := 115) rfl rfl ?_
        obtain ⟨q25, h⟩ := h
        have o26 := (qE_claim (t := l1) (i := l2) hB.1 o1_ q25)
        refine y_aald (t := 8) (b := (l1 + 74 + 1 * l2).toNat) Q_X8_copy (k := 116) rfl (qTo_11 hB.1 o1_).2.2.1 (qTo_11 hB.1 o1_).2.2.2.1 (by decide) rfl q25.1 q25.2 (by decide) o26.2 ?_
        refine y_astore_n (L' := [some (.ref l0.toNat), some (.ref l1.toNat), some (.int (iI l2)), some (.ref (l1 + 74 + 1 * l2).toNat)]) Q_X8_copy (k := 117) rfl (by decide) rfl ?_
        refine z_aload_n Q_X8_copy (k := 118) rfl rfl ?_
        refine z_getR (b := (l0 + 8).toNat) Q_X8_copy (k := 119) rfl F_X8_42 rfl (qTo_ob hB.1 o0_).2.1 (qTo_ob hB.1 o0_).2.2.1 (qTo_11 hB.1 o0_).1 ?_
        refine z_iload_n Q_X8_copy (k := 120) rfl rfl ?_
        obtain ⟨q27, h⟩ := h
        have o28 := (qE_claim (t := l0) (i := l2) hB.1 o0_ q27)
        refine y_aald (t := 8) (b := (l0 + 74 + 1 * l2).toNat) Q_X8_copy (k := 121) rfl (qTo_11 hB.1 o0_).2.2.1 (qTo_11 hB.1 o0_).2.2.2.1 (by decide) rfl q27.1 q27.2 (by decide) o28.2 ?_
        refine z_aload_n Q_X8_copy (k := 122) rfl rfl ?_
        refine q_getI (o := l1 + 74 + 1 * l2) (z := 0) Q_X8_copy (k := 123) rfl F_X8_90 rfl (Int.toNat_of_nonneg o26.1.1) rfl o26.1.2.1 o26.1.2.2.1 ?_
        refine z_aload_n Q_X8_copy (k := 124) rfl rfl ?_
        refine q_getI (o := l1 + 74 + 1 * l2) (z := 1) Q_X8_copy (k := 125) rfl F_X8_93 rfl (Int.toNat_of_nonneg o26.1.1) rfl o26.1.2.1 o26.1.2.2.1 ?_
        refine z_aload_n Q_X8_copy (k := 126) rfl rfl ?_
        refine q_getI (o := l1 + 74 + 1 * l2) (z := 2) Q_X8_copy (k := 127) rfl F_X8_96 rfl (Int.toNat_of_nonneg o26.1.1) rfl o26.1.2.1 o26.1.2.2.1 ?_
        refine q_callV3_uV Q_X8_copy (k := 128) rfl rfl K_X0_begin V_X0_begin L_X8_99 o28.1.2.1 o28.1.2.2.1 (Nat.le_of_ble_eq_true rfl) (Nat.le_of_ble_eq_true rfl) rfl (Nat.zero_le _) (Nat.zero_le _) (w_X0_begin (d + 1) hB o28.1 (hB.2.1 _ _) (hB.2.1 _ _) (hB.2.1 _ _) h) (fun V29 hB29 h => ?_)
        obtain ⟨q30, h⟩ := h
        refine y_iinc (L' := [some (.ref l0.toNat), some (.ref l1.toNat), some (.int (iI (l2 + 1))), some (.ref (l1 + 74 + 1 * l2).toNat)]) Q_X8_copy (k := 129) rfl (by decide) rfl rfl ?_
        refine z_goto (tgt := 197) Q_X8_copy (k := 130) rfl (by decide) ?_
        exact y_fg (zsb_c rfl (zsb_c rfl (zsb_c rfl (zsb_n zsb_e)))) (ih (l2 + 1) V29 hB29 q30 h)
set_option maxHeartbeats 4000000 in
set_option maxRecDepth 20000 in
theorem v_X8_copy_247 {S : zS} {J : qJ} {K : Int → qV → Prop} {Q : qV → qJ → Prop} {kc ks : Nat} (d : Nat) {l0 : Int} (o0_ : qT l0) {l1 : Int} (o1_ : qT l1) (hK : ∀ (l2 : Int) (V : qV), qB S V → zr l2 → K l2 V → Z M_X8_copy (d + 2) kc ks 299 [some (.ref l0.toNat), some (.ref l1.toNat), some (.int (iI l2)), none] [] S (qi V) (qj J) (qP_uVJ S Q)) : ∀ (f : Nat) (l2 : Int) (V : qV), qB S V → zr l2 → lp_X8_copy_247 l0 l1 J K f l2 V → Z M_X8_copy (d + 2) kc ks 247 [some (.ref l0.toNat), some (.ref l1.toNat), some (.int (iI l2)), none] [] S (qi V) (qj J) (qP_uVJ S Q) := by
  intro f
  induction f with
  | zero =>
    intro l2 V hB z2 h
    exact h.elim
  | succ f ih =>
    intro l2 V hB z2 h
    rw [lp_X8_copy_247] at h
    refine z_iload_n Q_X8_copy (k := 133) rfl rfl ?_
    refine z_aload_n Q_X8_copy (k := 134) rfl rfl ?_
    refine q_getI (o := l0) (z := 14) Q_X8_copy (k := 135) rfl F_X8_74 rfl (Int.toNat_of_nonneg (qTo_ob hB.1 o0_).1) rfl (qTo_ob hB.1 o0_).2.1 (qTo_ob hB.1 o0_).2.2.1 ?_
    refine y_icmp_ge 299 Q_X8_copy (k := 136) rfl (by decide) z2 (hB.2.1 _ _) (fun c => ?_) (fun c => ?_)
    · replace h := h.1 c
      exact y_fg (zsb_c rfl (zsb_c rfl (zsb_c rfl (zsb_n zsb_e)))) (hK l2 V hB z2 h)
    · replace h := h.2 c
      refine z_iload_n Q_X8_copy (k := 137) rfl rfl ?_
      refine y_bipush Q_X8_copy (k := 138) rfl (by decide) ?_
      refine y_icmp_ge 299 Q_X8_copy (k := 139) rfl (by decide) z2 ⟨by decide, by decide⟩ (fun c => ?_) (fun c => ?_)
      · replace h := h.1 c
        exact y_fg (zsb_c rfl (zsb_c rfl (zsb_c rfl (zsb_n zsb_e)))) (hK l2 V hB z2 h)
      · replace h := h.2 c
        refine z_aload_n Q_X8_copy (k := 140) rfl rfl ?_
        refine z_getR (b := (l1 + 9).toNat) Q_X8_copy (k := 141) rfl F_X8_48 rfl (qTo_ob hB.1 o1_).2.1 (qTo_ob hB.1 o1_).2.2.1 (qTo_13 hB.1 o1_).1 ?_
        refine z_iload_n Q_X8_copy (k := 142) rfl rfl ?_
        obtain ⟨q32, h⟩ := h
        have o33 := (qE_passing (t := l1) (i := l2) hB.1 o1_ q32)
        refine y_aald (t := 9) (b := (l1 + 98 + 1 * l2).toNat) Q_X8_copy (k := 143) rfl (qTo_13 hB.1 o1_).2.2.1 (qTo_13 hB.1 o1_).2.2.2.1 (by decide) rfl q32.1 q32.2 (by decide) o33.2 ?_
        refine y_astore_n (L' := [some (.ref l0.toNat), some (.ref l1.toNat), some (.int (iI l2)), some (.ref (l1 + 98 + 1 * l2).toNat)]) Q_X8_copy (k := 144) rfl (by decide) rfl ?_
        refine z_aload_n Q_X8_copy (k := 145) rfl rfl ?_
        refine z_getR (b := (l0 + 9).toNat) Q_X8_copy (k := 146) rfl F_X8_48 rfl (qTo_ob hB.1 o0_).2.1 (qTo_ob hB.1 o0_).2.2.1 (qTo_13 hB.1 o0_).1 ?_
        refine z_iload_n Q_X8_copy (k := 147) rfl rfl ?_
        obtain ⟨q34, h⟩ := h
        have o35 := (qE_passing (t := l0) (i := l2) hB.1 o0_ q34)
        refine y_aald (t := 9) (b := (l0 + 98 + 1 * l2).toNat) Q_X8_copy (k := 148) rfl (qTo_13 hB.1 o0_).2.2.1 (qTo_13 hB.1 o0_).2.2.2.1 (by decide) rfl q34.1 q34.2 (by decide) o35.2 ?_
        refine z_aload_n Q_X8_copy (k := 149) rfl rfl ?_
        refine q_getI (o := l1 + 98 + 1 * l2) (z := 0) Q_X8_copy (k := 150) rfl F_X8_103 rfl (Int.toNat_of_nonneg o33.1.1) rfl o33.1.2.1 o33.1.2.2.1 ?_
        refine z_aload_n Q_X8_copy (k := 151) rfl rfl ?_
        refine q_getI (o := l1 + 98 + 1 * l2) (z := 1) Q_X8_copy (k := 152) rfl F_X8_104 rfl (Int.toNat_of_nonneg o33.1.1) rfl o33.1.2.1 o33.1.2.2.1 ?_
        refine z_aload_n Q_X8_copy (k := 153) rfl rfl ?_
        refine q_getI (o := l1 + 98 + 1 * l2) (z := 2) Q_X8_copy (k := 154) rfl F_X8_107 rfl (Int.toNat_of_nonneg o33.1.1) rfl o33.1.2.1 o33.1.2.2.1 ?_
        refine z_aload_n Q_X8_copy (k := 155) rfl rfl ?_
        refine q_getI (o := l1 + 98 + 1 * l2) (z := 3) Q_X8_copy (k := 156) rfl F_X8_110 rfl (Int.toNat_of_nonneg o33.1.1) rfl o33.1.2.1 o33.1.2.2.1 ?_
        refine q_callV4_uV Q_X8_copy (k := 157) rfl rfl K_X4_begin V_X4_begin L_X8_113 o35.1.2.1 o35.1.2.2.1 (Nat.le_of_ble_eq_true rfl) (Nat.le_of_ble_eq_true rfl) rfl (Nat.zero_le _) (Nat.zero_le _) (w_X4_begin (d + 1) hB o35.1 (hB.2.1 _ _) (hB.2.1 _ _) (hB.2.1 _ _) (hB.2.1 _ _) h) (fun V36 hB36 h => ?_)
        obtain ⟨q37, h⟩ := h
        refine y_iinc (L' := [some (.ref l0.toNat), some (.ref l1.toNat), some (.int (iI (l2 + 1))), some (.ref (l1 + 98 + 1 * l2).toNat)]) Q_X8_copy (k := 158) rfl (by decide) rfl rfl ?_
        refine z_goto (tgt := 247) Q_X8_copy (k := 159) rfl (by decide) ?_
        exact y_fg (zsb_c rfl (zsb_c rfl (zsb_c rfl (zsb_n zsb_e)))) (ih (l2 + 1) V36 hB36 q37 h)
set_option maxHeartbeats 4000000 in
set_option maxRecDepth 20000 in
theorem w_X8_copy {S : zS} {V : qV} {J : qJ} {Q : qV → qJ → Prop} (d : Nat) (hB : qB S V) {a0 : Int} (p0 : qT a0) {a1 : Int} (p1 : qT a1) (h : W_X8_copy a0 a1 V J Q) : Z M_X8_copy (d + 2) 0 0 0 [some (.ref a0.toNat), some (.ref a1.toNat), none, none] [] S (qi V) (qj J) (qP_uVJ S Q) := by
  unfold W_X8_copy at h
  refine z_aload_n Q_X8_copy (k := 0) rfl rfl ?_
  refine z_aload_n Q_X8_copy (k := 1) rfl rfl ?_
  refine q_getI (o := a1) (z := 0) Q_X8_copy (k := 2) rfl F_X8_58 rfl (Int.toNat_of_nonneg (qTo_ob hB.1 p1).1) rfl (qTo_ob hB.1 p1).2.1 (qTo_ob hB.1 p1).2.2.1 ?_
  refine q_putI (o := a0) (z := 0) Q_X8_copy (k := 3) rfl F_X8_58 rfl (Int.toNat_of_nonneg (qTo_ob hB.1 p0).1) rfl (qTo_ob hB.1 p0).2.1 (qTo_ob hB.1 p0).2.2.1 ?_
  have hB1 := qB.u (a := a0) (j := 0) (x := V a1 0) hB (hB.2.1 _ _) (Or.inl (qTo_ob hB.1 p0).2.2.2)
  refine z_aload_n Q_X8_copy (k := 4) rfl rfl ?_
  refine z_aload_n Q_X8_copy (k := 5) rfl rfl ?_
  refine q_getI (o := a1) (z := 4) Q_X8_copy (k := 6) rfl F_X8_62 rfl (Int.toNat_of_nonneg (qTo_ob hB1.1 p1).1) rfl (qTo_ob hB1.1 p1).2.1 (qTo_ob hB1.1 p1).2.2.1 ?_
  refine q_putI (o := a0) (z := 4) Q_X8_copy (k := 7) rfl F_X8_62 rfl (Int.toNat_of_nonneg (qTo_ob hB1.1 p0).1) rfl (qTo_ob hB1.1 p0).2.1 (qTo_ob hB1.1 p0).2.2.1 ?_
  have hB2 := qB.u (a := a0) (j := 4) (x := (qu V a0 0 (V a1 0)) a1 4) hB1 (hB1.2.1 _ _) (Or.inl (qTo_ob hB1.1 p0).2.2.2)
  refine z_aload_n Q_X8_copy (k := 8) rfl rfl ?_
  refine z_aload_n Q_X8_copy (k := 9) rfl rfl ?_
  refine q_getI (o := a1) (z := 8) Q_X8_copy (k := 10) rfl F_X8_65 rfl (Int.toNat_of_nonneg (qTo_ob hB2.1 p1).1) rfl (qTo_ob hB2.1 p1).2.1 (qTo_ob hB2.1 p1).2.2.1 ?_
  refine q_putI (o := a0) (z := 8) Q_X8_copy (k := 11) rfl F_X8_65 rfl (Int.toNat_of_nonneg (qTo_ob hB2.1 p0).1) rfl (qTo_ob hB2.1 p0).2.1 (qTo_ob hB2.1 p0).2.2.1 ?_
  have hB3 := qB.u (a := a0) (j := 8) (x := (qu (qu V a0 0 (V a1 0)) a0 4 ((qu V a0 0 (V a1 0)) a1 4)) a1 8) hB2 (hB2.2.1 _ _) (Or.inl (qTo_ob hB2.1 p0).2.2.2)
  refine z_aload_n Q_X8_copy (k := 12) rfl rfl ?_
  refine z_aload_n Q_X8_copy (k := 13) rfl rfl ?_
  refine q_getI (o := a1) (z := 10) Q_X8_copy (k := 14) rfl F_X8_68 rfl (Int.toNat_of_nonneg (qTo_ob hB3.1 p1).1) rfl (qTo_ob hB3.1 p1).2.1 (qTo_ob hB3.1 p1).2.2.1 ?_
  refine q_putI (o := a0) (z := 10) Q_X8_copy (k := 15) rfl F_X8_68 rfl (Int.toNat_of_nonneg (qTo_ob hB3.1 p0).1) rfl (qTo_ob hB3.1 p0).2.1 (qTo_ob hB3.1 p0).2.2.1 ?_
  have hB4 := qB.u (a := a0) (j := 10) (x := (qu (qu (qu V a0 0 (V a1 0)) a0 4 ((qu V a0 0 (V a1 0)) a1 4)) a0 8 ((qu (qu V a0 0 (V a1 0)) a0 4 ((qu V a0 0 (V a1 0)) a1 4)) a1 8)) a1 10) hB3 (hB3.2.1 _ _) (Or.inl (qTo_ob hB3.1 p0).2.2.2)
  refine z_aload_n Q_X8_copy (k := 16) rfl rfl ?_
  refine z_aload_n Q_X8_copy (k := 17) rfl rfl ?_
  refine q_getI (o := a1) (z := 12) Q_X8_copy (k := 18) rfl F_X8_71 rfl (Int.toNat_of_nonneg (qTo_ob hB4.1 p1).1) rfl (qTo_ob hB4.1 p1).2.1 (qTo_ob hB4.1 p1).2.2.1 ?_
  refine q_putI (o := a0) (z := 12) Q_X8_copy (k := 19) rfl F_X8_71 rfl (Int.toNat_of_nonneg (qTo_ob hB4.1 p0).1) rfl (qTo_ob hB4.1 p0).2.1 (qTo_ob hB4.1 p0).2.2.1 ?_
  have hB5 := qB.u (a := a0) (j := 12) (x := (qu (qu (qu (qu V a0 0 (V a1 0)) a0 4 ((qu V a0 0 (V a1 0)) a1 4)) a0 8 ((qu (qu V a0 0 (V a1 0)) a0 4 ((qu V a0 0 (V a1 0)) a1 4)) a1 8)) a0 10 ((qu (qu (qu V a0 0 (V a1 0)) a0 4 ((qu V a0 0 (V a1 0)) a1 4)) a0 8 ((qu (qu V a0 0 (V a1 0)) a0 4 ((qu V a0 0 (V a1 0)) a1 4)) a1 8)) a1 10)) a1 12) hB4 (hB4.2.1 _ _) (Or.inl (qTo_ob hB4.1 p0).2.2.2)
  refine z_aload_n Q_X8_copy (k := 20) rfl rfl ?_
  refine z_aload_n Q_X8_copy (k := 21) rfl rfl ?_
  refine q_getI (o := a1) (z := 14) Q_X8_copy (k := 22) rfl F_X8_74 rfl (Int.toNat_of_nonneg (qTo_ob hB5.1 p1).1) rfl (qTo_ob hB5.1 p1).2.1 (qTo_ob hB5.1 p1).2.2.1 ?_
  refine q_putI (o := a0) (z := 14) Q_X8_copy (k := 23) rfl F_X8_74 rfl (Int.toNat_of_nonneg (qTo_ob hB5.1 p0).1) rfl (qTo_ob hB5.1 p0).2.1 (qTo_ob hB5.1 p0).2.2.1 ?_
  have hB6 := qB.u (a := a0) (j := 14) (x := (qu (qu (qu (qu (qu V a0 0 (V a1 0)) a0 4 ((qu V a0 0 (V a1 0)) a1 4)) a0 8 ((qu (qu V a0 0 (V a1 0)) a0 4 ((qu V a0 0 (V a1 0)) a1 4)) a1 8)) a0 10 ((qu (qu (qu V a0 0 (V a1 0)) a0 4 ((qu V a0 0 (V a1 0)) a1 4)) a0 8 ((qu (qu V a0 0 (V a1 0)) a0 4 ((qu V a0 0 (V a1 0)) a1 4)) a1 8)) a1 10)) a0 12 ((qu (qu (qu (qu V a0 0 (V a1 0)) a0 4 ((qu V a0 0 (V a1 0)) a1 4)) a0 8 ((qu (qu V a0 0 (V a1 0)) a0 4 ((qu V a0 0 (V a1 0)) a1 4)) a1 8)) a0 10 ((qu (qu (qu V a0 0 (V a1 0)) a0 4 ((qu V a0 0 (V a1 0)) a1 4)) a0 8 ((qu (qu V a0 0 (V a1 0)) a0 4 ((qu V a0 0 (V a1 0)) a1 4)) a1 8)) a1 10)) a1 12)) a1 14) hB5 (hB5.2.1 _ _) (Or.inl (qTo_ob hB5.1 p0).2.2.2)
  refine z_aload_n Q_X8_copy (k := 24) rfl rfl ?_
  refine z_getR (b := (a1 + 1).toNat) Q_X8_copy (k := 25) rfl F_X8_9 rfl (qTo_ob hB6.1 p1).2.1 (qTo_ob hB6.1 p1).2.2.1 (qTo_1 hB6.1 p1).1 ?_
  refine y_iconst Q_X8_copy (k := 26) rfl ?_
  refine z_aload_n Q_X8_copy (k := 27) rfl rfl ?_
  refine z_getR (b := (a0 + 1).toNat) Q_X8_copy (k := 28) rfl F_X8_9 rfl (qTo_ob hB6.1 p0).2.1 (qTo_ob hB6.1 p0).2.2.1 (qTo_1 hB6.1 p0).1 ?_
  refine y_iconst Q_X8_copy (k := 29) rfl ?_
  refine y_bipush Q_X8_copy (k := 30) rfl (by decide) ?_
  refine q_copyl (oa := a0 + 1) (ob := a1 + 1) (N := 16) Q_X8_copy (k := 31) rfl L_X8_77 G_copy 16 rfl (by decide) (Int.toNat_of_nonneg (qTo_1 hB6.1 p0).2.1) (Int.toNat_of_nonneg (qTo_1 hB6.1 p1).2.1) (qTo_1 hB6.1 p0).2.2.1 (qTo_1 hB6.1 p0).2.2.2.1 (qTo_1 hB6.1 p1).2.2.1 (qTo_1 hB6.1 p1).2.2.2.1 (by decide) (by decide) (Nat.le_of_ble_eq_true rfl) ?_
  refine z_aload_n Q_X8_copy (k := 32) rfl rfl ?_
  refine z_getR (b := (a1 + 2).toNat) Q_X8_copy (k := 33) rfl F_X8_15 rfl (qTo_ob hB6.1 p1).2.1 (qTo_ob hB6.1 p1).2.2.1 (qTo_2 hB6.1 p1).1 ?_
  refine y_iconst Q_X8_copy (k := 34) rfl ?_
  refine z_aload_n Q_X8_copy (k := 35) rfl rfl ?_
  refine z_getR (b := (a0 + 2).toNat) Q_X8_copy (k := 36) rfl F_X8_15 rfl (qTo_ob hB6.1 p0).2.1 (qTo_ob hB6.1 p0).2.2.1 (qTo_2 hB6.1 p0).1 ?_
  refine y_iconst Q_X8_copy (k := 37) rfl ?_
  refine y_bipush Q_X8_copy (k := 38) rfl (by decide) ?_
  refine q_copyi (oa := a0 + 2) (ob := a1 + 2) (N := 10) Q_X8_copy (k := 39) rfl L_X8_77 G_copy 10 rfl (by decide) (Int.toNat_of_nonneg (qTo_2 hB6.1 p0).2.1) (Int.toNat_of_nonneg (qTo_2 hB6.1 p1).2.1) (qTo_2 hB6.1 p0).2.2.1 (qTo_2 hB6.1 p0).2.2.2.1 (qTo_2 hB6.1 p1).2.2.1 (qTo_2 hB6.1 p1).2.2.2.1 (by decide) (by decide) (Nat.le_of_ble_eq_true rfl) ?_
  have hB7 := qB.cp (b := a1 + 2) (a := a0 + 2) (n := 10) hB6 (qTo_2 hB6.1 p0).2.2.2.2
  refine z_aload_n Q_X8_copy (k := 40) rfl rfl ?_
  refine z_getR (b := (a1 + 3).toNat) Q_X8_copy (k := 41) rfl F_X8_19 rfl (qTo_ob hB7.1 p1).2.1 (qTo_ob hB7.1 p1).2.2.1 (qTo_3 hB7.1 p1).1 ?_
  refine y_iconst Q_X8_copy (k := 42) rfl ?_
  refine z_aload_n Q_X8_copy (k := 43) rfl rfl ?_
  refine z_getR (b := (a0 + 3).toNat) Q_X8_copy (k := 44) rfl F_X8_19 rfl (qTo_ob hB7.1 p0).2.1 (qTo_ob hB7.1 p0).2.2.1 (qTo_3 hB7.1 p0).1 ?_
  refine y_iconst Q_X8_copy (k := 45) rfl ?_
  refine y_bipush Q_X8_copy (k := 46) rfl (by decide) ?_
  refine q_copyi (oa := a0 + 3) (ob := a1 + 3) (N := 10) Q_X8_copy (k := 47) rfl L_X8_77 G_copy 10 rfl (by decide) (Int.toNat_of_nonneg (qTo_3 hB7.1 p0).2.1) (Int.toNat_of_nonneg (qTo_3 hB7.1 p1).2.1) (qTo_3 hB7.1 p0).2.2.1 (qTo_3 hB7.1 p0).2.2.2.1 (qTo_3 hB7.1 p1).2.2.1 (qTo_3 hB7.1 p1).2.2.2.1 (by decide) (by decide) (Nat.le_of_ble_eq_true rfl) ?_
  have hB8 := qB.cp (b := a1 + 3) (a := a0 + 3) (n := 10) hB7 (qTo_3 hB7.1 p0).2.2.2.2
  refine z_aload_n Q_X8_copy (k := 48) rfl rfl ?_
  refine z_getR (b := (a1 + 4).toNat) Q_X8_copy (k := 49) rfl F_X8_22 rfl (qTo_ob hB8.1 p1).2.1 (qTo_ob hB8.1 p1).2.2.1 (qTo_5 hB8.1 p1).1 ?_
  refine y_iconst Q_X8_copy (k := 50) rfl ?_
  refine z_aload_n Q_X8_copy (k := 51) rfl rfl ?_
  refine z_getR (b := (a0 + 4).toNat) Q_X8_copy (k := 52) rfl F_X8_22 rfl (qTo_ob hB8.1 p0).2.1 (qTo_ob hB8.1 p0).2.2.1 (qTo_5 hB8.1 p0).1 ?_
  refine y_iconst Q_X8_copy (k := 53) rfl ?_
  refine y_iconst Q_X8_copy (k := 54) rfl ?_
  refine q_copyi (oa := a0 + 4) (ob := a1 + 4) (N := 4) Q_X8_copy (k := 55) rfl L_X8_77 G_copy 4 rfl (by decide) (Int.toNat_of_nonneg (qTo_5 hB8.1 p0).2.1) (Int.toNat_of_nonneg (qTo_5 hB8.1 p1).2.1) (qTo_5 hB8.1 p0).2.2.1 (qTo_5 hB8.1 p0).2.2.2.1 (qTo_5 hB8.1 p1).2.2.1 (qTo_5 hB8.1 p1).2.2.2.1 (by decide) (by decide) (Nat.le_of_ble_eq_true rfl) ?_
  have hB9 := qB.cp (b := a1 + 4) (a := a0 + 4) (n := 4) hB8 (qTo_5 hB8.1 p0).2.2.2.2
  refine z_aload_n Q_X8_copy (k := 56) rfl rfl ?_
  refine z_getR (b := (a1 + 5).toNat) Q_X8_copy (k := 57) rfl F_X8_25 rfl (qTo_ob hB9.1 p1).2.1 (qTo_ob hB9.1 p1).2.2.1 (qTo_6 hB9.1 p1).1 ?_
  refine y_iconst Q_X8_copy (k := 58) rfl ?_
  refine z_aload_n Q_X8_copy (k := 59) rfl rfl ?_
  refine z_getR (b := (a0 + 5).toNat) Q_X8_copy (k := 60) rfl F_X8_25 rfl (qTo_ob hB9.1 p0).2.1 (qTo_ob hB9.1 p0).2.2.1 (qTo_6 hB9.1 p0).1 ?_
  refine y_iconst Q_X8_copy (k := 61) rfl ?_
  refine y_iconst Q_X8_copy (k := 62) rfl ?_
  refine q_copyi (oa := a0 + 5) (ob := a1 + 5) (N := 4) Q_X8_copy (k := 63) rfl L_X8_77 G_copy 4 rfl (by decide) (Int.toNat_of_nonneg (qTo_6 hB9.1 p0).2.1) (Int.toNat_of_nonneg (qTo_6 hB9.1 p1).2.1) (qTo_6 hB9.1 p0).2.2.1 (qTo_6 hB9.1 p0).2.2.2.1 (qTo_6 hB9.1 p1).2.2.1 (qTo_6 hB9.1 p1).2.2.2.1 (by decide) (by decide) (Nat.le_of_ble_eq_true rfl) ?_
  have hB10 := qB.cp (b := a1 + 5) (a := a0 + 5) (n := 4) hB9 (qTo_6 hB9.1 p0).2.2.2.2
  refine y_iconst Q_X8_copy (k := 64) rfl ?_
  refine y_istore_n (L' := [some (.ref a0.toNat), some (.ref a1.toNat), some (.int (iI 0)), none]) Q_X8_copy (k := 65) rfl (by decide) rfl ?_
  refine y_fg (zsb_c rfl (zsb_c rfl (zsb_c rfl (zsb_n zsb_e)))) (v_X8_copy_123 d p0 p1 (fun l2x17 V17 hB17 zl2x17 h => ?_) 100000 0 (qcp (qcp (qcp (qcp (qu (qu (qu (qu (qu (qu V a0 0 (V a1 0)) a0 4 ((qu V a0 0 (V a1 0)) a1 4)) a0 8 ((qu (qu V a0 0 (V a1 0)) a0 4 ((qu V a0 0 (V a1 0)) a1 4)) a1 8)) a0 10 ((qu (qu (qu V a0 0 (V a1 0)) a0 4 ((qu V a0 0 (V a1 0)) a1 4)) a0 8 ((qu (qu V a0 0 (V a1 0)) a0 4 ((qu V a0 0 (V a1 0)) a1 4)) a1 8)) a1 10)) a0 12 ((qu (qu (qu (qu V a0 0 (V a1 0)) a0 4 ((qu V a0 0 (V a1 0)) a1 4)) a0 8 ((qu (qu V a0 0 (V a1 0)) a0 4 ((qu V a0 0 (V a1 0)) a1 4)) a1 8)) a0 10 ((qu (qu (qu V a0 0 (V a1 0)) a0 4 ((qu V a0 0 (V a1 0)) a1 4)) a0 8 ((qu (qu V a0 0 (V a1 0)) a0 4 ((qu V a0 0 (V a1 0)) a1 4)) a1 8)) a1 10)) a1 12)) a0 14 ((qu (qu (qu (qu (qu V a0 0 (V a1 0)) a0 4 ((qu V a0 0 (V a1 0)) a1 4)) a0 8 ((qu (qu V a0 0 (V a1 0)) a0 4 ((qu V a0 0 (V a1 0)) a1 4)) a1 8)) a0 10 ((qu (qu (qu V a0 0 (V a1 0)) a0 4 ((qu V a0 0 (V a1 0)) a1 4)) a0 8 ((qu (qu V a0 0 (V a1 0)) a0 4 ((qu V a0 0 (V a1 0)) a1 4)) a1 8)) a1 10)) a0 12 ((qu (qu (qu (qu V a0 0 (V a1 0)) a0 4 ((qu V a0 0 (V a1 0)) a1 4)) a0 8 ((qu (qu V a0 0 (V a1 0)) a0 4 ((qu V a0 0 (V a1 0)) a1 4)) a1 8)) a0 10 ((qu (qu (qu V a0 0 (V a1 0)) a0 4 ((qu V a0 0 (V a1 0)) a1 4)) a0 8 ((qu (qu V a0 0 (V a1 0)) a0 4 ((qu V a0 0 (V a1 0)) a1 4)) a1 8)) a1 10)) a1 12)) a1 14)) (a1 + 2) (a0 + 2) 10) (a1 + 3) (a0 + 3) 10) (a1 + 4) (a0 + 4) 4) (a1 + 5) (a0 + 5) 4) hB10 ⟨by decide, by decide⟩ h)
  refine y_iconst Q_X8_copy (k := 84) rfl ?_
  refine y_istore_n (L' := [some (.ref a0.toNat), some (.ref a1.toNat), some (.int (iI 0)), none]) Q_X8_copy (k := 85) rfl (by decide) rfl ?_
  refine y_fg (zsb_c rfl (zsb_c rfl (zsb_c rfl (zsb_n zsb_e)))) (v_X8_copy_160 d p0 p1 (fun l2x24 V24 hB24 zl2x24 h => ?_) 100000 0 V17 hB17 ⟨by decide, by decide⟩ h)
  refine y_iconst Q_X8_copy (k := 104) rfl ?_
  refine y_istore_n (L' := [some (.ref a0.toNat), some (.ref a1.toNat), some (.int (iI 0)), none]) Q_X8_copy (k := 105) rfl (by decide) rfl ?_
  refine y_fg (zsb_c rfl (zsb_c rfl (zsb_c rfl (zsb_n zsb_e)))) (v_X8_copy_197 d p0 p1 (fun l2x31 V31 hB31 zl2x31 h => ?_) 100000 0 V24 hB24 ⟨by decide, by decide⟩ h)
  refine y_iconst Q_X8_copy (k := 131) rfl ?_
  refine y_istore_n (L' := [some (.ref a0.toNat), some (.ref a1.toNat), some (.int (iI 0)), none]) Q_X8_copy (k := 132) rfl (by decide) rfl ?_
  refine y_fg (zsb_c rfl (zsb_c rfl (zsb_c rfl (zsb_n zsb_e)))) (v_X8_copy_247 d p0 p1 (fun l2x38 V38 hB38 zl2x38 h => ?_) 100000 0 V31 hB31 ⟨by decide, by decide⟩ h)
  exact z_vret Q_X8_copy (k := 160) rfl rfl (qI_uVJ hB38 h)
set_option maxHeartbeats 4000000 in
set_option maxRecDepth 20000 in
theorem v_X8_openUnknowns_4 {S : zS} {V : qV} {J : qJ} {K : Int → Int → Prop} {Q : Int → Prop} {kc ks : Nat} (d : Nat) (hB : qB S V) (hK : ∀ (l1 : Int) (l2 : Int), zr l1 → zr l2 → K l1 l2 → Z M_X8_openUnknowns d kc ks 29 [some (.ref 12), some (.int (iI l1)), some (.int (iI l2))] [] S (qi V) (qj J) (qP_i S V J Q)) : ∀ (f : Nat) (l1 : Int) (l2 : Int), zr l1 → zr l2 → lp_X8_openUnknowns_4 V K f l1 l2 → Z M_X8_openUnknowns d kc ks 4 [some (.ref 12), some (.int (iI l1)), some (.int (iI l2))] [] S (qi V) (qj J) (qP_i S V J Q) := by
  intro f
  induction f with
  | zero =>
    intro l1 l2 z1 z2 h
    exact h.elim
  | succ f ih =>
    intro l1 l2 z1 z2 h
    rw [lp_X8_openUnknowns_4] at h
    refine z_iload_n Q_X8_openUnknowns (k := 4) rfl rfl ?_
    refine y_bipush Q_X8_openUnknowns (k := 5) rfl (by decide) ?_
    refine y_icmp_ge 29 Q_X8_openUnknowns (k := 6) rfl (by decide) z2 ⟨by decide, by decide⟩ (fun c => ?_) (fun c => ?_)
    · replace h := h.1 c
      exact y_fg (zsb_c rfl (zsb_c rfl (zsb_c rfl zsb_e))) (hK l1 l2 z1 z2 h)
    · replace h := h.2 c
      refine z_aload_n Q_X8_openUnknowns (k := 7) rfl rfl ?_
      refine z_getR (b := 14) Q_X8_openUnknowns (k := 8) rfl F_X8_15 rfl (n_ hB.1 rfl) (k_12 hB.1) (r_12_2 hB.1) ?_
      refine z_iload_n Q_X8_openUnknowns (k := 9) rfl rfl ?_
      obtain ⟨q1, h⟩ := h
      refine q_iald (o := 14) (N := 10) Q_X8_openUnknowns (k := 10) rfl rfl (n_ hB.1 rfl) (k_14 hB.1) rfl q1 (by decide) ?_
      refine y_iconst Q_X8_openUnknowns (k := 11) rfl ?_
      refine y_icmp_ne 23 Q_X8_openUnknowns (k := 12) rfl (by decide) (hB.2.1 _ _) ⟨by decide, by decide⟩ (fun c => ?_) (fun c => ?_)
      · replace h := h.2 c
        obtain ⟨q2, h⟩ := h
        refine y_iinc (L' := [some (.ref 12), some (.int (iI l1)), some (.int (iI (l2 + 1)))]) Q_X8_openUnknowns (k := 14) rfl (by decide) rfl rfl ?_
        refine z_goto (tgt := 4) Q_X8_openUnknowns (k := 15) rfl (by decide) ?_
        exact y_fg (zsb_c rfl (zsb_c rfl (zsb_c rfl zsb_e))) (ih l1 (l2 + 1) z1 q2 h)
      · replace h := h.1 c
        obtain ⟨q3, h⟩ := h
        refine y_iinc (L' := [some (.ref 12), some (.int (iI (l1 + 1))), some (.int (iI l2))]) Q_X8_openUnknowns (k := 13) rfl (by decide) rfl rfl ?_
        obtain ⟨q4, h⟩ := h
        refine y_iinc (L' := [some (.ref 12), some (.int (iI (l1 + 1))), some (.int (iI (l2 + 1)))]) Q_X8_openUnknowns (k := 14) rfl (by decide) rfl rfl ?_
        refine z_goto (tgt := 4) Q_X8_openUnknowns (k := 15) rfl (by decide) ?_
        exact y_fg (zsb_c rfl (zsb_c rfl (zsb_c rfl zsb_e))) (ih (l1 + 1) (l2 + 1) q3 q4 h)
set_option maxHeartbeats 4000000 in
set_option maxRecDepth 20000 in
theorem w_X8_openUnknowns {S : zS} {V : qV} {J : qJ} {Q : Int → Prop} (d : Nat) (hB : qB S V) (h : W_X8_openUnknowns V Q) : Z M_X8_openUnknowns d 0 0 0 [some (.ref 12), none, none] [] S (qi V) (qj J) (qP_i S V J Q) := by
  unfold W_X8_openUnknowns at h
  refine y_iconst Q_X8_openUnknowns (k := 0) rfl ?_
  refine y_istore_n (L' := [some (.ref 12), some (.int (iI 0)), none]) Q_X8_openUnknowns (k := 1) rfl (by decide) rfl ?_
  refine y_iconst Q_X8_openUnknowns (k := 2) rfl ?_
  refine y_istore_n (L' := [some (.ref 12), some (.int (iI 0)), some (.int (iI 0))]) Q_X8_openUnknowns (k := 3) rfl (by decide) rfl ?_
  refine y_fg (zsb_c rfl (zsb_c rfl (zsb_c rfl zsb_e))) (v_X8_openUnknowns_4 d hB (fun l1x5 l2x5 zl1x5 zl2x5 h => ?_) 100000 0 0 ⟨by decide, by decide⟩ ⟨by decide, by decide⟩ h)
  refine z_iload_n Q_X8_openUnknowns (k := 16) rfl rfl ?_
  exact y_iret Q_X8_openUnknowns (k := 17) rfl rfl (qI_i zl1x5 h)
set_option maxHeartbeats 4000000 in
set_option maxRecDepth 20000 in
theorem v_X8_havers_4 {S : zS} {V : qV} {J : qJ} {K : Int → Int → Prop} {Q : Int → Prop} {kc ks : Nat} (d : Nat) (hB : qB S V) {l1 : Int} (z1 : zr l1) (hK : ∀ (l2 : Int) (l3 : Int), zr l2 → zr l3 → K l2 l3 → Z M_X8_havers d kc ks 42 [some (.ref 12), some (.int (iI l1)), some (.int (iI l2)), some (.int (iI l3))] [] S (qi V) (qj J) (qP_i S V J Q)) : ∀ (f : Nat) (l2 : Int) (l3 : Int), zr l2 → zr l3 → lp_X8_havers_4 l1 V K f l2 l3 → Z M_X8_havers d kc ks 4 [some (.ref 12), some (.int (iI l1)), some (.int (iI l2)), some (.int (iI l3))] [] S (qi V) (qj J) (qP_i S V J Q) := by
  intro f
  induction f with
  | zero =>
    intro l2 l3 z2 z3 h
    exact h.elim
  | succ f ih =>
    intro l2 l3 z2 z3 h
    rw [lp_X8_havers_4] at h
    refine z_iload_n Q_X8_havers (k := 4) rfl rfl ?_
    refine z_aload_n Q_X8_havers (k := 5) rfl rfl ?_
    refine q_getI (o := 12) (z := 8) Q_X8_havers (k := 6) rfl F_X8_65 rfl rfl rfl (n_ hB.1 rfl) (k_12 hB.1) ?_
    refine y_icmp_ge 42 Q_X8_havers (k := 7) rfl (by decide) z3 (hB.2.1 _ _) (fun c => ?_) (fun c => ?_)
    · replace h := h.1 c
      exact y_fg (zsb_c rfl (zsb_c rfl (zsb_c rfl (zsb_c rfl zsb_e)))) (hK l2 l3 z2 z3 h)
    · replace h := h.2 c
      refine z_iload_n Q_X8_havers (k := 8) rfl rfl ?_
      refine y_bipush Q_X8_havers (k := 9) rfl (by decide) ?_
      refine y_icmp_ge 42 Q_X8_havers (k := 10) rfl (by decide) z3 ⟨by decide, by decide⟩ (fun c => ?_) (fun c => ?_)
      · replace h := h.1 c
        exact y_fg (zsb_c rfl (zsb_c rfl (zsb_c rfl (zsb_c rfl zsb_e)))) (hK l2 l3 z2 z3 h)
      · replace h := h.2 c
        refine z_aload_n Q_X8_havers (k := 11) rfl rfl ?_
        refine z_getR (b := 18) Q_X8_havers (k := 12) rfl F_X8_30 rfl (n_ hB.1 rfl) (k_12 hB.1) (r_12_7 hB.1) ?_
        refine z_iload_n Q_X8_havers (k := 13) rfl rfl ?_
        obtain ⟨q1, h⟩ := h
        have o2 := (qe_person (i := l3) hB.1 q1)
        refine y_aald (t := 6) (b := (22 + 2 * l3).toNat) Q_X8_havers (k := 14) rfl (n_ hB.1 rfl) (k_18 hB.1) (by decide) rfl q1.1 q1.2 (by decide) o2.2 ?_
        refine q_getI (o := 22 + 2 * l3) (z := 1) Q_X8_havers (k := 15) rfl F_X8_162 rfl (Int.toNat_of_nonneg o2.1.1.1) rfl o2.1.1.2.1 o2.1.1.2.2.1 ?_
        refine z_iload_n Q_X8_havers (k := 16) rfl rfl ?_
        refine y_iand Q_X8_havers (k := 17) rfl ?_
        refine z_iload_n Q_X8_havers (k := 18) rfl rfl ?_
        refine y_icmp_ne 36 Q_X8_havers (k := 19) rfl (by decide) (zand_r _ _) z1 (fun c => ?_) (fun c => ?_)
        · replace h := h.2 c
          obtain ⟨q3, h⟩ := h
          refine y_iinc (L' := [some (.ref 12), some (.int (iI l1)), some (.int (iI l2)), some (.int (iI (l3 + 1)))]) Q_X8_havers (k := 21) rfl (by decide) rfl rfl ?_
          refine z_goto (tgt := 4) Q_X8_havers (k := 22) rfl (by decide) ?_
          exact y_fg (zsb_c rfl (zsb_c rfl (zsb_c rfl (zsb_c rfl zsb_e)))) (ih l2 (l3 + 1) z2 q3 h)
        · replace h := h.1 c
          obtain ⟨q4, h⟩ := h
          refine y_iinc (L' := [some (.ref 12), some (.int (iI l1)), some (.int (iI (l2 + 1))), some (.int (iI l3))]) Q_X8_havers (k := 20) rfl (by decide) rfl rfl ?_
          obtain ⟨q5, h⟩ := h
          refine y_iinc (L' := [some (.ref 12), some (.int (iI l1)), some (.int (iI (l2 + 1))), some (.int (iI (l3 + 1)))]) Q_X8_havers (k := 21) rfl (by decide) rfl rfl ?_
          refine z_goto (tgt := 4) Q_X8_havers (k := 22) rfl (by decide) ?_
          exact y_fg (zsb_c rfl (zsb_c rfl (zsb_c rfl (zsb_c rfl zsb_e)))) (ih (l2 + 1) (l3 + 1) q4 q5 h)
set_option maxHeartbeats 4000000 in
set_option maxRecDepth 20000 in
theorem w_X8_havers {S : zS} {V : qV} {J : qJ} {Q : Int → Prop} (d : Nat) (hB : qB S V) {a1 : Int} (z1 : zr a1) (h : W_X8_havers a1 V Q) : Z M_X8_havers d 0 0 0 [some (.ref 12), some (.int (iI a1)), none, none] [] S (qi V) (qj J) (qP_i S V J Q) := by
  unfold W_X8_havers at h
  refine y_iconst Q_X8_havers (k := 0) rfl ?_
  refine y_istore_n (L' := [some (.ref 12), some (.int (iI a1)), some (.int (iI 0)), none]) Q_X8_havers (k := 1) rfl (by decide) rfl ?_
  refine y_iconst Q_X8_havers (k := 2) rfl ?_
  refine y_istore_n (L' := [some (.ref 12), some (.int (iI a1)), some (.int (iI 0)), some (.int (iI 0))]) Q_X8_havers (k := 3) rfl (by decide) rfl ?_
  refine y_fg (zsb_c rfl (zsb_c rfl (zsb_c rfl (zsb_c rfl zsb_e)))) (v_X8_havers_4 d hB z1 (fun l2x6 l3x6 zl2x6 zl3x6 h => ?_) 100000 0 0 ⟨by decide, by decide⟩ ⟨by decide, by decide⟩ h)
  refine z_iload_n Q_X8_havers (k := 23) rfl rfl ?_
  exact y_iret Q_X8_havers (k := 24) rfl rfl (qI_i zl2x6 h)
set_option maxHeartbeats 4000000 in
set_option maxRecDepth 20000 in
theorem v_X8_rareness_11 {S : zS} {V : qV} {J : qJ} {K : Int → Int → Prop} {Q : Int → Prop} {kc ks : Nat} (d : Nat) (hB : qB S V) {l1 : Int} (z1 : zr l1) (hK : ∀ (l2 : Int) (l3 : Int), zr l2 → zr l3 → K l2 l3 → Z M_X8_rareness (d + 1) kc ks 44 [some (.ref 12), some (.int (iI l1)), some (.int (iI l2)), some (.int (iI l3))] [] S (qi V) (qj J) (qP_i S V J Q)) : ∀ (f : Nat) (l2 : Int) (l3 : Int), zr l2 → zr l3 → lp_X8_rareness_11 l1 V K f l2 l3 → Z M_X8_rareness (d + 1) kc ks 11 [some (.ref 12), some (.int (iI l1)), some (.int (iI l2)), some (.int (iI l3))] [] S (qi V) (qj J) (qP_i S V J Q) := by
  intro f
  induction f with
  | zero =>
    intro l2 l3 z2 z3 h
    exact h.elim
  | succ f ih =>
    intro l2 l3 z2 z3 h
    rw [lp_X8_rareness_11] at h
    refine z_iload_n Q_X8_rareness (k := 8) rfl rfl ?_
    refine y_bipush Q_X8_rareness (k := 9) rfl (by decide) ?_
    refine y_icmp_ge 44 Q_X8_rareness (k := 10) rfl (by decide) z3 ⟨by decide, by decide⟩ (fun c => ?_) (fun c => ?_)
    · replace h := h.1 c
      exact y_fg (zsb_c rfl (zsb_c rfl (zsb_c rfl (zsb_c rfl zsb_e)))) (hK l2 l3 z2 z3 h)
    · replace h := h.2 c
      refine z_iload_n Q_X8_rareness (k := 11) rfl rfl ?_
      refine z_iload_n Q_X8_rareness (k := 12) rfl rfl ?_
      refine y_ishr Q_X8_rareness (k := 13) rfl ?_
      refine y_iconst Q_X8_rareness (k := 14) rfl ?_
      refine y_iand Q_X8_rareness (k := 15) rfl ?_
      refine y_iconst Q_X8_rareness (k := 16) rfl ?_
      refine y_icmp_ne 38 Q_X8_rareness (k := 17) rfl (by decide) (zand_r _ _) ⟨by decide, by decide⟩ (fun c => ?_) (fun c => ?_)
      · replace h := h.2 c
        obtain ⟨q1, h⟩ := h
        refine y_iinc (L' := [some (.ref 12), some (.int (iI l1)), some (.int (iI l2)), some (.int (iI (l3 + 1)))]) Q_X8_rareness (k := 26) rfl (by decide) rfl rfl ?_
        refine z_goto (tgt := 11) Q_X8_rareness (k := 27) rfl (by decide) ?_
        exact y_fg (zsb_c rfl (zsb_c rfl (zsb_c rfl (zsb_c rfl zsb_e)))) (ih l2 (l3 + 1) z2 q1 h)
      · replace h := h.1 c
        refine z_iload_n Q_X8_rareness (k := 18) rfl rfl ?_
        refine z_aload_n Q_X8_rareness (k := 19) rfl rfl ?_
        refine y_iconst Q_X8_rareness (k := 20) rfl ?_
        refine z_iload_n Q_X8_rareness (k := 21) rfl rfl ?_
        refine y_ishl Q_X8_rareness (k := 22) rfl ?_
        refine q_callV1_i Q_X8_rareness (k := 23) rfl rfl K_X8_havers V_X8_havers L_X8_147 (n_ hB.1 rfl) (k_12 hB.1) (Nat.le_of_ble_eq_true rfl) (Nat.le_of_ble_eq_true rfl) rfl (Nat.zero_le _) (Nat.zero_le _) (w_X8_havers d hB (zshl_r _ _) h) (fun r2 hz2 h => ?_)
        refine y_min Q_X8_rareness (k := 24) rfl L_X8_150 G_min (Nat.le_of_ble_eq_true rfl) z2 hz2 ?_
        refine y_istore_n (L' := [some (.ref 12), some (.int (iI l1)), some (.int (iI (min l2 r2))), some (.int (iI l3))]) Q_X8_rareness (k := 25) rfl (by decide) rfl ?_
        obtain ⟨q3, h⟩ := h
        refine y_iinc (L' := [some (.ref 12), some (.int (iI l1)), some (.int (iI (min l2 r2))), some (.int (iI (l3 + 1)))]) Q_X8_rareness (k := 26) rfl (by decide) rfl rfl ?_
        refine z_goto (tgt := 11) Q_X8_rareness (k := 27) rfl (by decide) ?_
        exact y_fg (zsb_c rfl (zsb_c rfl (zsb_c rfl (zsb_c rfl zsb_e)))) (ih (min l2 r2) (l3 + 1) (q_mn z2 hz2) q3 h)
set_option maxHeartbeats 4000000 in
set_option maxRecDepth 20000 in
theorem w_X8_rareness {S : zS} {V : qV} {J : qJ} {Q : Int → Prop} (d : Nat) (hB : qB S V) {a1 : Int} (z1 : zr a1) (h : W_X8_rareness a1 V Q) : Z M_X8_rareness (d + 1) 0 0 0 [some (.ref 12), some (.int (iI a1)), none, none] [] S (qi V) (qj J) (qP_i S V J Q) := by
  unfold W_X8_rareness at h
  refine z_iload_n Q_X8_rareness (k := 0) rfl rfl ?_
  refine y_if_ne 6 Q_X8_rareness (k := 1) rfl (by decide) z1 (fun c => ?_) (fun c => ?_)
  · replace h := h.2 c
    refine y_bipush Q_X8_rareness (k := 4) rfl (by decide) ?_
    refine y_istore_n (L' := [some (.ref 12), some (.int (iI a1)), some (.int (iI 16)), none]) Q_X8_rareness (k := 5) rfl (by decide) rfl ?_
    refine y_iconst Q_X8_rareness (k := 6) rfl ?_
    refine y_istore_n (L' := [some (.ref 12), some (.int (iI a1)), some (.int (iI 16)), some (.int (iI 0))]) Q_X8_rareness (k := 7) rfl (by decide) rfl ?_
    refine y_fg (zsb_c rfl (zsb_c rfl (zsb_c rfl (zsb_c rfl zsb_e)))) (v_X8_rareness_11 d hB z1 (fun l2x4 l3x4 zl2x4 zl3x4 h => ?_) 100000 16 0 ⟨by decide, by decide⟩ ⟨by decide, by decide⟩ h)
    refine z_iload_n Q_X8_rareness (k := 28) rfl rfl ?_
    exact y_iret Q_X8_rareness (k := 29) rfl rfl (qI_i zl2x4 h)
  · replace h := h.1 c
    refine y_iconst Q_X8_rareness (k := 2) rfl ?_
    exact y_iret Q_X8_rareness (k := 3) rfl rfl (qI_i ⟨by decide, by decide⟩ h)
set_option maxHeartbeats 4000000 in
set_option maxRecDepth 20000 in
theorem v_X8_ownHundredths_7 {S : zS} {V : qV} {J : qJ} {K : Int → Int → Int → Prop} {Q : Int → Prop} {kc ks : Nat} (d : Nat) (hB : qB S V) {l1 : Int} (z1 : zr l1) (hK : ∀ (l2 : Int) (l3 : Int) (l4 : Int), zr l2 → zr l3 → zr l4 → K l2 l3 l4 → Z M_X8_ownHundredths d kc ks 83 [some (.ref 12), some (.int (iI l1)), some (.int (iI l2)), some (.int (iI l3)), some (.int (iI l4)), none] [] S (qi V) (qj J) (qP_i S V J Q)) : ∀ (f : Nat) (l2 : Int) (l3 : Int) (l4 : Int), zr l2 → zr l3 → zr l4 → lp_X8_ownHundredths_7 l1 V K f l2 l3 l4 → Z M_X8_ownHundredths d kc ks 7 [some (.ref 12), some (.int (iI l1)), some (.int (iI l2)), some (.int (iI l3)), some (.int (iI l4)), none] [] S (qi V) (qj J) (qP_i S V J Q) := by
  intro f
  induction f with
  | zero =>
    intro l2 l3 l4 z2 z3 z4 h
    exact h.elim
  | succ f ih =>
    intro l2 l3 l4 z2 z3 z4 h
    rw [lp_X8_ownHundredths_7] at h
    refine z_iload Q_X8_ownHundredths (k := 6) rfl rfl ?_
    refine z_aload_n Q_X8_ownHundredths (k := 7) rfl rfl ?_
    refine q_getI (o := 12) (z := 8) Q_X8_ownHundredths (k := 8) rfl F_X8_65 rfl rfl rfl (n_ hB.1 rfl) (k_12 hB.1) ?_
    refine y_icmp_ge 83 Q_X8_ownHundredths (k := 9) rfl (by decide) z4 (hB.2.1 _ _) (fun c => ?_) (fun c => ?_)
    · replace h := h.1 c
      exact y_fg (zsb_c rfl (zsb_c rfl (zsb_c rfl (zsb_c rfl (zsb_c rfl (zsb_n zsb_e)))))) (hK l2 l3 l4 z2 z3 z4 h)
    · replace h := h.2 c
      refine z_iload Q_X8_ownHundredths (k := 10) rfl rfl ?_
      refine y_bipush Q_X8_ownHundredths (k := 11) rfl (by decide) ?_
      refine y_icmp_ge 83 Q_X8_ownHundredths (k := 12) rfl (by decide) z4 ⟨by decide, by decide⟩ (fun c => ?_) (fun c => ?_)
      · replace h := h.1 c
        exact y_fg (zsb_c rfl (zsb_c rfl (zsb_c rfl (zsb_c rfl (zsb_c rfl (zsb_n zsb_e)))))) (hK l2 l3 l4 z2 z3 z4 h)
      · replace h := h.2 c
        refine z_iload_n Q_X8_ownHundredths (k := 13) rfl rfl ?_
        refine y_if_lt 47 Q_X8_ownHundredths (k := 14) rfl (by decide) z1 (fun c => ?_) (fun c => ?_)
        · replace h := h.1 c
          refine y_iconst Q_X8_ownHundredths (k := 26) rfl ?_
          refine y_istore (L' := [some (.ref 12), some (.int (iI l1)), some (.int (iI l2)), some (.int (iI l3)), some (.int (iI l4)), some (.int (iI 0))]) Q_X8_ownHundredths (k := 27) rfl (by decide) rfl ?_
          refine z_iload_n Q_X8_ownHundredths (k := 28) rfl rfl ?_
          refine z_iload Q_X8_ownHundredths (k := 29) rfl rfl ?_
          obtain ⟨q1, h⟩ := h
          refine y_iadd Q_X8_ownHundredths (k := 30) rfl ?_
          refine y_istore_n (L' := [some (.ref 12), some (.int (iI l1)), some (.int (iI (l2 + 0))), some (.int (iI l3)), some (.int (iI l4)), some (.int (iI 0))]) Q_X8_ownHundredths (k := 31) rfl (by decide) rfl ?_
          refine z_iload_n Q_X8_ownHundredths (k := 32) rfl rfl ?_
          refine z_aload_n Q_X8_ownHundredths (k := 33) rfl rfl ?_
          refine z_getR (b := 18) Q_X8_ownHundredths (k := 34) rfl F_X8_30 rfl (n_ hB.1 rfl) (k_12 hB.1) (r_12_7 hB.1) ?_
          refine z_iload Q_X8_ownHundredths (k := 35) rfl rfl ?_
          obtain ⟨q2, h⟩ := h
          have o3 := (qe_person (i := l4) hB.1 q2)
          refine y_aald (t := 6) (b := (22 + 2 * l4).toNat) Q_X8_ownHundredths (k := 36) rfl (n_ hB.1 rfl) (k_18 hB.1) (by decide) rfl q2.1 q2.2 (by decide) o3.2 ?_
          refine q_getI (o := 22 + 2 * l4) (z := 0) Q_X8_ownHundredths (k := 37) rfl F_X8_159 rfl (Int.toNat_of_nonneg o3.1.1.1) rfl o3.1.1.2.1 o3.1.1.2.2.1 ?_
          refine y_if_ne 74 Q_X8_ownHundredths (k := 38) rfl (by decide) (hB.2.1 _ _) (fun c => ?_) (fun c => ?_)
          · replace h := h.2 c
            refine y_iconst Q_X8_ownHundredths (k := 41) rfl ?_
            obtain ⟨q4, h⟩ := h
            refine y_iadd Q_X8_ownHundredths (k := 42) rfl ?_
            refine y_istore_n (L' := [some (.ref 12), some (.int (iI l1)), some (.int (iI (l2 + 0))), some (.int (iI (l3 + 0))), some (.int (iI l4)), some (.int (iI 0))]) Q_X8_ownHundredths (k := 43) rfl (by decide) rfl ?_
            obtain ⟨q5, h⟩ := h
            refine y_iinc (L' := [some (.ref 12), some (.int (iI l1)), some (.int (iI (l2 + 0))), some (.int (iI (l3 + 0))), some (.int (iI (l4 + 1))), some (.int (iI 0))]) Q_X8_ownHundredths (k := 44) rfl (by decide) rfl rfl ?_
            refine z_goto (tgt := 7) Q_X8_ownHundredths (k := 45) rfl (by decide) ?_
            exact y_fg (zsb_c rfl (zsb_c rfl (zsb_c rfl (zsb_c rfl (zsb_c rfl (zsb_n zsb_e)))))) (ih (l2 + 0) (l3 + 0) (l4 + 1) q1 q4 q5 h)
          · replace h := h.1 c
            refine z_iload Q_X8_ownHundredths (k := 39) rfl rfl ?_
            refine z_goto (tgt := 75) Q_X8_ownHundredths (k := 40) rfl (by decide) ?_
            obtain ⟨q6, h⟩ := h
            refine y_iadd Q_X8_ownHundredths (k := 42) rfl ?_
            refine y_istore_n (L' := [some (.ref 12), some (.int (iI l1)), some (.int (iI (l2 + 0))), some (.int (iI (l3 + 0))), some (.int (iI l4)), some (.int (iI 0))]) Q_X8_ownHundredths (k := 43) rfl (by decide) rfl ?_
            obtain ⟨q7, h⟩ := h
            refine y_iinc (L' := [some (.ref 12), some (.int (iI l1)), some (.int (iI (l2 + 0))), some (.int (iI (l3 + 0))), some (.int (iI (l4 + 1))), some (.int (iI 0))]) Q_X8_ownHundredths (k := 44) rfl (by decide) rfl rfl ?_
            refine z_goto (tgt := 7) Q_X8_ownHundredths (k := 45) rfl (by decide) ?_
            exact y_fg (zsb_c rfl (zsb_c rfl (zsb_c rfl (zsb_c rfl (zsb_c rfl (zsb_n zsb_e)))))) (ih (l2 + 0) (l3 + 0) (l4 + 1) q1 q6 q7 h)
        · replace h := h.2 c
          refine z_iload_n Q_X8_ownHundredths (k := 15) rfl rfl ?_
          refine y_iconst Q_X8_ownHundredths (k := 16) rfl ?_
          refine y_icmp_ge 47 Q_X8_ownHundredths (k := 17) rfl (by decide) z1 ⟨by decide, by decide⟩ (fun c => ?_) (fun c => ?_)
          · replace h := h.1 c
            refine y_iconst Q_X8_ownHundredths (k := 26) rfl ?_
            refine y_istore (L' := [some (.ref 12), some (.int (iI l1)), some (.int (iI l2)), some (.int (iI l3)), some (.int (iI l4)), some (.int (iI 0))]) Q_X8_ownHundredths (k := 27) rfl (by decide) rfl ?_
            refine z_iload_n Q_X8_ownHundredths (k := 28) rfl rfl ?_
            refine z_iload Q_X8_ownHundredths (k := 29) rfl rfl ?_
            obtain ⟨q8, h⟩ := h
            refine y_iadd Q_X8_ownHundredths (k := 30) rfl ?_
            refine y_istore_n (L' := [some (.ref 12), some (.int (iI l1)), some (.int (iI (l2 + 0))), some (.int (iI l3)), some (.int (iI l4)), some (.int (iI 0))]) Q_X8_ownHundredths (k := 31) rfl (by decide) rfl ?_
            refine z_iload_n Q_X8_ownHundredths (k := 32) rfl rfl ?_
            refine z_aload_n Q_X8_ownHundredths (k := 33) rfl rfl ?_
            refine z_getR (b := 18) Q_X8_ownHundredths (k := 34) rfl F_X8_30 rfl (n_ hB.1 rfl) (k_12 hB.1) (r_12_7 hB.1) ?_
            refine z_iload Q_X8_ownHundredths (k := 35) rfl rfl ?_
            obtain ⟨q9, h⟩ := h
            have o10 := (qe_person (i := l4) hB.1 q9)
            refine y_aald (t := 6) (b := (22 + 2 * l4).toNat) Q_X8_ownHundredths (k := 36) rfl (n_ hB.1 rfl) (k_18 hB.1) (by decide) rfl q9.1 q9.2 (by decide) o10.2 ?_
            refine q_getI (o := 22 + 2 * l4) (z := 0) Q_X8_ownHundredths (k := 37) rfl F_X8_159 rfl (Int.toNat_of_nonneg o10.1.1.1) rfl o10.1.1.2.1 o10.1.1.2.2.1 ?_
            refine y_if_ne 74 Q_X8_ownHundredths (k := 38) rfl (by decide) (hB.2.1 _ _) (fun c => ?_) (fun c => ?_)
            · replace h := h.2 c
              refine y_iconst Q_X8_ownHundredths (k := 41) rfl ?_
              obtain ⟨q11, h⟩ := h
              refine y_iadd Q_X8_ownHundredths (k := 42) rfl ?_
              refine y_istore_n (L' := [some (.ref 12), some (.int (iI l1)), some (.int (iI (l2 + 0))), some (.int (iI (l3 + 0))), some (.int (iI l4)), some (.int (iI 0))]) Q_X8_ownHundredths (k := 43) rfl (by decide) rfl ?_
              obtain ⟨q12, h⟩ := h
              refine y_iinc (L' := [some (.ref 12), some (.int (iI l1)), some (.int (iI (l2 + 0))), some (.int (iI (l3 + 0))), some (.int (iI (l4 + 1))), some (.int (iI 0))]) Q_X8_ownHundredths (k := 44) rfl (by decide) rfl rfl ?_
              refine z_goto (tgt := 7) Q_X8_ownHundredths (k := 45) rfl (by decide) ?_
              exact y_fg (zsb_c rfl (zsb_c rfl (zsb_c rfl (zsb_c rfl (zsb_c rfl (zsb_n zsb_e)))))) (ih (l2 + 0) (l3 + 0) (l4 + 1) q8 q11 q12 h)
            · replace h := h.1 c
              refine z_iload Q_X8_ownHundredths (k := 39) rfl rfl ?_
              refine z_goto (tgt := 75) Q_X8_ownHundredths (k := 40) rfl (by decide) ?_
              obtain ⟨q13, h⟩ := h
              refine y_iadd Q_X8_ownHundredths (k := 42) rfl ?_
              refine y_istore_n (L' := [some (.ref 12), some (.int (iI l1)), some (.int (iI (l2 + 0))), some (.int (iI (l3 + 0))), some (.int (iI l4)), some (.int (iI 0))]) Q_X8_ownHundredths (k := 43) rfl (by decide) rfl ?_
              obtain ⟨q14, h⟩ := h
              refine y_iinc (L' := [some (.ref 12), some (.int (iI l1)), some (.int (iI (l2 + 0))), some (.int (iI (l3 + 0))), some (.int (iI (l4 + 1))), some (.int (iI 0))]) Q_X8_ownHundredths (k := 44) rfl (by decide) rfl rfl ?_
              refine z_goto (tgt := 7) Q_X8_ownHundredths (k := 45) rfl (by decide) ?_
              exact y_fg (zsb_c rfl (zsb_c rfl (zsb_c rfl (zsb_c rfl (zsb_c rfl (zsb_n zsb_e)))))) (ih (l2 + 0) (l3 + 0) (l4 + 1) q8 q13 q14 h)
          · replace h := h.2 c
            refine z_aload_n Q_X8_ownHundredths (k := 18) rfl rfl ?_
            refine z_getR (b := 18) Q_X8_ownHundredths (k := 19) rfl F_X8_30 rfl (n_ hB.1 rfl) (k_12 hB.1) (r_12_7 hB.1) ?_
            refine z_iload Q_X8_ownHundredths (k := 20) rfl rfl ?_
            obtain ⟨q15, h⟩ := h
            have o16 := (qe_person (i := l4) hB.1 q15)
            refine y_aald (t := 6) (b := (22 + 2 * l4).toNat) Q_X8_ownHundredths (k := 21) rfl (n_ hB.1 rfl) (k_18 hB.1) (by decide) rfl q15.1 q15.2 (by decide) o16.2 ?_
            refine z_getR (b := ((22 + 2 * l4) + 1).toNat) Q_X8_ownHundredths (k := 22) rfl F_X8_156 rfl o16.1.1.2.1 o16.1.1.2.2.1 o16.1.2.1 ?_
            refine z_iload_n Q_X8_ownHundredths (k := 23) rfl rfl ?_
            obtain ⟨q17, h⟩ := h
            refine q_iald (o := (22 + 2 * l4) + 1) (N := 4) Q_X8_ownHundredths (k := 24) rfl (Int.toNat_of_nonneg o16.1.2.2.1) o16.1.2.2.2.1 o16.1.2.2.2.2.1 rfl q17 (by decide) ?_
            refine z_goto (tgt := 48) Q_X8_ownHundredths (k := 25) rfl (by decide) ?_
            refine y_istore (L' := [some (.ref 12), some (.int (iI l1)), some (.int (iI l2)), some (.int (iI l3)), some (.int (iI l4)), some (.int (iI (V ((22 + 2 * l4) + 1) l1)))]) Q_X8_ownHundredths (k := 27) rfl (by decide) rfl ?_
            refine z_iload_n Q_X8_ownHundredths (k := 28) rfl rfl ?_
            refine z_iload Q_X8_ownHundredths (k := 29) rfl rfl ?_
            obtain ⟨q18, h⟩ := h
            refine y_iadd Q_X8_ownHundredths (k := 30) rfl ?_
            refine y_istore_n (L' := [some (.ref 12), some (.int (iI l1)), some (.int (iI (l2 + (V ((22 + 2 * l4) + 1) l1)))), some (.int (iI l3)), some (.int (iI l4)), some (.int (iI (V ((22 + 2 * l4) + 1) l1)))]) Q_X8_ownHundredths (k := 31) rfl (by decide) rfl ?_
            refine z_iload_n Q_X8_ownHundredths (k := 32) rfl rfl ?_
            refine z_aload_n Q_X8_ownHundredths (k := 33) rfl rfl ?_
            refine z_getR (b := 18) Q_X8_ownHundredths (k := 34) rfl F_X8_30 rfl (n_ hB.1 rfl) (k_12 hB.1) (r_12_7 hB.1) ?_
            refine z_iload Q_X8_ownHundredths (k := 35) rfl rfl ?_
            obtain ⟨q19, h⟩ := h
            have o20 := (qe_person (i := l4) hB.1 q19)
            refine y_aald (t := 6) (b := (22 + 2 * l4).toNat) Q_X8_ownHundredths (k := 36) rfl (n_ hB.1 rfl) (k_18 hB.1) (by decide) rfl q19.1 q19.2 (by decide) o20.2 ?_
            refine q_getI (o := 22 + 2 * l4) (z := 0) Q_X8_ownHundredths (k := 37) rfl F_X8_159 rfl (Int.toNat_of_nonneg o20.1.1.1) rfl o20.1.1.2.1 o20.1.1.2.2.1 ?_
            refine y_if_ne 74 Q_X8_ownHundredths (k := 38) rfl (by decide) (hB.2.1 _ _) (fun c => ?_) (fun c => ?_)
            · replace h := h.2 c
              refine y_iconst Q_X8_ownHundredths (k := 41) rfl ?_
              obtain ⟨q21, h⟩ := h
              refine y_iadd Q_X8_ownHundredths (k := 42) rfl ?_
              refine y_istore_n (L' := [some (.ref 12), some (.int (iI l1)), some (.int (iI (l2 + (V ((22 + 2 * l4) + 1) l1)))), some (.int (iI (l3 + 0))), some (.int (iI l4)), some (.int (iI (V ((22 + 2 * l4) + 1) l1)))]) Q_X8_ownHundredths (k := 43) rfl (by decide) rfl ?_
              obtain ⟨q22, h⟩ := h
              refine y_iinc (L' := [some (.ref 12), some (.int (iI l1)), some (.int (iI (l2 + (V ((22 + 2 * l4) + 1) l1)))), some (.int (iI (l3 + 0))), some (.int (iI (l4 + 1))), some (.int (iI (V ((22 + 2 * l4) + 1) l1)))]) Q_X8_ownHundredths (k := 44) rfl (by decide) rfl rfl ?_
              refine z_goto (tgt := 7) Q_X8_ownHundredths (k := 45) rfl (by decide) ?_
              exact y_fg (zsb_c rfl (zsb_c rfl (zsb_c rfl (zsb_c rfl (zsb_c rfl (zsb_n zsb_e)))))) (ih (l2 + (V ((22 + 2 * l4) + 1) l1)) (l3 + 0) (l4 + 1) q18 q21 q22 h)
            · replace h := h.1 c
              refine z_iload Q_X8_ownHundredths (k := 39) rfl rfl ?_
              refine z_goto (tgt := 75) Q_X8_ownHundredths (k := 40) rfl (by decide) ?_
              obtain ⟨q23, h⟩ := h
              refine y_iadd Q_X8_ownHundredths (k := 42) rfl ?_
              refine y_istore_n (L' := [some (.ref 12), some (.int (iI l1)), some (.int (iI (l2 + (V ((22 + 2 * l4) + 1) l1)))), some (.int (iI (l3 + (V ((22 + 2 * l4) + 1) l1)))), some (.int (iI l4)), some (.int (iI (V ((22 + 2 * l4) + 1) l1)))]) Q_X8_ownHundredths (k := 43) rfl (by decide) rfl ?_
              obtain ⟨q24, h⟩ := h
              refine y_iinc (L' := [some (.ref 12), some (.int (iI l1)), some (.int (iI (l2 + (V ((22 + 2 * l4) + 1) l1)))), some (.int (iI (l3 + (V ((22 + 2 * l4) + 1) l1)))), some (.int (iI (l4 + 1))), some (.int (iI (V ((22 + 2 * l4) + 1) l1)))]) Q_X8_ownHundredths (k := 44) rfl (by decide) rfl rfl ?_
              refine z_goto (tgt := 7) Q_X8_ownHundredths (k := 45) rfl (by decide) ?_
              exact y_fg (zsb_c rfl (zsb_c rfl (zsb_c rfl (zsb_c rfl (zsb_c rfl (zsb_n zsb_e)))))) (ih (l2 + (V ((22 + 2 * l4) + 1) l1)) (l3 + (V ((22 + 2 * l4) + 1) l1)) (l4 + 1) q18 q23 q24 h)
set_option maxHeartbeats 4000000 in
set_option maxRecDepth 20000 in
theorem w_X8_ownHundredths {S : zS} {V : qV} {J : qJ} {Q : Int → Prop} (d : Nat) (hB : qB S V) {a1 : Int} (z1 : zr a1) (h : W_X8_ownHundredths a1 V Q) : Z M_X8_ownHundredths d 0 0 0 [some (.ref 12), some (.int (iI a1)), none, none, none, none] [] S (qi V) (qj J) (qP_i S V J Q) := by
  unfold W_X8_ownHundredths at h
  refine y_iconst Q_X8_ownHundredths (k := 0) rfl ?_
  refine y_istore_n (L' := [some (.ref 12), some (.int (iI a1)), some (.int (iI 0)), none, none, none]) Q_X8_ownHundredths (k := 1) rfl (by decide) rfl ?_
  refine y_iconst Q_X8_ownHundredths (k := 2) rfl ?_
  refine y_istore_n (L' := [some (.ref 12), some (.int (iI a1)), some (.int (iI 0)), some (.int (iI 0)), none, none]) Q_X8_ownHundredths (k := 3) rfl (by decide) rfl ?_
  refine y_iconst Q_X8_ownHundredths (k := 4) rfl ?_
  refine y_istore (L' := [some (.ref 12), some (.int (iI a1)), some (.int (iI 0)), some (.int (iI 0)), some (.int (iI 0)), none]) Q_X8_ownHundredths (k := 5) rfl (by decide) rfl ?_
  refine y_fg (zsb_c rfl (zsb_c rfl (zsb_c rfl (zsb_c rfl (zsb_c rfl (zsb_n zsb_e)))))) (v_X8_ownHundredths_7 d hB z1 (fun l2x25 l3x25 l4x25 zl2x25 zl3x25 zl4x25 h => ?_) 100000 0 0 0 ⟨by decide, by decide⟩ ⟨by decide, by decide⟩ ⟨by decide, by decide⟩ h)
  refine z_iload_n Q_X8_ownHundredths (k := 46) rfl rfl ?_
  refine y_if_le 96 Q_X8_ownHundredths (k := 47) rfl (by decide) zl2x25 (fun c => ?_) (fun c => ?_)
  · replace h := h.1 c
    refine y_iconst Q_X8_ownHundredths (k := 54) rfl ?_
    exact y_iret Q_X8_ownHundredths (k := 55) rfl rfl (qI_i ⟨by decide, by decide⟩ h)
  · replace h := h.2 c
    refine z_iload_n Q_X8_ownHundredths (k := 48) rfl rfl ?_
    refine y_bipush Q_X8_ownHundredths (k := 49) rfl (by decide) ?_
    obtain ⟨q26, h⟩ := h
    refine y_imul Q_X8_ownHundredths (k := 50) rfl ?_
    refine z_iload_n Q_X8_ownHundredths (k := 51) rfl rfl ?_
    obtain ⟨q27, h⟩ := h
    refine y_idiv Q_X8_ownHundredths (k := 52) rfl q26 q27 zl2x25 ?_
    refine z_goto (tgt := 97) Q_X8_ownHundredths (k := 53) rfl (by decide) ?_
    exact y_iret Q_X8_ownHundredths (k := 55) rfl rfl (qI_i (q_tdiv q26 q27) h)
set_option maxHeartbeats 4000000 in
set_option maxRecDepth 20000 in
theorem v_X8_claimsOf_4 {S : zS} {V : qV} {J : qJ} {K : Int → Int → Prop} {Q : Int → Prop} {kc ks : Nat} (d : Nat) (hB : qB S V) {l1 : Int} (z1 : zr l1) (hK : ∀ (l2 : Int) (l3 : Int), zr l2 → zr l3 → K l2 l3 → Z M_X8_claimsOf d kc ks 40 [some (.ref 12), some (.int (iI l1)), some (.int (iI l2)), some (.int (iI l3))] [] S (qi V) (qj J) (qP_i S V J Q)) : ∀ (f : Nat) (l2 : Int) (l3 : Int), zr l2 → zr l3 → lp_X8_claimsOf_4 l1 V K f l2 l3 → Z M_X8_claimsOf d kc ks 4 [some (.ref 12), some (.int (iI l1)), some (.int (iI l2)), some (.int (iI l3))] [] S (qi V) (qj J) (qP_i S V J Q) := by
  intro f
  induction f with
  | zero =>
    intro l2 l3 z2 z3 h
    exact h.elim
  | succ f ih =>
    intro l2 l3 z2 z3 h
    rw [lp_X8_claimsOf_4] at h
    refine z_iload_n Q_X8_claimsOf (k := 4) rfl rfl ?_
    refine z_aload_n Q_X8_claimsOf (k := 5) rfl rfl ?_
    refine q_getI (o := 12) (z := 12) Q_X8_claimsOf (k := 6) rfl F_X8_71 rfl rfl rfl (n_ hB.1 rfl) (k_12 hB.1) ?_
    refine y_icmp_ge 40 Q_X8_claimsOf (k := 7) rfl (by decide) z3 (hB.2.1 _ _) (fun c => ?_) (fun c => ?_)
    · replace h := h.1 c
      exact y_fg (zsb_c rfl (zsb_c rfl (zsb_c rfl (zsb_c rfl zsb_e)))) (hK l2 l3 z2 z3 h)
    · replace h := h.2 c
      refine z_iload_n Q_X8_claimsOf (k := 8) rfl rfl ?_
      refine y_bipush Q_X8_claimsOf (k := 9) rfl (by decide) ?_
      refine y_icmp_ge 40 Q_X8_claimsOf (k := 10) rfl (by decide) z3 ⟨by decide, by decide⟩ (fun c => ?_) (fun c => ?_)
      · replace h := h.1 c
        exact y_fg (zsb_c rfl (zsb_c rfl (zsb_c rfl (zsb_c rfl zsb_e)))) (hK l2 l3 z2 z3 h)
      · replace h := h.2 c
        refine z_aload_n Q_X8_claimsOf (k := 11) rfl rfl ?_
        refine z_getR (b := 20) Q_X8_claimsOf (k := 12) rfl F_X8_42 rfl (n_ hB.1 rfl) (k_12 hB.1) (r_12_11 hB.1) ?_
        refine z_iload_n Q_X8_claimsOf (k := 13) rfl rfl ?_
        obtain ⟨q1, h⟩ := h
        have o2 := (qe_claim (i := l3) hB.1 q1)
        refine y_aald (t := 8) (b := (86 + 1 * l3).toNat) Q_X8_claimsOf (k := 14) rfl (n_ hB.1 rfl) (k_20 hB.1) (by decide) rfl q1.1 q1.2 (by decide) o2.2 ?_
        refine q_getI (o := 86 + 1 * l3) (z := 0) Q_X8_claimsOf (k := 15) rfl F_X8_90 rfl (Int.toNat_of_nonneg o2.1.1) rfl o2.1.2.1 o2.1.2.2.1 ?_
        refine z_iload_n Q_X8_claimsOf (k := 16) rfl rfl ?_
        refine y_icmp_ne 34 Q_X8_claimsOf (k := 17) rfl (by decide) (hB.2.1 _ _) z1 (fun c => ?_) (fun c => ?_)
        · replace h := h.2 c
          obtain ⟨q3, h⟩ := h
          refine y_iinc (L' := [some (.ref 12), some (.int (iI l1)), some (.int (iI l2)), some (.int (iI (l3 + 1)))]) Q_X8_claimsOf (k := 19) rfl (by decide) rfl rfl ?_
          refine z_goto (tgt := 4) Q_X8_claimsOf (k := 20) rfl (by decide) ?_
          exact y_fg (zsb_c rfl (zsb_c rfl (zsb_c rfl (zsb_c rfl zsb_e)))) (ih l2 (l3 + 1) z2 q3 h)
        · replace h := h.1 c
          obtain ⟨q4, h⟩ := h
          refine y_iinc (L' := [some (.ref 12), some (.int (iI l1)), some (.int (iI (l2 + 1))), some (.int (iI l3))]) Q_X8_claimsOf (k := 18) rfl (by decide) rfl rfl ?_
          obtain ⟨q5, h⟩ := h
          refine y_iinc (L' := [some (.ref 12), some (.int (iI l1)), some (.int (iI (l2 + 1))), some (.int (iI (l3 + 1)))]) Q_X8_claimsOf (k := 19) rfl (by decide) rfl rfl ?_
          refine z_goto (tgt := 4) Q_X8_claimsOf (k := 20) rfl (by decide) ?_
          exact y_fg (zsb_c rfl (zsb_c rfl (zsb_c rfl (zsb_c rfl zsb_e)))) (ih (l2 + 1) (l3 + 1) q4 q5 h)
set_option maxHeartbeats 4000000 in
set_option maxRecDepth 20000 in
theorem w_X8_claimsOf {S : zS} {V : qV} {J : qJ} {Q : Int → Prop} (d : Nat) (hB : qB S V) {a1 : Int} (z1 : zr a1) (h : W_X8_claimsOf a1 V Q) : Z M_X8_claimsOf d 0 0 0 [some (.ref 12), some (.int (iI a1)), none, none] [] S (qi V) (qj J) (qP_i S V J Q) := by
  unfold W_X8_claimsOf at h
  refine y_iconst Q_X8_claimsOf (k := 0) rfl ?_
  refine y_istore_n (L' := [some (.ref 12), some (.int (iI a1)), some (.int (iI 0)), none]) Q_X8_claimsOf (k := 1) rfl (by decide) rfl ?_
  refine y_iconst Q_X8_claimsOf (k := 2) rfl ?_
  refine y_istore_n (L' := [some (.ref 12), some (.int (iI a1)), some (.int (iI 0)), some (.int (iI 0))]) Q_X8_claimsOf (k := 3) rfl (by decide) rfl ?_
  refine y_fg (zsb_c rfl (zsb_c rfl (zsb_c rfl (zsb_c rfl zsb_e)))) (v_X8_claimsOf_4 d hB z1 (fun l2x6 l3x6 zl2x6 zl3x6 h => ?_) 100000 0 0 ⟨by decide, by decide⟩ ⟨by decide, by decide⟩ h)
  refine z_iload_n Q_X8_claimsOf (k := 21) rfl rfl ?_
  exact y_iret Q_X8_claimsOf (k := 22) rfl rfl (qI_i zl2x6 h)
set_option maxHeartbeats 4000000 in
set_option maxRecDepth 20000 in
theorem w_X8_nameOf {S : zS} {V : qV} {J : qJ} {Q : Int → Prop} (d : Nat) (hB : qB S V) {a1 : Int} (p1 : qFi S a1) {a2 : Int} (z2 : zr a2) {a3 : Int} (z3 : zr a3) (h : W_X8_nameOf a1 a2 a3 V Q) : Z M_X8_nameOf (d + 2) 0 0 0 [some (.ref 12), some (.ref a1.toNat), some (.int (iI a2)), some (.int (iI a3))] [] S (qi V) (qj J) (qP_i S V J Q) := by
  unfold W_X8_nameOf at h
  refine z_iload_n Q_X8_nameOf (k := 0) rfl rfl ?_
  by_cases c1_0 : a3 = 0
  · replace h := h.1 c1_0
    refine y_switchK (j := 0) (tgt := 52) Q_X8_nameOf (k := 1) rfl (by rw [c1_0]; decide) (by decide) z3 rfl (by decide) ?_
    refine z_aload_n Q_X8_nameOf (k := 2) rfl rfl ?_
    refine q_getI (o := a1) (z := 0) Q_X8_nameOf (k := 3) rfl F_X8_116 rfl (Int.toNat_of_nonneg p1.1.1) rfl p1.1.2.1 p1.1.2.2.1 ?_
    exact y_iret Q_X8_nameOf (k := 4) rfl rfl (qI_i (hB.2.1 _ _) h)
  replace h := h.2
  by_cases c1_1 : a3 = 1
  · replace h := h.1 c1_1
    refine y_switchK (j := 1) (tgt := 57) Q_X8_nameOf (k := 1) rfl (by rw [c1_1]; decide) (by decide) z3 rfl (by decide) ?_
    refine z_aload_n Q_X8_nameOf (k := 5) rfl rfl ?_
    refine q_getI (o := a1) (z := 1) Q_X8_nameOf (k := 6) rfl F_X8_119 rfl (Int.toNat_of_nonneg p1.1.1) rfl p1.1.2.1 p1.1.2.2.1 ?_
    exact y_iret Q_X8_nameOf (k := 7) rfl rfl (qI_i (hB.2.1 _ _) h)
  replace h := h.2
  by_cases c1_2 : a3 = 2
  · replace h := h.1 c1_2
    refine y_switchK (j := 2) (tgt := 62) Q_X8_nameOf (k := 1) rfl (by rw [c1_2]; decide) (by decide) z3 rfl (by decide) ?_
    refine z_aload_n Q_X8_nameOf (k := 8) rfl rfl ?_
    refine q_getI (o := a1) (z := 2) Q_X8_nameOf (k := 9) rfl F_X8_122 rfl (Int.toNat_of_nonneg p1.1.1) rfl p1.1.2.1 p1.1.2.2.1 ?_
    exact y_iret Q_X8_nameOf (k := 10) rfl rfl (qI_i (hB.2.1 _ _) h)
  replace h := h.2
  by_cases c1_3 : a3 = 3
  · replace h := h.1 c1_3
    refine y_switchK (j := 3) (tgt := 67) Q_X8_nameOf (k := 1) rfl (by rw [c1_3]; decide) (by decide) z3 rfl (by decide) ?_
    refine z_aload_n Q_X8_nameOf (k := 11) rfl rfl ?_
    refine q_getI (o := a1) (z := 1) Q_X8_nameOf (k := 12) rfl F_X8_119 rfl (Int.toNat_of_nonneg p1.1.1) rfl p1.1.2.1 p1.1.2.2.1 ?_
    refine y_if_lt 94 Q_X8_nameOf (k := 13) rfl (by decide) (hB.2.1 _ _) (fun c => ?_) (fun c => ?_)
    · replace h := h.1 c
      refine y_iconst Q_X8_nameOf (k := 24) rfl ?_
      exact y_iret Q_X8_nameOf (k := 25) rfl rfl (qI_i ⟨by decide, by decide⟩ h)
    · replace h := h.2 c
      refine z_aload_n Q_X8_nameOf (k := 14) rfl rfl ?_
      refine q_getI (o := a1) (z := 1) Q_X8_nameOf (k := 15) rfl F_X8_119 rfl (Int.toNat_of_nonneg p1.1.1) rfl p1.1.2.1 p1.1.2.2.1 ?_
      refine y_iconst Q_X8_nameOf (k := 16) rfl ?_
      refine y_icmp_ge 94 Q_X8_nameOf (k := 17) rfl (by decide) (hB.2.1 _ _) ⟨by decide, by decide⟩ (fun c => ?_) (fun c => ?_)
      · replace h := h.1 c
        refine y_iconst Q_X8_nameOf (k := 24) rfl ?_
        exact y_iret Q_X8_nameOf (k := 25) rfl rfl (qI_i ⟨by decide, by decide⟩ h)
      · replace h := h.2 c
        refine z_aload_n Q_X8_nameOf (k := 18) rfl rfl ?_
        refine z_getR (b := 16) Q_X8_nameOf (k := 19) rfl F_X8_22 rfl (n_ hB.1 rfl) (k_12 hB.1) (r_12_5 hB.1) ?_
        refine z_aload_n Q_X8_nameOf (k := 20) rfl rfl ?_
        refine q_getI (o := a1) (z := 1) Q_X8_nameOf (k := 21) rfl F_X8_119 rfl (Int.toNat_of_nonneg p1.1.1) rfl p1.1.2.1 p1.1.2.2.1 ?_
        obtain ⟨q2, h⟩ := h
        refine q_iald (o := 16) (N := 4) Q_X8_nameOf (k := 22) rfl rfl (n_ hB.1 rfl) (k_16 hB.1) rfl q2 (by decide) ?_
        refine z_goto (tgt := 95) Q_X8_nameOf (k := 23) rfl (by decide) ?_
        exact y_iret Q_X8_nameOf (k := 25) rfl rfl (qI_i (hB.2.1 _ _) h)
  replace h := h.2
  by_cases c1_4 : a3 = 4
  · replace h := h.1 c1_4
    refine y_switchK (j := 4) (tgt := 96) Q_X8_nameOf (k := 1) rfl (by rw [c1_4]; decide) (by decide) z3 rfl (by decide) ?_
    refine z_aload_n Q_X8_nameOf (k := 26) rfl rfl ?_
    refine q_getI (o := a1) (z := 3) Q_X8_nameOf (k := 27) rfl F_X8_125 rfl (Int.toNat_of_nonneg p1.1.1) rfl p1.1.2.1 p1.1.2.2.1 ?_
    refine q_callS1_i Q_X8_nameOf (k := 28) rfl rfl K_J6_bitCount_0f7a4 S_J6_bitCount_0f7a4 L_X8_126 (Nat.le_of_ble_eq_true rfl) (Nat.le_of_ble_eq_true rfl) rfl (Nat.zero_le _) (Nat.zero_le _) (w_J6_bitCount_0f7a4 (d + 1) hB (hB.2.1 _ _) h) (fun r3 hz3 h => ?_)
    exact y_iret Q_X8_nameOf (k := 29) rfl rfl (qI_i hz3 h)
  replace h := h.2
  by_cases c1_5 : a3 = 5
  · replace h := h.1 c1_5
    refine y_switchK (j := 5) (tgt := 104) Q_X8_nameOf (k := 1) rfl (by rw [c1_5]; decide) (by decide) z3 rfl (by decide) ?_
    refine z_aload_n Q_X8_nameOf (k := 30) rfl rfl ?_
    refine z_aload_n Q_X8_nameOf (k := 31) rfl rfl ?_
    refine q_getI (o := a1) (z := 3) Q_X8_nameOf (k := 32) rfl F_X8_125 rfl (Int.toNat_of_nonneg p1.1.1) rfl p1.1.2.1 p1.1.2.2.1 ?_
    refine q_callV1_i Q_X8_nameOf (k := 33) rfl rfl K_X8_rareness V_X8_rareness L_X8_132 (n_ hB.1 rfl) (k_12 hB.1) (Nat.le_of_ble_eq_true rfl) (Nat.le_of_ble_eq_true rfl) rfl (Nat.zero_le _) (Nat.zero_le _) (w_X8_rareness d hB (hB.2.1 _ _) h) (fun r4 hz4 h => ?_)
    exact y_iret Q_X8_nameOf (k := 34) rfl rfl (qI_i hz4 h)
  replace h := h.2
  by_cases c1_6 : a3 = 6
  · replace h := h.1 c1_6
    refine y_switchK (j := 6) (tgt := 113) Q_X8_nameOf (k := 1) rfl (by rw [c1_6]; decide) (by decide) z3 rfl (by decide) ?_
    refine z_aload_n Q_X8_nameOf (k := 35) rfl rfl ?_
    refine z_aload_n Q_X8_nameOf (k := 36) rfl rfl ?_
    refine q_getI (o := a1) (z := 1) Q_X8_nameOf (k := 37) rfl F_X8_119 rfl (Int.toNat_of_nonneg p1.1.1) rfl p1.1.2.1 p1.1.2.2.1 ?_
    refine q_callV1_i Q_X8_nameOf (k := 38) rfl rfl K_X8_ownHundredths V_X8_ownHundredths L_X8_135 (n_ hB.1 rfl) (k_12 hB.1) (Nat.le_of_ble_eq_true rfl) (Nat.le_of_ble_eq_true rfl) rfl (Nat.zero_le _) (Nat.zero_le _) (w_X8_ownHundredths (d + 1) hB (hB.2.1 _ _) h) (fun r5 hz5 h => ?_)
    exact y_iret Q_X8_nameOf (k := 39) rfl rfl (qI_i hz5 h)
  replace h := h.2
  by_cases c1_7 : a3 = 7
  · replace h := h.1 c1_7
    refine y_switchK (j := 7) (tgt := 122) Q_X8_nameOf (k := 1) rfl (by rw [c1_7]; decide) (by decide) z3 rfl (by decide) ?_
    refine z_aload_n Q_X8_nameOf (k := 40) rfl rfl ?_
    refine q_getI (o := 12) (z := 4) Q_X8_nameOf (k := 41) rfl F_X8_62 rfl rfl rfl (n_ hB.1 rfl) (k_12 hB.1) ?_
    refine z_aload_n Q_X8_nameOf (k := 42) rfl rfl ?_
    refine q_getI (o := a1) (z := 5) Q_X8_nameOf (k := 43) rfl F_X8_138 rfl (Int.toNat_of_nonneg p1.1.1) rfl p1.1.2.1 p1.1.2.2.1 ?_
    obtain ⟨q6, h⟩ := h
    refine y_isub Q_X8_nameOf (k := 44) rfl ?_
    exact y_iret Q_X8_nameOf (k := 45) rfl rfl (qI_i q6 h)
  replace h := h.2
  by_cases c1_8 : a3 = 8
  · replace h := h.1 c1_8
    refine y_switchK (j := 8) (tgt := 132) Q_X8_nameOf (k := 1) rfl (by rw [c1_8]; decide) (by decide) z3 rfl (by decide) ?_
    refine z_aload_n Q_X8_nameOf (k := 46) rfl rfl ?_
    refine q_getI (o := a1) (z := 6) Q_X8_nameOf (k := 47) rfl F_X8_141 rfl (Int.toNat_of_nonneg p1.1.1) rfl p1.1.2.1 p1.1.2.2.1 ?_
    exact y_iret Q_X8_nameOf (k := 48) rfl rfl (qI_i (hB.2.1 _ _) h)
  replace h := h.2
  have cd1 : a3 < 0 ∨ 8 < a3 := by omega
  replace h := h cd1
  refine y_switchD (tgt := 137) Q_X8_nameOf (k := 1) rfl cd1 z3 (by decide) ?_
  refine z_aload_n Q_X8_nameOf (k := 49) rfl rfl ?_
  refine z_iload_n Q_X8_nameOf (k := 50) rfl rfl ?_
  refine q_callV1_i Q_X8_nameOf (k := 51) rfl rfl K_X8_claimsOf V_X8_claimsOf L_X8_144 (n_ hB.1 rfl) (k_12 hB.1) (Nat.le_of_ble_eq_true rfl) (Nat.le_of_ble_eq_true rfl) rfl (Nat.zero_le _) (Nat.zero_le _) (w_X8_claimsOf (d + 1) hB z2 h) (fun r7 hz7 h => ?_)
  exact y_iret Q_X8_nameOf (k := 52) rfl rfl (qI_i hz7 h)
set_option maxHeartbeats 4000000 in
set_option maxRecDepth 20000 in
theorem w_X8_fits {S : zS} {V : qV} {J : qJ} {Q : Int → Prop} (d : Nat) (hB : qB S V) {a1 : Int} (p1 : qCl S a1) (h : W_X8_fits a1 V Q) : Z M_X8_fits d 0 0 0 [some (.ref 12), some (.ref a1.toNat)] [] S (qi V) (qj J) (qP_z S V J Q) := by
  unfold W_X8_fits at h
  refine z_aload_n Q_X8_fits (k := 0) rfl rfl ?_
  refine q_getI (o := a1) (z := 0) Q_X8_fits (k := 1) rfl F_X8_90 rfl (Int.toNat_of_nonneg p1.1) rfl p1.2.1 p1.2.2.1 ?_
  refine y_if_lt 32 Q_X8_fits (k := 2) rfl (by decide) (hB.2.1 _ _) (fun c => ?_) (fun c => ?_)
  · replace h := h.1 c
    refine y_iconst Q_X8_fits (k := 14) rfl ?_
    exact y_zret Q_X8_fits (k := 15) rfl rfl (Or.inl rfl) (qI_z ⟨by decide, by decide⟩ (Or.inl rfl) h)
  · replace h := h.2 c
    refine z_aload_n Q_X8_fits (k := 3) rfl rfl ?_
    refine q_getI (o := a1) (z := 0) Q_X8_fits (k := 4) rfl F_X8_90 rfl (Int.toNat_of_nonneg p1.1) rfl p1.2.1 p1.2.2.1 ?_
    refine y_bipush Q_X8_fits (k := 5) rfl (by decide) ?_
    refine y_icmp_ge 32 Q_X8_fits (k := 6) rfl (by decide) (hB.2.1 _ _) ⟨by decide, by decide⟩ (fun c => ?_) (fun c => ?_)
    · replace h := h.1 c
      refine y_iconst Q_X8_fits (k := 14) rfl ?_
      exact y_zret Q_X8_fits (k := 15) rfl rfl (Or.inl rfl) (qI_z ⟨by decide, by decide⟩ (Or.inl rfl) h)
    · replace h := h.2 c
      refine z_aload_n Q_X8_fits (k := 7) rfl rfl ?_
      refine q_getI (o := a1) (z := 1) Q_X8_fits (k := 8) rfl F_X8_93 rfl (Int.toNat_of_nonneg p1.1) rfl p1.2.1 p1.2.2.1 ?_
      refine y_if_lt 32 Q_X8_fits (k := 9) rfl (by decide) (hB.2.1 _ _) (fun c => ?_) (fun c => ?_)
      · replace h := h.1 c
        refine y_iconst Q_X8_fits (k := 14) rfl ?_
        exact y_zret Q_X8_fits (k := 15) rfl rfl (Or.inl rfl) (qI_z ⟨by decide, by decide⟩ (Or.inl rfl) h)
      · replace h := h.2 c
        refine z_aload_n Q_X8_fits (k := 10) rfl rfl ?_
        refine q_getI (o := a1) (z := 1) Q_X8_fits (k := 11) rfl F_X8_93 rfl (Int.toNat_of_nonneg p1.1) rfl p1.2.1 p1.2.2.1 ?_
        refine y_bipush Q_X8_fits (k := 12) rfl (by decide) ?_
        refine y_icmp_lt 34 Q_X8_fits (k := 13) rfl (by decide) (hB.2.1 _ _) ⟨by decide, by decide⟩ (fun c => ?_) (fun c => ?_)
        · replace h := h.1 c
          refine z_aload_n Q_X8_fits (k := 16) rfl rfl ?_
          refine z_getR (b := 19) Q_X8_fits (k := 17) rfl F_X8_36 rfl (n_ hB.1 rfl) (k_12 hB.1) (r_12_9 hB.1) ?_
          refine z_aload_n Q_X8_fits (k := 18) rfl rfl ?_
          refine q_getI (o := a1) (z := 0) Q_X8_fits (k := 19) rfl F_X8_90 rfl (Int.toNat_of_nonneg p1.1) rfl p1.2.1 p1.2.2.1 ?_
          obtain ⟨q1, h⟩ := h
          have o2 := (qe_find (i := V a1 0) hB.1 q1)
          refine y_aald (t := 7) (b := (54 + 4 * (V a1 0)).toNat) Q_X8_fits (k := 20) rfl (n_ hB.1 rfl) (k_19 hB.1) (by decide) rfl q1.1 q1.2 (by decide) o2.2 ?_
          refine q_getI (o := 54 + 4 * (V a1 0)) (z := 3) Q_X8_fits (k := 21) rfl F_X8_125 rfl (Int.toNat_of_nonneg o2.1.1.1) rfl o2.1.1.2.1 o2.1.1.2.2.1 ?_
          refine z_aload_n Q_X8_fits (k := 22) rfl rfl ?_
          refine z_getR (b := 18) Q_X8_fits (k := 23) rfl F_X8_30 rfl (n_ hB.1 rfl) (k_12 hB.1) (r_12_7 hB.1) ?_
          refine z_aload_n Q_X8_fits (k := 24) rfl rfl ?_
          refine q_getI (o := a1) (z := 1) Q_X8_fits (k := 25) rfl F_X8_93 rfl (Int.toNat_of_nonneg p1.1) rfl p1.2.1 p1.2.2.1 ?_
          obtain ⟨q3, h⟩ := h
          have o4 := (qe_person (i := V a1 1) hB.1 q3)
          refine y_aald (t := 6) (b := (22 + 2 * (V a1 1)).toNat) Q_X8_fits (k := 26) rfl (n_ hB.1 rfl) (k_18 hB.1) (by decide) rfl q3.1 q3.2 (by decide) o4.2 ?_
          refine q_getI (o := 22 + 2 * (V a1 1)) (z := 1) Q_X8_fits (k := 27) rfl F_X8_162 rfl (Int.toNat_of_nonneg o4.1.1.1) rfl o4.1.1.2.1 o4.1.1.2.2.1 ?_
          refine y_iand Q_X8_fits (k := 28) rfl ?_
          refine z_aload_n Q_X8_fits (k := 29) rfl rfl ?_
          refine q_getI (o := a1) (z := 2) Q_X8_fits (k := 30) rfl F_X8_96 rfl (Int.toNat_of_nonneg p1.1) rfl p1.2.1 p1.2.2.1 ?_
          refine y_iand Q_X8_fits (k := 31) rfl ?_
          refine z_aload_n Q_X8_fits (k := 32) rfl rfl ?_
          refine q_getI (o := a1) (z := 2) Q_X8_fits (k := 33) rfl F_X8_96 rfl (Int.toNat_of_nonneg p1.1) rfl p1.2.1 p1.2.2.1 ?_
          refine y_icmp_ne 75 Q_X8_fits (k := 34) rfl (by decide) (zand_r _ _) (hB.2.1 _ _) (fun c => ?_) (fun c => ?_)
          · replace h := h.2 c
            refine y_iconst Q_X8_fits (k := 37) rfl ?_
            exact y_zret Q_X8_fits (k := 38) rfl rfl (Or.inl rfl) (qI_z ⟨by decide, by decide⟩ (Or.inl rfl) h)
          · replace h := h.1 c
            refine y_iconst Q_X8_fits (k := 35) rfl ?_
            refine z_goto (tgt := 76) Q_X8_fits (k := 36) rfl (by decide) ?_
            exact y_zret Q_X8_fits (k := 38) rfl rfl (Or.inr rfl) (qI_z ⟨by decide, by decide⟩ (Or.inr rfl) h)
        · replace h := h.2 c
          refine y_iconst Q_X8_fits (k := 14) rfl ?_
          exact y_zret Q_X8_fits (k := 15) rfl rfl (Or.inl rfl) (qI_z ⟨by decide, by decide⟩ (Or.inl rfl) h)
set_option maxHeartbeats 4000000 in
set_option maxRecDepth 20000 in
theorem v_X9_whoBits_4 {S : zS} {V : qV} {J : qJ} {K : Int → Int → Prop} {Q : Int → Prop} {kc ks : Nat} (d : Nat) (hB : qB S V) {l0 : Int} (o0_ : qVe S l0) (hK : ∀ (l1 : Int) (l2 : Int), zr l1 → zr l2 → K l1 l2 → Z M_X9_whoBits d kc ks 39 [some (.ref l0.toNat), some (.int (iI l1)), some (.int (iI l2))] [] S (qi V) (qj J) (qP_i S V J Q)) : ∀ (f : Nat) (l1 : Int) (l2 : Int), zr l1 → zr l2 → lp_X9_whoBits_4 l0 V J K f l1 l2 → Z M_X9_whoBits d kc ks 4 [some (.ref l0.toNat), some (.int (iI l1)), some (.int (iI l2))] [] S (qi V) (qj J) (qP_i S V J Q) := by
  intro f
  induction f with
  | zero =>
    intro l1 l2 z1 z2 h
    exact h.elim
  | succ f ih =>
    intro l1 l2 z1 z2 h
    rw [lp_X9_whoBits_4] at h
    refine z_iload_n Q_X9_whoBits (k := 4) rfl rfl ?_
    refine z_aload_n Q_X9_whoBits (k := 5) rfl rfl ?_
    refine z_getR (b := (l0 + 1).toNat) Q_X9_whoBits (k := 6) rfl F_X9_9 rfl o0_.1.2.1 o0_.1.2.2.1 o0_.2.1 ?_
    refine q_alen (t := 1) (N := 80) Q_X9_whoBits (k := 7) rfl o0_.2.2.1.2.1 o0_.2.2.1.2.2.1 rfl rfl ?_
    refine y_icmp_ge 39 Q_X9_whoBits (k := 8) rfl (by decide) z2 ⟨by decide, by decide⟩ (fun c => ?_) (fun c => ?_)
    · replace h := h.1 c
      exact y_fg (zsb_c rfl (zsb_c rfl (zsb_c rfl zsb_e))) (hK l1 l2 z1 z2 h)
    · replace h := h.2 c
      refine z_aload_n Q_X9_whoBits (k := 9) rfl rfl ?_
      refine z_getR (b := (l0 + 1).toNat) Q_X9_whoBits (k := 10) rfl F_X9_9 rfl o0_.1.2.1 o0_.1.2.2.1 o0_.2.1 ?_
      refine z_iload_n Q_X9_whoBits (k := 11) rfl rfl ?_
      obtain ⟨q1, h⟩ := h
      refine q_lald (o := l0 + 1) (N := 80) Q_X9_whoBits (k := 12) rfl (Int.toNat_of_nonneg o0_.2.2.1.1) o0_.2.2.1.2.1 o0_.2.2.1.2.2.1 rfl q1 (by decide) ?_
      refine z_lconst_ Q_X9_whoBits (k := 13) rfl (v := 0) rfl ?_
      refine y_lcmp Q_X9_whoBits (k := 14) rfl ?_
      refine y_if_eq 33 Q_X9_whoBits (k := 15) rfl (by decide) (zlc_r _ _) (fun c => ?_) (fun c => ?_)
      · replace h := h.1 c
        obtain ⟨q2, h⟩ := h
        refine y_iinc (L' := [some (.ref l0.toNat), some (.int (iI l1)), some (.int (iI (l2 + 1)))]) Q_X9_whoBits (k := 24) rfl (by decide) rfl rfl ?_
        refine z_goto (tgt := 4) Q_X9_whoBits (k := 25) rfl (by decide) ?_
        exact y_fg (zsb_c rfl (zsb_c rfl (zsb_c rfl zsb_e))) (ih l1 (l2 + 1) z1 q2 h)
      · replace h := h.2 c
        refine z_iload_n Q_X9_whoBits (k := 16) rfl rfl ?_
        refine y_iconst Q_X9_whoBits (k := 17) rfl ?_
        refine z_iload_n Q_X9_whoBits (k := 18) rfl rfl ?_
        refine y_bipush Q_X9_whoBits (k := 19) rfl (by decide) ?_
        refine y_idiv Q_X9_whoBits (k := 20) rfl z2 (by decide) ⟨by decide, by decide⟩ ?_
        refine y_ishl Q_X9_whoBits (k := 21) rfl ?_
        refine y_ior Q_X9_whoBits (k := 22) rfl ?_
        refine y_istore_n (L' := [some (.ref l0.toNat), some (.int (iI (zor l1 (zshl 1 (l2.tdiv 16))))), some (.int (iI l2))]) Q_X9_whoBits (k := 23) rfl (by decide) rfl ?_
        obtain ⟨q3, h⟩ := h
        refine y_iinc (L' := [some (.ref l0.toNat), some (.int (iI (zor l1 (zshl 1 (l2.tdiv 16))))), some (.int (iI (l2 + 1)))]) Q_X9_whoBits (k := 24) rfl (by decide) rfl rfl ?_
        refine z_goto (tgt := 4) Q_X9_whoBits (k := 25) rfl (by decide) ?_
        exact y_fg (zsb_c rfl (zsb_c rfl (zsb_c rfl zsb_e))) (ih (zor l1 (zshl 1 (l2.tdiv 16))) (l2 + 1) (zor_r _ _) q3 h)
set_option maxHeartbeats 4000000 in
set_option maxRecDepth 20000 in
theorem w_X9_whoBits {S : zS} {V : qV} {J : qJ} {Q : Int → Prop} (d : Nat) (hB : qB S V) {a0 : Int} (p0 : qVe S a0) (h : W_X9_whoBits a0 V J Q) : Z M_X9_whoBits d 0 0 0 [some (.ref a0.toNat), none, none] [] S (qi V) (qj J) (qP_i S V J Q) := by
  unfold W_X9_whoBits at h
  refine y_iconst Q_X9_whoBits (k := 0) rfl ?_
  refine y_istore_n (L' := [some (.ref a0.toNat), some (.int (iI 0)), none]) Q_X9_whoBits (k := 1) rfl (by decide) rfl ?_
  refine y_iconst Q_X9_whoBits (k := 2) rfl ?_
  refine y_istore_n (L' := [some (.ref a0.toNat), some (.int (iI 0)), some (.int (iI 0))]) Q_X9_whoBits (k := 3) rfl (by decide) rfl ?_
  refine y_fg (zsb_c rfl (zsb_c rfl (zsb_c rfl zsb_e))) (v_X9_whoBits_4 d hB p0 (fun l1x4 l2x4 zl1x4 zl2x4 h => ?_) 100000 0 0 ⟨by decide, by decide⟩ ⟨by decide, by decide⟩ h)
  refine z_iload_n Q_X9_whoBits (k := 26) rfl rfl ?_
  exact y_iret Q_X9_whoBits (k := 27) rfl rfl (qI_i zl1x4 h)
set_option maxHeartbeats 4000000 in
set_option maxRecDepth 20000 in
theorem v_X9_partsFrom_2 {S : zS} {V : qV} {J : qJ} {K : Int → Prop} {Q : Int → Prop} {kc ks : Nat} (d : Nat) (hB : qB S V) {l0 : Int} (o0_ : qVe S l0) {l1 : Int} (o1_ : qVe S l1) (hK : ∀ (l2 : Int), zr l2 → K l2 → Z M_X9_partsFrom d kc ks 44 [some (.ref l0.toNat), some (.ref l1.toNat), some (.int (iI l2))] [] S (qi V) (qj J) (qP_z S V J Q)) : ∀ (f : Nat) (l2 : Int), zr l2 → lp_X9_partsFrom_2 l0 l1 V J K Q f l2 → Z M_X9_partsFrom d kc ks 2 [some (.ref l0.toNat), some (.ref l1.toNat), some (.int (iI l2))] [] S (qi V) (qj J) (qP_z S V J Q) := by
  intro f
  induction f with
  | zero =>
    intro l2 z2 h
    exact h.elim
  | succ f ih =>
    intro l2 z2 h
    rw [lp_X9_partsFrom_2] at h
    refine z_iload_n Q_X9_partsFrom (k := 2) rfl rfl ?_
    refine z_aload_n Q_X9_partsFrom (k := 3) rfl rfl ?_
    refine z_getR (b := (l0 + 1).toNat) Q_X9_partsFrom (k := 4) rfl F_X9_9 rfl o0_.1.2.1 o0_.1.2.2.1 o0_.2.1 ?_
    refine q_alen (t := 1) (N := 80) Q_X9_partsFrom (k := 5) rfl o0_.2.2.1.2.1 o0_.2.2.1.2.2.1 rfl rfl ?_
    refine y_icmp_ge 44 Q_X9_partsFrom (k := 6) rfl (by decide) z2 ⟨by decide, by decide⟩ (fun c => ?_) (fun c => ?_)
    · replace h := h.1 c
      exact y_fg (zsb_c rfl (zsb_c rfl (zsb_c rfl zsb_e))) (hK l2 z2 h)
    · replace h := h.2 c
      refine z_iload_n Q_X9_partsFrom (k := 7) rfl rfl ?_
      refine z_aload_n Q_X9_partsFrom (k := 8) rfl rfl ?_
      refine z_getR (b := (l1 + 1).toNat) Q_X9_partsFrom (k := 9) rfl F_X9_9 rfl o1_.1.2.1 o1_.1.2.2.1 o1_.2.1 ?_
      refine q_alen (t := 1) (N := 80) Q_X9_partsFrom (k := 10) rfl o1_.2.2.1.2.1 o1_.2.2.1.2.2.1 rfl rfl ?_
      refine y_icmp_ge 44 Q_X9_partsFrom (k := 11) rfl (by decide) z2 ⟨by decide, by decide⟩ (fun c => ?_) (fun c => ?_)
      · replace h := h.1 c
        exact y_fg (zsb_c rfl (zsb_c rfl (zsb_c rfl zsb_e))) (hK l2 z2 h)
      · replace h := h.2 c
        refine z_aload_n Q_X9_partsFrom (k := 12) rfl rfl ?_
        refine z_getR (b := (l0 + 1).toNat) Q_X9_partsFrom (k := 13) rfl F_X9_9 rfl o0_.1.2.1 o0_.1.2.2.1 o0_.2.1 ?_
        refine z_iload_n Q_X9_partsFrom (k := 14) rfl rfl ?_
        obtain ⟨q1, h⟩ := h
        refine q_lald (o := l0 + 1) (N := 80) Q_X9_partsFrom (k := 15) rfl (Int.toNat_of_nonneg o0_.2.2.1.1) o0_.2.2.1.2.1 o0_.2.2.1.2.2.1 rfl q1 (by decide) ?_
        refine z_aload_n Q_X9_partsFrom (k := 16) rfl rfl ?_
        refine z_getR (b := (l1 + 1).toNat) Q_X9_partsFrom (k := 17) rfl F_X9_9 rfl o1_.1.2.1 o1_.1.2.2.1 o1_.2.1 ?_
        refine z_iload_n Q_X9_partsFrom (k := 18) rfl rfl ?_
        obtain ⟨q2, h⟩ := h
        refine q_lald (o := l1 + 1) (N := 80) Q_X9_partsFrom (k := 19) rfl (Int.toNat_of_nonneg o1_.2.2.1.1) o1_.2.2.1.2.1 o1_.2.2.1.2.2.1 rfl q2 (by decide) ?_
        refine y_lcmp Q_X9_partsFrom (k := 20) rfl ?_
        refine y_if_eq 38 Q_X9_partsFrom (k := 21) rfl (by decide) (zlc_r _ _) (fun c => ?_) (fun c => ?_)
        · replace h := h.1 c
          obtain ⟨q3, h⟩ := h
          refine y_iinc (L' := [some (.ref l0.toNat), some (.ref l1.toNat), some (.int (iI (l2 + 1)))]) Q_X9_partsFrom (k := 24) rfl (by decide) rfl rfl ?_
          refine z_goto (tgt := 2) Q_X9_partsFrom (k := 25) rfl (by decide) ?_
          exact y_fg (zsb_c rfl (zsb_c rfl (zsb_c rfl zsb_e))) (ih (l2 + 1) q3 h)
        · replace h := h.2 c
          refine y_iconst Q_X9_partsFrom (k := 22) rfl ?_
          exact y_zret Q_X9_partsFrom (k := 23) rfl rfl (Or.inr rfl) (qI_z ⟨by decide, by decide⟩ (Or.inr rfl) h)
set_option maxHeartbeats 4000000 in
set_option maxRecDepth 20000 in
theorem w_X9_partsFrom {S : zS} {V : qV} {J : qJ} {Q : Int → Prop} (d : Nat) (hB : qB S V) {a0 : Int} (p0 : qVe S a0) {a1 : Int} (p1 : qVe S a1) (h : W_X9_partsFrom a0 a1 V J Q) : Z M_X9_partsFrom d 0 0 0 [some (.ref a0.toNat), some (.ref a1.toNat), none] [] S (qi V) (qj J) (qP_z S V J Q) := by
  unfold W_X9_partsFrom at h
  refine y_iconst Q_X9_partsFrom (k := 0) rfl ?_
  refine y_istore_n (L' := [some (.ref a0.toNat), some (.ref a1.toNat), some (.int (iI 0))]) Q_X9_partsFrom (k := 1) rfl (by decide) rfl ?_
  refine y_fg (zsb_c rfl (zsb_c rfl (zsb_c rfl zsb_e))) (v_X9_partsFrom_2 d hB p0 p1 (fun l2x4 zl2x4 h => ?_) 100000 0 ⟨by decide, by decide⟩ h)
  refine y_iconst Q_X9_partsFrom (k := 26) rfl ?_
  exact y_zret Q_X9_partsFrom (k := 27) rfl rfl (Or.inl rfl) (qI_z ⟨by decide, by decide⟩ (Or.inl rfl) h)
set_option maxHeartbeats 4000000 in
set_option maxRecDepth 20000 in
theorem w_X10_feed {S : zS} {V : qV} {J : qJ} {Q : Int → qV → Prop} (d : Nat) (hB : qB S V) {a1 : Int} (z1 : zr a1) {a2 : Int} (z2 : zr a2) {a3 : Int} (z3 : zr a3) {a4 : Int} (z4 : zr a4) {a5 : Int} (z5 : zr a5) (h : W_X10_feed a1 a2 a3 a4 a5 V Q) : Z M_X10_feed (d + 1) 0 0 0 [some (.ref 0), some (.int (iI a1)), some (.int (iI a2)), some (.int (iI a3)), some (.int (iI a4)), some (.int (iI a5))] [] S (qi V) (qj J) (qP_iV S J Q) := by
  unfold W_X10_feed at h
  refine z_aload_n Q_X10_feed (k := 0) rfl rfl ?_
  refine z_getR (b := 1) Q_X10_feed (k := 1) rfl F_X10_12 rfl (n_ hB.1 rfl) (k_0 hB.1) (r_0_0 hB.1) ?_
  refine q_getI (o := 1) (z := 1) Q_X10_feed (k := 2) rfl F_X10_76 rfl rfl rfl (n_ hB.1 rfl) (k_1 hB.1) ?_
  refine y_bipush Q_X10_feed (k := 3) rfl (by decide) ?_
  obtain ⟨q1, h⟩ := h
  refine y_iadd Q_X10_feed (k := 4) rfl ?_
  refine y_sipush Q_X10_feed (k := 5) rfl (by decide) ?_
  refine y_icmp_le 18 Q_X10_feed (k := 6) rfl (by decide) q1 ⟨by decide, by decide⟩ (fun c => ?_) (fun c => ?_)
  · replace h := h.1 c
    refine z_aload_n Q_X10_feed (k := 9) rfl rfl ?_
    refine z_getR (b := 1) Q_X10_feed (k := 10) rfl F_X10_12 rfl (n_ hB.1 rfl) (k_0 hB.1) (r_0_0 hB.1) ?_
    refine z_iload_n Q_X10_feed (k := 11) rfl rfl ?_
    refine q_callV1_uV Q_X10_feed (k := 12) rfl rfl K_X6_put V_X6_put L_X10_80 (n_ hB.1 rfl) (k_1 hB.1) (Nat.le_of_ble_eq_true rfl) (Nat.le_of_ble_eq_true rfl) rfl (Nat.zero_le _) (Nat.zero_le _) (w_X6_put d hB z1 h) (fun V2 hB2 h => ?_)
    refine z_aload_n Q_X10_feed (k := 13) rfl rfl ?_
    refine z_getR (b := 1) Q_X10_feed (k := 14) rfl F_X10_12 rfl (n_ hB2.1 rfl) (k_0 hB2.1) (r_0_0 hB2.1) ?_
    refine z_iload_n Q_X10_feed (k := 15) rfl rfl ?_
    refine q_callV1_uV Q_X10_feed (k := 16) rfl rfl K_X6_put V_X6_put L_X10_80 (n_ hB2.1 rfl) (k_1 hB2.1) (Nat.le_of_ble_eq_true rfl) (Nat.le_of_ble_eq_true rfl) rfl (Nat.zero_le _) (Nat.zero_le _) (w_X6_put d hB2 z2 h) (fun V3 hB3 h => ?_)
    refine z_aload_n Q_X10_feed (k := 17) rfl rfl ?_
    refine z_getR (b := 1) Q_X10_feed (k := 18) rfl F_X10_12 rfl (n_ hB3.1 rfl) (k_0 hB3.1) (r_0_0 hB3.1) ?_
    refine z_iload_n Q_X10_feed (k := 19) rfl rfl ?_
    refine q_callV1_uV Q_X10_feed (k := 20) rfl rfl K_X6_put V_X6_put L_X10_80 (n_ hB3.1 rfl) (k_1 hB3.1) (Nat.le_of_ble_eq_true rfl) (Nat.le_of_ble_eq_true rfl) rfl (Nat.zero_le _) (Nat.zero_le _) (w_X6_put d hB3 z3 h) (fun V4 hB4 h => ?_)
    refine z_aload_n Q_X10_feed (k := 21) rfl rfl ?_
    refine z_getR (b := 1) Q_X10_feed (k := 22) rfl F_X10_12 rfl (n_ hB4.1 rfl) (k_0 hB4.1) (r_0_0 hB4.1) ?_
    refine z_iload Q_X10_feed (k := 23) rfl rfl ?_
    refine q_callV1_uV Q_X10_feed (k := 24) rfl rfl K_X6_put V_X6_put L_X10_80 (n_ hB4.1 rfl) (k_1 hB4.1) (Nat.le_of_ble_eq_true rfl) (Nat.le_of_ble_eq_true rfl) rfl (Nat.zero_le _) (Nat.zero_le _) (w_X6_put d hB4 z4 h) (fun V5 hB5 h => ?_)
    refine z_aload_n Q_X10_feed (k := 25) rfl rfl ?_
    refine z_getR (b := 1) Q_X10_feed (k := 26) rfl F_X10_12 rfl (n_ hB5.1 rfl) (k_0 hB5.1) (r_0_0 hB5.1) ?_
    refine z_iload Q_X10_feed (k := 27) rfl rfl ?_
    refine q_callV1_uV Q_X10_feed (k := 28) rfl rfl K_X6_put V_X6_put L_X10_80 (n_ hB5.1 rfl) (k_1 hB5.1) (Nat.le_of_ble_eq_true rfl) (Nat.le_of_ble_eq_true rfl) rfl (Nat.zero_le _) (Nat.zero_le _) (w_X6_put d hB5 z5 h) (fun V6 hB6 h => ?_)
    refine z_aload_n Q_X10_feed (k := 29) rfl rfl ?_
    refine z_getR (b := 1) Q_X10_feed (k := 30) rfl F_X10_12 rfl (n_ hB6.1 rfl) (k_0 hB6.1) (r_0_0 hB6.1) ?_
    refine q_getI (o := 1) (z := 1) Q_X10_feed (k := 31) rfl F_X10_76 rfl rfl rfl (n_ hB6.1 rfl) (k_1 hB6.1) ?_
    exact y_iret Q_X10_feed (k := 32) rfl rfl (qI_iV hB6 (hB6.2.1 _ _) h)
  · replace h := h.2 c
    refine y_iconst Q_X10_feed (k := 7) rfl ?_
    exact y_iret Q_X10_feed (k := 8) rfl rfl (qI_iV hB ⟨by decide, by decide⟩ h)
set_option maxHeartbeats 4000000 in
set_option maxRecDepth 20000 in
theorem w_X10_takeTape {S : zS} {V : qV} {J : qJ} {Q : qV → Prop} {X : String → qV → Prop} (d : Nat) (hB : qB S V) {a1 : Int} (z1 : zr a1) (h : W_X10_takeTape a1 V Q X) : Z M_X10_takeTape (d + 1) 1 6 0 [some (.ref 0), some (.int (iI a1))] [] S (qi V) (qj J) (qP_uVt S J Q X) := by
  unfold W_X10_takeTape at h
  refine z_iload_n Q_X10_takeTape (k := 0) rfl rfl ?_
  refine y_if_lt 15 Q_X10_takeTape (k := 1) rfl (by decide) z1 (fun c => ?_) (fun c => ?_)
  · replace h := h.1 c
    exact z_throw Q_X10_takeTape (k := 7) rfl (zT.at Q_X10_takeTape (k := 8) rfl).1 (zT.at Q_X10_takeTape (k := 9) rfl).1 (zT.at Q_X10_takeTape (k := 10) rfl).1 (zT.at Q_X10_takeTape (k := 11) rfl).1 rfl (t_X10_118_120) (Nat.le_of_ble_eq_true rfl) (by decide) (by decide) (qX_uVt hB h)
  · replace h := h.2 c
    refine z_iload_n Q_X10_takeTape (k := 2) rfl rfl ?_
    refine z_aload_n Q_X10_takeTape (k := 3) rfl rfl ?_
    refine z_getR (b := 1) Q_X10_takeTape (k := 4) rfl F_X10_12 rfl (n_ hB.1 rfl) (k_0 hB.1) (r_0_0 hB.1) ?_
    refine q_getI (o := 1) (z := 1) Q_X10_takeTape (k := 5) rfl F_X10_76 rfl rfl rfl (n_ hB.1 rfl) (k_1 hB.1) ?_
    refine y_icmp_le 25 Q_X10_takeTape (k := 6) rfl (by decide) z1 (hB.2.1 _ _) (fun c => ?_) (fun c => ?_)
    · replace h := h.1 c
      refine z_aload_n Q_X10_takeTape (k := 12) rfl rfl ?_
      refine z_getR (b := 1) Q_X10_takeTape (k := 13) rfl F_X10_12 rfl (n_ hB.1 rfl) (k_0 hB.1) (r_0_0 hB.1) ?_
      refine q_callV0_uV Q_X10_takeTape (k := 14) rfl rfl K_X6_empty V_X6_empty L_X10_125 (n_ hB.1 rfl) (k_1 hB.1) (Nat.le_of_ble_eq_true rfl) (Nat.le_of_ble_eq_true rfl) rfl (Nat.zero_le _) (Nat.zero_le _) (w_X6_empty d hB  h) (fun V1 hB1 h => ?_)
      exact z_vret Q_X10_takeTape (k := 15) rfl rfl (qI_uVt hB1 h)
    · replace h := h.2 c
      exact z_throw Q_X10_takeTape (k := 7) rfl (zT.at Q_X10_takeTape (k := 8) rfl).1 (zT.at Q_X10_takeTape (k := 9) rfl).1 (zT.at Q_X10_takeTape (k := 10) rfl).1 (zT.at Q_X10_takeTape (k := 11) rfl).1 rfl (t_X10_118_120) (Nat.le_of_ble_eq_true rfl) (by decide) (by decide) (qX_uVt hB h)
set_option maxHeartbeats 4000000 in
set_option maxRecDepth 20000 in
theorem w_X10_law {S : zS} {V : qV} {J : qJ} {Q : Int → qV → Prop} {X : String → qV → Prop} (d : Nat) (hB : qB S V) {a1 : Int} (z1 : zr a1) (h : W_X10_law a1 V Q X) : Z M_X10_law (d + 127) 1 6 0 [some (.ref 0), some (.int (iI a1))] [] S (qi V) (qj J) (qP_iSVt S J Q X) := by
  unfold W_X10_law at h
  refine z_aload_n Q_X10_law (k := 0) rfl rfl ?_
  refine z_iload_n Q_X10_law (k := 1) rfl rfl ?_
  refine q_callV1_uVt Q_X10_law (k := 2) rfl rfl K_X10_takeTape V_X10_takeTape L_X10_84 (n_ hB.1 rfl) (k_0 hB.1) (Nat.le_of_ble_eq_true rfl) (Nat.le_of_ble_eq_true rfl) rfl (by decide) (by decide) (w_X10_takeTape (d + 125) hB z1 h) (fun E V1 hB1 h => qX_iSVt hB1 rfl h) (fun V1 hB1 h => ?_)
  refine z_aload_n Q_X10_law (k := 3) rfl rfl ?_
  refine q_getI (o := 0) (z := 2) Q_X10_law (k := 4) rfl F_X10_87 rfl rfl rfl (n_ hB1.1 rfl) (k_0 hB1.1) ?_
  refine y_iconst Q_X10_law (k := 5) rfl ?_
  refine y_icmp_lt 15 Q_X10_law (k := 6) rfl (by decide) (hB1.2.1 _ _) ⟨by decide, by decide⟩ (fun c => ?_) (fun c => ?_)
  · replace h := h.1 c
    refine z_aload_n Q_X10_law (k := 9) rfl rfl ?_
    refine z_getR (b := 1) Q_X10_law (k := 10) rfl F_X10_12 rfl (n_ hB1.1 rfl) (k_0 hB1.1) (r_0_0 hB1.1) ?_
    refine z_iload_n Q_X10_law (k := 11) rfl rfl ?_
    refine z_aload_n Q_X10_law (k := 12) rfl rfl ?_
    refine z_getR (b := 11) Q_X10_law (k := 13) rfl F_X10_18 rfl (n_ hB1.1 rfl) (k_0 hB1.1) (r_0_1 hB1.1) ?_
    refine z_aload_n Q_X10_law (k := 14) rfl rfl ?_
    refine q_getI (o := 0) (z := 2) Q_X10_law (k := 15) rfl F_X10_87 rfl rfl rfl (n_ hB1.1 rfl) (k_0 hB1.1) ?_
    obtain ⟨q2, h⟩ := h
    have o3 := (qe_law (i := V1 0 2) hB1.1 q2)
    refine y_aald (t := 4) (b := (173 + 5 * (V1 0 2)).toNat) Q_X10_law (k := 16) rfl (n_ hB1.1 rfl) (k_11 hB1.1) (by decide) rfl q2.1 q2.2 (by decide) o3.2 ?_
    refine q_callV2_zSV Q_X10_law (k := 17) rfl rfl K_X6_readLaw V_X6_readLaw L_X10_90 (n_ hB1.1 rfl) (k_1 hB1.1) (Nat.le_of_ble_eq_true rfl) (Nat.le_of_ble_eq_true rfl) rfl (Nat.zero_le _) (Nat.zero_le _) (w_X6_readLaw d hB1 z1 o3.1 h) (fun r4 S4 V4 hB4 hn4 hz4 hb4 h => ?_)
    refine y_if_ne 46 Q_X10_law (k := 18) rfl (by decide) hz4 (fun c => ?_) (fun c => ?_)
    · replace h := h.2 c
      refine z_aload_n Q_X10_law (k := 25) rfl rfl ?_
      refine z_dup Q_X10_law (k := 26) rfl rfl ?_
      refine q_getI (o := 0) (z := 2) Q_X10_law (k := 27) rfl F_X10_87 rfl rfl rfl (n_ hB4.1 rfl) (k_0 hB4.1) ?_
      refine y_iconst Q_X10_law (k := 28) rfl ?_
      obtain ⟨q5, h⟩ := h
      refine y_iadd Q_X10_law (k := 29) rfl ?_
      refine q_putI (o := 0) (z := 2) Q_X10_law (k := 30) rfl F_X10_87 rfl rfl rfl (n_ hB4.1 rfl) (k_0 hB4.1) ?_
      have hB6 := qB.u (a := 0) (j := 2) (x := (V4 0 2) + 1) hB4 q5 (Or.inl (by decide))
      refine z_aload_n Q_X10_law (k := 31) rfl rfl ?_
      refine q_getI (o := 0) (z := 2) Q_X10_law (k := 32) rfl F_X10_87 rfl rfl rfl (n_ hB6.1 rfl) (k_0 hB6.1) ?_
      refine y_iconst Q_X10_law (k := 33) rfl ?_
      obtain ⟨q7, h⟩ := h
      refine y_isub Q_X10_law (k := 34) rfl ?_
      exact y_iret Q_X10_law (k := 35) rfl rfl (qI_iSVt hB6 (hn4.trans rfl) q7 h)
    · replace h := h.1 c
      refine z_aload_n Q_X10_law (k := 19) rfl rfl ?_
      refine z_getR (b := 1) Q_X10_law (k := 20) rfl F_X10_12 rfl (n_ hB4.1 rfl) (k_0 hB4.1) (r_0_0 hB4.1) ?_
      refine q_getI (o := 1) (z := 11) Q_X10_law (k := 21) rfl F_X10_94 rfl rfl rfl (n_ hB4.1 rfl) (k_1 hB4.1) ?_
      refine y_bipush Q_X10_law (k := 22) rfl (by decide) ?_
      obtain ⟨q8, h⟩ := h
      refine y_isub Q_X10_law (k := 23) rfl ?_
      exact y_iret Q_X10_law (k := 24) rfl rfl (qI_iSVt hB4 (hn4.trans rfl) q8 h)
  · replace h := h.2 c
    refine y_iconst Q_X10_law (k := 7) rfl ?_
    exact y_iret Q_X10_law (k := 8) rfl rfl (qI_iSVt hB1 rfl ⟨by decide, by decide⟩ h)
