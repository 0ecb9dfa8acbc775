/-! methods keep their predicates -/
set_option maxHeartbeats 4000000 in
set_option maxRecDepth 20000 in
theorem w_X0_begin {S : zS} {V : qV} {J : qJ} {Q : qV → Prop} (d : Nat) (hB : qB S V) {a0 : Int} (p0 : qCl S a0) {a1 : Int} (z1 : zr a1) {a2 : Int} (z2 : zr a2) {a3 : Int} (z3 : zr a3) (h : W_X0_begin a0 a1 a2 a3 V Q) : Z M_X0_begin d 0 0 0 [some (.ref a0.toNat), some (.int (iI a1)), some (.int (iI a2)), some (.int (iI a3))] [] S (qi V) (qj J) (qP_uV S J Q) := by
  unfold W_X0_begin at h
  refine z_aload_n Q_X0_begin (k := 0) rfl rfl ?_
  refine z_iload_n Q_X0_begin (k := 1) rfl rfl ?_
  refine q_putI (o := a0) (z := 0) Q_X0_begin (k := 2) rfl F_X0_7 rfl (Int.toNat_of_nonneg p0.1) rfl p0.2.1 p0.2.2.1 ?_
  have hB1 := qB.u (a := a0) (j := 0) (x := a1) hB z1 (Or.inl p0.2.2.2)
  refine z_aload_n Q_X0_begin (k := 3) rfl rfl ?_
  refine z_iload_n Q_X0_begin (k := 4) rfl rfl ?_
  refine q_putI (o := a0) (z := 1) Q_X0_begin (k := 5) rfl F_X0_13 rfl (Int.toNat_of_nonneg p0.1) rfl p0.2.1 p0.2.2.1 ?_
  have hB2 := qB.u (a := a0) (j := 1) (x := a2) hB1 z2 (Or.inl p0.2.2.2)
  refine z_aload_n Q_X0_begin (k := 6) rfl rfl ?_
  refine z_iload_n Q_X0_begin (k := 7) rfl rfl ?_
  refine q_putI (o := a0) (z := 2) Q_X0_begin (k := 8) rfl F_X0_16 rfl (Int.toNat_of_nonneg p0.1) rfl p0.2.1 p0.2.2.1 ?_
  have hB3 := qB.u (a := a0) (j := 2) (x := a3) hB2 z3 (Or.inl p0.2.2.2)
  exact z_vret Q_X0_begin (k := 9) rfl rfl (qI_uV hB3 h)
set_option maxHeartbeats 4000000 in
set_option maxRecDepth 20000 in
theorem w_X1_begin {S : zS} {V : qV} {J : qJ} {Q : qV → Prop} (d : Nat) (hB : qB S V) {a0 : Int} (p0 : qFi S a0) {a1 : Int} (z1 : zr a1) {a2 : Int} (z2 : zr a2) {a3 : Int} (z3 : zr a3) {a4 : Int} (z4 : zr a4) (h : W_X1_begin a0 a1 a2 a3 a4 V Q) : Z M_X1_begin d 0 0 0 [some (.ref a0.toNat), some (.int (iI a1)), some (.int (iI a2)), some (.int (iI a3)), some (.int (iI a4))] [] S (qi V) (qj J) (qP_uV S J Q) := by
  unfold W_X1_begin at h
  refine z_aload_n Q_X1_begin (k := 0) rfl rfl ?_
  refine z_iload_n Q_X1_begin (k := 1) rfl rfl ?_
  refine q_putI (o := a0) (z := 0) Q_X1_begin (k := 2) rfl F_X1_28 rfl (Int.toNat_of_nonneg p0.1.1) rfl p0.1.2.1 p0.1.2.2.1 ?_
  have hB1 := qB.u (a := a0) (j := 0) (x := a1) hB z1 (Or.inl p0.1.2.2.2)
  refine z_aload_n Q_X1_begin (k := 3) rfl rfl ?_
  refine z_iload_n Q_X1_begin (k := 4) rfl rfl ?_
  refine q_putI (o := a0) (z := 1) Q_X1_begin (k := 5) rfl F_X1_31 rfl (Int.toNat_of_nonneg p0.1.1) rfl p0.1.2.1 p0.1.2.2.1 ?_
  have hB2 := qB.u (a := a0) (j := 1) (x := a2) hB1 z2 (Or.inl p0.1.2.2.2)
  refine z_aload_n Q_X1_begin (k := 6) rfl rfl ?_
  refine z_iload_n Q_X1_begin (k := 7) rfl rfl ?_
  refine q_putI (o := a0) (z := 2) Q_X1_begin (k := 8) rfl F_X1_34 rfl (Int.toNat_of_nonneg p0.1.1) rfl p0.1.2.1 p0.1.2.2.1 ?_
  have hB3 := qB.u (a := a0) (j := 2) (x := a3) hB2 z3 (Or.inl p0.1.2.2.2)
  refine z_aload_n Q_X1_begin (k := 9) rfl rfl ?_
  refine z_iload Q_X1_begin (k := 10) rfl rfl ?_
  refine q_putI (o := a0) (z := 5) Q_X1_begin (k := 11) rfl F_X1_37 rfl (Int.toNat_of_nonneg p0.1.1) rfl p0.1.2.1 p0.1.2.2.1 ?_
  have hB4 := qB.u (a := a0) (j := 5) (x := a4) hB3 z4 (Or.inl p0.1.2.2.2)
  refine z_aload_n Q_X1_begin (k := 12) rfl rfl ?_
  refine y_iconst Q_X1_begin (k := 13) rfl ?_
  refine q_putI (o := a0) (z := 3) Q_X1_begin (k := 14) rfl F_X1_40 rfl (Int.toNat_of_nonneg p0.1.1) rfl p0.1.2.1 p0.1.2.2.1 ?_
  have hB5 := qB.u (a := a0) (j := 3) (x := 0) hB4 ⟨by decide, by decide⟩ (Or.inl p0.1.2.2.2)
  refine z_aload_n Q_X1_begin (k := 15) rfl rfl ?_
  refine y_iconst Q_X1_begin (k := 16) rfl ?_
  refine q_putI (o := a0) (z := 4) Q_X1_begin (k := 17) rfl F_X1_43 rfl (Int.toNat_of_nonneg p0.1.1) rfl p0.1.2.1 p0.1.2.2.1 ?_
  have hB6 := qB.u (a := a0) (j := 4) (x := 0) hB5 ⟨by decide, by decide⟩ (Or.inl p0.1.2.2.2)
  refine z_aload_n Q_X1_begin (k := 18) rfl rfl ?_
  refine y_iconst Q_X1_begin (k := 19) rfl ?_
  refine q_putI (o := a0) (z := 6) Q_X1_begin (k := 20) rfl F_X1_46 rfl (Int.toNat_of_nonneg p0.1.1) rfl p0.1.2.1 p0.1.2.2.1 ?_
  have hB7 := qB.u (a := a0) (j := 6) (x := 0) hB6 ⟨by decide, by decide⟩ (Or.inl p0.1.2.2.2)
  refine z_aload_n Q_X1_begin (k := 21) rfl rfl ?_
  refine y_iconst Q_X1_begin (k := 22) rfl ?_
  refine q_putI (o := a0) (z := 7) Q_X1_begin (k := 23) rfl F_X1_9 rfl (Int.toNat_of_nonneg p0.1.1) rfl p0.1.2.1 p0.1.2.2.1 ?_
  have hB8 := qB.u (a := a0) (j := 7) (x := (-1)) hB7 ⟨by decide, by decide⟩ (Or.inl p0.1.2.2.2)
  refine z_aload_n Q_X1_begin (k := 24) rfl rfl ?_
  refine y_iconst Q_X1_begin (k := 25) rfl ?_
  refine q_putI (o := a0) (z := 8) Q_X1_begin (k := 26) rfl F_X1_15 rfl (Int.toNat_of_nonneg p0.1.1) rfl p0.1.2.1 p0.1.2.2.1 ?_
  have hB9 := qB.u (a := a0) (j := 8) (x := (-1)) hB8 ⟨by decide, by decide⟩ (Or.inl p0.1.2.2.2)
  refine z_aload_n Q_X1_begin (k := 27) rfl rfl ?_
  refine y_iconst Q_X1_begin (k := 28) rfl ?_
  refine q_putI (o := a0) (z := 9) Q_X1_begin (k := 29) rfl F_X1_49 rfl (Int.toNat_of_nonneg p0.1.1) rfl p0.1.2.1 p0.1.2.2.1 ?_
  have hB10 := qB.u (a := a0) (j := 9) (x := 0) hB9 ⟨by decide, by decide⟩ (Or.inl p0.1.2.2.2)
  exact z_vret Q_X1_begin (k := 30) rfl rfl (qI_uV hB10 h)
set_option maxHeartbeats 4000000 in
set_option maxRecDepth 20000 in
theorem w_X1_copy {S : zS} {V : qV} {J : qJ} {Q : qV → Prop} (d : Nat) (hB : qB S V) {a0 : Int} (p0 : qFi S a0) {a1 : Int} (p1 : qFi S a1) (h : W_X1_copy a0 a1 V Q) : Z M_X1_copy (d + 1) 0 0 0 [some (.ref a0.toNat), some (.ref a1.toNat)] [] S (qi V) (qj J) (qP_uV S J Q) := by
  unfold W_X1_copy at h
  refine z_aload_n Q_X1_copy (k := 0) rfl rfl ?_
  refine z_aload_n Q_X1_copy (k := 1) rfl rfl ?_
  refine q_getI (o := a1) (z := 0) Q_X1_copy (k := 2) rfl F_X1_28 rfl (Int.toNat_of_nonneg p1.1.1) rfl p1.1.2.1 p1.1.2.2.1 ?_
  refine z_aload_n Q_X1_copy (k := 3) rfl rfl ?_
  refine q_getI (o := a1) (z := 1) Q_X1_copy (k := 4) rfl F_X1_31 rfl (Int.toNat_of_nonneg p1.1.1) rfl p1.1.2.1 p1.1.2.2.1 ?_
  refine z_aload_n Q_X1_copy (k := 5) rfl rfl ?_
  refine q_getI (o := a1) (z := 2) Q_X1_copy (k := 6) rfl F_X1_34 rfl (Int.toNat_of_nonneg p1.1.1) rfl p1.1.2.1 p1.1.2.2.1 ?_
  refine z_aload_n Q_X1_copy (k := 7) rfl rfl ?_
  refine q_getI (o := a1) (z := 5) Q_X1_copy (k := 8) rfl F_X1_37 rfl (Int.toNat_of_nonneg p1.1.1) rfl p1.1.2.1 p1.1.2.2.1 ?_
  refine q_callV4_uV Q_X1_copy (k := 9) rfl rfl K_X1_begin V_X1_begin L_X1_52 p0.1.2.1 p0.1.2.2.1 (Nat.le_of_ble_eq_true rfl) (Nat.le_of_ble_eq_true rfl) rfl (Nat.zero_le _) (Nat.zero_le _) (w_X1_begin d hB p0 (hB.2.1 _ _) (hB.2.1 _ _) (hB.2.1 _ _) (hB.2.1 _ _) h) (fun V1 hB1 h => ?_)
  refine z_aload_n Q_X1_copy (k := 10) rfl rfl ?_
  refine z_aload_n Q_X1_copy (k := 11) rfl rfl ?_
  refine q_getI (o := a1) (z := 3) Q_X1_copy (k := 12) rfl F_X1_40 rfl (Int.toNat_of_nonneg p1.1.1) rfl p1.1.2.1 p1.1.2.2.1 ?_
  refine q_putI (o := a0) (z := 3) Q_X1_copy (k := 13) rfl F_X1_40 rfl (Int.toNat_of_nonneg p0.1.1) rfl p0.1.2.1 p0.1.2.2.1 ?_
  have hB2 := qB.u (a := a0) (j := 3) (x := V1 a1 3) hB1 (hB1.2.1 _ _) (Or.inl p0.1.2.2.2)
  refine z_aload_n Q_X1_copy (k := 14) rfl rfl ?_
  refine z_aload_n Q_X1_copy (k := 15) rfl rfl ?_
  refine q_getI (o := a1) (z := 4) Q_X1_copy (k := 16) rfl F_X1_43 rfl (Int.toNat_of_nonneg p1.1.1) rfl p1.1.2.1 p1.1.2.2.1 ?_
  refine q_putI (o := a0) (z := 4) Q_X1_copy (k := 17) rfl F_X1_43 rfl (Int.toNat_of_nonneg p0.1.1) rfl p0.1.2.1 p0.1.2.2.1 ?_
  have hB3 := qB.u (a := a0) (j := 4) (x := (qu V1 a0 3 (V1 a1 3)) a1 4) hB2 (hB2.2.1 _ _) (Or.inl p0.1.2.2.2)
  refine z_aload_n Q_X1_copy (k := 18) rfl rfl ?_
  refine z_aload_n Q_X1_copy (k := 19) rfl rfl ?_
  refine q_getI (o := a1) (z := 6) Q_X1_copy (k := 20) rfl F_X1_46 rfl (Int.toNat_of_nonneg p1.1.1) rfl p1.1.2.1 p1.1.2.2.1 ?_
  refine q_putI (o := a0) (z := 6) Q_X1_copy (k := 21) rfl F_X1_46 rfl (Int.toNat_of_nonneg p0.1.1) rfl p0.1.2.1 p0.1.2.2.1 ?_
  have hB4 := qB.u (a := a0) (j := 6) (x := (qu (qu V1 a0 3 (V1 a1 3)) a0 4 ((qu V1 a0 3 (V1 a1 3)) a1 4)) a1 6) hB3 (hB3.2.1 _ _) (Or.inl p0.1.2.2.2)
  refine z_aload_n Q_X1_copy (k := 22) rfl rfl ?_
  refine z_aload_n Q_X1_copy (k := 23) rfl rfl ?_
  refine q_getI (o := a1) (z := 7) Q_X1_copy (k := 24) rfl F_X1_9 rfl (Int.toNat_of_nonneg p1.1.1) rfl p1.1.2.1 p1.1.2.2.1 ?_
  refine q_putI (o := a0) (z := 7) Q_X1_copy (k := 25) rfl F_X1_9 rfl (Int.toNat_of_nonneg p0.1.1) rfl p0.1.2.1 p0.1.2.2.1 ?_
  have hB5 := qB.u (a := a0) (j := 7) (x := (qu (qu (qu V1 a0 3 (V1 a1 3)) a0 4 ((qu V1 a0 3 (V1 a1 3)) a1 4)) a0 6 ((qu (qu V1 a0 3 (V1 a1 3)) a0 4 ((qu V1 a0 3 (V1 a1 3)) a1 4)) a1 6)) a1 7) hB4 (hB4.2.1 _ _) (Or.inl p0.1.2.2.2)
  refine z_aload_n Q_X1_copy (k := 26) rfl rfl ?_
  refine z_aload_n Q_X1_copy (k := 27) rfl rfl ?_
  refine q_getI (o := a1) (z := 8) Q_X1_copy (k := 28) rfl F_X1_15 rfl (Int.toNat_of_nonneg p1.1.1) rfl p1.1.2.1 p1.1.2.2.1 ?_
  refine q_putI (o := a0) (z := 8) Q_X1_copy (k := 29) rfl F_X1_15 rfl (Int.toNat_of_nonneg p0.1.1) rfl p0.1.2.1 p0.1.2.2.1 ?_
  have hB6 := qB.u (a := a0) (j := 8) (x := (qu (qu (qu (qu V1 a0 3 (V1 a1 3)) a0 4 ((qu V1 a0 3 (V1 a1 3)) a1 4)) a0 6 ((qu (qu V1 a0 3 (V1 a1 3)) a0 4 ((qu V1 a0 3 (V1 a1 3)) a1 4)) a1 6)) a0 7 ((qu (qu (qu V1 a0 3 (V1 a1 3)) a0 4 ((qu V1 a0 3 (V1 a1 3)) a1 4)) a0 6 ((qu (qu V1 a0 3 (V1 a1 3)) a0 4 ((qu V1 a0 3 (V1 a1 3)) a1 4)) a1 6)) a1 7)) a1 8) hB5 (hB5.2.1 _ _) (Or.inl p0.1.2.2.2)
  refine z_aload_n Q_X1_copy (k := 30) rfl rfl ?_
  refine z_aload_n Q_X1_copy (k := 31) rfl rfl ?_
  refine q_getI (o := a1) (z := 9) Q_X1_copy (k := 32) rfl F_X1_49 rfl (Int.toNat_of_nonneg p1.1.1) rfl p1.1.2.1 p1.1.2.2.1 ?_
  refine q_putI (o := a0) (z := 9) Q_X1_copy (k := 33) rfl F_X1_49 rfl (Int.toNat_of_nonneg p0.1.1) rfl p0.1.2.1 p0.1.2.2.1 ?_
  have hB7 := qB.u (a := a0) (j := 9) (x := (qu (qu (qu (qu (qu V1 a0 3 (V1 a1 3)) a0 4 ((qu V1 a0 3 (V1 a1 3)) a1 4)) a0 6 ((qu (qu V1 a0 3 (V1 a1 3)) a0 4 ((qu V1 a0 3 (V1 a1 3)) a1 4)) a1 6)) a0 7 ((qu (qu (qu V1 a0 3 (V1 a1 3)) a0 4 ((qu V1 a0 3 (V1 a1 3)) a1 4)) a0 6 ((qu (qu V1 a0 3 (V1 a1 3)) a0 4 ((qu V1 a0 3 (V1 a1 3)) a1 4)) a1 6)) a1 7)) a0 8 ((qu (qu (qu (qu V1 a0 3 (V1 a1 3)) a0 4 ((qu V1 a0 3 (V1 a1 3)) a1 4)) a0 6 ((qu (qu V1 a0 3 (V1 a1 3)) a0 4 ((qu V1 a0 3 (V1 a1 3)) a1 4)) a1 6)) a0 7 ((qu (qu (qu V1 a0 3 (V1 a1 3)) a0 4 ((qu V1 a0 3 (V1 a1 3)) a1 4)) a0 6 ((qu (qu V1 a0 3 (V1 a1 3)) a0 4 ((qu V1 a0 3 (V1 a1 3)) a1 4)) a1 6)) a1 7)) a1 8)) a1 9) hB6 (hB6.2.1 _ _) (Or.inl p0.1.2.2.2)
  refine z_aload_n Q_X1_copy (k := 34) rfl rfl ?_
  refine z_getR (b := (a1 + 1).toNat) Q_X1_copy (k := 35) rfl F_X1_18 rfl p1.1.2.1 p1.1.2.2.1 p1.2.1.1 ?_
  refine y_iconst Q_X1_copy (k := 36) rfl ?_
  refine z_aload_n Q_X1_copy (k := 37) rfl rfl ?_
  refine z_getR (b := (a0 + 1).toNat) Q_X1_copy (k := 38) rfl F_X1_18 rfl p0.1.2.1 p0.1.2.2.1 p0.2.1.1 ?_
  refine y_iconst Q_X1_copy (k := 39) rfl ?_
  refine y_bipush Q_X1_copy (k := 40) rfl (by decide) ?_
  refine q_copyi (oa := a0 + 1) (ob := a1 + 1) (N := 6) Q_X1_copy (k := 41) rfl L_X1_56 G_copy 6 rfl (by decide) (Int.toNat_of_nonneg p0.2.2.1.1) (Int.toNat_of_nonneg p1.2.2.1.1) p0.2.2.1.2.1 p0.2.2.1.2.2.1 p1.2.2.1.2.1 p1.2.2.1.2.2.1 (by decide) (by decide) (Nat.le_of_ble_eq_true rfl) ?_
  have hB8 := qB.cp (b := a1 + 1) (a := a0 + 1) (n := 6) hB7 p0.2.2.1.2.2.2
  refine z_aload_n Q_X1_copy (k := 42) rfl rfl ?_
  refine z_getR (b := (a1 + 2).toNat) Q_X1_copy (k := 43) rfl F_X1_22 rfl p1.1.2.1 p1.1.2.2.1 p1.2.1.2.1 ?_
  refine y_iconst Q_X1_copy (k := 44) rfl ?_
  refine z_aload_n Q_X1_copy (k := 45) rfl rfl ?_
  refine z_getR (b := (a0 + 2).toNat) Q_X1_copy (k := 46) rfl F_X1_22 rfl p0.1.2.1 p0.1.2.2.1 p0.2.1.2.1 ?_
  refine y_iconst Q_X1_copy (k := 47) rfl ?_
  refine y_bipush Q_X1_copy (k := 48) rfl (by decide) ?_
  refine q_copyi (oa := a0 + 2) (ob := a1 + 2) (N := 6) Q_X1_copy (k := 49) rfl L_X1_56 G_copy 6 rfl (by decide) (Int.toNat_of_nonneg p0.2.2.2.1.1) (Int.toNat_of_nonneg p1.2.2.2.1.1) p0.2.2.2.1.2.1 p0.2.2.2.1.2.2.1 p1.2.2.2.1.2.1 p1.2.2.2.1.2.2.1 (by decide) (by decide) (Nat.le_of_ble_eq_true rfl) ?_
  have hB9 := qB.cp (b := a1 + 2) (a := a0 + 2) (n := 6) hB8 p0.2.2.2.1.2.2.2
  refine z_aload_n Q_X1_copy (k := 50) rfl rfl ?_
  refine z_getR (b := (a1 + 3).toNat) Q_X1_copy (k := 51) rfl F_X1_25 rfl p1.1.2.1 p1.1.2.2.1 p1.2.1.2.2 ?_
  refine y_iconst Q_X1_copy (k := 52) rfl ?_
  refine z_aload_n Q_X1_copy (k := 53) rfl rfl ?_
  refine z_getR (b := (a0 + 3).toNat) Q_X1_copy (k := 54) rfl F_X1_25 rfl p0.1.2.1 p0.1.2.2.1 p0.2.1.2.2 ?_
  refine y_iconst Q_X1_copy (k := 55) rfl ?_
  refine y_bipush Q_X1_copy (k := 56) rfl (by decide) ?_
  refine q_copyi (oa := a0 + 3) (ob := a1 + 3) (N := 6) Q_X1_copy (k := 57) rfl L_X1_56 G_copy 6 rfl (by decide) (Int.toNat_of_nonneg p0.2.2.2.2.1) (Int.toNat_of_nonneg p1.2.2.2.2.1) p0.2.2.2.2.2.1 p0.2.2.2.2.2.2.1 p1.2.2.2.2.2.1 p1.2.2.2.2.2.2.1 (by decide) (by decide) (Nat.le_of_ble_eq_true rfl) ?_
  have hB10 := qB.cp (b := a1 + 3) (a := a0 + 3) (n := 6) hB9 p0.2.2.2.2.2.2.2
  exact z_vret Q_X1_copy (k := 58) rfl rfl (qI_uV hB10 h)
set_option maxHeartbeats 4000000 in
set_option maxRecDepth 20000 in
theorem w_X1_addHold {S : zS} {V : qV} {J : qJ} {Q : Int → qV → Prop} (d : Nat) (hB : qB S V) {a0 : Int} (p0 : qFi S a0) {a1 : Int} (z1 : zr a1) {a2 : Int} (z2 : zr a2) {a3 : Int} (z3 : zr a3) (h : W_X1_addHold a0 a1 a2 a3 V Q) : Z M_X1_addHold d 0 0 0 [some (.ref a0.toNat), some (.int (iI a1)), some (.int (iI a2)), some (.int (iI a3))] [] S (qi V) (qj J) (qP_iV S J Q) := by
  unfold W_X1_addHold at h
  refine z_aload_n Q_X1_addHold (k := 0) rfl rfl ?_
  refine q_getI (o := a0) (z := 9) Q_X1_addHold (k := 1) rfl F_X1_49 rfl (Int.toNat_of_nonneg p0.1.1) rfl p0.1.2.1 p0.1.2.2.1 ?_
  refine y_bipush Q_X1_addHold (k := 2) rfl (by decide) ?_
  refine y_icmp_lt 11 Q_X1_addHold (k := 3) rfl (by decide) (hB.2.1 _ _) ⟨by decide, by decide⟩ (fun c => ?_) (fun c => ?_)
  · replace h := h.1 c
    refine z_aload_n Q_X1_addHold (k := 6) rfl rfl ?_
    refine z_getR (b := (a0 + 1).toNat) Q_X1_addHold (k := 7) rfl F_X1_18 rfl p0.1.2.1 p0.1.2.2.1 p0.2.1.1 ?_
    refine z_aload_n Q_X1_addHold (k := 8) rfl rfl ?_
    refine q_getI (o := a0) (z := 9) Q_X1_addHold (k := 9) rfl F_X1_49 rfl (Int.toNat_of_nonneg p0.1.1) rfl p0.1.2.1 p0.1.2.2.1 ?_
    refine z_iload_n Q_X1_addHold (k := 10) rfl rfl ?_
    obtain ⟨q1, h⟩ := h
    refine q_iast (o := a0 + 1) (N := 6) Q_X1_addHold (k := 11) rfl (Int.toNat_of_nonneg p0.2.2.1.1) p0.2.2.1.2.1 p0.2.2.1.2.2.1 rfl q1 (by decide) ?_
    have hB2 := qB.u (a := a0 + 1) (j := V a0 9) (x := a1) hB z1 (Or.inl p0.2.2.1.2.2.2)
    refine z_aload_n Q_X1_addHold (k := 12) rfl rfl ?_
    refine z_getR (b := (a0 + 2).toNat) Q_X1_addHold (k := 13) rfl F_X1_22 rfl p0.1.2.1 p0.1.2.2.1 p0.2.1.2.1 ?_
    refine z_aload_n Q_X1_addHold (k := 14) rfl rfl ?_
    refine q_getI (o := a0) (z := 9) Q_X1_addHold (k := 15) rfl F_X1_49 rfl (Int.toNat_of_nonneg p0.1.1) rfl p0.1.2.1 p0.1.2.2.1 ?_
    refine z_iload_n Q_X1_addHold (k := 16) rfl rfl ?_
    obtain ⟨q3, h⟩ := h
    refine q_iast (o := a0 + 2) (N := 6) Q_X1_addHold (k := 17) rfl (Int.toNat_of_nonneg p0.2.2.2.1.1) p0.2.2.2.1.2.1 p0.2.2.2.1.2.2.1 rfl q3 (by decide) ?_
    have hB4 := qB.u (a := a0 + 2) (j := (qu V (a0 + 1) (V a0 9) a1) a0 9) (x := a2) hB2 z2 (Or.inl p0.2.2.2.1.2.2.2)
    refine z_aload_n Q_X1_addHold (k := 18) rfl rfl ?_
    refine z_getR (b := (a0 + 3).toNat) Q_X1_addHold (k := 19) rfl F_X1_25 rfl p0.1.2.1 p0.1.2.2.1 p0.2.1.2.2 ?_
    refine z_aload_n Q_X1_addHold (k := 20) rfl rfl ?_
    refine q_getI (o := a0) (z := 9) Q_X1_addHold (k := 21) rfl F_X1_49 rfl (Int.toNat_of_nonneg p0.1.1) rfl p0.1.2.1 p0.1.2.2.1 ?_
    refine z_iload_n Q_X1_addHold (k := 22) rfl rfl ?_
    obtain ⟨q5, h⟩ := h
    refine q_iast (o := a0 + 3) (N := 6) Q_X1_addHold (k := 23) rfl (Int.toNat_of_nonneg p0.2.2.2.2.1) p0.2.2.2.2.2.1 p0.2.2.2.2.2.2.1 rfl q5 (by decide) ?_
    have hB6 := qB.u (a := a0 + 3) (j := (qu (qu V (a0 + 1) (V a0 9) a1) (a0 + 2) ((qu V (a0 + 1) (V a0 9) a1) a0 9) a2) a0 9) (x := a3) hB4 z3 (Or.inl p0.2.2.2.2.2.2.2)
    refine z_aload_n Q_X1_addHold (k := 24) rfl rfl ?_
    refine z_dup Q_X1_addHold (k := 25) rfl rfl ?_
    refine q_getI (o := a0) (z := 9) Q_X1_addHold (k := 26) rfl F_X1_49 rfl (Int.toNat_of_nonneg p0.1.1) rfl p0.1.2.1 p0.1.2.2.1 ?_
    refine y_iconst Q_X1_addHold (k := 27) rfl ?_
    obtain ⟨q7, h⟩ := h
    refine y_iadd Q_X1_addHold (k := 28) rfl ?_
    refine q_putI (o := a0) (z := 9) Q_X1_addHold (k := 29) rfl F_X1_49 rfl (Int.toNat_of_nonneg p0.1.1) rfl p0.1.2.1 p0.1.2.2.1 ?_
    have hB8 := qB.u (a := a0) (j := 9) (x := ((qu (qu (qu V (a0 + 1) (V a0 9) a1) (a0 + 2) ((qu V (a0 + 1) (V a0 9) a1) a0 9) a2) (a0 + 3) ((qu (qu V (a0 + 1) (V a0 9) a1) (a0 + 2) ((qu V (a0 + 1) (V a0 9) a1) a0 9) a2) a0 9) a3) a0 9) + 1) hB6 q7 (Or.inl p0.1.2.2.2)
    refine z_aload_n Q_X1_addHold (k := 30) rfl rfl ?_
    refine q_getI (o := a0) (z := 9) Q_X1_addHold (k := 31) rfl F_X1_49 rfl (Int.toNat_of_nonneg p0.1.1) rfl p0.1.2.1 p0.1.2.2.1 ?_
    exact y_iret Q_X1_addHold (k := 32) rfl rfl (qI_iV hB8 (hB8.2.1 _ _) h)
  · replace h := h.2 c
    refine y_iconst Q_X1_addHold (k := 4) rfl ?_
    exact y_iret Q_X1_addHold (k := 5) rfl rfl (qI_iV hB ⟨by decide, by decide⟩ h)
set_option maxHeartbeats 4000000 in
set_option maxRecDepth 20000 in
theorem v_X1_finderBits_9 {S : zS} {V : qV} {J : qJ} {K : Int → Int → Int → Int → Prop} {Q : Int → Prop} {kc ks : Nat} (d : Nat) (hB : qB S V) {l0 : Int} (o0_ : qFi S l0) (hK : ∀ (l1 : Int) (l2 : Int) (l3 : Int) (l4 : Int), zr l1 → zr l2 → zr l3 → zr l4 → K l1 l2 l3 l4 → Z M_X1_finderBits d kc ks 116 [some (.ref l0.toNat), some (.int (iI l1)), some (.int (iI l2)), some (.int (iI l3)), some (.int (iI l4))] [] S (qi V) (qj J) (qP_i S V J Q)) : ∀ (f : Nat) (l1 : Int) (l2 : Int) (l3 : Int) (l4 : Int), zr l1 → zr l2 → zr l3 → zr l4 → lp_X1_finderBits_9 l0 V K f l1 l2 l3 l4 → Z M_X1_finderBits d kc ks 9 [some (.ref l0.toNat), some (.int (iI l1)), some (.int (iI l2)), some (.int (iI l3)), some (.int (iI l4))] [] S (qi V) (qj J) (qP_i S V J Q) := by
  intro f
  induction f with
  | zero =>
    intro l1 l2 l3 l4 z1 z2 z3 z4 h
    exact h.elim
  | succ f ih =>
    intro l1 l2 l3 l4 z1 z2 z3 z4 h
    rw [lp_X1_finderBits_9] at h
    refine z_iload Q_X1_finderBits (k := 8) rfl rfl ?_
    refine z_aload_n Q_X1_finderBits (k := 9) rfl rfl ?_
    refine q_getI (o := l0) (z := 9) Q_X1_finderBits (k := 10) rfl F_X1_49 rfl (Int.toNat_of_nonneg o0_.1.1) rfl o0_.1.2.1 o0_.1.2.2.1 ?_
    refine y_icmp_ge 116 Q_X1_finderBits (k := 11) rfl (by decide) z4 (hB.2.1 _ _) (fun c => ?_) (fun c => ?_)
    · replace h := h.1 c
      exact y_fg (zsb_c rfl (zsb_c rfl (zsb_c rfl (zsb_c rfl (zsb_c rfl zsb_e))))) (hK l1 l2 l3 l4 z1 z2 z3 z4 h)
    · replace h := h.2 c
      refine z_iload Q_X1_finderBits (k := 12) rfl rfl ?_
      refine y_bipush Q_X1_finderBits (k := 13) rfl (by decide) ?_
      refine y_icmp_ge 116 Q_X1_finderBits (k := 14) rfl (by decide) z4 ⟨by decide, by decide⟩ (fun c => ?_) (fun c => ?_)
      · replace h := h.1 c
        exact y_fg (zsb_c rfl (zsb_c rfl (zsb_c rfl (zsb_c rfl (zsb_c rfl zsb_e))))) (hK l1 l2 l3 l4 z1 z2 z3 z4 h)
      · replace h := h.2 c
        refine z_aload_n Q_X1_finderBits (k := 15) rfl rfl ?_
        refine z_getR (b := (l0 + 2).toNat) Q_X1_finderBits (k := 16) rfl F_X1_22 rfl o0_.1.2.1 o0_.1.2.2.1 o0_.2.1.2.1 ?_
        refine z_iload Q_X1_finderBits (k := 17) rfl rfl ?_
        obtain ⟨q1, h⟩ := h
        refine q_iald (o := l0 + 2) (N := 6) Q_X1_finderBits (k := 18) rfl (Int.toNat_of_nonneg o0_.2.2.2.1.1) o0_.2.2.2.1.2.1 o0_.2.2.2.1.2.2.1 rfl q1 (by decide) ?_
        refine z_iload_n Q_X1_finderBits (k := 19) rfl rfl ?_
        refine y_icmp_gt 58 Q_X1_finderBits (k := 20) rfl (by decide) (hB.2.1 _ _) z2 (fun c => ?_) (fun c => ?_)
        · replace h := h.1 c
          refine z_aload_n Q_X1_finderBits (k := 33) rfl rfl ?_
          refine z_getR (b := (l0 + 2).toNat) Q_X1_finderBits (k := 34) rfl F_X1_22 rfl o0_.1.2.1 o0_.1.2.2.1 o0_.2.1.2.1 ?_
          refine z_iload Q_X1_finderBits (k := 35) rfl rfl ?_
          obtain ⟨q2, h⟩ := h
          refine q_iald (o := l0 + 2) (N := 6) Q_X1_finderBits (k := 36) rfl (Int.toNat_of_nonneg o0_.2.2.2.1.1) o0_.2.2.2.1.2.1 o0_.2.2.2.1.2.2.1 rfl q2 (by decide) ?_
          refine y_istore_n (L' := [some (.ref l0.toNat), some (.int (iI l1)), some (.int (iI (V (l0 + 2) l4))), some (.int (iI l3)), some (.int (iI l4))]) Q_X1_finderBits (k := 37) rfl (by decide) rfl ?_
          refine z_aload_n Q_X1_finderBits (k := 38) rfl rfl ?_
          refine z_getR (b := (l0 + 3).toNat) Q_X1_finderBits (k := 39) rfl F_X1_25 rfl o0_.1.2.1 o0_.1.2.2.1 o0_.2.1.2.2 ?_
          refine z_iload Q_X1_finderBits (k := 40) rfl rfl ?_
          obtain ⟨q3, h⟩ := h
          refine q_iald (o := l0 + 3) (N := 6) Q_X1_finderBits (k := 41) rfl (Int.toNat_of_nonneg o0_.2.2.2.2.1) o0_.2.2.2.2.2.1 o0_.2.2.2.2.2.2.1 rfl q3 (by decide) ?_
          refine y_istore_n (L' := [some (.ref l0.toNat), some (.int (iI l1)), some (.int (iI (V (l0 + 2) l4))), some (.int (iI (V (l0 + 3) l4))), some (.int (iI l4))]) Q_X1_finderBits (k := 42) rfl (by decide) rfl ?_
          refine y_iconst Q_X1_finderBits (k := 43) rfl ?_
          refine y_istore_n (L' := [some (.ref l0.toNat), some (.int (iI 0)), some (.int (iI (V (l0 + 2) l4))), some (.int (iI (V (l0 + 3) l4))), some (.int (iI l4))]) Q_X1_finderBits (k := 44) rfl (by decide) rfl ?_
          refine z_aload_n Q_X1_finderBits (k := 45) rfl rfl ?_
          refine z_getR (b := (l0 + 2).toNat) Q_X1_finderBits (k := 46) rfl F_X1_22 rfl o0_.1.2.1 o0_.1.2.2.1 o0_.2.1.2.1 ?_
          refine z_iload Q_X1_finderBits (k := 47) rfl rfl ?_
          obtain ⟨q4, h⟩ := h
          refine q_iald (o := l0 + 2) (N := 6) Q_X1_finderBits (k := 48) rfl (Int.toNat_of_nonneg o0_.2.2.2.1.1) o0_.2.2.2.1.2.1 o0_.2.2.2.1.2.2.1 rfl q4 (by decide) ?_
          refine z_iload_n Q_X1_finderBits (k := 49) rfl rfl ?_
          refine y_icmp_ne 110 Q_X1_finderBits (k := 50) rfl (by decide) (hB.2.1 _ _) (hB.2.1 _ _) (fun c => ?_) (fun c => ?_)
          · replace h := h.2 c
            obtain ⟨q5, h⟩ := h
            refine y_iinc (L' := [some (.ref l0.toNat), some (.int (iI 0)), some (.int (iI (V (l0 + 2) l4))), some (.int (iI (V (l0 + 3) l4))), some (.int (iI (l4 + 1)))]) Q_X1_finderBits (k := 66) rfl (by decide) rfl rfl ?_
            refine z_goto (tgt := 9) Q_X1_finderBits (k := 67) rfl (by decide) ?_
            exact y_fg (zsb_c rfl (zsb_c rfl (zsb_c rfl (zsb_c rfl (zsb_c rfl zsb_e))))) (ih 0 (V (l0 + 2) l4) (V (l0 + 3) l4) (l4 + 1) ⟨by decide, by decide⟩ (hB.2.1 _ _) (hB.2.1 _ _) q5 h)
          · replace h := h.1 c
            refine z_aload_n Q_X1_finderBits (k := 51) rfl rfl ?_
            refine z_getR (b := (l0 + 3).toNat) Q_X1_finderBits (k := 52) rfl F_X1_25 rfl o0_.1.2.1 o0_.1.2.2.1 o0_.2.1.2.2 ?_
            refine z_iload Q_X1_finderBits (k := 53) rfl rfl ?_
            obtain ⟨q6, h⟩ := h
            refine q_iald (o := l0 + 3) (N := 6) Q_X1_finderBits (k := 54) rfl (Int.toNat_of_nonneg o0_.2.2.2.2.1) o0_.2.2.2.2.2.1 o0_.2.2.2.2.2.2.1 rfl q6 (by decide) ?_
            refine z_iload_n Q_X1_finderBits (k := 55) rfl rfl ?_
            refine y_icmp_ne 110 Q_X1_finderBits (k := 56) rfl (by decide) (hB.2.1 _ _) (hB.2.1 _ _) (fun c => ?_) (fun c => ?_)
            · replace h := h.2 c
              obtain ⟨q7, h⟩ := h
              refine y_iinc (L' := [some (.ref l0.toNat), some (.int (iI 0)), some (.int (iI (V (l0 + 2) l4))), some (.int (iI (V (l0 + 3) l4))), some (.int (iI (l4 + 1)))]) Q_X1_finderBits (k := 66) rfl (by decide) rfl rfl ?_
              refine z_goto (tgt := 9) Q_X1_finderBits (k := 67) rfl (by decide) ?_
              exact y_fg (zsb_c rfl (zsb_c rfl (zsb_c rfl (zsb_c rfl (zsb_c rfl zsb_e))))) (ih 0 (V (l0 + 2) l4) (V (l0 + 3) l4) (l4 + 1) ⟨by decide, by decide⟩ (hB.2.1 _ _) (hB.2.1 _ _) q7 h)
            · replace h := h.1 c
              refine z_iload_n Q_X1_finderBits (k := 57) rfl rfl ?_
              refine y_iconst Q_X1_finderBits (k := 58) rfl ?_
              refine z_aload_n Q_X1_finderBits (k := 59) rfl rfl ?_
              refine z_getR (b := (l0 + 1).toNat) Q_X1_finderBits (k := 60) rfl F_X1_18 rfl o0_.1.2.1 o0_.1.2.2.1 o0_.2.1.1 ?_
              refine z_iload Q_X1_finderBits (k := 61) rfl rfl ?_
              obtain ⟨q8, h⟩ := h
              refine q_iald (o := l0 + 1) (N := 6) Q_X1_finderBits (k := 62) rfl (Int.toNat_of_nonneg o0_.2.2.1.1) o0_.2.2.1.2.1 o0_.2.2.1.2.2.1 rfl q8 (by decide) ?_
              refine y_ishl Q_X1_finderBits (k := 63) rfl ?_
              refine y_ior Q_X1_finderBits (k := 64) rfl ?_
              refine y_istore_n (L' := [some (.ref l0.toNat), some (.int (iI (zor 0 (zshl 1 (V (l0 + 1) l4))))), some (.int (iI (V (l0 + 2) l4))), some (.int (iI (V (l0 + 3) l4))), some (.int (iI l4))]) Q_X1_finderBits (k := 65) rfl (by decide) rfl ?_
              obtain ⟨q9, h⟩ := h
              refine y_iinc (L' := [some (.ref l0.toNat), some (.int (iI (zor 0 (zshl 1 (V (l0 + 1) l4))))), some (.int (iI (V (l0 + 2) l4))), some (.int (iI (V (l0 + 3) l4))), some (.int (iI (l4 + 1)))]) Q_X1_finderBits (k := 66) rfl (by decide) rfl rfl ?_
              refine z_goto (tgt := 9) Q_X1_finderBits (k := 67) rfl (by decide) ?_
              exact y_fg (zsb_c rfl (zsb_c rfl (zsb_c rfl (zsb_c rfl (zsb_c rfl zsb_e))))) (ih (zor 0 (zshl 1 (V (l0 + 1) l4))) (V (l0 + 2) l4) (V (l0 + 3) l4) (l4 + 1) (zor_r _ _) (hB.2.1 _ _) (hB.2.1 _ _) q9 h)
        · replace h := h.2 c
          refine z_aload_n Q_X1_finderBits (k := 21) rfl rfl ?_
          refine z_getR (b := (l0 + 2).toNat) Q_X1_finderBits (k := 22) rfl F_X1_22 rfl o0_.1.2.1 o0_.1.2.2.1 o0_.2.1.2.1 ?_
          refine z_iload Q_X1_finderBits (k := 23) rfl rfl ?_
          obtain ⟨q10, h⟩ := h
          refine q_iald (o := l0 + 2) (N := 6) Q_X1_finderBits (k := 24) rfl (Int.toNat_of_nonneg o0_.2.2.2.1.1) o0_.2.2.2.1.2.1 o0_.2.2.2.1.2.2.1 rfl q10 (by decide) ?_
          refine z_iload_n Q_X1_finderBits (k := 25) rfl rfl ?_
          refine y_icmp_ne 76 Q_X1_finderBits (k := 26) rfl (by decide) (hB.2.1 _ _) z2 (fun c => ?_) (fun c => ?_)
          · replace h := h.2 c
            refine z_aload_n Q_X1_finderBits (k := 45) rfl rfl ?_
            refine z_getR (b := (l0 + 2).toNat) Q_X1_finderBits (k := 46) rfl F_X1_22 rfl o0_.1.2.1 o0_.1.2.2.1 o0_.2.1.2.1 ?_
            refine z_iload Q_X1_finderBits (k := 47) rfl rfl ?_
            obtain ⟨q11, h⟩ := h
            refine q_iald (o := l0 + 2) (N := 6) Q_X1_finderBits (k := 48) rfl (Int.toNat_of_nonneg o0_.2.2.2.1.1) o0_.2.2.2.1.2.1 o0_.2.2.2.1.2.2.1 rfl q11 (by decide) ?_
            refine z_iload_n Q_X1_finderBits (k := 49) rfl rfl ?_
            refine y_icmp_ne 110 Q_X1_finderBits (k := 50) rfl (by decide) (hB.2.1 _ _) z2 (fun c => ?_) (fun c => ?_)
            · replace h := h.2 c
              obtain ⟨q12, h⟩ := h
              refine y_iinc (L' := [some (.ref l0.toNat), some (.int (iI l1)), some (.int (iI l2)), some (.int (iI l3)), some (.int (iI (l4 + 1)))]) Q_X1_finderBits (k := 66) rfl (by decide) rfl rfl ?_
              refine z_goto (tgt := 9) Q_X1_finderBits (k := 67) rfl (by decide) ?_
              exact y_fg (zsb_c rfl (zsb_c rfl (zsb_c rfl (zsb_c rfl (zsb_c rfl zsb_e))))) (ih l1 l2 l3 (l4 + 1) z1 z2 z3 q12 h)
            · replace h := h.1 c
              refine z_aload_n Q_X1_finderBits (k := 51) rfl rfl ?_
              refine z_getR (b := (l0 + 3).toNat) Q_X1_finderBits (k := 52) rfl F_X1_25 rfl o0_.1.2.1 o0_.1.2.2.1 o0_.2.1.2.2 ?_
              refine z_iload Q_X1_finderBits (k := 53) rfl rfl ?_
              obtain ⟨q13, h⟩ := h
              refine q_iald (o := l0 + 3) (N := 6) Q_X1_finderBits (k := 54) rfl (Int.toNat_of_nonneg o0_.2.2.2.2.1) o0_.2.2.2.2.2.1 o0_.2.2.2.2.2.2.1 rfl q13 (by decide) ?_
              refine z_iload_n Q_X1_finderBits (k := 55) rfl rfl ?_
              refine y_icmp_ne 110 Q_X1_finderBits (k := 56) rfl (by decide) (hB.2.1 _ _) z3 (fun c => ?_) (fun c => ?_)
              · replace h := h.2 c
                obtain ⟨q14, h⟩ := h
                refine y_iinc (L' := [some (.ref l0.toNat), some (.int (iI l1)), some (.int (iI l2)), some (.int (iI l3)), some (.int (iI (l4 + 1)))]) Q_X1_finderBits (k := 66) rfl (by decide) rfl rfl ?_
                refine z_goto (tgt := 9) Q_X1_finderBits (k := 67) rfl (by decide) ?_
                exact y_fg (zsb_c rfl (zsb_c rfl (zsb_c rfl (zsb_c rfl (zsb_c rfl zsb_e))))) (ih l1 l2 l3 (l4 + 1) z1 z2 z3 q14 h)
              · replace h := h.1 c
                refine z_iload_n Q_X1_finderBits (k := 57) rfl rfl ?_
                refine y_iconst Q_X1_finderBits (k := 58) rfl ?_
                refine z_aload_n Q_X1_finderBits (k := 59) rfl rfl ?_
                refine z_getR (b := (l0 + 1).toNat) Q_X1_finderBits (k := 60) rfl F_X1_18 rfl o0_.1.2.1 o0_.1.2.2.1 o0_.2.1.1 ?_
                refine z_iload Q_X1_finderBits (k := 61) rfl rfl ?_
                obtain ⟨q15, h⟩ := h
                refine q_iald (o := l0 + 1) (N := 6) Q_X1_finderBits (k := 62) rfl (Int.toNat_of_nonneg o0_.2.2.1.1) o0_.2.2.1.2.1 o0_.2.2.1.2.2.1 rfl q15 (by decide) ?_
                refine y_ishl Q_X1_finderBits (k := 63) rfl ?_
                refine y_ior Q_X1_finderBits (k := 64) rfl ?_
                refine y_istore_n (L' := [some (.ref l0.toNat), some (.int (iI (zor l1 (zshl 1 (V (l0 + 1) l4))))), some (.int (iI l2)), some (.int (iI l3)), some (.int (iI l4))]) Q_X1_finderBits (k := 65) rfl (by decide) rfl ?_
                obtain ⟨q16, h⟩ := h
                refine y_iinc (L' := [some (.ref l0.toNat), some (.int (iI (zor l1 (zshl 1 (V (l0 + 1) l4))))), some (.int (iI l2)), some (.int (iI l3)), some (.int (iI (l4 + 1)))]) Q_X1_finderBits (k := 66) rfl (by decide) rfl rfl ?_
                refine z_goto (tgt := 9) Q_X1_finderBits (k := 67) rfl (by decide) ?_
                exact y_fg (zsb_c rfl (zsb_c rfl (zsb_c rfl (zsb_c rfl (zsb_c rfl zsb_e))))) (ih (zor l1 (zshl 1 (V (l0 + 1) l4))) l2 l3 (l4 + 1) (zor_r _ _) z2 z3 q16 h)
          · replace h := h.1 c
            refine z_aload_n Q_X1_finderBits (k := 27) rfl rfl ?_
            refine z_getR (b := (l0 + 3).toNat) Q_X1_finderBits (k := 28) rfl F_X1_25 rfl o0_.1.2.1 o0_.1.2.2.1 o0_.2.1.2.2 ?_
            refine z_iload Q_X1_finderBits (k := 29) rfl rfl ?_
            obtain ⟨q17, h⟩ := h
            refine q_iald (o := l0 + 3) (N := 6) Q_X1_finderBits (k := 30) rfl (Int.toNat_of_nonneg o0_.2.2.2.2.1) o0_.2.2.2.2.2.1 o0_.2.2.2.2.2.2.1 rfl q17 (by decide) ?_
            refine z_iload_n Q_X1_finderBits (k := 31) rfl rfl ?_
            refine y_icmp_ge 76 Q_X1_finderBits (k := 32) rfl (by decide) (hB.2.1 _ _) z3 (fun c => ?_) (fun c => ?_)
            · replace h := h.1 c
              refine z_aload_n Q_X1_finderBits (k := 45) rfl rfl ?_
              refine z_getR (b := (l0 + 2).toNat) Q_X1_finderBits (k := 46) rfl F_X1_22 rfl o0_.1.2.1 o0_.1.2.2.1 o0_.2.1.2.1 ?_
              refine z_iload Q_X1_finderBits (k := 47) rfl rfl ?_
              obtain ⟨q18, h⟩ := h
              refine q_iald (o := l0 + 2) (N := 6) Q_X1_finderBits (k := 48) rfl (Int.toNat_of_nonneg o0_.2.2.2.1.1) o0_.2.2.2.1.2.1 o0_.2.2.2.1.2.2.1 rfl q18 (by decide) ?_
              refine z_iload_n Q_X1_finderBits (k := 49) rfl rfl ?_
              refine y_icmp_ne 110 Q_X1_finderBits (k := 50) rfl (by decide) (hB.2.1 _ _) z2 (fun c => ?_) (fun c => ?_)
              · replace h := h.2 c
                obtain ⟨q19, h⟩ := h
                refine y_iinc (L' := [some (.ref l0.toNat), some (.int (iI l1)), some (.int (iI l2)), some (.int (iI l3)), some (.int (iI (l4 + 1)))]) Q_X1_finderBits (k := 66) rfl (by decide) rfl rfl ?_
                refine z_goto (tgt := 9) Q_X1_finderBits (k := 67) rfl (by decide) ?_
                exact y_fg (zsb_c rfl (zsb_c rfl (zsb_c rfl (zsb_c rfl (zsb_c rfl zsb_e))))) (ih l1 l2 l3 (l4 + 1) z1 z2 z3 q19 h)
              · replace h := h.1 c
                refine z_aload_n Q_X1_finderBits (k := 51) rfl rfl ?_
                refine z_getR (b := (l0 + 3).toNat) Q_X1_finderBits (k := 52) rfl F_X1_25 rfl o0_.1.2.1 o0_.1.2.2.1 o0_.2.1.2.2 ?_
                refine z_iload Q_X1_finderBits (k := 53) rfl rfl ?_
                obtain ⟨q20, h⟩ := h
                refine q_iald (o := l0 + 3) (N := 6) Q_X1_finderBits (k := 54) rfl (Int.toNat_of_nonneg o0_.2.2.2.2.1) o0_.2.2.2.2.2.1 o0_.2.2.2.2.2.2.1 rfl q20 (by decide) ?_
                refine z_iload_n Q_X1_finderBits (k := 55) rfl rfl ?_
                refine y_icmp_ne 110 Q_X1_finderBits (k := 56) rfl (by decide) (hB.2.1 _ _) z3 (fun c => ?_) (fun c => ?_)
                · replace h := h.2 c
                  obtain ⟨q21, h⟩ := h
                  refine y_iinc (L' := [some (.ref l0.toNat), some (.int (iI l1)), some (.int (iI l2)), some (.int (iI l3)), some (.int (iI (l4 + 1)))]) Q_X1_finderBits (k := 66) rfl (by decide) rfl rfl ?_
                  refine z_goto (tgt := 9) Q_X1_finderBits (k := 67) rfl (by decide) ?_
                  exact y_fg (zsb_c rfl (zsb_c rfl (zsb_c rfl (zsb_c rfl (zsb_c rfl zsb_e))))) (ih l1 l2 l3 (l4 + 1) z1 z2 z3 q21 h)
                · replace h := h.1 c
                  refine z_iload_n Q_X1_finderBits (k := 57) rfl rfl ?_
                  refine y_iconst Q_X1_finderBits (k := 58) rfl ?_
                  refine z_aload_n Q_X1_finderBits (k := 59) rfl rfl ?_
                  refine z_getR (b := (l0 + 1).toNat) Q_X1_finderBits (k := 60) rfl F_X1_18 rfl o0_.1.2.1 o0_.1.2.2.1 o0_.2.1.1 ?_
                  refine z_iload Q_X1_finderBits (k := 61) rfl rfl ?_
                  obtain ⟨q22, h⟩ := h
                  refine q_iald (o := l0 + 1) (N := 6) Q_X1_finderBits (k := 62) rfl (Int.toNat_of_nonneg o0_.2.2.1.1) o0_.2.2.1.2.1 o0_.2.2.1.2.2.1 rfl q22 (by decide) ?_
                  refine y_ishl Q_X1_finderBits (k := 63) rfl ?_
                  refine y_ior Q_X1_finderBits (k := 64) rfl ?_
                  refine y_istore_n (L' := [some (.ref l0.toNat), some (.int (iI (zor l1 (zshl 1 (V (l0 + 1) l4))))), some (.int (iI l2)), some (.int (iI l3)), some (.int (iI l4))]) Q_X1_finderBits (k := 65) rfl (by decide) rfl ?_
                  obtain ⟨q23, h⟩ := h
                  refine y_iinc (L' := [some (.ref l0.toNat), some (.int (iI (zor l1 (zshl 1 (V (l0 + 1) l4))))), some (.int (iI l2)), some (.int (iI l3)), some (.int (iI (l4 + 1)))]) Q_X1_finderBits (k := 66) rfl (by decide) rfl rfl ?_
                  refine z_goto (tgt := 9) Q_X1_finderBits (k := 67) rfl (by decide) ?_
                  exact y_fg (zsb_c rfl (zsb_c rfl (zsb_c rfl (zsb_c rfl (zsb_c rfl zsb_e))))) (ih (zor l1 (zshl 1 (V (l0 + 1) l4))) l2 l3 (l4 + 1) (zor_r _ _) z2 z3 q23 h)
            · replace h := h.2 c
              refine z_aload_n Q_X1_finderBits (k := 33) rfl rfl ?_
              refine z_getR (b := (l0 + 2).toNat) Q_X1_finderBits (k := 34) rfl F_X1_22 rfl o0_.1.2.1 o0_.1.2.2.1 o0_.2.1.2.1 ?_
              refine z_iload Q_X1_finderBits (k := 35) rfl rfl ?_
              obtain ⟨q24, h⟩ := h
              refine q_iald (o := l0 + 2) (N := 6) Q_X1_finderBits (k := 36) rfl (Int.toNat_of_nonneg o0_.2.2.2.1.1) o0_.2.2.2.1.2.1 o0_.2.2.2.1.2.2.1 rfl q24 (by decide) ?_
              refine y_istore_n (L' := [some (.ref l0.toNat), some (.int (iI l1)), some (.int (iI (V (l0 + 2) l4))), some (.int (iI l3)), some (.int (iI l4))]) Q_X1_finderBits (k := 37) rfl (by decide) rfl ?_
              refine z_aload_n Q_X1_finderBits (k := 38) rfl rfl ?_
              refine z_getR (b := (l0 + 3).toNat) Q_X1_finderBits (k := 39) rfl F_X1_25 rfl o0_.1.2.1 o0_.1.2.2.1 o0_.2.1.2.2 ?_
              refine z_iload Q_X1_finderBits (k := 40) rfl rfl ?_
              obtain ⟨q25, h⟩ := h
              refine q_iald (o := l0 + 3) (N := 6) Q_X1_finderBits (k := 41) rfl (Int.toNat_of_nonneg o0_.2.2.2.2.1) o0_.2.2.2.2.2.1 o0_.2.2.2.2.2.2.1 rfl q25 (by decide) ?_
              refine y_istore_n (L' := [some (.ref l0.toNat), some (.int (iI l1)), some (.int (iI (V (l0 + 2) l4))), some (.int (iI (V (l0 + 3) l4))), some (.int (iI l4))]) Q_X1_finderBits (k := 42) rfl (by decide) rfl ?_
              refine y_iconst Q_X1_finderBits (k := 43) rfl ?_
              refine y_istore_n (L' := [some (.ref l0.toNat), some (.int (iI 0)), some (.int (iI (V (l0 + 2) l4))), some (.int (iI (V (l0 + 3) l4))), some (.int (iI l4))]) Q_X1_finderBits (k := 44) rfl (by decide) rfl ?_
              refine z_aload_n Q_X1_finderBits (k := 45) rfl rfl ?_
              refine z_getR (b := (l0 + 2).toNat) Q_X1_finderBits (k := 46) rfl F_X1_22 rfl o0_.1.2.1 o0_.1.2.2.1 o0_.2.1.2.1 ?_
              refine z_iload Q_X1_finderBits (k := 47) rfl rfl ?_
              obtain ⟨q26, h⟩ := h
              refine q_iald (o := l0 + 2) (N := 6) Q_X1_finderBits (k := 48) rfl (Int.toNat_of_nonneg o0_.2.2.2.1.1) o0_.2.2.2.1.2.1 o0_.2.2.2.1.2.2.1 rfl q26 (by decide) ?_
              refine z_iload_n Q_X1_finderBits (k := 49) rfl rfl ?_
              refine y_icmp_ne 110 Q_X1_finderBits (k := 50) rfl (by decide) (hB.2.1 _ _) (hB.2.1 _ _) (fun c => ?_) (fun c => ?_)
              · replace h := h.2 c
                obtain ⟨q27, h⟩ := h
                refine y_iinc (L' := [some (.ref l0.toNat), some (.int (iI 0)), some (.int (iI (V (l0 + 2) l4))), some (.int (iI (V (l0 + 3) l4))), some (.int (iI (l4 + 1)))]) Q_X1_finderBits (k := 66) rfl (by decide) rfl rfl ?_
                refine z_goto (tgt := 9) Q_X1_finderBits (k := 67) rfl (by decide) ?_
                exact y_fg (zsb_c rfl (zsb_c rfl (zsb_c rfl (zsb_c rfl (zsb_c rfl zsb_e))))) (ih 0 (V (l0 + 2) l4) (V (l0 + 3) l4) (l4 + 1) ⟨by decide, by decide⟩ (hB.2.1 _ _) (hB.2.1 _ _) q27 h)
              · replace h := h.1 c
                refine z_aload_n Q_X1_finderBits (k := 51) rfl rfl ?_
                refine z_getR (b := (l0 + 3).toNat) Q_X1_finderBits (k := 52) rfl F_X1_25 rfl o0_.1.2.1 o0_.1.2.2.1 o0_.2.1.2.2 ?_
                refine z_iload Q_X1_finderBits (k := 53) rfl rfl ?_
                obtain ⟨q28, h⟩ := h
                refine q_iald (o := l0 + 3) (N := 6) Q_X1_finderBits (k := 54) rfl (Int.toNat_of_nonneg o0_.2.2.2.2.1) o0_.2.2.2.2.2.1 o0_.2.2.2.2.2.2.1 rfl q28 (by decide) ?_
                refine z_iload_n Q_X1_finderBits (k := 55) rfl rfl ?_
                refine y_icmp_ne 110 Q_X1_finderBits (k := 56) rfl (by decide) (hB.2.1 _ _) (hB.2.1 _ _) (fun c => ?_) (fun c => ?_)
                · replace h := h.2 c
                  obtain ⟨q29, h⟩ := h
                  refine y_iinc (L' := [some (.ref l0.toNat), some (.int (iI 0)), some (.int (iI (V (l0 + 2) l4))), some (.int (iI (V (l0 + 3) l4))), some (.int (iI (l4 + 1)))]) Q_X1_finderBits (k := 66) rfl (by decide) rfl rfl ?_
                  refine z_goto (tgt := 9) Q_X1_finderBits (k := 67) rfl (by decide) ?_
                  exact y_fg (zsb_c rfl (zsb_c rfl (zsb_c rfl (zsb_c rfl (zsb_c rfl zsb_e))))) (ih 0 (V (l0 + 2) l4) (V (l0 + 3) l4) (l4 + 1) ⟨by decide, by decide⟩ (hB.2.1 _ _) (hB.2.1 _ _) q29 h)
                · replace h := h.1 c
                  refine z_iload_n Q_X1_finderBits (k := 57) rfl rfl ?_
                  refine y_iconst Q_X1_finderBits (k := 58) rfl ?_
                  refine z_aload_n Q_X1_finderBits (k := 59) rfl rfl ?_
                  refine z_getR (b := (l0 + 1).toNat) Q_X1_finderBits (k := 60) rfl F_X1_18 rfl o0_.1.2.1 o0_.1.2.2.1 o0_.2.1.1 ?_
                  refine z_iload Q_X1_finderBits (k := 61) rfl rfl ?_
                  obtain ⟨q30, h⟩ := h
                  refine q_iald (o := l0 + 1) (N := 6) Q_X1_finderBits (k := 62) rfl (Int.toNat_of_nonneg o0_.2.2.1.1) o0_.2.2.1.2.1 o0_.2.2.1.2.2.1 rfl q30 (by decide) ?_
                  refine y_ishl Q_X1_finderBits (k := 63) rfl ?_
                  refine y_ior Q_X1_finderBits (k := 64) rfl ?_
                  refine y_istore_n (L' := [some (.ref l0.toNat), some (.int (iI (zor 0 (zshl 1 (V (l0 + 1) l4))))), some (.int (iI (V (l0 + 2) l4))), some (.int (iI (V (l0 + 3) l4))), some (.int (iI l4))]) Q_X1_finderBits (k := 65) rfl (by decide) rfl ?_
                  obtain ⟨q31, h⟩ := h
                  refine y_iinc (L' := [some (.ref l0.toNat), some (.int (iI (zor 0 (zshl 1 (V (l0 + 1) l4))))), some (.int (iI (V (l0 + 2) l4))), some (.int (iI (V (l0 + 3) l4))), some (.int (iI (l4 + 1)))]) Q_X1_finderBits (k := 66) rfl (by decide) rfl rfl ?_
                  refine z_goto (tgt := 9) Q_X1_finderBits (k := 67) rfl (by decide) ?_
                  exact y_fg (zsb_c rfl (zsb_c rfl (zsb_c rfl (zsb_c rfl (zsb_c rfl zsb_e))))) (ih (zor 0 (zshl 1 (V (l0 + 1) l4))) (V (l0 + 2) l4) (V (l0 + 3) l4) (l4 + 1) (zor_r _ _) (hB.2.1 _ _) (hB.2.1 _ _) q31 h)
set_option maxHeartbeats 4000000 in
set_option maxRecDepth 20000 in
theorem w_X1_finderBits {S : zS} {V : qV} {J : qJ} {Q : Int → Prop} (d : Nat) (hB : qB S V) {a0 : Int} (p0 : qFi S a0) (h : W_X1_finderBits a0 V Q) : Z M_X1_finderBits d 0 0 0 [some (.ref a0.toNat), none, none, none, none] [] S (qi V) (qj J) (qP_i S V J Q) := by
  unfold W_X1_finderBits at h
  refine y_iconst Q_X1_finderBits (k := 0) rfl ?_
  refine y_istore_n (L' := [some (.ref a0.toNat), some (.int (iI 0)), none, none, none]) Q_X1_finderBits (k := 1) rfl (by decide) rfl ?_
  refine y_iconst Q_X1_finderBits (k := 2) rfl ?_
  refine y_istore_n (L' := [some (.ref a0.toNat), some (.int (iI 0)), some (.int (iI (-1))), none, none]) Q_X1_finderBits (k := 3) rfl (by decide) rfl ?_
  refine y_iconst Q_X1_finderBits (k := 4) rfl ?_
  refine y_istore_n (L' := [some (.ref a0.toNat), some (.int (iI 0)), some (.int (iI (-1))), some (.int (iI 0)), none]) Q_X1_finderBits (k := 5) rfl (by decide) rfl ?_
  refine y_iconst Q_X1_finderBits (k := 6) rfl ?_
  refine y_istore (L' := [some (.ref a0.toNat), some (.int (iI 0)), some (.int (iI (-1))), some (.int (iI 0)), some (.int (iI 0))]) Q_X1_finderBits (k := 7) rfl (by decide) rfl ?_
  refine y_fg (zsb_c rfl (zsb_c rfl (zsb_c rfl (zsb_c rfl (zsb_c rfl zsb_e))))) (v_X1_finderBits_9 d hB p0 (fun l1x32 l2x32 l3x32 l4x32 zl1x32 zl2x32 zl3x32 zl4x32 h => ?_) 100000 0 (-1) 0 0 ⟨by decide, by decide⟩ ⟨by decide, by decide⟩ ⟨by decide, by decide⟩ ⟨by decide, by decide⟩ h)
  refine z_iload_n Q_X1_finderBits (k := 68) rfl rfl ?_
  exact y_iret Q_X1_finderBits (k := 69) rfl rfl (qI_i zl1x32 h)
set_option maxHeartbeats 4000000 in
set_option maxRecDepth 20000 in
theorem w_X1_hadBy {S : zS} {V : qV} {J : qJ} {Q : Int → Prop} (d : Nat) (hB : qB S V) {a0 : Int} (p0 : qFi S a0) (h : W_X1_hadBy a0 V Q) : Z M_X1_hadBy (d + 1) 0 0 0 [some (.ref a0.toNat)] [] S (qi V) (qj J) (qP_i S V J Q) := by
  unfold W_X1_hadBy at h
  refine z_aload_n Q_X1_hadBy (k := 0) rfl rfl ?_
  refine q_getI (o := a0) (z := 8) Q_X1_hadBy (k := 1) rfl F_X1_15 rfl (Int.toNat_of_nonneg p0.1.1) rfl p0.1.2.1 p0.1.2.2.1 ?_
  refine y_iconst Q_X1_hadBy (k := 2) rfl ?_
  refine y_icmp_ne 15 Q_X1_hadBy (k := 3) rfl (by decide) (hB.2.1 _ _) ⟨by decide, by decide⟩ (fun c => ?_) (fun c => ?_)
  · replace h := h.2 c
    refine y_iconst Q_X1_hadBy (k := 7) rfl ?_
    refine z_aload_n Q_X1_hadBy (k := 8) rfl rfl ?_
    refine q_getI (o := a0) (z := 8) Q_X1_hadBy (k := 9) rfl F_X1_15 rfl (Int.toNat_of_nonneg p0.1.1) rfl p0.1.2.1 p0.1.2.2.1 ?_
    refine y_ishl Q_X1_hadBy (k := 10) rfl ?_
    exact y_iret Q_X1_hadBy (k := 11) rfl rfl (qI_i (zshl_r _ _) h)
  · replace h := h.1 c
    refine z_aload_n Q_X1_hadBy (k := 4) rfl rfl ?_
    refine q_callV0_i Q_X1_hadBy (k := 5) rfl rfl K_X1_finderBits V_X1_finderBits L_X1_62 p0.1.2.1 p0.1.2.2.1 (Nat.le_of_ble_eq_true rfl) (Nat.le_of_ble_eq_true rfl) rfl (Nat.zero_le _) (Nat.zero_le _) (w_X1_finderBits d hB p0 h) (fun r1 hz1 h => ?_)
    refine z_goto (tgt := 21) Q_X1_hadBy (k := 6) rfl (by decide) ?_
    exact y_iret Q_X1_hadBy (k := 11) rfl rfl (qI_i hz1 h)
set_option maxHeartbeats 4000000 in
set_option maxRecDepth 20000 in
theorem w_X1_leftOn {S : zS} {V : qV} {J : qJ} {Q : Int → Prop} (d : Nat) (hB : qB S V) {a0 : Int} (p0 : qFi S a0) {a1 : Int} (z1 : zr a1) (h : W_X1_leftOn a0 a1 V Q) : Z M_X1_leftOn d 0 0 0 [some (.ref a0.toNat), some (.int (iI a1))] [] S (qi V) (qj J) (qP_i S V J Q) := by
  unfold W_X1_leftOn at h
  refine y_iconst Q_X1_leftOn (k := 0) rfl ?_
  refine z_aload_n Q_X1_leftOn (k := 1) rfl rfl ?_
  refine q_getI (o := a0) (z := 2) Q_X1_leftOn (k := 2) rfl F_X1_34 rfl (Int.toNat_of_nonneg p0.1.1) rfl p0.1.2.1 p0.1.2.2.1 ?_
  refine z_aload_n Q_X1_leftOn (k := 3) rfl rfl ?_
  refine q_getI (o := a0) (z := 4) Q_X1_leftOn (k := 4) rfl F_X1_43 rfl (Int.toNat_of_nonneg p0.1.1) rfl p0.1.2.1 p0.1.2.2.1 ?_
  refine z_iload_n Q_X1_leftOn (k := 5) rfl rfl ?_
  refine z_aload_n Q_X1_leftOn (k := 6) rfl rfl ?_
  refine q_getI (o := a0) (z := 5) Q_X1_leftOn (k := 7) rfl F_X1_37 rfl (Int.toNat_of_nonneg p0.1.1) rfl p0.1.2.1 p0.1.2.2.1 ?_
  obtain ⟨q1, h⟩ := h
  refine y_isub Q_X1_leftOn (k := 8) rfl ?_
  obtain ⟨q2, h⟩ := h
  refine y_imul Q_X1_leftOn (k := 9) rfl ?_
  obtain ⟨q3, h⟩ := h
  refine y_isub Q_X1_leftOn (k := 10) rfl ?_
  refine y_max Q_X1_leftOn (k := 11) rfl L_X1_66 G_max (Nat.le_of_ble_eq_true rfl) ⟨by decide, by decide⟩ q3 ?_
  exact y_iret Q_X1_leftOn (k := 12) rfl rfl (qI_i (q_mx ⟨by decide, by decide⟩ q3) h)
set_option maxHeartbeats 4000000 in
set_option maxRecDepth 20000 in
theorem w_X3_startOf {S : zS} {V : qV} {J : qJ} {Q : Int → Prop} (d : Nat) (hB : qB S V) {a0 : Int} (p0 : qLa S a0) {a1 : Int} (z1 : zr a1) (h : W_X3_startOf a0 a1 V Q) : Z M_X3_startOf d 0 0 0 [some (.ref a0.toNat), some (.int (iI a1))] [] S (qi V) (qj J) (qP_i S V J Q) := by
  unfold W_X3_startOf at h
  refine z_iload_n Q_X3_startOf (k := 0) rfl rfl ?_
  refine y_if_le 21 Q_X3_startOf (k := 1) rfl (by decide) z1 (fun c => ?_) (fun c => ?_)
  · replace h := h.1 c
    refine y_iconst Q_X3_startOf (k := 12) rfl ?_
    exact y_iret Q_X3_startOf (k := 13) rfl rfl (qI_i ⟨by decide, by decide⟩ h)
  · replace h := h.2 c
    refine z_iload_n Q_X3_startOf (k := 2) rfl rfl ?_
    refine y_bipush Q_X3_startOf (k := 3) rfl (by decide) ?_
    refine y_icmp_gt 21 Q_X3_startOf (k := 4) rfl (by decide) z1 ⟨by decide, by decide⟩ (fun c => ?_) (fun c => ?_)
    · replace h := h.1 c
      refine y_iconst Q_X3_startOf (k := 12) rfl ?_
      exact y_iret Q_X3_startOf (k := 13) rfl rfl (qI_i ⟨by decide, by decide⟩ h)
    · replace h := h.2 c
      refine z_aload_n Q_X3_startOf (k := 5) rfl rfl ?_
      refine z_getR (b := (a0 + 3).toNat) Q_X3_startOf (k := 6) rfl F_X3_18 rfl p0.1.2.1 p0.1.2.2.1 p0.2.1.2.2.1 ?_
      refine z_iload_n Q_X3_startOf (k := 7) rfl rfl ?_
      refine y_iconst Q_X3_startOf (k := 8) rfl ?_
      obtain ⟨q1, h⟩ := h
      refine y_isub Q_X3_startOf (k := 9) rfl ?_
      obtain ⟨q2, h⟩ := h
      refine q_iald (o := a0 + 3) (N := 12) Q_X3_startOf (k := 10) rfl (Int.toNat_of_nonneg p0.2.2.2.2.1.1) p0.2.2.2.2.1.2.1 p0.2.2.2.2.1.2.2.1 rfl q2 (by decide) ?_
      refine z_goto (tgt := 22) Q_X3_startOf (k := 11) rfl (by decide) ?_
      exact y_iret Q_X3_startOf (k := 13) rfl rfl (qI_i (hB.2.1 _ _) h)
set_option maxHeartbeats 4000000 in
set_option maxRecDepth 20000 in
theorem w_X3_endOf {S : zS} {V : qV} {J : qJ} {Q : Int → Prop} (d : Nat) (hB : qB S V) {a0 : Int} (p0 : qLa S a0) {a1 : Int} (z1 : zr a1) (h : W_X3_endOf a0 a1 V Q) : Z M_X3_endOf d 0 0 0 [some (.ref a0.toNat), some (.int (iI a1))] [] S (qi V) (qj J) (qP_i S V J Q) := by
  unfold W_X3_endOf at h
  refine z_iload_n Q_X3_endOf (k := 0) rfl rfl ?_
  refine y_if_lt 25 Q_X3_endOf (k := 1) rfl (by decide) z1 (fun c => ?_) (fun c => ?_)
  · replace h := h.1 c
    refine y_iconst Q_X3_endOf (k := 12) rfl ?_
    exact y_iret Q_X3_endOf (k := 13) rfl rfl (qI_i ⟨by decide, by decide⟩ h)
  · replace h := h.2 c
    refine z_iload_n Q_X3_endOf (k := 2) rfl rfl ?_
    refine y_bipush Q_X3_endOf (k := 3) rfl (by decide) ?_
    refine y_icmp_ge 25 Q_X3_endOf (k := 4) rfl (by decide) z1 ⟨by decide, by decide⟩ (fun c => ?_) (fun c => ?_)
    · replace h := h.1 c
      refine y_iconst Q_X3_endOf (k := 12) rfl ?_
      exact y_iret Q_X3_endOf (k := 13) rfl rfl (qI_i ⟨by decide, by decide⟩ h)
    · replace h := h.2 c
      refine z_aload_n Q_X3_endOf (k := 5) rfl rfl ?_
      refine z_getR (b := (a0 + 3).toNat) Q_X3_endOf (k := 6) rfl F_X3_18 rfl p0.1.2.1 p0.1.2.2.1 p0.2.1.2.2.1 ?_
      refine z_iload_n Q_X3_endOf (k := 7) rfl rfl ?_
      obtain ⟨q1, h⟩ := h
      refine q_iald (o := a0 + 3) (N := 12) Q_X3_endOf (k := 8) rfl (Int.toNat_of_nonneg p0.2.2.2.2.1.1) p0.2.2.2.2.1.2.1 p0.2.2.2.2.1.2.2.1 rfl q1 (by decide) ?_
      refine y_sipush Q_X3_endOf (k := 9) rfl (by decide) ?_
      refine y_min Q_X3_endOf (k := 10) rfl L_X3_34 G_min (Nat.le_of_ble_eq_true rfl) (hB.2.1 _ _) ⟨by decide, by decide⟩ ?_
      refine z_goto (tgt := 26) Q_X3_endOf (k := 11) rfl (by decide) ?_
      exact y_iret Q_X3_endOf (k := 13) rfl rfl (qI_i (q_mn (hB.2.1 _ _) ⟨by decide, by decide⟩) h)
set_option maxHeartbeats 4000000 in
set_option maxRecDepth 20000 in
theorem v_X2_pushAll_19 {S : zS} {V : qV} {K : Int → qJ → Prop} {Q : qV → qJ → Prop} {kc ks : Nat} (d : Nat) (hB : qB S V) {l1 : Int} (z1 : zr l1) {l2 : Int} (z2 : zr l2) (hK : ∀ (l3 : Int) (J : qJ), zr l3 → K l3 J → Z M_X2_pushAll d kc ks 50 [some (.ref 151), some (.int (iI l1)), some (.int (iI l2)), some (.int (iI l3))] [] S (qi V) (qj J) (qP_uVJ S Q)) : ∀ (f : Nat) (l3 : Int) (J : qJ), zr l3 → lp_X2_pushAll_19 l1 l2 V K f l3 J → Z M_X2_pushAll d kc ks 19 [some (.ref 151), some (.int (iI l1)), some (.int (iI l2)), some (.int (iI l3))] [] S (qi V) (qj J) (qP_uVJ S Q) := by
  intro f
  induction f with
  | zero =>
    intro l3 J z3 h
    exact h.elim
  | succ f ih =>
    intro l3 J z3 h
    rw [lp_X2_pushAll_19] at h
    refine z_iload_n Q_X2_pushAll (k := 11) rfl rfl ?_
    refine y_bipush Q_X2_pushAll (k := 12) rfl (by decide) ?_
    refine y_icmp_ge 50 Q_X2_pushAll (k := 13) rfl (by decide) z3 ⟨by decide, by decide⟩ (fun c => ?_) (fun c => ?_)
    · replace h := h.1 c
      exact y_fg (zsb_c rfl (zsb_c rfl (zsb_c rfl (zsb_c rfl zsb_e)))) (hK l3 J z3 h)
    · replace h := h.2 c
      refine z_aload_n Q_X2_pushAll (k := 14) rfl rfl ?_
      refine z_getR (b := 152) Q_X2_pushAll (k := 15) rfl F_X2_11 rfl (n_ hB.1 rfl) (k_151 hB.1) (r_151_0 hB.1) ?_
      refine z_iload_n Q_X2_pushAll (k := 16) rfl rfl ?_
      refine z_iload_n Q_X2_pushAll (k := 17) rfl rfl ?_
      obtain ⟨q2, h⟩ := h
      refine y_iadd Q_X2_pushAll (k := 18) rfl ?_
      refine z_iload_n Q_X2_pushAll (k := 19) rfl rfl ?_
      refine y_if_eq 42 Q_X2_pushAll (k := 20) rfl (by decide) z1 (fun c => ?_) (fun c => ?_)
      · replace h := h.1 c
        refine z_lconst_ Q_X2_pushAll (k := 23) rfl (v := 0) rfl ?_
        obtain ⟨q3, h⟩ := h
        refine q_last (o := 152) (N := 256) Q_X2_pushAll (k := 24) rfl rfl (n_ hB.1 rfl) (k_152 hB.1) rfl q3 (by decide) ?_
        obtain ⟨q4, h⟩ := h
        refine y_iinc (L' := [some (.ref 151), some (.int (iI l1)), some (.int (iI l2)), some (.int (iI (l3 + 1)))]) Q_X2_pushAll (k := 25) rfl (by decide) rfl rfl ?_
        refine z_goto (tgt := 19) Q_X2_pushAll (k := 26) rfl (by decide) ?_
        exact y_fg (zsb_c rfl (zsb_c rfl (zsb_c rfl (zsb_c rfl zsb_e)))) (ih (l3 + 1) (qu J 152 (l2 + l3) 0) q4 h)
      · replace h := h.2 c
        refine z_ldc2 Q_X2_pushAll (k := 21) rfl lC_X2_69 ?_
        refine z_goto (tgt := 43) Q_X2_pushAll (k := 22) rfl (by decide) ?_
        obtain ⟨q5, h⟩ := h
        refine q_last (o := 152) (N := 256) Q_X2_pushAll (k := 24) rfl rfl (n_ hB.1 rfl) (k_152 hB.1) rfl q5 (by decide) ?_
        obtain ⟨q6, h⟩ := h
        refine y_iinc (L' := [some (.ref 151), some (.int (iI l1)), some (.int (iI l2)), some (.int (iI (l3 + 1)))]) Q_X2_pushAll (k := 25) rfl (by decide) rfl rfl ?_
        refine z_goto (tgt := 19) Q_X2_pushAll (k := 26) rfl (by decide) ?_
        exact y_fg (zsb_c rfl (zsb_c rfl (zsb_c rfl (zsb_c rfl zsb_e)))) (ih (l3 + 1) (qu J 152 (l2 + l3) (-1)) q6 h)
set_option maxHeartbeats 4000000 in
set_option maxRecDepth 20000 in
theorem w_X2_pushAll {S : zS} {V : qV} {J : qJ} {Q : qV → qJ → Prop} (d : Nat) (hB : qB S V) {a1 : Int} (z1 : zr a1) (b1 : a1 = 0 ∨ a1 = 1) (h : W_X2_pushAll a1 V J Q) : Z M_X2_pushAll d 0 0 0 [some (.ref 151), some (.int (iI a1)), none, none] [] S (qi V) (qj J) (qP_uVJ S Q) := by
  unfold W_X2_pushAll at h
  refine z_aload_n Q_X2_pushAll (k := 0) rfl rfl ?_
  refine q_getI (o := 151) (z := 3) Q_X2_pushAll (k := 1) rfl F_X2_71 rfl rfl rfl (n_ hB.1 rfl) (k_151 hB.1) ?_
  refine y_bipush Q_X2_pushAll (k := 2) rfl (by decide) ?_
  refine y_icmp_ge 60 Q_X2_pushAll (k := 3) rfl (by decide) (hB.2.1 _ _) ⟨by decide, by decide⟩ (fun c => ?_) (fun c => ?_)
  · replace h := h.1 c
    exact z_vret Q_X2_pushAll (k := 33) rfl rfl (qI_uVJ hB h)
  · replace h := h.2 c
    refine z_aload_n Q_X2_pushAll (k := 4) rfl rfl ?_
    refine q_getI (o := 151) (z := 3) Q_X2_pushAll (k := 5) rfl F_X2_71 rfl rfl rfl (n_ hB.1 rfl) (k_151 hB.1) ?_
    refine y_bipush Q_X2_pushAll (k := 6) rfl (by decide) ?_
    obtain ⟨q1, h⟩ := h
    refine y_imul Q_X2_pushAll (k := 7) rfl ?_
    refine y_istore_n (L' := [some (.ref 151), some (.int (iI a1)), some (.int (iI ((V 151 3) * 16))), none]) Q_X2_pushAll (k := 8) rfl (by decide) rfl ?_
    refine y_iconst Q_X2_pushAll (k := 9) rfl ?_
    refine y_istore_n (L' := [some (.ref 151), some (.int (iI a1)), some (.int (iI ((V 151 3) * 16))), some (.int (iI 0))]) Q_X2_pushAll (k := 10) rfl (by decide) rfl ?_
    refine y_fg (zsb_c rfl (zsb_c rfl (zsb_c rfl (zsb_c rfl zsb_e)))) (v_X2_pushAll_19 d hB z1 q1 (fun l3x7 J7 zl3x7 h => ?_) 100000 0 J ⟨by decide, by decide⟩ h)
    refine z_aload_n Q_X2_pushAll (k := 27) rfl rfl ?_
    refine z_dup Q_X2_pushAll (k := 28) rfl rfl ?_
    refine q_getI (o := 151) (z := 3) Q_X2_pushAll (k := 29) rfl F_X2_71 rfl rfl rfl (n_ hB.1 rfl) (k_151 hB.1) ?_
    refine y_iconst Q_X2_pushAll (k := 30) rfl ?_
    obtain ⟨q8, h⟩ := h
    refine y_iadd Q_X2_pushAll (k := 31) rfl ?_
    refine q_putI (o := 151) (z := 3) Q_X2_pushAll (k := 32) rfl F_X2_71 rfl rfl rfl (n_ hB.1 rfl) (k_151 hB.1) ?_
    have hB9 := qB.u (a := 151) (j := 3) (x := (V 151 3) + 1) hB q8 (Or.inl (by decide))
    exact z_vret Q_X2_pushAll (k := 33) rfl rfl (qI_uVJ hB9 h)
set_option maxHeartbeats 4000000 in
set_option maxRecDepth 20000 in
theorem w_X2_pushNumber {S : zS} {V : qV} {J : qJ} {Q : qV → Prop} (d : Nat) (hB : qB S V) {a1 : Int} (z1 : zr a1) (h : W_X2_pushNumber a1 V Q) : Z M_X2_pushNumber d 0 0 0 [some (.ref 151), some (.int (iI a1))] [] S (qi V) (qj J) (qP_uV S J Q) := by
  unfold W_X2_pushNumber at h
  refine z_aload_n Q_X2_pushNumber (k := 0) rfl rfl ?_
  refine q_getI (o := 151) (z := 4) Q_X2_pushNumber (k := 1) rfl F_X2_74 rfl rfl rfl (n_ hB.1 rfl) (k_151 hB.1) ?_
  refine y_bipush Q_X2_pushNumber (k := 2) rfl (by decide) ?_
  refine y_icmp_ge 29 Q_X2_pushNumber (k := 3) rfl (by decide) (hB.2.1 _ _) ⟨by decide, by decide⟩ (fun c => ?_) (fun c => ?_)
  · replace h := h.1 c
    exact z_vret Q_X2_pushNumber (k := 16) rfl rfl (qI_uV hB h)
  · replace h := h.2 c
    refine z_aload_n Q_X2_pushNumber (k := 4) rfl rfl ?_
    refine z_getR (b := 153) Q_X2_pushNumber (k := 5) rfl F_X2_15 rfl (n_ hB.1 rfl) (k_151 hB.1) (r_151_1 hB.1) ?_
    refine z_aload_n Q_X2_pushNumber (k := 6) rfl rfl ?_
    refine q_getI (o := 151) (z := 4) Q_X2_pushNumber (k := 7) rfl F_X2_74 rfl rfl rfl (n_ hB.1 rfl) (k_151 hB.1) ?_
    refine z_iload_n Q_X2_pushNumber (k := 8) rfl rfl ?_
    obtain ⟨q1, h⟩ := h
    refine q_iast (o := 153) (N := 16) Q_X2_pushNumber (k := 9) rfl rfl (n_ hB.1 rfl) (k_153 hB.1) rfl q1 (by decide) ?_
    have hB2 := qB.u (a := 153) (j := V 151 4) (x := a1) hB z1 (Or.inl (by decide))
    refine z_aload_n Q_X2_pushNumber (k := 10) rfl rfl ?_
    refine z_dup Q_X2_pushNumber (k := 11) rfl rfl ?_
    refine q_getI (o := 151) (z := 4) Q_X2_pushNumber (k := 12) rfl F_X2_74 rfl rfl rfl (n_ hB2.1 rfl) (k_151 hB2.1) ?_
    refine y_iconst Q_X2_pushNumber (k := 13) rfl ?_
    obtain ⟨q3, h⟩ := h
    refine y_iadd Q_X2_pushNumber (k := 14) rfl ?_
    refine q_putI (o := 151) (z := 4) Q_X2_pushNumber (k := 15) rfl F_X2_74 rfl rfl rfl (n_ hB2.1 rfl) (k_151 hB2.1) ?_
    have hB4 := qB.u (a := 151) (j := 4) (x := ((qu V 153 (V 151 4) a1) 151 4) + 1) hB2 q3 (Or.inl (by decide))
    exact z_vret Q_X2_pushNumber (k := 16) rfl rfl (qI_uV hB4 h)
set_option maxHeartbeats 4000000 in
set_option maxRecDepth 20000 in
theorem w_X10_trueBits {S : zS} {V : qV} {J : qJ} {Q : Int64 → Prop} (d : Nat) (hB : qB S V) {a0 : Int} (z0 : zr a0) {a1 : Int} (z1 : zr a1) (h : W_X10_trueBits a0 a1 V J Q) : Z M_X10_trueBits d 0 0 0 [some (.int (iI a0)), some (.int (iI a1))] [] S (qi V) (qj J) (qP_l S V J Q) := by
  unfold W_X10_trueBits at h
  refine z_iload_n Q_X10_trueBits (k := 0) rfl rfl ?_
  refine y_if_lt 18 Q_X10_trueBits (k := 1) rfl (by decide) z0 (fun c => ?_) (fun c => ?_)
  · replace h := h.1 c
    refine z_iload_n Q_X10_trueBits (k := 10) rfl rfl ?_
    refine z_iload_n Q_X10_trueBits (k := 11) rfl rfl ?_
    refine z_getsT Q_X10_trueBits (k := 12) rfl gT_X10_174 ?_
    refine z_tlen Q_X10_trueBits (k := 13) rfl (y_raw (y := 6) rfl ?_)
    obtain ⟨q1, h⟩ := h
    refine y_isub Q_X10_trueBits (k := 14) rfl ?_
    refine y_ishr Q_X10_trueBits (k := 15) rfl ?_
    refine y_iconst Q_X10_trueBits (k := 16) rfl ?_
    refine y_iand Q_X10_trueBits (k := 17) rfl ?_
    refine y_iconst Q_X10_trueBits (k := 18) rfl ?_
    refine y_icmp_ne 38 Q_X10_trueBits (k := 19) rfl (by decide) (zand_r _ _) ⟨by decide, by decide⟩ (fun c => ?_) (fun c => ?_)
    · replace h := h.2 c
      refine z_lconst_ Q_X10_trueBits (k := 22) rfl (v := 0) rfl ?_
      exact z_lret Q_X10_trueBits (k := 23) rfl rfl (qI_l h)
    · replace h := h.1 c
      refine z_ldc2 Q_X10_trueBits (k := 20) rfl lC_X10_172 ?_
      refine z_goto (tgt := 39) Q_X10_trueBits (k := 21) rfl (by decide) ?_
      exact z_lret Q_X10_trueBits (k := 23) rfl rfl (qI_l h)
  · replace h := h.2 c
    refine z_iload_n Q_X10_trueBits (k := 2) rfl rfl ?_
    refine z_getsT Q_X10_trueBits (k := 3) rfl gT_X10_174 ?_
    refine z_tlen Q_X10_trueBits (k := 4) rfl (y_raw (y := 6) rfl ?_)
    refine y_icmp_ge 18 Q_X10_trueBits (k := 5) rfl (by decide) z0 ⟨by decide, by decide⟩ (fun c => ?_) (fun c => ?_)
    · replace h := h.1 c
      refine z_iload_n Q_X10_trueBits (k := 10) rfl rfl ?_
      refine z_iload_n Q_X10_trueBits (k := 11) rfl rfl ?_
      refine z_getsT Q_X10_trueBits (k := 12) rfl gT_X10_174 ?_
      refine z_tlen Q_X10_trueBits (k := 13) rfl (y_raw (y := 6) rfl ?_)
      obtain ⟨q2, h⟩ := h
      refine y_isub Q_X10_trueBits (k := 14) rfl ?_
      refine y_ishr Q_X10_trueBits (k := 15) rfl ?_
      refine y_iconst Q_X10_trueBits (k := 16) rfl ?_
      refine y_iand Q_X10_trueBits (k := 17) rfl ?_
      refine y_iconst Q_X10_trueBits (k := 18) rfl ?_
      refine y_icmp_ne 38 Q_X10_trueBits (k := 19) rfl (by decide) (zand_r _ _) ⟨by decide, by decide⟩ (fun c => ?_) (fun c => ?_)
      · replace h := h.2 c
        refine z_lconst_ Q_X10_trueBits (k := 22) rfl (v := 0) rfl ?_
        exact z_lret Q_X10_trueBits (k := 23) rfl rfl (qI_l h)
      · replace h := h.1 c
        refine z_ldc2 Q_X10_trueBits (k := 20) rfl lC_X10_172 ?_
        refine z_goto (tgt := 39) Q_X10_trueBits (k := 21) rfl (by decide) ?_
        exact z_lret Q_X10_trueBits (k := 23) rfl rfl (qI_l h)
    · replace h := h.2 c
      refine z_getsT Q_X10_trueBits (k := 6) rfl gT_X10_174 ?_
      refine z_iload_n Q_X10_trueBits (k := 7) rfl rfl ?_
      obtain ⟨q3, h⟩ := h
      refine q_tald Q_X10_trueBits (k := 8) rfl q3 ?_
      exact z_lret Q_X10_trueBits (k := 9) rfl rfl (qI_l h)
set_option maxHeartbeats 4000000 in
set_option maxRecDepth 20000 in
theorem v_X2_pushUnknown_19 {S : zS} {V : qV} {K : Int → qJ → Prop} {Q : qV → qJ → Prop} {kc ks : Nat} (d : Nat) (hB : qB S V) {l1 : Int} (z1 : zr l1) {l2 : Int} (z2 : zr l2) (hK : ∀ (l3 : Int) (J : qJ), zr l3 → K l3 J → Z M_X2_pushUnknown (d + 1) kc ks 44 [some (.ref 151), some (.int (iI l1)), some (.int (iI l2)), some (.int (iI l3))] [] S (qi V) (qj J) (qP_uVJ S Q)) : ∀ (f : Nat) (l3 : Int) (J : qJ), zr l3 → lp_X2_pushUnknown_19 l1 l2 V K f l3 J → Z M_X2_pushUnknown (d + 1) kc ks 19 [some (.ref 151), some (.int (iI l1)), some (.int (iI l2)), some (.int (iI l3))] [] S (qi V) (qj J) (qP_uVJ S Q) := by
  intro f
  induction f with
  | zero =>
    intro l3 J z3 h
    exact h.elim
  | succ f ih =>
    intro l3 J z3 h
    rw [lp_X2_pushUnknown_19] at h
    refine z_iload_n Q_X2_pushUnknown (k := 11) rfl rfl ?_
    refine y_bipush Q_X2_pushUnknown (k := 12) rfl (by decide) ?_
    refine y_icmp_ge 44 Q_X2_pushUnknown (k := 13) rfl (by decide) z3 ⟨by decide, by decide⟩ (fun c => ?_) (fun c => ?_)
    · replace h := h.1 c
      exact y_fg (zsb_c rfl (zsb_c rfl (zsb_c rfl (zsb_c rfl zsb_e)))) (hK l3 J z3 h)
    · replace h := h.2 c
      refine z_aload_n Q_X2_pushUnknown (k := 14) rfl rfl ?_
      refine z_getR (b := 152) Q_X2_pushUnknown (k := 15) rfl F_X2_11 rfl (n_ hB.1 rfl) (k_151 hB.1) (r_151_0 hB.1) ?_
      refine z_iload_n Q_X2_pushUnknown (k := 16) rfl rfl ?_
      refine z_iload_n Q_X2_pushUnknown (k := 17) rfl rfl ?_
      obtain ⟨q2, h⟩ := h
      refine y_iadd Q_X2_pushUnknown (k := 18) rfl ?_
      refine z_iload_n Q_X2_pushUnknown (k := 19) rfl rfl ?_
      refine z_iload_n Q_X2_pushUnknown (k := 20) rfl rfl ?_
      refine q_callSN2_l Q_X2_pushUnknown (k := 21) rfl rfl K_X10_trueBits S_X10_trueBits L_X2_112 (Nat.le_of_ble_eq_true rfl) (Nat.le_of_ble_eq_true rfl) rfl (Nat.zero_le _) (Nat.zero_le _) (w_X10_trueBits d hB z1 z3 h) (fun r3 h => ?_)
      obtain ⟨q4, h⟩ := h
      refine q_last (o := 152) (N := 256) Q_X2_pushUnknown (k := 22) rfl rfl (n_ hB.1 rfl) (k_152 hB.1) rfl q4 (by decide) ?_
      obtain ⟨q5, h⟩ := h
      refine y_iinc (L' := [some (.ref 151), some (.int (iI l1)), some (.int (iI l2)), some (.int (iI (l3 + 1)))]) Q_X2_pushUnknown (k := 23) rfl (by decide) rfl rfl ?_
      refine z_goto (tgt := 19) Q_X2_pushUnknown (k := 24) rfl (by decide) ?_
      exact y_fg (zsb_c rfl (zsb_c rfl (zsb_c rfl (zsb_c rfl zsb_e)))) (ih (l3 + 1) (qu J 152 (l2 + l3) r3) q5 h)
set_option maxHeartbeats 4000000 in
set_option maxRecDepth 20000 in
theorem w_X2_pushUnknown {S : zS} {V : qV} {J : qJ} {Q : qV → qJ → Prop} (d : Nat) (hB : qB S V) {a1 : Int} (z1 : zr a1) (h : W_X2_pushUnknown a1 V J Q) : Z M_X2_pushUnknown (d + 1) 0 0 0 [some (.ref 151), some (.int (iI a1)), none, none] [] S (qi V) (qj J) (qP_uVJ S Q) := by
  unfold W_X2_pushUnknown at h
  refine z_aload_n Q_X2_pushUnknown (k := 0) rfl rfl ?_
  refine q_getI (o := 151) (z := 3) Q_X2_pushUnknown (k := 1) rfl F_X2_71 rfl rfl rfl (n_ hB.1 rfl) (k_151 hB.1) ?_
  refine y_bipush Q_X2_pushUnknown (k := 2) rfl (by decide) ?_
  refine y_icmp_ge 54 Q_X2_pushUnknown (k := 3) rfl (by decide) (hB.2.1 _ _) ⟨by decide, by decide⟩ (fun c => ?_) (fun c => ?_)
  · replace h := h.1 c
    exact z_vret Q_X2_pushUnknown (k := 31) rfl rfl (qI_uVJ hB h)
  · replace h := h.2 c
    refine z_aload_n Q_X2_pushUnknown (k := 4) rfl rfl ?_
    refine q_getI (o := 151) (z := 3) Q_X2_pushUnknown (k := 5) rfl F_X2_71 rfl rfl rfl (n_ hB.1 rfl) (k_151 hB.1) ?_
    refine y_bipush Q_X2_pushUnknown (k := 6) rfl (by decide) ?_
    obtain ⟨q1, h⟩ := h
    refine y_imul Q_X2_pushUnknown (k := 7) rfl ?_
    refine y_istore_n (L' := [some (.ref 151), some (.int (iI a1)), some (.int (iI ((V 151 3) * 16))), none]) Q_X2_pushUnknown (k := 8) rfl (by decide) rfl ?_
    refine y_iconst Q_X2_pushUnknown (k := 9) rfl ?_
    refine y_istore_n (L' := [some (.ref 151), some (.int (iI a1)), some (.int (iI ((V 151 3) * 16))), some (.int (iI 0))]) Q_X2_pushUnknown (k := 10) rfl (by decide) rfl ?_
    refine y_fg (zsb_c rfl (zsb_c rfl (zsb_c rfl (zsb_c rfl zsb_e)))) (v_X2_pushUnknown_19 d hB z1 q1 (fun l3x6 J6 zl3x6 h => ?_) 100000 0 J ⟨by decide, by decide⟩ h)
    refine z_aload_n Q_X2_pushUnknown (k := 25) rfl rfl ?_
    refine z_dup Q_X2_pushUnknown (k := 26) rfl rfl ?_
    refine q_getI (o := 151) (z := 3) Q_X2_pushUnknown (k := 27) rfl F_X2_71 rfl rfl rfl (n_ hB.1 rfl) (k_151 hB.1) ?_
    refine y_iconst Q_X2_pushUnknown (k := 28) rfl ?_
    obtain ⟨q7, h⟩ := h
    refine y_iadd Q_X2_pushUnknown (k := 29) rfl ?_
    refine q_putI (o := 151) (z := 3) Q_X2_pushUnknown (k := 30) rfl F_X2_71 rfl rfl rfl (n_ hB.1 rfl) (k_151 hB.1) ?_
    have hB8 := qB.u (a := 151) (j := 3) (x := (V 151 3) + 1) hB q7 (Or.inl (by decide))
    exact z_vret Q_X2_pushUnknown (k := 31) rfl rfl (qI_uVJ hB8 h)
set_option maxHeartbeats 4000000 in
set_option maxRecDepth 20000 in
theorem v_X2_turn_20 {S : zS} {V : qV} {K : Int → qJ → Prop} {Q : qJ → Prop} {kc ks : Nat} (d : Nat) (hB : qB S V) {l1 : Int} (z1 : zr l1) (hK : ∀ (l2 : Int) (J : qJ), zr l2 → K l2 J → Z M_X2_turn d kc ks 52 [some (.ref 151), some (.int (iI l1)), some (.int (iI l2))] [] S (qi V) (qj J) (qP_uJ S V Q)) : ∀ (f : Nat) (l2 : Int) (J : qJ), zr l2 → lp_X2_turn_20 l1 V K f l2 J → Z M_X2_turn d kc ks 20 [some (.ref 151), some (.int (iI l1)), some (.int (iI l2))] [] S (qi V) (qj J) (qP_uJ S V Q) := by
  intro f
  induction f with
  | zero =>
    intro l2 J z2 h
    exact h.elim
  | succ f ih =>
    intro l2 J z2 h
    rw [lp_X2_turn_20] at h
    refine z_iload_n Q_X2_turn (k := 13) rfl rfl ?_
    refine y_bipush Q_X2_turn (k := 14) rfl (by decide) ?_
    refine y_icmp_ge 52 Q_X2_turn (k := 15) rfl (by decide) z2 ⟨by decide, by decide⟩ (fun c => ?_) (fun c => ?_)
    · replace h := h.1 c
      exact y_fg (zsb_c rfl (zsb_c rfl (zsb_c rfl zsb_e))) (hK l2 J z2 h)
    · replace h := h.2 c
      refine z_aload_n Q_X2_turn (k := 16) rfl rfl ?_
      refine z_getR (b := 152) Q_X2_turn (k := 17) rfl F_X2_11 rfl (n_ hB.1 rfl) (k_151 hB.1) (r_151_0 hB.1) ?_
      refine z_iload_n Q_X2_turn (k := 18) rfl rfl ?_
      refine z_iload_n Q_X2_turn (k := 19) rfl rfl ?_
      obtain ⟨q3, h⟩ := h
      refine y_iadd Q_X2_turn (k := 20) rfl ?_
      refine z_aload_n Q_X2_turn (k := 21) rfl rfl ?_
      refine z_getR (b := 152) Q_X2_turn (k := 22) rfl F_X2_11 rfl (n_ hB.1 rfl) (k_151 hB.1) (r_151_0 hB.1) ?_
      refine z_iload_n Q_X2_turn (k := 23) rfl rfl ?_
      refine z_iload_n Q_X2_turn (k := 24) rfl rfl ?_
      obtain ⟨q4, h⟩ := h
      refine y_iadd Q_X2_turn (k := 25) rfl ?_
      obtain ⟨q5, h⟩ := h
      refine q_lald (o := 152) (N := 256) Q_X2_turn (k := 26) rfl rfl (n_ hB.1 rfl) (k_152 hB.1) rfl q5 (by decide) ?_
      refine z_ldc2 Q_X2_turn (k := 27) rfl lC_X2_69 ?_
      refine z_lxor Q_X2_turn (k := 28) rfl ?_
      obtain ⟨q6, h⟩ := h
      refine q_last (o := 152) (N := 256) Q_X2_turn (k := 29) rfl rfl (n_ hB.1 rfl) (k_152 hB.1) rfl q6 (by decide) ?_
      obtain ⟨q7, h⟩ := h
      refine y_iinc (L' := [some (.ref 151), some (.int (iI l1)), some (.int (iI (l2 + 1)))]) Q_X2_turn (k := 30) rfl (by decide) rfl rfl ?_
      refine z_goto (tgt := 20) Q_X2_turn (k := 31) rfl (by decide) ?_
      exact y_fg (zsb_c rfl (zsb_c rfl (zsb_c rfl zsb_e))) (ih (l2 + 1) (qu J 152 (l1 + l2) ((J 152 (l1 + l2)) ^^^ (-1))) q7 h)
set_option maxHeartbeats 4000000 in
set_option maxRecDepth 20000 in
theorem w_X2_turn {S : zS} {V : qV} {J : qJ} {Q : qJ → Prop} (d : Nat) (hB : qB S V) (h : W_X2_turn V J Q) : Z M_X2_turn d 0 0 0 [some (.ref 151), none, none] [] S (qi V) (qj J) (qP_uJ S V Q) := by
  unfold W_X2_turn at h
  refine z_aload_n Q_X2_turn (k := 0) rfl rfl ?_
  refine q_getI (o := 151) (z := 3) Q_X2_turn (k := 1) rfl F_X2_71 rfl rfl rfl (n_ hB.1 rfl) (k_151 hB.1) ?_
  refine y_iconst Q_X2_turn (k := 2) rfl ?_
  refine y_icmp_lt 52 Q_X2_turn (k := 3) rfl (by decide) (hB.2.1 _ _) ⟨by decide, by decide⟩ (fun c => ?_) (fun c => ?_)
  · replace h := h.1 c
    exact z_vret Q_X2_turn (k := 32) rfl rfl (qI_uJ h)
  · replace h := h.2 c
    refine z_aload_n Q_X2_turn (k := 4) rfl rfl ?_
    refine q_getI (o := 151) (z := 3) Q_X2_turn (k := 5) rfl F_X2_71 rfl rfl rfl (n_ hB.1 rfl) (k_151 hB.1) ?_
    refine y_iconst Q_X2_turn (k := 6) rfl ?_
    obtain ⟨q1, h⟩ := h
    refine y_isub Q_X2_turn (k := 7) rfl ?_
    refine y_bipush Q_X2_turn (k := 8) rfl (by decide) ?_
    obtain ⟨q2, h⟩ := h
    refine y_imul Q_X2_turn (k := 9) rfl ?_
    refine y_istore_n (L' := [some (.ref 151), some (.int (iI (((V 151 3) - 1) * 16))), none]) Q_X2_turn (k := 10) rfl (by decide) rfl ?_
    refine y_iconst Q_X2_turn (k := 11) rfl ?_
    refine y_istore_n (L' := [some (.ref 151), some (.int (iI (((V 151 3) - 1) * 16))), some (.int (iI 0))]) Q_X2_turn (k := 12) rfl (by decide) rfl ?_
    refine y_fg (zsb_c rfl (zsb_c rfl (zsb_c rfl zsb_e))) (v_X2_turn_20 d hB q2 (fun l2x8 J8 zl2x8 h => ?_) 100000 0 J ⟨by decide, by decide⟩ h)
    exact z_vret Q_X2_turn (k := 32) rfl rfl (qI_uJ h)
set_option maxHeartbeats 4000000 in
set_option maxRecDepth 20000 in
theorem v_X2_join_34 {S : zS} {V : qV} {K : Int → qJ → Prop} {Q : qV → qJ → Prop} {kc ks : Nat} (d : Nat) (hB : qB S V) {l1 : Int} (z1 : zr l1) {l2 : Int} (z2 : zr l2) {l3 : Int} (z3 : zr l3) (hK : ∀ (l4 : Int) (J : qJ), zr l4 → K l4 J → Z M_X2_join d kc ks 101 [some (.ref 151), some (.int (iI l1)), some (.int (iI l2)), some (.int (iI l3)), some (.int (iI l4))] [] S (qi V) (qj J) (qP_uVJ S Q)) : ∀ (f : Nat) (l4 : Int) (J : qJ), zr l4 → lp_X2_join_34 l1 l2 l3 V K f l4 J → Z M_X2_join d kc ks 34 [some (.ref 151), some (.int (iI l1)), some (.int (iI l2)), some (.int (iI l3)), some (.int (iI l4))] [] S (qi V) (qj J) (qP_uVJ S Q) := by
  intro f
  induction f with
  | zero =>
    intro l4 J z4 h
    exact h.elim
  | succ f ih =>
    intro l4 J z4 h
    rw [lp_X2_join_34] at h
    refine z_iload Q_X2_join (k := 21) rfl rfl ?_
    refine y_bipush Q_X2_join (k := 22) rfl (by decide) ?_
    refine y_icmp_ge 101 Q_X2_join (k := 23) rfl (by decide) z4 ⟨by decide, by decide⟩ (fun c => ?_) (fun c => ?_)
    · replace h := h.1 c
      exact y_fg (zsb_c rfl (zsb_c rfl (zsb_c rfl (zsb_c rfl (zsb_c rfl zsb_e))))) (hK l4 J z4 h)
    · replace h := h.2 c
      refine z_aload_n Q_X2_join (k := 24) rfl rfl ?_
      refine z_getR (b := 152) Q_X2_join (k := 25) rfl F_X2_11 rfl (n_ hB.1 rfl) (k_151 hB.1) (r_151_0 hB.1) ?_
      refine z_iload_n Q_X2_join (k := 26) rfl rfl ?_
      refine z_iload Q_X2_join (k := 27) rfl rfl ?_
      obtain ⟨q5, h⟩ := h
      refine y_iadd Q_X2_join (k := 28) rfl ?_
      refine z_iload_n Q_X2_join (k := 29) rfl rfl ?_
      refine y_if_eq 75 Q_X2_join (k := 30) rfl (by decide) z1 (fun c => ?_) (fun c => ?_)
      · replace h := h.1 c
        refine z_aload_n Q_X2_join (k := 45) rfl rfl ?_
        refine z_getR (b := 152) Q_X2_join (k := 46) rfl F_X2_11 rfl (n_ hB.1 rfl) (k_151 hB.1) (r_151_0 hB.1) ?_
        refine z_iload_n Q_X2_join (k := 47) rfl rfl ?_
        refine z_iload Q_X2_join (k := 48) rfl rfl ?_
        obtain ⟨q6, h⟩ := h
        refine y_iadd Q_X2_join (k := 49) rfl ?_
        obtain ⟨q7, h⟩ := h
        refine q_lald (o := 152) (N := 256) Q_X2_join (k := 50) rfl rfl (n_ hB.1 rfl) (k_152 hB.1) rfl q7 (by decide) ?_
        refine z_aload_n Q_X2_join (k := 51) rfl rfl ?_
        refine z_getR (b := 152) Q_X2_join (k := 52) rfl F_X2_11 rfl (n_ hB.1 rfl) (k_151 hB.1) (r_151_0 hB.1) ?_
        refine z_iload_n Q_X2_join (k := 53) rfl rfl ?_
        refine z_iload Q_X2_join (k := 54) rfl rfl ?_
        obtain ⟨q8, h⟩ := h
        refine y_iadd Q_X2_join (k := 55) rfl ?_
        obtain ⟨q9, h⟩ := h
        refine q_lald (o := 152) (N := 256) Q_X2_join (k := 56) rfl rfl (n_ hB.1 rfl) (k_152 hB.1) rfl q9 (by decide) ?_
        refine z_lor Q_X2_join (k := 57) rfl ?_
        obtain ⟨q10, h⟩ := h
        refine q_last (o := 152) (N := 256) Q_X2_join (k := 58) rfl rfl (n_ hB.1 rfl) (k_152 hB.1) rfl q10 (by decide) ?_
        obtain ⟨q11, h⟩ := h
        refine y_iinc (L' := [some (.ref 151), some (.int (iI l1)), some (.int (iI l2)), some (.int (iI l3)), some (.int (iI (l4 + 1)))]) Q_X2_join (k := 59) rfl (by decide) rfl rfl ?_
        refine z_goto (tgt := 34) Q_X2_join (k := 60) rfl (by decide) ?_
        exact y_fg (zsb_c rfl (zsb_c rfl (zsb_c rfl (zsb_c rfl (zsb_c rfl zsb_e))))) (ih (l4 + 1) (qu J 152 (l3 + l4) ((J 152 (l3 + l4)) ||| (J 152 (l2 + l4)))) q11 h)
      · replace h := h.2 c
        refine z_aload_n Q_X2_join (k := 31) rfl rfl ?_
        refine z_getR (b := 152) Q_X2_join (k := 32) rfl F_X2_11 rfl (n_ hB.1 rfl) (k_151 hB.1) (r_151_0 hB.1) ?_
        refine z_iload_n Q_X2_join (k := 33) rfl rfl ?_
        refine z_iload Q_X2_join (k := 34) rfl rfl ?_
        obtain ⟨q12, h⟩ := h
        refine y_iadd Q_X2_join (k := 35) rfl ?_
        obtain ⟨q13, h⟩ := h
        refine q_lald (o := 152) (N := 256) Q_X2_join (k := 36) rfl rfl (n_ hB.1 rfl) (k_152 hB.1) rfl q13 (by decide) ?_
        refine z_aload_n Q_X2_join (k := 37) rfl rfl ?_
        refine z_getR (b := 152) Q_X2_join (k := 38) rfl F_X2_11 rfl (n_ hB.1 rfl) (k_151 hB.1) (r_151_0 hB.1) ?_
        refine z_iload_n Q_X2_join (k := 39) rfl rfl ?_
        refine z_iload Q_X2_join (k := 40) rfl rfl ?_
        obtain ⟨q14, h⟩ := h
        refine y_iadd Q_X2_join (k := 41) rfl ?_
        obtain ⟨q15, h⟩ := h
        refine q_lald (o := 152) (N := 256) Q_X2_join (k := 42) rfl rfl (n_ hB.1 rfl) (k_152 hB.1) rfl q15 (by decide) ?_
        refine z_land Q_X2_join (k := 43) rfl ?_
        refine z_goto (tgt := 94) Q_X2_join (k := 44) rfl (by decide) ?_
        obtain ⟨q16, h⟩ := h
        refine q_last (o := 152) (N := 256) Q_X2_join (k := 58) rfl rfl (n_ hB.1 rfl) (k_152 hB.1) rfl q16 (by decide) ?_
        obtain ⟨q17, h⟩ := h
        refine y_iinc (L' := [some (.ref 151), some (.int (iI l1)), some (.int (iI l2)), some (.int (iI l3)), some (.int (iI (l4 + 1)))]) Q_X2_join (k := 59) rfl (by decide) rfl rfl ?_
        refine z_goto (tgt := 34) Q_X2_join (k := 60) rfl (by decide) ?_
        exact y_fg (zsb_c rfl (zsb_c rfl (zsb_c rfl (zsb_c rfl (zsb_c rfl zsb_e))))) (ih (l4 + 1) (qu J 152 (l3 + l4) ((J 152 (l3 + l4)) &&& (J 152 (l2 + l4)))) q17 h)
set_option maxHeartbeats 4000000 in
set_option maxRecDepth 20000 in
theorem w_X2_join {S : zS} {V : qV} {J : qJ} {Q : qV → qJ → Prop} (d : Nat) (hB : qB S V) {a1 : Int} (z1 : zr a1) (b1 : a1 = 0 ∨ a1 = 1) (h : W_X2_join a1 V J Q) : Z M_X2_join d 0 0 0 [some (.ref 151), some (.int (iI a1)), none, none, none] [] S (qi V) (qj J) (qP_uVJ S Q) := by
  unfold W_X2_join at h
  refine z_aload_n Q_X2_join (k := 0) rfl rfl ?_
  refine q_getI (o := 151) (z := 3) Q_X2_join (k := 1) rfl F_X2_71 rfl rfl rfl (n_ hB.1 rfl) (k_151 hB.1) ?_
  refine y_iconst Q_X2_join (k := 2) rfl ?_
  refine y_icmp_lt 101 Q_X2_join (k := 3) rfl (by decide) (hB.2.1 _ _) ⟨by decide, by decide⟩ (fun c => ?_) (fun c => ?_)
  · replace h := h.1 c
    exact z_vret Q_X2_join (k := 61) rfl rfl (qI_uVJ hB h)
  · replace h := h.2 c
    refine z_aload_n Q_X2_join (k := 4) rfl rfl ?_
    refine z_dup Q_X2_join (k := 5) rfl rfl ?_
    refine q_getI (o := 151) (z := 3) Q_X2_join (k := 6) rfl F_X2_71 rfl rfl rfl (n_ hB.1 rfl) (k_151 hB.1) ?_
    refine y_iconst Q_X2_join (k := 7) rfl ?_
    obtain ⟨q1, h⟩ := h
    refine y_isub Q_X2_join (k := 8) rfl ?_
    refine q_putI (o := 151) (z := 3) Q_X2_join (k := 9) rfl F_X2_71 rfl rfl rfl (n_ hB.1 rfl) (k_151 hB.1) ?_
    have hB2 := qB.u (a := 151) (j := 3) (x := (V 151 3) - 1) hB q1 (Or.inl (by decide))
    refine z_aload_n Q_X2_join (k := 10) rfl rfl ?_
    refine q_getI (o := 151) (z := 3) Q_X2_join (k := 11) rfl F_X2_71 rfl rfl rfl (n_ hB2.1 rfl) (k_151 hB2.1) ?_
    refine y_bipush Q_X2_join (k := 12) rfl (by decide) ?_
    obtain ⟨q3, h⟩ := h
    refine y_imul Q_X2_join (k := 13) rfl ?_
    refine y_istore_n (L' := [some (.ref 151), some (.int (iI a1)), some (.int (iI (((qu V 151 3 ((V 151 3) - 1)) 151 3) * 16))), none, none]) Q_X2_join (k := 14) rfl (by decide) rfl ?_
    refine z_iload_n Q_X2_join (k := 15) rfl rfl ?_
    refine y_bipush Q_X2_join (k := 16) rfl (by decide) ?_
    obtain ⟨q4, h⟩ := h
    refine y_isub Q_X2_join (k := 17) rfl ?_
    refine y_istore_n (L' := [some (.ref 151), some (.int (iI a1)), some (.int (iI (((qu V 151 3 ((V 151 3) - 1)) 151 3) * 16))), some (.int (iI ((((qu V 151 3 ((V 151 3) - 1)) 151 3) * 16) - 16))), none]) Q_X2_join (k := 18) rfl (by decide) rfl ?_
    refine y_iconst Q_X2_join (k := 19) rfl ?_
    refine y_istore (L' := [some (.ref 151), some (.int (iI a1)), some (.int (iI (((qu V 151 3 ((V 151 3) - 1)) 151 3) * 16))), some (.int (iI ((((qu V 151 3 ((V 151 3) - 1)) 151 3) * 16) - 16))), some (.int (iI 0))]) Q_X2_join (k := 20) rfl (by decide) rfl ?_
    refine y_fg (zsb_c rfl (zsb_c rfl (zsb_c rfl (zsb_c rfl (zsb_c rfl zsb_e))))) (v_X2_join_34 d hB2 z1 q3 q4 (fun l4x18 J18 zl4x18 h => ?_) 100000 0 J ⟨by decide, by decide⟩ h)
    exact z_vret Q_X2_join (k := 61) rfl rfl (qI_uVJ hB2 h)
set_option maxHeartbeats 4000000 in
set_option maxRecDepth 20000 in
theorem w_X2_popNumber {S : zS} {V : qV} {J : qJ} {Q : Int → qV → Prop} (d : Nat) (hB : qB S V) (h : W_X2_popNumber V Q) : Z M_X2_popNumber d 0 0 0 [some (.ref 151)] [] S (qi V) (qj J) (qP_iV S J Q) := by
  unfold W_X2_popNumber at h
  refine z_aload_n Q_X2_popNumber (k := 0) rfl rfl ?_
  refine q_getI (o := 151) (z := 4) Q_X2_popNumber (k := 1) rfl F_X2_74 rfl rfl rfl (n_ hB.1 rfl) (k_151 hB.1) ?_
  refine y_if_gt 9 Q_X2_popNumber (k := 2) rfl (by decide) (hB.2.1 _ _) (fun c => ?_) (fun c => ?_)
  · replace h := h.1 c
    refine z_aload_n Q_X2_popNumber (k := 5) rfl rfl ?_
    refine z_dup Q_X2_popNumber (k := 6) rfl rfl ?_
    refine q_getI (o := 151) (z := 4) Q_X2_popNumber (k := 7) rfl F_X2_74 rfl rfl rfl (n_ hB.1 rfl) (k_151 hB.1) ?_
    refine y_iconst Q_X2_popNumber (k := 8) rfl ?_
    obtain ⟨q1, h⟩ := h
    refine y_isub Q_X2_popNumber (k := 9) rfl ?_
    refine q_putI (o := 151) (z := 4) Q_X2_popNumber (k := 10) rfl F_X2_74 rfl rfl rfl (n_ hB.1 rfl) (k_151 hB.1) ?_
    have hB2 := qB.u (a := 151) (j := 4) (x := (V 151 4) - 1) hB q1 (Or.inl (by decide))
    refine z_aload_n Q_X2_popNumber (k := 11) rfl rfl ?_
    refine z_getR (b := 153) Q_X2_popNumber (k := 12) rfl F_X2_15 rfl (n_ hB2.1 rfl) (k_151 hB2.1) (r_151_1 hB2.1) ?_
    refine z_aload_n Q_X2_popNumber (k := 13) rfl rfl ?_
    refine q_getI (o := 151) (z := 4) Q_X2_popNumber (k := 14) rfl F_X2_74 rfl rfl rfl (n_ hB2.1 rfl) (k_151 hB2.1) ?_
    obtain ⟨q3, h⟩ := h
    refine q_iald (o := 153) (N := 16) Q_X2_popNumber (k := 15) rfl rfl (n_ hB2.1 rfl) (k_153 hB2.1) rfl q3 (by decide) ?_
    exact y_iret Q_X2_popNumber (k := 16) rfl rfl (qI_iV hB2 (hB2.2.1 _ _) h)
  · replace h := h.2 c
    refine y_iconst Q_X2_popNumber (k := 3) rfl ?_
    exact y_iret Q_X2_popNumber (k := 4) rfl rfl (qI_iV hB ⟨by decide, by decide⟩ h)
set_option maxHeartbeats 4000000 in
set_option maxRecDepth 20000 in
theorem w_X2_reckon {S : zS} {V : qV} {J : qJ} {Q : qV → qJ → Prop} (d : Nat) (hB : qB S V) {a1 : Int} (z1 : zr a1) {a2 : Int} (z2 : zr a2) (h : W_X2_reckon a1 a2 V J Q) : Z M_X2_reckon (d + 1) 0 0 0 [some (.ref 151), some (.int (iI a1)), some (.int (iI a2)), none] [] S (qi V) (qj J) (qP_uVJ S Q) := by
  unfold W_X2_reckon at h
  refine z_aload_n Q_X2_reckon (k := 0) rfl rfl ?_
  refine q_callV0_iV Q_X2_reckon (k := 1) rfl rfl K_X2_popNumber V_X2_popNumber L_X2_104 (n_ hB.1 rfl) (k_151 hB.1) (Nat.le_of_ble_eq_true rfl) (Nat.le_of_ble_eq_true rfl) rfl (Nat.zero_le _) (Nat.zero_le _) (w_X2_popNumber d hB  h) (fun r1 V1 hB1 hz1 h => ?_)
  refine y_istore_n (L' := [some (.ref 151), some (.int (iI a1)), some (.int (iI a2)), some (.int (iI r1))]) Q_X2_reckon (k := 2) rfl (by decide) rfl ?_
  refine z_iload_n Q_X2_reckon (k := 3) rfl rfl ?_
  by_cases c2_0 : a1 = 6
  · replace h := h.1 c2_0
    refine y_switchK (j := 0) (tgt := 36) Q_X2_reckon (k := 4) rfl (by rw [c2_0]; decide) (by decide) z1 rfl (by decide) ?_
    refine z_aload_n Q_X2_reckon (k := 5) rfl rfl ?_
    refine z_iload_n Q_X2_reckon (k := 6) rfl rfl ?_
    refine z_iload_n Q_X2_reckon (k := 7) rfl rfl ?_
    refine y_iadd Q_X2_reckon (k := 8) rfl (qw_as ?_)
    refine q_callV1_uV Q_X2_reckon (k := 9) rfl rfl K_X2_pushNumber V_X2_pushNumber L_X2_91 (n_ hB1.1 rfl) (k_151 hB1.1) (Nat.le_of_ble_eq_true rfl) (Nat.le_of_ble_eq_true rfl) rfl (Nat.zero_le _) (Nat.zero_le _) (w_X2_pushNumber d hB1 (qw_r _) h) (fun V3 hB3 h => ?_)
    refine z_goto (tgt := 104) Q_X2_reckon (k := 10) rfl (by decide) ?_
    exact z_vret Q_X2_reckon (k := 43) rfl rfl (qI_uVJ hB3 h)
  replace h := h.2
  by_cases c2_1 : a1 = 7
  · replace h := h.1 c2_1
    refine y_switchK (j := 1) (tgt := 46) Q_X2_reckon (k := 4) rfl (by rw [c2_1]; decide) (by decide) z1 rfl (by decide) ?_
    refine z_aload_n Q_X2_reckon (k := 11) rfl rfl ?_
    refine z_iload_n Q_X2_reckon (k := 12) rfl rfl ?_
    refine z_iload_n Q_X2_reckon (k := 13) rfl rfl ?_
    refine y_isub Q_X2_reckon (k := 14) rfl (qw_as ?_)
    refine q_callV1_uV Q_X2_reckon (k := 15) rfl rfl K_X2_pushNumber V_X2_pushNumber L_X2_91 (n_ hB1.1 rfl) (k_151 hB1.1) (Nat.le_of_ble_eq_true rfl) (Nat.le_of_ble_eq_true rfl) rfl (Nat.zero_le _) (Nat.zero_le _) (w_X2_pushNumber d hB1 (qw_r _) h) (fun V4 hB4 h => ?_)
    refine z_goto (tgt := 104) Q_X2_reckon (k := 16) rfl (by decide) ?_
    exact z_vret Q_X2_reckon (k := 43) rfl rfl (qI_uVJ hB4 h)
  replace h := h.2
  by_cases c2_2 : a1 = 8
  · replace h := h.1 c2_2
    refine y_switchK (j := 2) (tgt := 56) Q_X2_reckon (k := 4) rfl (by rw [c2_2]; decide) (by decide) z1 rfl (by decide) ?_
    refine z_aload_n Q_X2_reckon (k := 17) rfl rfl ?_
    refine z_iload_n Q_X2_reckon (k := 18) rfl rfl ?_
    refine z_iload_n Q_X2_reckon (k := 19) rfl rfl ?_
    refine y_icmp_ge 66 Q_X2_reckon (k := 20) rfl (by decide) hz1 z2 (fun c => ?_) (fun c => ?_)
    · replace h := h.1 c
      refine y_iconst Q_X2_reckon (k := 23) rfl ?_
      refine q_callV1_uVJ Q_X2_reckon (k := 24) rfl rfl K_X2_pushAll V_X2_pushAll L_X2_63 (n_ hB1.1 rfl) (k_151 hB1.1) (Nat.le_of_ble_eq_true rfl) (Nat.le_of_ble_eq_true rfl) rfl (Nat.zero_le _) (Nat.zero_le _) (w_X2_pushAll d hB1 ⟨by decide, by decide⟩ (Or.inl rfl) h) (fun V5 J5 hB5 h => ?_)
      refine z_goto (tgt := 104) Q_X2_reckon (k := 25) rfl (by decide) ?_
      exact z_vret Q_X2_reckon (k := 43) rfl rfl (qI_uVJ hB5 h)
    · replace h := h.2 c
      refine y_iconst Q_X2_reckon (k := 21) rfl ?_
      refine z_goto (tgt := 67) Q_X2_reckon (k := 22) rfl (by decide) ?_
      refine q_callV1_uVJ Q_X2_reckon (k := 24) rfl rfl K_X2_pushAll V_X2_pushAll L_X2_63 (n_ hB1.1 rfl) (k_151 hB1.1) (Nat.le_of_ble_eq_true rfl) (Nat.le_of_ble_eq_true rfl) rfl (Nat.zero_le _) (Nat.zero_le _) (w_X2_pushAll d hB1 ⟨by decide, by decide⟩ (Or.inr rfl) h) (fun V6 J6 hB6 h => ?_)
      refine z_goto (tgt := 104) Q_X2_reckon (k := 25) rfl (by decide) ?_
      exact z_vret Q_X2_reckon (k := 43) rfl rfl (qI_uVJ hB6 h)
  replace h := h.2
  by_cases c2_3 : a1 = 9
  · replace h := h.1 c2_3
    refine y_switchK (j := 3) (tgt := 73) Q_X2_reckon (k := 4) rfl (by rw [c2_3]; decide) (by decide) z1 rfl (by decide) ?_
    refine z_aload_n Q_X2_reckon (k := 26) rfl rfl ?_
    refine z_iload_n Q_X2_reckon (k := 27) rfl rfl ?_
    refine z_iload_n Q_X2_reckon (k := 28) rfl rfl ?_
    refine y_icmp_le 83 Q_X2_reckon (k := 29) rfl (by decide) hz1 z2 (fun c => ?_) (fun c => ?_)
    · replace h := h.1 c
      refine y_iconst Q_X2_reckon (k := 32) rfl ?_
      refine q_callV1_uVJ Q_X2_reckon (k := 33) rfl rfl K_X2_pushAll V_X2_pushAll L_X2_63 (n_ hB1.1 rfl) (k_151 hB1.1) (Nat.le_of_ble_eq_true rfl) (Nat.le_of_ble_eq_true rfl) rfl (Nat.zero_le _) (Nat.zero_le _) (w_X2_pushAll d hB1 ⟨by decide, by decide⟩ (Or.inl rfl) h) (fun V7 J7 hB7 h => ?_)
      refine z_goto (tgt := 104) Q_X2_reckon (k := 34) rfl (by decide) ?_
      exact z_vret Q_X2_reckon (k := 43) rfl rfl (qI_uVJ hB7 h)
    · replace h := h.2 c
      refine y_iconst Q_X2_reckon (k := 30) rfl ?_
      refine z_goto (tgt := 84) Q_X2_reckon (k := 31) rfl (by decide) ?_
      refine q_callV1_uVJ Q_X2_reckon (k := 33) rfl rfl K_X2_pushAll V_X2_pushAll L_X2_63 (n_ hB1.1 rfl) (k_151 hB1.1) (Nat.le_of_ble_eq_true rfl) (Nat.le_of_ble_eq_true rfl) rfl (Nat.zero_le _) (Nat.zero_le _) (w_X2_pushAll d hB1 ⟨by decide, by decide⟩ (Or.inr rfl) h) (fun V8 J8 hB8 h => ?_)
      refine z_goto (tgt := 104) Q_X2_reckon (k := 34) rfl (by decide) ?_
      exact z_vret Q_X2_reckon (k := 43) rfl rfl (qI_uVJ hB8 h)
  replace h := h.2
  have cd2 : a1 < 6 ∨ 9 < a1 := by omega
  replace h := h cd2
  refine y_switchD (tgt := 90) Q_X2_reckon (k := 4) rfl cd2 z1 (by decide) ?_
  refine z_aload_n Q_X2_reckon (k := 35) rfl rfl ?_
  refine z_iload_n Q_X2_reckon (k := 36) rfl rfl ?_
  refine z_iload_n Q_X2_reckon (k := 37) rfl rfl ?_
  refine y_icmp_ne 100 Q_X2_reckon (k := 38) rfl (by decide) hz1 z2 (fun c => ?_) (fun c => ?_)
  · replace h := h.2 c
    refine y_iconst Q_X2_reckon (k := 41) rfl ?_
    refine q_callV1_uVJ Q_X2_reckon (k := 42) rfl rfl K_X2_pushAll V_X2_pushAll L_X2_63 (n_ hB1.1 rfl) (k_151 hB1.1) (Nat.le_of_ble_eq_true rfl) (Nat.le_of_ble_eq_true rfl) rfl (Nat.zero_le _) (Nat.zero_le _) (w_X2_pushAll d hB1 ⟨by decide, by decide⟩ (Or.inl rfl) h) (fun V9 J9 hB9 h => ?_)
    exact z_vret Q_X2_reckon (k := 43) rfl rfl (qI_uVJ hB9 h)
  · replace h := h.1 c
    refine y_iconst Q_X2_reckon (k := 39) rfl ?_
    refine z_goto (tgt := 101) Q_X2_reckon (k := 40) rfl (by decide) ?_
    refine q_callV1_uVJ Q_X2_reckon (k := 42) rfl rfl K_X2_pushAll V_X2_pushAll L_X2_63 (n_ hB1.1 rfl) (k_151 hB1.1) (Nat.le_of_ble_eq_true rfl) (Nat.le_of_ble_eq_true rfl) rfl (Nat.zero_le _) (Nat.zero_le _) (w_X2_pushAll d hB1 ⟨by decide, by decide⟩ (Or.inr rfl) h) (fun V10 J10 hB10 h => ?_)
    exact z_vret Q_X2_reckon (k := 43) rfl rfl (qI_uVJ hB10 h)
set_option maxHeartbeats 4000000 in
set_option maxRecDepth 20000 in
theorem w_X2_step {S : zS} {V : qV} {J : qJ} {Q : qV → qJ → Prop} (d : Nat) (hB : qB S V) {a1 : Int} (z1 : zr a1) {a2 : Int} (z2 : zr a2) {a3 : Int} (p3 : qNm a3) (h : W_X2_step a1 a2 a3 V J Q) : Z M_X2_step (d + 2) 0 0 0 [some (.ref 151), some (.int (iI a1)), some (.int (iI a2)), some (.ref a3.toNat)] [] S (qi V) (qj J) (qP_uVJ S Q) := by
  unfold W_X2_step at h
  refine z_iload_n Q_X2_step (k := 0) rfl rfl ?_
  by_cases c1_0 : a1 = 0
  · replace h := h.1 c1_0
    refine y_switchK (j := 0) (tgt := 40) Q_X2_step (k := 1) rfl (by rw [c1_0]; decide) (by decide) z1 rfl (by decide) ?_
    refine z_aload_n Q_X2_step (k := 2) rfl rfl ?_
    refine z_iload_n Q_X2_step (k := 3) rfl rfl ?_
    refine q_callV1_uV Q_X2_step (k := 4) rfl rfl K_X2_pushNumber V_X2_pushNumber L_X2_91 (n_ hB.1 rfl) (k_151 hB.1) (Nat.le_of_ble_eq_true rfl) (Nat.le_of_ble_eq_true rfl) rfl (Nat.zero_le _) (Nat.zero_le _) (w_X2_pushNumber (d + 1) hB z2 h) (fun V2 hB2 h => ?_)
    refine z_goto (tgt := 109) Q_X2_step (k := 5) rfl (by decide) ?_
    exact z_vret Q_X2_step (k := 39) rfl rfl (qI_uVJ hB2 h)
  replace h := h.2
  by_cases c1_1 : a1 = 1
  · replace h := h.1 c1_1
    refine y_switchK (j := 1) (tgt := 48) Q_X2_step (k := 1) rfl (by rw [c1_1]; decide) (by decide) z1 rfl (by decide) ?_
    refine z_aload_n Q_X2_step (k := 6) rfl rfl ?_
    refine z_iload_n Q_X2_step (k := 7) rfl rfl ?_
    refine z_aload_n Q_X2_step (k := 8) rfl rfl ?_
    refine q_nlen (o := a3) hB Q_X2_step (k := 9) rfl p3 ?_
    refine y_icmp_ge 61 Q_X2_step (k := 10) rfl (by decide) z2 ⟨by decide, by decide⟩ (fun c => ?_) (fun c => ?_)
    · replace h := h.1 c
      refine y_iconst Q_X2_step (k := 15) rfl ?_
      refine q_callV1_uV Q_X2_step (k := 16) rfl rfl K_X2_pushNumber V_X2_pushNumber L_X2_91 (n_ hB.1 rfl) (k_151 hB.1) (Nat.le_of_ble_eq_true rfl) (Nat.le_of_ble_eq_true rfl) rfl (Nat.zero_le _) (Nat.zero_le _) (w_X2_pushNumber (d + 1) hB ⟨by decide, by decide⟩ h) (fun V3 hB3 h => ?_)
      refine z_goto (tgt := 109) Q_X2_step (k := 17) rfl (by decide) ?_
      exact z_vret Q_X2_step (k := 39) rfl rfl (qI_uVJ hB3 h)
    · replace h := h.2 c
      refine z_aload_n Q_X2_step (k := 11) rfl rfl ?_
      refine z_iload_n Q_X2_step (k := 12) rfl rfl ?_
      obtain ⟨q4, h⟩ := h
      refine q_nald (o := a3) hB Q_X2_step (k := 13) rfl p3 q4 ?_
      refine z_goto (tgt := 62) Q_X2_step (k := 14) rfl (by decide) ?_
      refine q_callV1_uV Q_X2_step (k := 16) rfl rfl K_X2_pushNumber V_X2_pushNumber L_X2_91 (n_ hB.1 rfl) (k_151 hB.1) (Nat.le_of_ble_eq_true rfl) (Nat.le_of_ble_eq_true rfl) rfl (Nat.zero_le _) (Nat.zero_le _) (w_X2_pushNumber (d + 1) hB (hB.2.1 _ _) h) (fun V5 hB5 h => ?_)
      refine z_goto (tgt := 109) Q_X2_step (k := 17) rfl (by decide) ?_
      exact z_vret Q_X2_step (k := 39) rfl rfl (qI_uVJ hB5 h)
  replace h := h.2
  by_cases c1_2 : a1 = 2
  · replace h := h.1 c1_2
    refine y_switchK (j := 2) (tgt := 68) Q_X2_step (k := 1) rfl (by rw [c1_2]; decide) (by decide) z1 rfl (by decide) ?_
    refine z_aload_n Q_X2_step (k := 18) rfl rfl ?_
    refine z_iload_n Q_X2_step (k := 19) rfl rfl ?_
    refine q_callV1_uVJ Q_X2_step (k := 20) rfl rfl K_X2_pushUnknown V_X2_pushUnknown L_X2_95 (n_ hB.1 rfl) (k_151 hB.1) (Nat.le_of_ble_eq_true rfl) (Nat.le_of_ble_eq_true rfl) rfl (Nat.zero_le _) (Nat.zero_le _) (w_X2_pushUnknown d hB z2 h) (fun V6 J6 hB6 h => ?_)
    refine z_goto (tgt := 109) Q_X2_step (k := 21) rfl (by decide) ?_
    exact z_vret Q_X2_step (k := 39) rfl rfl (qI_uVJ hB6 h)
  replace h := h.2
  by_cases c1_3 : a1 = 3
  · replace h := h.1 c1_3
    refine y_switchK (j := 3) (tgt := 76) Q_X2_step (k := 1) rfl (by rw [c1_3]; decide) (by decide) z1 rfl (by decide) ?_
    refine z_aload_n Q_X2_step (k := 22) rfl rfl ?_
    refine q_callV0_uJ Q_X2_step (k := 23) rfl rfl K_X2_turn V_X2_turn L_X2_98 (n_ hB.1 rfl) (k_151 hB.1) (Nat.le_of_ble_eq_true rfl) (Nat.le_of_ble_eq_true rfl) rfl (Nat.zero_le _) (Nat.zero_le _) (w_X2_turn (d + 1) hB  h) (fun J7 h => ?_)
    refine z_goto (tgt := 109) Q_X2_step (k := 24) rfl (by decide) ?_
    exact z_vret Q_X2_step (k := 39) rfl rfl (qI_uVJ hB h)
  replace h := h.2
  by_cases c1_4 : a1 = 4
  · replace h := h.1 c1_4
    refine y_switchK (j := 4) (tgt := 83) Q_X2_step (k := 1) rfl (by rw [c1_4]; decide) (by decide) z1 rfl (by decide) ?_
    refine z_aload_n Q_X2_step (k := 25) rfl rfl ?_
    refine z_iload_n Q_X2_step (k := 26) rfl rfl ?_
    refine y_iconst Q_X2_step (k := 27) rfl ?_
    refine y_icmp_ne 93 Q_X2_step (k := 28) rfl (by decide) z1 ⟨by decide, by decide⟩ (fun c => ?_) (fun c => ?_)
    · replace h := h.2 c
      refine y_iconst Q_X2_step (k := 31) rfl ?_
      refine q_callV1_uVJ Q_X2_step (k := 32) rfl rfl K_X2_join V_X2_join L_X2_101 (n_ hB.1 rfl) (k_151 hB.1) (Nat.le_of_ble_eq_true rfl) (Nat.le_of_ble_eq_true rfl) rfl (Nat.zero_le _) (Nat.zero_le _) (w_X2_join (d + 1) hB ⟨by decide, by decide⟩ (Or.inl rfl) h) (fun V8 J8 hB8 h => ?_)
      refine z_goto (tgt := 109) Q_X2_step (k := 33) rfl (by decide) ?_
      exact z_vret Q_X2_step (k := 39) rfl rfl (qI_uVJ hB8 h)
    · replace h := h.1 c
      refine y_iconst Q_X2_step (k := 29) rfl ?_
      refine z_goto (tgt := 94) Q_X2_step (k := 30) rfl (by decide) ?_
      refine q_callV1_uVJ Q_X2_step (k := 32) rfl rfl K_X2_join V_X2_join L_X2_101 (n_ hB.1 rfl) (k_151 hB.1) (Nat.le_of_ble_eq_true rfl) (Nat.le_of_ble_eq_true rfl) rfl (Nat.zero_le _) (Nat.zero_le _) (w_X2_join (d + 1) hB ⟨by decide, by decide⟩ (Or.inr rfl) h) (fun V9 J9 hB9 h => ?_)
      refine z_goto (tgt := 109) Q_X2_step (k := 33) rfl (by decide) ?_
      exact z_vret Q_X2_step (k := 39) rfl rfl (qI_uVJ hB9 h)
  replace h := h.2
  by_cases c1_5 : a1 = 5
  · replace h := h.1 c1_5
    refine y_switchK (j := 5) (tgt := 83) Q_X2_step (k := 1) rfl (by rw [c1_5]; decide) (by decide) z1 rfl (by decide) ?_
    refine z_aload_n Q_X2_step (k := 25) rfl rfl ?_
    refine z_iload_n Q_X2_step (k := 26) rfl rfl ?_
    refine y_iconst Q_X2_step (k := 27) rfl ?_
    refine y_icmp_ne 93 Q_X2_step (k := 28) rfl (by decide) z1 ⟨by decide, by decide⟩ (fun c => ?_) (fun c => ?_)
    · replace h := h.2 c
      refine y_iconst Q_X2_step (k := 31) rfl ?_
      refine q_callV1_uVJ Q_X2_step (k := 32) rfl rfl K_X2_join V_X2_join L_X2_101 (n_ hB.1 rfl) (k_151 hB.1) (Nat.le_of_ble_eq_true rfl) (Nat.le_of_ble_eq_true rfl) rfl (Nat.zero_le _) (Nat.zero_le _) (w_X2_join (d + 1) hB ⟨by decide, by decide⟩ (Or.inl rfl) h) (fun V10 J10 hB10 h => ?_)
      refine z_goto (tgt := 109) Q_X2_step (k := 33) rfl (by decide) ?_
      exact z_vret Q_X2_step (k := 39) rfl rfl (qI_uVJ hB10 h)
    · replace h := h.1 c
      refine y_iconst Q_X2_step (k := 29) rfl ?_
      refine z_goto (tgt := 94) Q_X2_step (k := 30) rfl (by decide) ?_
      refine q_callV1_uVJ Q_X2_step (k := 32) rfl rfl K_X2_join V_X2_join L_X2_101 (n_ hB.1 rfl) (k_151 hB.1) (Nat.le_of_ble_eq_true rfl) (Nat.le_of_ble_eq_true rfl) rfl (Nat.zero_le _) (Nat.zero_le _) (w_X2_join (d + 1) hB ⟨by decide, by decide⟩ (Or.inr rfl) h) (fun V11 J11 hB11 h => ?_)
      refine z_goto (tgt := 109) Q_X2_step (k := 33) rfl (by decide) ?_
      exact z_vret Q_X2_step (k := 39) rfl rfl (qI_uVJ hB11 h)
  replace h := h.2
  have cd1 : a1 < 0 ∨ 5 < a1 := by omega
  replace h := h cd1
  refine y_switchD (tgt := 100) Q_X2_step (k := 1) rfl cd1 z1 (by decide) ?_
  refine z_aload_n Q_X2_step (k := 34) rfl rfl ?_
  refine z_iload_n Q_X2_step (k := 35) rfl rfl ?_
  refine z_aload_n Q_X2_step (k := 36) rfl rfl ?_
  refine q_callV0_iV Q_X2_step (k := 37) rfl rfl K_X2_popNumber V_X2_popNumber L_X2_104 (n_ hB.1 rfl) (k_151 hB.1) (Nat.le_of_ble_eq_true rfl) (Nat.le_of_ble_eq_true rfl) rfl (Nat.zero_le _) (Nat.zero_le _) (w_X2_popNumber (d + 1) hB  h) (fun r12 V12 hB12 hz12 h => ?_)
  refine q_callV2_uVJ Q_X2_step (k := 38) rfl rfl K_X2_reckon V_X2_reckon L_X2_108 (n_ hB12.1 rfl) (k_151 hB12.1) (Nat.le_of_ble_eq_true rfl) (Nat.le_of_ble_eq_true rfl) rfl (Nat.zero_le _) (Nat.zero_le _) (w_X2_reckon d hB12 z1 hz12 h) (fun V13 J13 hB13 h => ?_)
  exact z_vret Q_X2_step (k := 39) rfl rfl (qI_uVJ hB13 h)
set_option maxHeartbeats 4000000 in
set_option maxRecDepth 20000 in
theorem v_X2_workCondition_40 {S : zS} {K : Int → qV → qJ → Prop} {Q : qV → qJ → Prop} {kc ks : Nat} (d : Nat) {l1 : Int} (o1_ : qLa S l1) {l3 : Int} (o3_ : qNm l3) {l5 : Int} (z5 : zr l5) (hK : ∀ (l6 : Int) (V : qV) (J : qJ), qB S V → zr l6 → K l6 V J → Z M_X2_workCondition (d + 3) kc ks 79 [some (.ref 151), some (.ref l1.toNat), none, some (.ref l3.toNat), none, some (.int (iI l5)), some (.int (iI l6))] [] S (qi V) (qj J) (qP_uVJ S Q)) : ∀ (f : Nat) (l6 : Int) (V : qV) (J : qJ), qB S V → zr l6 → lp_X2_workCondition_40 l1 l3 l5 K f l6 V J → Z M_X2_workCondition (d + 3) kc ks 40 [some (.ref 151), some (.ref l1.toNat), none, some (.ref l3.toNat), none, some (.int (iI l5)), some (.int (iI l6))] [] S (qi V) (qj J) (qP_uVJ S Q) := by
  intro f
  induction f with
  | zero =>
    intro l6 V J hB z6 h
    exact h.elim
  | succ f ih =>
    intro l6 V J hB z6 h
    rw [lp_X2_workCondition_40] at h
    refine z_iload Q_X2_workCondition (k := 22) rfl rfl ?_
    refine z_iload Q_X2_workCondition (k := 23) rfl rfl ?_
    refine y_icmp_ge 79 Q_X2_workCondition (k := 24) rfl (by decide) z6 z5 (fun c => ?_) (fun c => ?_)
    · replace h := h.1 c
      exact y_fg (zsb_c rfl (zsb_c rfl (zsb_n (zsb_c rfl (zsb_n (zsb_c rfl (zsb_c rfl zsb_e))))))) (hK l6 V J hB z6 h)
    · replace h := h.2 c
      refine z_aload_n Q_X2_workCondition (k := 25) rfl rfl ?_
      refine z_aload_n Q_X2_workCondition (k := 26) rfl rfl ?_
      refine z_getR (b := (l1 + 4).toNat) Q_X2_workCondition (k := 27) rfl F_X2_84 rfl o1_.1.2.1 o1_.1.2.2.1 o1_.2.1.2.2.2 ?_
      refine z_iload Q_X2_workCondition (k := 28) rfl rfl ?_
      obtain ⟨q5, h⟩ := h
      refine q_iald (o := l1 + 4) (N := 400) Q_X2_workCondition (k := 29) rfl (Int.toNat_of_nonneg o1_.2.2.2.2.2.1) o1_.2.2.2.2.2.2.1 o1_.2.2.2.2.2.2.2.1 rfl q5 (by decide) ?_
      refine y_bipush Q_X2_workCondition (k := 30) rfl (by decide) ?_
      refine y_ishr Q_X2_workCondition (k := 31) rfl ?_
      refine z_aload_n Q_X2_workCondition (k := 32) rfl rfl ?_
      refine z_getR (b := (l1 + 4).toNat) Q_X2_workCondition (k := 33) rfl F_X2_84 rfl o1_.1.2.1 o1_.1.2.2.1 o1_.2.1.2.2.2 ?_
      refine z_iload Q_X2_workCondition (k := 34) rfl rfl ?_
      obtain ⟨q6, h⟩ := h
      refine q_iald (o := l1 + 4) (N := 400) Q_X2_workCondition (k := 35) rfl (Int.toNat_of_nonneg o1_.2.2.2.2.2.1) o1_.2.2.2.2.2.2.1 o1_.2.2.2.2.2.2.2.1 rfl q6 (by decide) ?_
      refine y_sipush Q_X2_workCondition (k := 36) rfl (by decide) ?_
      refine y_iand Q_X2_workCondition (k := 37) rfl ?_
      refine z_aload_n Q_X2_workCondition (k := 38) rfl rfl ?_
      refine q_callV3_uVJ Q_X2_workCondition (k := 39) rfl rfl K_X2_step V_X2_step L_X2_87 (n_ hB.1 rfl) (k_151 hB.1) (Nat.le_of_ble_eq_true rfl) (Nat.le_of_ble_eq_true rfl) rfl (Nat.zero_le _) (Nat.zero_le _) (w_X2_step d hB (zshr_r _ _) (zand_r _ _) o3_ h) (fun V7 J7 hB7 h => ?_)
      obtain ⟨q8, h⟩ := h
      refine y_iinc (L' := [some (.ref 151), some (.ref l1.toNat), none, some (.ref l3.toNat), none, some (.int (iI l5)), some (.int (iI (l6 + 1)))]) Q_X2_workCondition (k := 40) rfl (by decide) rfl rfl ?_
      refine z_goto (tgt := 40) Q_X2_workCondition (k := 41) rfl (by decide) ?_
      exact y_fg (zsb_c rfl (zsb_c rfl (zsb_n (zsb_c rfl (zsb_n (zsb_c rfl (zsb_c rfl zsb_e))))))) (ih (l6 + 1) V7 J7 hB7 q8 h)
set_option maxHeartbeats 4000000 in
set_option maxRecDepth 20000 in
theorem w_X2_workCondition {S : zS} {V : qV} {J : qJ} {Q : qV → qJ → Prop} (d : Nat) (hB : qB S V) {a1 : Int} (p1 : qLa S a1) {a2 : Int} (z2 : zr a2) {a3 : Int} (p3 : qNm a3) (h : W_X2_workCondition a1 a2 a3 V J Q) : Z M_X2_workCondition (d + 3) 0 0 0 [some (.ref 151), some (.ref a1.toNat), some (.int (iI a2)), some (.ref a3.toNat), none, none, none] [] S (qi V) (qj J) (qP_uVJ S Q) := by
  unfold W_X2_workCondition at h
  refine z_aload_n Q_X2_workCondition (k := 0) rfl rfl ?_
  refine y_iconst Q_X2_workCondition (k := 1) rfl ?_
  refine q_putI (o := 151) (z := 3) Q_X2_workCondition (k := 2) rfl F_X2_71 rfl rfl rfl (n_ hB.1 rfl) (k_151 hB.1) ?_
  have hB1 := qB.u (a := 151) (j := 3) (x := 0) hB ⟨by decide, by decide⟩ (Or.inl (by decide))
  refine z_aload_n Q_X2_workCondition (k := 3) rfl rfl ?_
  refine y_iconst Q_X2_workCondition (k := 4) rfl ?_
  refine q_putI (o := 151) (z := 4) Q_X2_workCondition (k := 5) rfl F_X2_74 rfl rfl rfl (n_ hB1.1 rfl) (k_151 hB1.1) ?_
  have hB2 := qB.u (a := 151) (j := 4) (x := 0) hB1 ⟨by decide, by decide⟩ (Or.inl (by decide))
  refine z_aload_n Q_X2_workCondition (k := 6) rfl rfl ?_
  refine z_iload_n Q_X2_workCondition (k := 7) rfl rfl ?_
  refine q_callVN1_i Q_X2_workCondition (k := 8) rfl rfl K_X3_startOf V_X3_startOf L_X2_77 p1.1.2.1 p1.1.2.2.1 (Nat.le_of_ble_eq_true rfl) (Nat.le_of_ble_eq_true rfl) rfl (Nat.zero_le _) (Nat.zero_le _) (w_X3_startOf (d + 2) hB2 p1 z2 h) (fun r3 hz3 h => ?_)
  refine y_istore (L' := [some (.ref 151), some (.ref a1.toNat), some (.int (iI a2)), some (.ref a3.toNat), some (.int (iI r3)), none, none]) Q_X2_workCondition (k := 9) rfl (by decide) rfl ?_
  refine z_aload_n Q_X2_workCondition (k := 10) rfl rfl ?_
  refine z_iload_n Q_X2_workCondition (k := 11) rfl rfl ?_
  refine q_callVN1_i Q_X2_workCondition (k := 12) rfl rfl K_X3_endOf V_X3_endOf L_X2_81 p1.1.2.1 p1.1.2.2.1 (Nat.le_of_ble_eq_true rfl) (Nat.le_of_ble_eq_true rfl) rfl (Nat.zero_le _) (Nat.zero_le _) (w_X3_endOf (d + 2) hB2 p1 z2 h) (fun r4 hz4 h => ?_)
  refine y_istore (L' := [some (.ref 151), some (.ref a1.toNat), some (.int (iI a2)), some (.ref a3.toNat), some (.int (iI r3)), some (.int (iI r4)), none]) Q_X2_workCondition (k := 13) rfl (by decide) rfl ?_
  refine z_iload Q_X2_workCondition (k := 14) rfl rfl ?_
  refine z_iload Q_X2_workCondition (k := 15) rfl rfl ?_
  refine y_icmp_lt 36 Q_X2_workCondition (k := 16) rfl (by decide) hz3 hz4 (fun c => ?_) (fun c => ?_)
  · replace h := h.1 c
    refine z_iload Q_X2_workCondition (k := 20) rfl rfl ?_
    refine y_istore (L' := [some (.ref 151), some (.ref a1.toNat), some (.int (iI a2)), some (.ref a3.toNat), some (.int (iI r3)), some (.int (iI r4)), some (.int (iI r3))]) Q_X2_workCondition (k := 21) rfl (by decide) rfl ?_
    refine y_fg (zsb_c rfl (zsb_c rfl (zsb_n (zsb_c rfl (zsb_n (zsb_c rfl (zsb_c rfl zsb_e))))))) (v_X2_workCondition_40 d p1 p3 hz4 (fun l6x9 V9 J9 hB9 zl6x9 h => ?_) 100000 r3 (qu (qu V 151 3 0) 151 4 0) J hB2 hz3 h)
    refine z_aload_n Q_X2_workCondition (k := 42) rfl rfl ?_
    refine y_iconst Q_X2_workCondition (k := 43) rfl ?_
    refine q_putI (o := 151) (z := 3) Q_X2_workCondition (k := 44) rfl F_X2_71 rfl rfl rfl (n_ hB9.1 rfl) (k_151 hB9.1) ?_
    have hB10 := qB.u (a := 151) (j := 3) (x := 0) hB9 ⟨by decide, by decide⟩ (Or.inl (by decide))
    exact z_vret Q_X2_workCondition (k := 45) rfl rfl (qI_uVJ hB10 h)
  · replace h := h.2 c
    refine z_aload_n Q_X2_workCondition (k := 17) rfl rfl ?_
    refine y_iconst Q_X2_workCondition (k := 18) rfl ?_
    refine q_callV1_uVJ Q_X2_workCondition (k := 19) rfl rfl K_X2_pushAll V_X2_pushAll L_X2_63 (n_ hB2.1 rfl) (k_151 hB2.1) (Nat.le_of_ble_eq_true rfl) (Nat.le_of_ble_eq_true rfl) rfl (Nat.zero_le _) (Nat.zero_le _) (w_X2_pushAll (d + 2) hB2 ⟨by decide, by decide⟩ (Or.inr rfl) h) (fun V11 J11 hB11 h => ?_)
    refine z_iload Q_X2_workCondition (k := 20) rfl rfl ?_
    refine y_istore (L' := [some (.ref 151), some (.ref a1.toNat), some (.int (iI a2)), some (.ref a3.toNat), some (.int (iI r3)), some (.int (iI r4)), some (.int (iI r3))]) Q_X2_workCondition (k := 21) rfl (by decide) rfl ?_
    refine y_fg (zsb_c rfl (zsb_c rfl (zsb_n (zsb_c rfl (zsb_n (zsb_c rfl (zsb_c rfl zsb_e))))))) (v_X2_workCondition_40 d p1 p3 hz4 (fun l6x12 V12 J12 hB12 zl6x12 h => ?_) 100000 r3 V11 J11 hB11 hz3 h)
    refine z_aload_n Q_X2_workCondition (k := 42) rfl rfl ?_
    refine y_iconst Q_X2_workCondition (k := 43) rfl ?_
    refine q_putI (o := 151) (z := 3) Q_X2_workCondition (k := 44) rfl F_X2_71 rfl rfl rfl (n_ hB12.1 rfl) (k_151 hB12.1) ?_
    have hB13 := qB.u (a := 151) (j := 3) (x := 0) hB12 ⟨by decide, by decide⟩ (Or.inl (by decide))
    exact z_vret Q_X2_workCondition (k := 45) rfl rfl (qI_uVJ hB13 h)
set_option maxHeartbeats 4000000 in
set_option maxRecDepth 20000 in
theorem v_X2_narrow_10 {S : zS} {V : qV} {K : Int → qJ → Prop} {Q : qV → qJ → Prop} {kc ks : Nat} (d : Nat) (hB : qB S V) (hK : ∀ (l4 : Int) (J : qJ), zr l4 → K l4 J → Z M_X2_narrow (d + 4) kc ks 44 [some (.ref 151), none, none, some (.ref 13), some (.int (iI l4))] [] S (qi V) (qj J) (qP_uVJ S Q)) : ∀ (f : Nat) (l4 : Int) (J : qJ), zr l4 → lp_X2_narrow_10 V K f l4 J → Z M_X2_narrow (d + 4) kc ks 10 [some (.ref 151), none, none, some (.ref 13), some (.int (iI l4))] [] S (qi V) (qj J) (qP_uVJ S Q) := by
  intro f
  induction f with
  | zero =>
    intro l4 J z4 h
    exact h.elim
  | succ f ih =>
    intro l4 J z4 h
    rw [lp_X2_narrow_10] at h
    refine z_iload Q_X2_narrow (k := 7) rfl rfl ?_
    refine y_bipush Q_X2_narrow (k := 8) rfl (by decide) ?_
    refine y_icmp_ge 44 Q_X2_narrow (k := 9) rfl (by decide) z4 ⟨by decide, by decide⟩ (fun c => ?_) (fun c => ?_)
    · replace h := h.1 c
      exact y_fg (zsb_c rfl (zsb_n (zsb_n (zsb_c rfl (zsb_c rfl zsb_e))))) (hK l4 J z4 h)
    · replace h := h.2 c
      refine z_iload Q_X2_narrow (k := 10) rfl rfl ?_
      refine z_aload_n Q_X2_narrow (k := 11) rfl rfl ?_
      refine q_alen (t := 1) (N := 16) Q_X2_narrow (k := 12) rfl (n_ hB.1 rfl) (k_13 hB.1) rfl rfl ?_
      refine y_icmp_ge 44 Q_X2_narrow (k := 13) rfl (by decide) z4 ⟨by decide, by decide⟩ (fun c => ?_) (fun c => ?_)
      · replace h := h.1 c
        exact y_fg (zsb_c rfl (zsb_n (zsb_n (zsb_c rfl (zsb_c rfl zsb_e))))) (hK l4 J z4 h)
      · replace h := h.2 c
        refine z_aload_n Q_X2_narrow (k := 14) rfl rfl ?_
        refine z_iload Q_X2_narrow (k := 15) rfl rfl ?_
        refine z_dup2 Q_X2_narrow (k := 16) rfl rfl rfl ?_
        obtain ⟨q2, h⟩ := h
        refine q_lald (o := 13) (N := 16) Q_X2_narrow (k := 17) rfl rfl (n_ hB.1 rfl) (k_13 hB.1) rfl q2 (by decide) ?_
        refine z_aload_n Q_X2_narrow (k := 18) rfl rfl ?_
        refine z_getR (b := 152) Q_X2_narrow (k := 19) rfl F_X2_11 rfl (n_ hB.1 rfl) (k_151 hB.1) (r_151_0 hB.1) ?_
        refine z_iload Q_X2_narrow (k := 20) rfl rfl ?_
        obtain ⟨q3, h⟩ := h
        refine q_lald (o := 152) (N := 256) Q_X2_narrow (k := 21) rfl rfl (n_ hB.1 rfl) (k_152 hB.1) rfl q3 (by decide) ?_
        refine z_land Q_X2_narrow (k := 22) rfl ?_
        obtain ⟨q4, h⟩ := h
        refine q_last (o := 13) (N := 16) Q_X2_narrow (k := 23) rfl rfl (n_ hB.1 rfl) (k_13 hB.1) rfl q4 (by decide) ?_
        obtain ⟨q5, h⟩ := h
        refine y_iinc (L' := [some (.ref 151), none, none, some (.ref 13), some (.int (iI (l4 + 1)))]) Q_X2_narrow (k := 24) rfl (by decide) rfl rfl ?_
        refine z_goto (tgt := 10) Q_X2_narrow (k := 25) rfl (by decide) ?_
        exact y_fg (zsb_c rfl (zsb_n (zsb_n (zsb_c rfl (zsb_c rfl zsb_e))))) (ih (l4 + 1) (qu J 13 l4 ((J 13 l4) &&& (J 152 l4))) q5 h)
set_option maxHeartbeats 4000000 in
set_option maxRecDepth 20000 in
theorem w_X2_narrow {S : zS} {V : qV} {J : qJ} {Q : qV → qJ → Prop} (d : Nat) (hB : qB S V) {a2 : Int} (p2 : qNm a2) (h : W_X2_narrow a2 V J Q) : Z M_X2_narrow (d + 4) 0 0 0 [some (.ref 151), some (.ref 6), some (.ref a2.toNat), some (.ref 13), none] [] S (qi V) (qj J) (qP_uVJ S Q) := by
  unfold W_X2_narrow at h
  refine z_aload_n Q_X2_narrow (k := 0) rfl rfl ?_
  refine z_aload_n Q_X2_narrow (k := 1) rfl rfl ?_
  refine y_iconst Q_X2_narrow (k := 2) rfl ?_
  refine z_aload_n Q_X2_narrow (k := 3) rfl rfl ?_
  refine q_callV3_uVJ Q_X2_narrow (k := 4) rfl rfl K_X2_workCondition V_X2_workCondition L_X2_22 (n_ hB.1 rfl) (k_151 hB.1) (Nat.le_of_ble_eq_true rfl) (Nat.le_of_ble_eq_true rfl) rfl (Nat.zero_le _) (Nat.zero_le _) (w_X2_workCondition d hB (qLa_6 hB.1) ⟨by decide, by decide⟩ p2 h) (fun V1 J1 hB1 h => ?_)
  refine y_iconst Q_X2_narrow (k := 5) rfl ?_
  refine y_istore (L' := [some (.ref 151), some (.ref 6), some (.ref a2.toNat), some (.ref 13), some (.int (iI 0))]) Q_X2_narrow (k := 6) rfl (by decide) rfl ?_
  refine y_fg (zsb_c rfl (zsb_n (zsb_n (zsb_c rfl (zsb_c rfl zsb_e))))) (v_X2_narrow_10 d hB1 (fun l4x6 J6 zl4x6 h => ?_) 100000 0 J1 ⟨by decide, by decide⟩ h)
  exact z_vret Q_X2_narrow (k := 26) rfl rfl (qI_uVJ hB1 h)
set_option maxHeartbeats 4000000 in
set_option maxRecDepth 20000 in
theorem v_X9_clear_2 {S : zS} {V : qV} {K : Int → qJ → Prop} {Q : qV → qJ → Prop} {kc ks : Nat} (d : Nat) (hB : qB S V) {l0 : Int} (o0_ : qVe S l0) (hK : ∀ (l1 : Int) (J : qJ), zr l1 → K l1 J → Z M_X9_clear d kc ks 24 [some (.ref l0.toNat), some (.int (iI l1))] [] S (qi V) (qj J) (qP_uVJ S Q)) : ∀ (f : Nat) (l1 : Int) (J : qJ), zr l1 → lp_X9_clear_2 l0 V K f l1 J → Z M_X9_clear d kc ks 2 [some (.ref l0.toNat), some (.int (iI l1))] [] S (qi V) (qj J) (qP_uVJ S Q) := by
  intro f
  induction f with
  | zero =>
    intro l1 J z1 h
    exact h.elim
  | succ f ih =>
    intro l1 J z1 h
    rw [lp_X9_clear_2] at h
    refine z_iload_n Q_X9_clear (k := 2) rfl rfl ?_
    refine z_aload_n Q_X9_clear (k := 3) rfl rfl ?_
    refine z_getR (b := (l0 + 1).toNat) Q_X9_clear (k := 4) rfl F_X9_9 rfl o0_.1.2.1 o0_.1.2.2.1 o0_.2.1 ?_
    refine q_alen (t := 1) (N := 80) Q_X9_clear (k := 5) rfl o0_.2.2.1.2.1 o0_.2.2.1.2.2.1 rfl rfl ?_
    refine y_icmp_ge 24 Q_X9_clear (k := 6) rfl (by decide) z1 ⟨by decide, by decide⟩ (fun c => ?_) (fun c => ?_)
    · replace h := h.1 c
      exact y_fg (zsb_c rfl (zsb_c rfl zsb_e)) (hK l1 J z1 h)
    · replace h := h.2 c
      refine z_aload_n Q_X9_clear (k := 7) rfl rfl ?_
      refine z_getR (b := (l0 + 1).toNat) Q_X9_clear (k := 8) rfl F_X9_9 rfl o0_.1.2.1 o0_.1.2.2.1 o0_.2.1 ?_
      refine z_iload_n Q_X9_clear (k := 9) rfl rfl ?_
      refine z_lconst_ Q_X9_clear (k := 10) rfl (v := 0) rfl ?_
      obtain ⟨q1, h⟩ := h
      refine q_last (o := l0 + 1) (N := 80) Q_X9_clear (k := 11) rfl (Int.toNat_of_nonneg o0_.2.2.1.1) o0_.2.2.1.2.1 o0_.2.2.1.2.2.1 rfl q1 (by decide) ?_
      obtain ⟨q2, h⟩ := h
      refine y_iinc (L' := [some (.ref l0.toNat), some (.int (iI (l1 + 1)))]) Q_X9_clear (k := 12) rfl (by decide) rfl rfl ?_
      refine z_goto (tgt := 2) Q_X9_clear (k := 13) rfl (by decide) ?_
      exact y_fg (zsb_c rfl (zsb_c rfl zsb_e)) (ih (l1 + 1) (qu J (l0 + 1) l1 0) q2 h)
set_option maxHeartbeats 4000000 in
set_option maxRecDepth 20000 in
theorem w_X9_clear {S : zS} {V : qV} {J : qJ} {Q : qV → qJ → Prop} (d : Nat) (hB : qB S V) {a0 : Int} (p0 : qVe S a0) (h : W_X9_clear a0 V J Q) : Z M_X9_clear d 0 0 0 [some (.ref a0.toNat), none] [] S (qi V) (qj J) (qP_uVJ S Q) := by
  unfold W_X9_clear at h
  refine y_iconst Q_X9_clear (k := 0) rfl ?_
  refine y_istore_n (L' := [some (.ref a0.toNat), some (.int (iI 0))]) Q_X9_clear (k := 1) rfl (by decide) rfl ?_
  refine y_fg (zsb_c rfl (zsb_c rfl zsb_e)) (v_X9_clear_2 d hB p0 (fun l1x3 J3 zl1x3 h => ?_) 100000 0 J ⟨by decide, by decide⟩ h)
  refine z_aload_n Q_X9_clear (k := 14) rfl rfl ?_
  refine y_iconst Q_X9_clear (k := 15) rfl ?_
  refine q_putI (o := a0) (z := 1) Q_X9_clear (k := 16) rfl F_X9_15 rfl (Int.toNat_of_nonneg p0.1.1) rfl p0.1.2.1 p0.1.2.2.1 ?_
  have hB4 := qB.u (a := a0) (j := 1) (x := (-1)) hB ⟨by decide, by decide⟩ (Or.inl p0.1.2.2.2)
  refine z_aload_n Q_X9_clear (k := 17) rfl rfl ?_
  refine y_iconst Q_X9_clear (k := 18) rfl ?_
  refine q_putI (o := a0) (z := 2) Q_X9_clear (k := 19) rfl F_X9_19 rfl (Int.toNat_of_nonneg p0.1.1) rfl p0.1.2.1 p0.1.2.2.1 ?_
  have hB5 := qB.u (a := a0) (j := 2) (x := 0) hB4 ⟨by decide, by decide⟩ (Or.inl p0.1.2.2.2)
  exact z_vret Q_X9_clear (k := 20) rfl rfl (qI_uVJ hB5 h)
set_option maxHeartbeats 4000000 in
set_option maxRecDepth 20000 in
theorem v_X2_give_5 {S : zS} {V : qV} {K : Int → Int → qJ → Prop} {Q : Int → qJ → Prop} {kc ks : Nat} (d : Nat) (hB : qB S V) {l1 : Int} (o1_ : qVe S l1) {l2 : Int} (z2 : zr l2) (hK : ∀ (l3 : Int) (l4 : Int) (J : qJ), zr l3 → zr l4 → K l3 l4 J → Z M_X2_give d kc ks 96 [some (.ref 151), some (.ref l1.toNat), some (.int (iI l2)), some (.int (iI l3)), some (.int (iI l4)), none, none, none] [] S (qi V) (qj J) (qP_zJ S V Q)) : ∀ (f : Nat) (l3 : Int) (l4 : Int) (J : qJ), zr l3 → zr l4 → lp_X2_give_5 l1 l2 V K f l3 l4 J → Z M_X2_give d kc ks 5 [some (.ref 151), some (.ref l1.toNat), some (.int (iI l2)), some (.int (iI l3)), some (.int (iI l4)), none, none, none] [] S (qi V) (qj J) (qP_zJ S V Q) := by
  intro f
  induction f with
  | zero =>
    intro l3 l4 J z3 z4 h
    exact h.elim
  | succ f ih =>
    intro l3 l4 J z3 z4 h
    rw [lp_X2_give_5] at h
    refine z_iload Q_X2_give (k := 4) rfl rfl ?_
    refine y_bipush Q_X2_give (k := 5) rfl (by decide) ?_
    refine y_icmp_ge 96 Q_X2_give (k := 6) rfl (by decide) z4 ⟨by decide, by decide⟩ (fun c => ?_) (fun c => ?_)
    · replace h := h.1 c
      exact y_fg (zsb_c rfl (zsb_c rfl (zsb_c rfl (zsb_c rfl (zsb_c rfl (zsb_n (zsb_n (zsb_n zsb_e)))))))) (hK l3 l4 J z3 z4 h)
    · replace h := h.2 c
      refine z_aload_n Q_X2_give (k := 7) rfl rfl ?_
      refine z_getR (b := 154) Q_X2_give (k := 8) rfl F_X2_19 rfl (n_ hB.1 rfl) (k_151 hB.1) (r_151_2 hB.1) ?_
      refine z_iload Q_X2_give (k := 9) rfl rfl ?_
      obtain ⟨q1, h⟩ := h
      refine q_lald (o := 154) (N := 16) Q_X2_give (k := 10) rfl rfl (n_ hB.1 rfl) (k_154 hB.1) rfl q1 (by decide) ?_
      refine z_aload_n Q_X2_give (k := 11) rfl rfl ?_
      refine z_getR (b := 152) Q_X2_give (k := 12) rfl F_X2_11 rfl (n_ hB.1 rfl) (k_151 hB.1) (r_151_0 hB.1) ?_
      refine z_iload Q_X2_give (k := 13) rfl rfl ?_
      obtain ⟨q2, h⟩ := h
      refine q_lald (o := 152) (N := 256) Q_X2_give (k := 14) rfl rfl (n_ hB.1 rfl) (k_152 hB.1) rfl q2 (by decide) ?_
      refine z_land Q_X2_give (k := 15) rfl ?_
      refine y_lstore (L' := [some (.ref 151), some (.ref l1.toNat), some (.int (iI l2)), some (.int (iI l3)), some (.int (iI l4)), some (.long ((J 154 l4) &&& (J 152 l4))), none, none]) Q_X2_give (k := 16) rfl (by decide) rfl ?_
      refine z_iload_n Q_X2_give (k := 17) rfl rfl ?_
      refine y_bipush Q_X2_give (k := 18) rfl (by decide) ?_
      obtain ⟨q3, h⟩ := h
      refine y_imul Q_X2_give (k := 19) rfl ?_
      refine z_iload Q_X2_give (k := 20) rfl rfl ?_
      obtain ⟨q4, h⟩ := h
      refine y_iadd Q_X2_give (k := 21) rfl ?_
      refine y_istore (L' := [some (.ref 151), some (.ref l1.toNat), some (.int (iI l2)), some (.int (iI l3)), some (.int (iI l4)), some (.long ((J 154 l4) &&& (J 152 l4))), none, some (.int (iI ((l2 * 16) + l4)))]) Q_X2_give (k := 22) rfl (by decide) rfl ?_
      refine z_lload Q_X2_give (k := 23) rfl rfl ?_
      refine z_lconst_ Q_X2_give (k := 24) rfl (v := 0) rfl ?_
      refine y_lcmp Q_X2_give (k := 25) rfl ?_
      refine y_if_eq 90 Q_X2_give (k := 26) rfl (by decide) (zlc_r _ _) (fun c => ?_) (fun c => ?_)
      · replace h := h.1 c
        obtain ⟨q5, h⟩ := h
        refine y_iinc (L' := [some (.ref 151), some (.ref l1.toNat), some (.int (iI l2)), some (.int (iI l3)), some (.int (iI (l4 + 1))), some (.long ((J 154 l4) &&& (J 152 l4))), none, some (.int (iI ((l2 * 16) + l4)))]) Q_X2_give (k := 54) rfl (by decide) rfl rfl ?_
        refine z_goto (tgt := 5) Q_X2_give (k := 55) rfl (by decide) ?_
        exact y_fg (zsb_c rfl (zsb_c rfl (zsb_c rfl (zsb_c rfl (zsb_c rfl (zsb_n (zsb_n (zsb_n zsb_e)))))))) (ih l3 (l4 + 1) J z3 q5 h)
      · replace h := h.2 c
        refine z_iload Q_X2_give (k := 27) rfl rfl ?_
        refine y_if_lt 90 Q_X2_give (k := 28) rfl (by decide) q4 (fun c => ?_) (fun c => ?_)
        · replace h := h.1 c
          obtain ⟨q6, h⟩ := h
          refine y_iinc (L' := [some (.ref 151), some (.ref l1.toNat), some (.int (iI l2)), some (.int (iI l3)), some (.int (iI (l4 + 1))), some (.long ((J 154 l4) &&& (J 152 l4))), none, some (.int (iI ((l2 * 16) + l4)))]) Q_X2_give (k := 54) rfl (by decide) rfl rfl ?_
          refine z_goto (tgt := 5) Q_X2_give (k := 55) rfl (by decide) ?_
          exact y_fg (zsb_c rfl (zsb_c rfl (zsb_c rfl (zsb_c rfl (zsb_c rfl (zsb_n (zsb_n (zsb_n zsb_e)))))))) (ih l3 (l4 + 1) J z3 q6 h)
        · replace h := h.2 c
          refine z_iload Q_X2_give (k := 29) rfl rfl ?_
          refine z_aload_n Q_X2_give (k := 30) rfl rfl ?_
          refine z_getR (b := (l1 + 1).toNat) Q_X2_give (k := 31) rfl F_X2_67 rfl o1_.1.2.1 o1_.1.2.2.1 o1_.2.1 ?_
          refine q_alen (t := 1) (N := 80) Q_X2_give (k := 32) rfl o1_.2.2.1.2.1 o1_.2.2.1.2.2.1 rfl rfl ?_
          refine y_icmp_ge 90 Q_X2_give (k := 33) rfl (by decide) q4 ⟨by decide, by decide⟩ (fun c => ?_) (fun c => ?_)
          · replace h := h.1 c
            obtain ⟨q7, h⟩ := h
            refine y_iinc (L' := [some (.ref 151), some (.ref l1.toNat), some (.int (iI l2)), some (.int (iI l3)), some (.int (iI (l4 + 1))), some (.long ((J 154 l4) &&& (J 152 l4))), none, some (.int (iI ((l2 * 16) + l4)))]) Q_X2_give (k := 54) rfl (by decide) rfl rfl ?_
            refine z_goto (tgt := 5) Q_X2_give (k := 55) rfl (by decide) ?_
            exact y_fg (zsb_c rfl (zsb_c rfl (zsb_c rfl (zsb_c rfl (zsb_c rfl (zsb_n (zsb_n (zsb_n zsb_e)))))))) (ih l3 (l4 + 1) J z3 q7 h)
          · replace h := h.2 c
            refine z_aload_n Q_X2_give (k := 34) rfl rfl ?_
            refine z_getR (b := (l1 + 1).toNat) Q_X2_give (k := 35) rfl F_X2_67 rfl o1_.1.2.1 o1_.1.2.2.1 o1_.2.1 ?_
            refine z_iload Q_X2_give (k := 36) rfl rfl ?_
            refine z_dup2 Q_X2_give (k := 37) rfl rfl rfl ?_
            obtain ⟨q8, h⟩ := h
            refine q_lald (o := l1 + 1) (N := 80) Q_X2_give (k := 38) rfl (Int.toNat_of_nonneg o1_.2.2.1.1) o1_.2.2.1.2.1 o1_.2.2.1.2.2.1 rfl q8 (by decide) ?_
            refine z_lload Q_X2_give (k := 39) rfl rfl ?_
            refine z_lor Q_X2_give (k := 40) rfl ?_
            obtain ⟨q9, h⟩ := h
            refine q_last (o := l1 + 1) (N := 80) Q_X2_give (k := 41) rfl (Int.toNat_of_nonneg o1_.2.2.1.1) o1_.2.2.1.2.1 o1_.2.2.1.2.2.1 rfl q9 (by decide) ?_
            refine z_aload_n Q_X2_give (k := 42) rfl rfl ?_
            refine z_getR (b := 154) Q_X2_give (k := 43) rfl F_X2_19 rfl (n_ hB.1 rfl) (k_151 hB.1) (r_151_2 hB.1) ?_
            refine z_iload Q_X2_give (k := 44) rfl rfl ?_
            refine z_dup2 Q_X2_give (k := 45) rfl rfl rfl ?_
            obtain ⟨q10, h⟩ := h
            refine q_lald (o := 154) (N := 16) Q_X2_give (k := 46) rfl rfl (n_ hB.1 rfl) (k_154 hB.1) rfl q10 (by decide) ?_
            refine z_lload Q_X2_give (k := 47) rfl rfl ?_
            refine z_ldc2 Q_X2_give (k := 48) rfl lC_X2_69 ?_
            refine z_lxor Q_X2_give (k := 49) rfl ?_
            refine z_land Q_X2_give (k := 50) rfl ?_
            obtain ⟨q11, h⟩ := h
            refine q_last (o := 154) (N := 16) Q_X2_give (k := 51) rfl rfl (n_ hB.1 rfl) (k_154 hB.1) rfl q11 (by decide) ?_
            refine y_iconst Q_X2_give (k := 52) rfl ?_
            refine y_istore_n (L' := [some (.ref 151), some (.ref l1.toNat), some (.int (iI l2)), some (.int (iI 1)), some (.int (iI l4)), some (.long ((J 154 l4) &&& (J 152 l4))), none, some (.int (iI ((l2 * 16) + l4)))]) Q_X2_give (k := 53) rfl (by decide) rfl ?_
            obtain ⟨q12, h⟩ := h
            refine y_iinc (L' := [some (.ref 151), some (.ref l1.toNat), some (.int (iI l2)), some (.int (iI 1)), some (.int (iI (l4 + 1))), some (.long ((J 154 l4) &&& (J 152 l4))), none, some (.int (iI ((l2 * 16) + l4)))]) Q_X2_give (k := 54) rfl (by decide) rfl rfl ?_
            refine z_goto (tgt := 5) Q_X2_give (k := 55) rfl (by decide) ?_
            exact y_fg (zsb_c rfl (zsb_c rfl (zsb_c rfl (zsb_c rfl (zsb_c rfl (zsb_n (zsb_n (zsb_n zsb_e)))))))) (ih 1 (l4 + 1) (qu (qu J (l1 + 1) ((l2 * 16) + l4) ((J (l1 + 1) ((l2 * 16) + l4)) ||| ((J 154 l4) &&& (J 152 l4)))) 154 l4 (((qu J (l1 + 1) ((l2 * 16) + l4) ((J (l1 + 1) ((l2 * 16) + l4)) ||| ((J 154 l4) &&& (J 152 l4)))) 154 l4) &&& (((J 154 l4) &&& (J 152 l4)) ^^^ (-1)))) ⟨by decide, by decide⟩ q12 h)
set_option maxHeartbeats 4000000 in
set_option maxRecDepth 20000 in
theorem w_X2_give {S : zS} {V : qV} {J : qJ} {Q : Int → qJ → Prop} (d : Nat) (hB : qB S V) {a1 : Int} (p1 : qVe S a1) {a2 : Int} (z2 : zr a2) (h : W_X2_give a1 a2 V J Q) : Z M_X2_give d 0 0 0 [some (.ref 151), some (.ref a1.toNat), some (.int (iI a2)), none, none, none, none, none] [] S (qi V) (qj J) (qP_zJ S V Q) := by
  unfold W_X2_give at h
  refine y_iconst Q_X2_give (k := 0) rfl ?_
  refine y_istore_n (L' := [some (.ref 151), some (.ref a1.toNat), some (.int (iI a2)), some (.int (iI 0)), none, none, none, none]) Q_X2_give (k := 1) rfl (by decide) rfl ?_
  refine y_iconst Q_X2_give (k := 2) rfl ?_
  refine y_istore (L' := [some (.ref 151), some (.ref a1.toNat), some (.int (iI a2)), some (.int (iI 0)), some (.int (iI 0)), none, none, none]) Q_X2_give (k := 3) rfl (by decide) rfl ?_
  refine y_fg (zsb_c rfl (zsb_c rfl (zsb_c rfl (zsb_c rfl (zsb_c rfl (zsb_n (zsb_n (zsb_n zsb_e)))))))) (v_X2_give_5 d hB p1 z2 (fun l3x13 l4x13 J13 zl3x13 zl4x13 h => ?_) 100000 0 0 J ⟨by decide, by decide⟩ ⟨by decide, by decide⟩ h)
  refine z_iload_n Q_X2_give (k := 56) rfl rfl ?_
  obtain ⟨q14, h⟩ := h
  exact y_zret Q_X2_give (k := 57) rfl rfl q14 (qI_zJ zl3x13 q14 h)
set_option maxHeartbeats 4000000 in
set_option maxRecDepth 20000 in
theorem v_X2_anyUndecided_2 {S : zS} {V : qV} {J : qJ} {K : Int → Prop} {Q : Int → Prop} {kc ks : Nat} (d : Nat) (hB : qB S V) (hK : ∀ (l1 : Int), zr l1 → K l1 → Z M_X2_anyUndecided d kc ks 27 [some (.ref 151), some (.int (iI l1))] [] S (qi V) (qj J) (qP_z S V J Q)) : ∀ (f : Nat) (l1 : Int), zr l1 → lp_X2_anyUndecided_2 V J K Q f l1 → Z M_X2_anyUndecided d kc ks 2 [some (.ref 151), some (.int (iI l1))] [] S (qi V) (qj J) (qP_z S V J Q) := by
  intro f
  induction f with
  | zero =>
    intro l1 z1 h
    exact h.elim
  | succ f ih =>
    intro l1 z1 h
    rw [lp_X2_anyUndecided_2] at h
    refine z_iload_n Q_X2_anyUndecided (k := 2) rfl rfl ?_
    refine y_bipush Q_X2_anyUndecided (k := 3) rfl (by decide) ?_
    refine y_icmp_ge 27 Q_X2_anyUndecided (k := 4) rfl (by decide) z1 ⟨by decide, by decide⟩ (fun c => ?_) (fun c => ?_)
    · replace h := h.1 c
      exact y_fg (zsb_c rfl (zsb_c rfl zsb_e)) (hK l1 z1 h)
    · replace h := h.2 c
      refine z_aload_n Q_X2_anyUndecided (k := 5) rfl rfl ?_
      refine z_getR (b := 154) Q_X2_anyUndecided (k := 6) rfl F_X2_19 rfl (n_ hB.1 rfl) (k_151 hB.1) (r_151_2 hB.1) ?_
      refine z_iload_n Q_X2_anyUndecided (k := 7) rfl rfl ?_
      obtain ⟨q1, h⟩ := h
      refine q_lald (o := 154) (N := 16) Q_X2_anyUndecided (k := 8) rfl rfl (n_ hB.1 rfl) (k_154 hB.1) rfl q1 (by decide) ?_
      refine z_lconst_ Q_X2_anyUndecided (k := 9) rfl (v := 0) rfl ?_
      refine y_lcmp Q_X2_anyUndecided (k := 10) rfl ?_
      refine y_if_eq 21 Q_X2_anyUndecided (k := 11) rfl (by decide) (zlc_r _ _) (fun c => ?_) (fun c => ?_)
      · replace h := h.1 c
        obtain ⟨q2, h⟩ := h
        refine y_iinc (L' := [some (.ref 151), some (.int (iI (l1 + 1)))]) Q_X2_anyUndecided (k := 14) rfl (by decide) rfl rfl ?_
        refine z_goto (tgt := 2) Q_X2_anyUndecided (k := 15) rfl (by decide) ?_
        exact y_fg (zsb_c rfl (zsb_c rfl zsb_e)) (ih (l1 + 1) q2 h)
      · replace h := h.2 c
        refine y_iconst Q_X2_anyUndecided (k := 12) rfl ?_
        exact y_zret Q_X2_anyUndecided (k := 13) rfl rfl (Or.inr rfl) (qI_z ⟨by decide, by decide⟩ (Or.inr rfl) h)
set_option maxHeartbeats 4000000 in
set_option maxRecDepth 20000 in
theorem w_X2_anyUndecided {S : zS} {V : qV} {J : qJ} {Q : Int → Prop} (d : Nat) (hB : qB S V) (h : W_X2_anyUndecided V J Q) : Z M_X2_anyUndecided d 0 0 0 [some (.ref 151), none] [] S (qi V) (qj J) (qP_z S V J Q) := by
  unfold W_X2_anyUndecided at h
  refine y_iconst Q_X2_anyUndecided (k := 0) rfl ?_
  refine y_istore_n (L' := [some (.ref 151), some (.int (iI 0))]) Q_X2_anyUndecided (k := 1) rfl (by decide) rfl ?_
  refine y_fg (zsb_c rfl (zsb_c rfl zsb_e)) (v_X2_anyUndecided_2 d hB (fun l1x3 zl1x3 h => ?_) 100000 0 ⟨by decide, by decide⟩ h)
  refine y_iconst Q_X2_anyUndecided (k := 16) rfl ?_
  exact y_zret Q_X2_anyUndecided (k := 17) rfl rfl (Or.inl rfl) (qI_z ⟨by decide, by decide⟩ (Or.inl rfl) h)
set_option maxHeartbeats 4000000 in
set_option maxRecDepth 20000 in
theorem v_X2_decide_11 {S : zS} {V : qV} {K : Int → Int → qJ → Prop} {Q : qV → qJ → Prop} {kc ks : Nat} (d : Nat) (hB : qB S V) {l1 : Int} (o1_ : qLa S l1) {l4 : Int} (o4_ : qVe S l4) (hK : ∀ (l5 : Int) (l6 : Int) (J : qJ), zr l5 → zr l6 → K l5 l6 J → Z M_X2_decide (d + 4) kc ks 61 [some (.ref 151), some (.ref l1.toNat), some (.ref 168), some (.ref 166), some (.ref l4.toNat), some (.int (iI l5)), some (.int (iI l6))] [] S (qi V) (qj J) (qP_uVJ S Q)) : ∀ (f : Nat) (l5 : Int) (l6 : Int) (J : qJ), zr l5 → zr l6 → lp_X2_decide_11 l1 l4 V K f l5 l6 J → Z M_X2_decide (d + 4) kc ks 11 [some (.ref 151), some (.ref l1.toNat), some (.ref 168), some (.ref 166), some (.ref l4.toNat), some (.int (iI l5)), some (.int (iI l6))] [] S (qi V) (qj J) (qP_uVJ S Q) := by
  intro f
  induction f with
  | zero =>
    intro l5 l6 J z5 z6 h
    exact h.elim
  | succ f ih =>
    intro l5 l6 J z5 z6 h
    rw [lp_X2_decide_11] at h
    refine z_iload Q_X2_decide (k := 6) rfl rfl ?_
    refine y_bipush Q_X2_decide (k := 7) rfl (by decide) ?_
    refine y_icmp_ge 61 Q_X2_decide (k := 8) rfl (by decide) z6 ⟨by decide, by decide⟩ (fun c => ?_) (fun c => ?_)
    · replace h := h.1 c
      exact y_fg (zsb_c rfl (zsb_c rfl (zsb_c rfl (zsb_c rfl (zsb_c rfl (zsb_c rfl (zsb_c rfl zsb_e))))))) (hK l5 l6 J z5 z6 h)
    · replace h := h.2 c
      refine z_iload Q_X2_decide (k := 9) rfl rfl ?_
      refine z_aload_n Q_X2_decide (k := 10) rfl rfl ?_
      refine q_alen (t := 1) (N := 16) Q_X2_decide (k := 11) rfl (n_ hB.1 rfl) (k_166 hB.1) rfl rfl ?_
      refine y_icmp_ge 61 Q_X2_decide (k := 12) rfl (by decide) z6 ⟨by decide, by decide⟩ (fun c => ?_) (fun c => ?_)
      · replace h := h.1 c
        exact y_fg (zsb_c rfl (zsb_c rfl (zsb_c rfl (zsb_c rfl (zsb_c rfl (zsb_c rfl (zsb_c rfl zsb_e))))))) (hK l5 l6 J z5 z6 h)
      · replace h := h.2 c
        refine z_aload_n Q_X2_decide (k := 13) rfl rfl ?_
        refine z_getR (b := 154) Q_X2_decide (k := 14) rfl F_X2_19 rfl (n_ hB.1 rfl) (k_151 hB.1) (r_151_2 hB.1) ?_
        refine z_iload Q_X2_decide (k := 15) rfl rfl ?_
        refine z_aload_n Q_X2_decide (k := 16) rfl rfl ?_
        refine z_iload Q_X2_decide (k := 17) rfl rfl ?_
        obtain ⟨q2, h⟩ := h
        refine q_lald (o := 166) (N := 16) Q_X2_decide (k := 18) rfl rfl (n_ hB.1 rfl) (k_166 hB.1) rfl q2 (by decide) ?_
        obtain ⟨q3, h⟩ := h
        refine q_last (o := 154) (N := 16) Q_X2_decide (k := 19) rfl rfl (n_ hB.1 rfl) (k_154 hB.1) rfl q3 (by decide) ?_
        refine z_iload Q_X2_decide (k := 20) rfl rfl ?_
        refine z_aload_n Q_X2_decide (k := 21) rfl rfl ?_
        refine z_iload Q_X2_decide (k := 22) rfl rfl ?_
        obtain ⟨q4, h⟩ := h
        refine q_lald (o := 166) (N := 16) Q_X2_decide (k := 23) rfl rfl (n_ hB.1 rfl) (k_166 hB.1) rfl q4 (by decide) ?_
        refine z_lconst_ Q_X2_decide (k := 24) rfl (v := 0) rfl ?_
        refine y_lcmp Q_X2_decide (k := 25) rfl ?_
        refine y_if_eq 51 Q_X2_decide (k := 26) rfl (by decide) (zlc_r _ _) (fun c => ?_) (fun c => ?_)
        · replace h := h.1 c
          refine y_iconst Q_X2_decide (k := 29) rfl ?_
          refine y_ior Q_X2_decide (k := 30) rfl ?_
          refine y_istore (L' := [some (.ref 151), some (.ref l1.toNat), some (.ref 168), some (.ref 166), some (.ref l4.toNat), some (.int (iI (zor l5 0))), some (.int (iI l6))]) Q_X2_decide (k := 31) rfl (by decide) rfl ?_
          obtain ⟨q5, h⟩ := h
          refine y_iinc (L' := [some (.ref 151), some (.ref l1.toNat), some (.ref 168), some (.ref 166), some (.ref l4.toNat), some (.int (iI (zor l5 0))), some (.int (iI (l6 + 1)))]) Q_X2_decide (k := 32) rfl (by decide) rfl rfl ?_
          refine z_goto (tgt := 11) Q_X2_decide (k := 33) rfl (by decide) ?_
          exact y_fg (zsb_c rfl (zsb_c rfl (zsb_c rfl (zsb_c rfl (zsb_c rfl (zsb_c rfl (zsb_c rfl zsb_e))))))) (ih (zor l5 0) (l6 + 1) (qu J 154 l6 (J 166 l6)) (zor_r _ _) q5 h)
        · replace h := h.2 c
          refine y_iconst Q_X2_decide (k := 27) rfl ?_
          refine z_goto (tgt := 52) Q_X2_decide (k := 28) rfl (by decide) ?_
          refine y_ior Q_X2_decide (k := 30) rfl ?_
          refine y_istore (L' := [some (.ref 151), some (.ref l1.toNat), some (.ref 168), some (.ref 166), some (.ref l4.toNat), some (.int (iI (zor l5 1))), some (.int (iI l6))]) Q_X2_decide (k := 31) rfl (by decide) rfl ?_
          obtain ⟨q6, h⟩ := h
          refine y_iinc (L' := [some (.ref 151), some (.ref l1.toNat), some (.ref 168), some (.ref 166), some (.ref l4.toNat), some (.int (iI (zor l5 1))), some (.int (iI (l6 + 1)))]) Q_X2_decide (k := 32) rfl (by decide) rfl rfl ?_
          refine z_goto (tgt := 11) Q_X2_decide (k := 33) rfl (by decide) ?_
          exact y_fg (zsb_c rfl (zsb_c rfl (zsb_c rfl (zsb_c rfl (zsb_c rfl (zsb_c rfl (zsb_c rfl zsb_e))))))) (ih (zor l5 1) (l6 + 1) (qu J 154 l6 (J 166 l6)) (zor_r _ _) q6 h)
set_option maxHeartbeats 4000000 in
set_option maxRecDepth 20000 in
theorem v_X2_decide_64 {S : zS} {K : Int → Int → qV → qJ → Prop} {Q : qV → qJ → Prop} {kc ks : Nat} (d : Nat) {l1 : Int} (o1_ : qLa S l1) {l4 : Int} (o4_ : qVe S l4) (hK : ∀ (l5 : Int) (l6 : Int) (V : qV) (J : qJ), qB S V → zr l5 → zr l6 → K l5 l6 V J → Z M_X2_decide (d + 4) kc ks 148 [some (.ref 151), some (.ref l1.toNat), some (.ref 168), none, some (.ref l4.toNat), some (.int (iI l5)), some (.int (iI l6))] [] S (qi V) (qj J) (qP_uVJ S Q)) : ∀ (f : Nat) (l5 : Int) (l6 : Int) (V : qV) (J : qJ), qB S V → zr l5 → zr l6 → lp_X2_decide_64 l1 l4 K f l5 l6 V J → Z M_X2_decide (d + 4) kc ks 64 [some (.ref 151), some (.ref l1.toNat), some (.ref 168), none, some (.ref l4.toNat), some (.int (iI l5)), some (.int (iI l6))] [] S (qi V) (qj J) (qP_uVJ S Q) := by
  intro f
  induction f with
  | zero =>
    intro l5 l6 V J hB z5 z6 h
    exact h.elim
  | succ f ih =>
    intro l5 l6 V J hB z5 z6 h
    rw [lp_X2_decide_64] at h
    refine z_iload Q_X2_decide (k := 36) rfl rfl ?_
    refine z_aload_n Q_X2_decide (k := 37) rfl rfl ?_
    refine q_getI (o := l1) (z := 0) Q_X2_decide (k := 38) rfl F_X2_31 rfl (Int.toNat_of_nonneg o1_.1.1) rfl o1_.1.2.1 o1_.1.2.2.1 ?_
    refine y_icmp_ge 148 Q_X2_decide (k := 39) rfl (by decide) z6 (hB.2.1 _ _) (fun c => ?_) (fun c => ?_)
    · replace h := h.1 c
      exact y_fg (zsb_c rfl (zsb_c rfl (zsb_c rfl (zsb_n (zsb_c rfl (zsb_c rfl (zsb_c rfl zsb_e))))))) (hK l5 l6 V J hB z5 z6 h)
    · replace h := h.2 c
      refine z_iload Q_X2_decide (k := 40) rfl rfl ?_
      refine y_bipush Q_X2_decide (k := 41) rfl (by decide) ?_
      refine y_icmp_ge 148 Q_X2_decide (k := 42) rfl (by decide) z6 ⟨by decide, by decide⟩ (fun c => ?_) (fun c => ?_)
      · replace h := h.1 c
        exact y_fg (zsb_c rfl (zsb_c rfl (zsb_c rfl (zsb_n (zsb_c rfl (zsb_c rfl (zsb_c rfl zsb_e))))))) (hK l5 l6 V J hB z5 z6 h)
      · replace h := h.2 c
        refine z_iload Q_X2_decide (k := 43) rfl rfl ?_
        refine y_if_eq 148 Q_X2_decide (k := 44) rfl (by decide) z5 (fun c => ?_) (fun c => ?_)
        · replace h := h.1 c
          exact y_fg (zsb_c rfl (zsb_c rfl (zsb_c rfl (zsb_n (zsb_c rfl (zsb_c rfl (zsb_c rfl zsb_e))))))) (hK l5 l6 V J hB z5 z6 h)
        · replace h := h.2 c
          refine z_aload_n Q_X2_decide (k := 45) rfl rfl ?_
          refine z_aload_n Q_X2_decide (k := 46) rfl rfl ?_
          refine z_iload Q_X2_decide (k := 47) rfl rfl ?_
          refine z_aload_n Q_X2_decide (k := 48) rfl rfl ?_
          refine q_callV3_uVJ Q_X2_decide (k := 49) rfl rfl K_X2_workCondition V_X2_workCondition L_X2_22 (n_ hB.1 rfl) (k_151 hB.1) (Nat.le_of_ble_eq_true rfl) (Nat.le_of_ble_eq_true rfl) rfl (Nat.zero_le _) (Nat.zero_le _) (w_X2_workCondition d hB o1_ z6 (Or.inl rfl) h) (fun V8 J8 hB8 h => ?_)
          refine z_aload_n Q_X2_decide (k := 50) rfl rfl ?_
          refine z_aload Q_X2_decide (k := 51) rfl rfl ?_
          refine z_aload_n Q_X2_decide (k := 52) rfl rfl ?_
          refine z_getR (b := (l1 + 1).toNat) Q_X2_decide (k := 53) rfl F_X2_37 rfl o1_.1.2.1 o1_.1.2.2.1 o1_.2.1.1 ?_
          refine z_iload Q_X2_decide (k := 54) rfl rfl ?_
          obtain ⟨q9, h⟩ := h
          refine q_iald (o := l1 + 1) (N := 12) Q_X2_decide (k := 55) rfl (Int.toNat_of_nonneg o1_.2.2.1.1) o1_.2.2.1.2.1 o1_.2.2.1.2.2.1 rfl q9 (by decide) ?_
          refine q_callV2_zJ Q_X2_decide (k := 56) rfl rfl K_X2_give V_X2_give L_X2_40 (n_ hB8.1 rfl) (k_151 hB8.1) (Nat.le_of_ble_eq_true rfl) (Nat.le_of_ble_eq_true rfl) rfl (Nat.zero_le _) (Nat.zero_le _) (w_X2_give (d + 3) hB8 o4_ (hB8.2.1 _ _) h) (fun r10 J10 hz10 hb10 h => ?_)
          refine y_if_eq 142 Q_X2_decide (k := 57) rfl (by decide) hz10 (fun c => ?_) (fun c => ?_)
          · replace h := h.1 c
            obtain ⟨q11, h⟩ := h
            refine y_iinc (L' := [some (.ref 151), some (.ref l1.toNat), some (.ref 168), none, some (.ref l4.toNat), some (.int (iI l5)), some (.int (iI (l6 + 1)))]) Q_X2_decide (k := 73) rfl (by decide) rfl rfl ?_
            refine z_goto (tgt := 64) Q_X2_decide (k := 74) rfl (by decide) ?_
            exact y_fg (zsb_c rfl (zsb_c rfl (zsb_c rfl (zsb_n (zsb_c rfl (zsb_c rfl (zsb_c rfl zsb_e))))))) (ih l5 (l6 + 1) V8 J10 hB8 z5 q11 h)
          · replace h := h.2 c
            refine z_aload Q_X2_decide (k := 58) rfl rfl ?_
            refine z_iload Q_X2_decide (k := 59) rfl rfl ?_
            refine q_putI (o := l4) (z := 1) Q_X2_decide (k := 60) rfl F_X2_44 rfl (Int.toNat_of_nonneg o4_.1.1) rfl o4_.1.2.1 o4_.1.2.2.1 ?_
            have hB12 := qB.u (a := l4) (j := 1) (x := l6) hB8 z6 (Or.inl o4_.1.2.2.2)
            refine z_aload Q_X2_decide (k := 61) rfl rfl ?_
            refine z_aload Q_X2_decide (k := 62) rfl rfl ?_
            refine q_getI (o := l4) (z := 2) Q_X2_decide (k := 63) rfl F_X2_47 rfl (Int.toNat_of_nonneg o4_.1.1) rfl o4_.1.2.1 o4_.1.2.2.1 ?_
            refine z_aload_n Q_X2_decide (k := 64) rfl rfl ?_
            refine z_getR (b := (l1 + 2).toNat) Q_X2_decide (k := 65) rfl F_X2_50 rfl o1_.1.2.1 o1_.1.2.2.1 o1_.2.1.2.1 ?_
            refine z_iload Q_X2_decide (k := 66) rfl rfl ?_
            obtain ⟨q13, h⟩ := h
            refine q_iald (o := l1 + 2) (N := 12) Q_X2_decide (k := 67) rfl (Int.toNat_of_nonneg o1_.2.2.2.1.1) o1_.2.2.2.1.2.1 o1_.2.2.2.1.2.2.1 rfl q13 (by decide) ?_
            refine y_max Q_X2_decide (k := 68) rfl L_X2_53 G_max (Nat.le_of_ble_eq_true rfl) (hB12.2.1 _ _) (hB12.2.1 _ _) ?_
            refine q_putI (o := l4) (z := 2) Q_X2_decide (k := 69) rfl F_X2_47 rfl (Int.toNat_of_nonneg o4_.1.1) rfl o4_.1.2.1 o4_.1.2.2.1 ?_
            have hB14 := qB.u (a := l4) (j := 2) (x := max ((qu V8 l4 1 l6) l4 2) ((qu V8 l4 1 l6) (l1 + 2) l6)) hB12 (q_mx (hB12.2.1 _ _) (hB12.2.1 _ _)) (Or.inl o4_.1.2.2.2)
            refine z_aload_n Q_X2_decide (k := 70) rfl rfl ?_
            refine q_callV0_z Q_X2_decide (k := 71) rfl rfl K_X2_anyUndecided V_X2_anyUndecided L_X2_59 (n_ hB14.1 rfl) (k_151 hB14.1) (Nat.le_of_ble_eq_true rfl) (Nat.le_of_ble_eq_true rfl) rfl (Nat.zero_le _) (Nat.zero_le _) (w_X2_anyUndecided (d + 3) hB14  h) (fun r15 hz15 hb15 h => ?_)
            refine y_istore (L' := [some (.ref 151), some (.ref l1.toNat), some (.ref 168), none, some (.ref l4.toNat), some (.int (iI r15)), some (.int (iI l6))]) Q_X2_decide (k := 72) rfl (by decide) rfl ?_
            obtain ⟨q16, h⟩ := h
            refine y_iinc (L' := [some (.ref 151), some (.ref l1.toNat), some (.ref 168), none, some (.ref l4.toNat), some (.int (iI r15)), some (.int (iI (l6 + 1)))]) Q_X2_decide (k := 73) rfl (by decide) rfl rfl ?_
            refine z_goto (tgt := 64) Q_X2_decide (k := 74) rfl (by decide) ?_
            exact y_fg (zsb_c rfl (zsb_c rfl (zsb_c rfl (zsb_n (zsb_c rfl (zsb_c rfl (zsb_c rfl zsb_e))))))) (ih r15 (l6 + 1) (qu (qu V8 l4 1 l6) l4 2 (max ((qu V8 l4 1 l6) l4 2) ((qu V8 l4 1 l6) (l1 + 2) l6))) J10 hB14 hz15 q16 h)
set_option maxHeartbeats 4000000 in
set_option maxRecDepth 20000 in
theorem w_X2_decide {S : zS} {V : qV} {J : qJ} {Q : qV → qJ → Prop} (d : Nat) (hB : qB S V) {a1 : Int} (p1 : qLa S a1) {a4 : Int} (p4 : qVe S a4) (h : W_X2_decide a1 a4 V J Q) : Z M_X2_decide (d + 4) 0 0 0 [some (.ref 151), some (.ref a1.toNat), some (.ref 168), some (.ref 166), some (.ref a4.toNat), none, none] [] S (qi V) (qj J) (qP_uVJ S Q) := by
  unfold W_X2_decide at h
  refine z_aload Q_X2_decide (k := 0) rfl rfl ?_
  refine q_callV0_uVJ Q_X2_decide (k := 1) rfl rfl K_X9_clear V_X9_clear L_X2_26 p4.1.2.1 p4.1.2.2.1 (Nat.le_of_ble_eq_true rfl) (Nat.le_of_ble_eq_true rfl) rfl (Nat.zero_le _) (Nat.zero_le _) (w_X9_clear (d + 3) hB p4 h) (fun V1 J1 hB1 h => ?_)
  refine y_iconst Q_X2_decide (k := 2) rfl ?_
  refine y_istore (L' := [some (.ref 151), some (.ref a1.toNat), some (.ref 168), some (.ref 166), some (.ref a4.toNat), some (.int (iI 0)), none]) Q_X2_decide (k := 3) rfl (by decide) rfl ?_
  refine y_iconst Q_X2_decide (k := 4) rfl ?_
  refine y_istore (L' := [some (.ref 151), some (.ref a1.toNat), some (.ref 168), some (.ref 166), some (.ref a4.toNat), some (.int (iI 0)), some (.int (iI 0))]) Q_X2_decide (k := 5) rfl (by decide) rfl ?_
  refine y_fg (zsb_c rfl (zsb_c rfl (zsb_c rfl (zsb_c rfl (zsb_c rfl (zsb_c rfl (zsb_c rfl zsb_e))))))) (v_X2_decide_11 d hB1 p1 p4 (fun l5x7 l6x7 J7 zl5x7 zl6x7 h => ?_) 100000 0 0 J1 ⟨by decide, by decide⟩ ⟨by decide, by decide⟩ h)
  refine y_iconst Q_X2_decide (k := 34) rfl ?_
  refine y_istore (L' := [some (.ref 151), some (.ref a1.toNat), some (.ref 168), some (.ref 166), some (.ref a4.toNat), some (.int (iI l5x7)), some (.int (iI 0))]) Q_X2_decide (k := 35) rfl (by decide) rfl ?_
  refine y_fg (zsb_c rfl (zsb_c rfl (zsb_c rfl (zsb_n (zsb_c rfl (zsb_c rfl (zsb_c rfl zsb_e))))))) (v_X2_decide_64 d p1 p4 (fun l5x17 l6x17 V17 J17 hB17 zl5x17 zl6x17 h => ?_) 100000 l5x7 0 V1 J7 hB1 zl5x7 ⟨by decide, by decide⟩ h)
  refine z_iload Q_X2_decide (k := 75) rfl rfl ?_
  refine y_if_eq 166 Q_X2_decide (k := 76) rfl (by decide) zl5x17 (fun c => ?_) (fun c => ?_)
  · replace h := h.1 c
    exact z_vret Q_X2_decide (k := 85) rfl rfl (qI_uVJ hB17 h)
  · replace h := h.2 c
    refine z_aload_n Q_X2_decide (k := 77) rfl rfl ?_
    refine y_iconst Q_X2_decide (k := 78) rfl ?_
    refine q_callV1_uVJ Q_X2_decide (k := 79) rfl rfl K_X2_pushAll V_X2_pushAll L_X2_63 (n_ hB17.1 rfl) (k_151 hB17.1) (Nat.le_of_ble_eq_true rfl) (Nat.le_of_ble_eq_true rfl) rfl (Nat.zero_le _) (Nat.zero_le _) (w_X2_pushAll (d + 3) hB17 ⟨by decide, by decide⟩ (Or.inr rfl) h) (fun V18 J18 hB18 h => ?_)
    refine z_aload_n Q_X2_decide (k := 80) rfl rfl ?_
    refine z_aload Q_X2_decide (k := 81) rfl rfl ?_
    refine y_iconst Q_X2_decide (k := 82) rfl ?_
    refine q_callV2_zJ Q_X2_decide (k := 83) rfl rfl K_X2_give V_X2_give L_X2_40 (n_ hB18.1 rfl) (k_151 hB18.1) (Nat.le_of_ble_eq_true rfl) (Nat.le_of_ble_eq_true rfl) rfl (Nat.zero_le _) (Nat.zero_le _) (w_X2_give (d + 3) hB18 p4 ⟨by decide, by decide⟩ h) (fun r19 J19 hz19 hb19 h => ?_)
    refine z_pop Q_X2_decide (k := 84) rfl rfl ?_
    exact z_vret Q_X2_decide (k := 85) rfl rfl (qI_uVJ hB18 h)
set_option maxHeartbeats 4000000 in
set_option maxRecDepth 20000 in
theorem w_X3_clear {S : zS} {V : qV} {J : qJ} {Q : qV → Prop} (d : Nat) (hB : qB S V) {a0 : Int} (p0 : qLa S a0) (h : W_X3_clear a0 V Q) : Z M_X3_clear d 0 0 0 [some (.ref a0.toNat)] [] S (qi V) (qj J) (qP_uV S J Q) := by
  unfold W_X3_clear at h
  refine z_aload_n Q_X3_clear (k := 0) rfl rfl ?_
  refine y_iconst Q_X3_clear (k := 1) rfl ?_
  refine q_putI (o := a0) (z := 0) Q_X3_clear (k := 2) rfl F_X3_24 rfl (Int.toNat_of_nonneg p0.1.1) rfl p0.1.2.1 p0.1.2.2.1 ?_
  have hB1 := qB.u (a := a0) (j := 0) (x := 0) hB ⟨by decide, by decide⟩ (Or.inl p0.1.2.2.2)
  refine z_aload_n Q_X3_clear (k := 3) rfl rfl ?_
  refine y_iconst Q_X3_clear (k := 4) rfl ?_
  refine q_putI (o := a0) (z := 5) Q_X3_clear (k := 5) rfl F_X3_28 rfl (Int.toNat_of_nonneg p0.1.1) rfl p0.1.2.1 p0.1.2.2.1 ?_
  have hB2 := qB.u (a := a0) (j := 5) (x := 0) hB1 ⟨by decide, by decide⟩ (Or.inl p0.1.2.2.2)
  refine z_aload_n Q_X3_clear (k := 6) rfl rfl ?_
  refine y_iconst Q_X3_clear (k := 7) rfl ?_
  refine q_putI (o := a0) (z := 6) Q_X3_clear (k := 8) rfl F_X3_31 rfl (Int.toNat_of_nonneg p0.1.1) rfl p0.1.2.1 p0.1.2.2.1 ?_
  have hB3 := qB.u (a := a0) (j := 6) (x := 0) hB2 ⟨by decide, by decide⟩ (Or.inl p0.1.2.2.2)
  exact z_vret Q_X3_clear (k := 9) rfl rfl (qI_uV hB3 h)
set_option maxHeartbeats 4000000 in
set_option maxRecDepth 20000 in
theorem w_X3_addRule {S : zS} {V : qV} {J : qJ} {Q : qV → Prop} (d : Nat) (hB : qB S V) {a0 : Int} (p0 : qLa S a0) {a1 : Int} (z1 : zr a1) {a2 : Int} (z2 : zr a2) (h : W_X3_addRule a0 a1 a2 V Q) : Z M_X3_addRule d 0 0 0 [some (.ref a0.toNat), some (.int (iI a1)), some (.int (iI a2))] [] S (qi V) (qj J) (qP_uV S J Q) := by
  unfold W_X3_addRule at h
  refine z_aload_n Q_X3_addRule (k := 0) rfl rfl ?_
  refine q_getI (o := a0) (z := 0) Q_X3_addRule (k := 1) rfl F_X3_24 rfl (Int.toNat_of_nonneg p0.1.1) rfl p0.1.2.1 p0.1.2.2.1 ?_
  refine y_bipush Q_X3_addRule (k := 2) rfl (by decide) ?_
  refine y_icmp_ge 52 Q_X3_addRule (k := 3) rfl (by decide) (hB.2.1 _ _) ⟨by decide, by decide⟩ (fun c => ?_) (fun c => ?_)
  · replace h := h.1 c
    exact z_vret Q_X3_addRule (k := 29) rfl rfl (qI_uV hB h)
  · replace h := h.2 c
    refine z_aload_n Q_X3_addRule (k := 4) rfl rfl ?_
    refine z_getR (b := (a0 + 1).toNat) Q_X3_addRule (k := 5) rfl F_X3_9 rfl p0.1.2.1 p0.1.2.2.1 p0.2.1.1 ?_
    refine z_aload_n Q_X3_addRule (k := 6) rfl rfl ?_
    refine q_getI (o := a0) (z := 0) Q_X3_addRule (k := 7) rfl F_X3_24 rfl (Int.toNat_of_nonneg p0.1.1) rfl p0.1.2.1 p0.1.2.2.1 ?_
    refine z_iload_n Q_X3_addRule (k := 8) rfl rfl ?_
    obtain ⟨q1, h⟩ := h
    refine q_iast (o := a0 + 1) (N := 12) Q_X3_addRule (k := 9) rfl (Int.toNat_of_nonneg p0.2.2.1.1) p0.2.2.1.2.1 p0.2.2.1.2.2.1 rfl q1 (by decide) ?_
    have hB2 := qB.u (a := a0 + 1) (j := V a0 0) (x := a1) hB z1 (Or.inl p0.2.2.1.2.2.2)
    refine z_aload_n Q_X3_addRule (k := 10) rfl rfl ?_
    refine z_getR (b := (a0 + 2).toNat) Q_X3_addRule (k := 11) rfl F_X3_15 rfl p0.1.2.1 p0.1.2.2.1 p0.2.1.2.1 ?_
    refine z_aload_n Q_X3_addRule (k := 12) rfl rfl ?_
    refine q_getI (o := a0) (z := 0) Q_X3_addRule (k := 13) rfl F_X3_24 rfl (Int.toNat_of_nonneg p0.1.1) rfl p0.1.2.1 p0.1.2.2.1 ?_
    refine z_iload_n Q_X3_addRule (k := 14) rfl rfl ?_
    obtain ⟨q3, h⟩ := h
    refine q_iast (o := a0 + 2) (N := 12) Q_X3_addRule (k := 15) rfl (Int.toNat_of_nonneg p0.2.2.2.1.1) p0.2.2.2.1.2.1 p0.2.2.2.1.2.2.1 rfl q3 (by decide) ?_
    have hB4 := qB.u (a := a0 + 2) (j := (qu V (a0 + 1) (V a0 0) a1) a0 0) (x := a2) hB2 z2 (Or.inl p0.2.2.2.1.2.2.2)
    refine z_aload_n Q_X3_addRule (k := 16) rfl rfl ?_
    refine z_getR (b := (a0 + 3).toNat) Q_X3_addRule (k := 17) rfl F_X3_18 rfl p0.1.2.1 p0.1.2.2.1 p0.2.1.2.2.1 ?_
    refine z_aload_n Q_X3_addRule (k := 18) rfl rfl ?_
    refine q_getI (o := a0) (z := 0) Q_X3_addRule (k := 19) rfl F_X3_24 rfl (Int.toNat_of_nonneg p0.1.1) rfl p0.1.2.1 p0.1.2.2.1 ?_
    refine z_aload_n Q_X3_addRule (k := 20) rfl rfl ?_
    refine q_getI (o := a0) (z := 5) Q_X3_addRule (k := 21) rfl F_X3_28 rfl (Int.toNat_of_nonneg p0.1.1) rfl p0.1.2.1 p0.1.2.2.1 ?_
    obtain ⟨q5, h⟩ := h
    refine q_iast (o := a0 + 3) (N := 12) Q_X3_addRule (k := 22) rfl (Int.toNat_of_nonneg p0.2.2.2.2.1.1) p0.2.2.2.2.1.2.1 p0.2.2.2.2.1.2.2.1 rfl q5 (by decide) ?_
    have hB6 := qB.u (a := a0 + 3) (j := (qu (qu V (a0 + 1) (V a0 0) a1) (a0 + 2) ((qu V (a0 + 1) (V a0 0) a1) a0 0) a2) a0 0) (x := (qu (qu V (a0 + 1) (V a0 0) a1) (a0 + 2) ((qu V (a0 + 1) (V a0 0) a1) a0 0) a2) a0 5) hB4 (hB4.2.1 _ _) (Or.inl p0.2.2.2.2.1.2.2.2)
    refine z_aload_n Q_X3_addRule (k := 23) rfl rfl ?_
    refine z_dup Q_X3_addRule (k := 24) rfl rfl ?_
    refine q_getI (o := a0) (z := 0) Q_X3_addRule (k := 25) rfl F_X3_24 rfl (Int.toNat_of_nonneg p0.1.1) rfl p0.1.2.1 p0.1.2.2.1 ?_
    refine y_iconst Q_X3_addRule (k := 26) rfl ?_
    obtain ⟨q7, h⟩ := h
    refine y_iadd Q_X3_addRule (k := 27) rfl ?_
    refine q_putI (o := a0) (z := 0) Q_X3_addRule (k := 28) rfl F_X3_24 rfl (Int.toNat_of_nonneg p0.1.1) rfl p0.1.2.1 p0.1.2.2.1 ?_
    have hB8 := qB.u (a := a0) (j := 0) (x := ((qu (qu (qu V (a0 + 1) (V a0 0) a1) (a0 + 2) ((qu V (a0 + 1) (V a0 0) a1) a0 0) a2) (a0 + 3) ((qu (qu V (a0 + 1) (V a0 0) a1) (a0 + 2) ((qu V (a0 + 1) (V a0 0) a1) a0 0) a2) a0 0) ((qu (qu V (a0 + 1) (V a0 0) a1) (a0 + 2) ((qu V (a0 + 1) (V a0 0) a1) a0 0) a2) a0 5)) a0 0) + 1) hB6 q7 (Or.inl p0.1.2.2.2)
    exact z_vret Q_X3_addRule (k := 29) rfl rfl (qI_uV hB8 h)
set_option maxHeartbeats 4000000 in
set_option maxRecDepth 20000 in
theorem w_X3_addCode {S : zS} {V : qV} {J : qJ} {Q : qV → Prop} (d : Nat) (hB : qB S V) {a0 : Int} (p0 : qLa S a0) {a1 : Int} (z1 : zr a1) {a2 : Int} (z2 : zr a2) (h : W_X3_addCode a0 a1 a2 V Q) : Z M_X3_addCode d 0 0 0 [some (.ref a0.toNat), some (.int (iI a1)), some (.int (iI a2))] [] S (qi V) (qj J) (qP_uV S J Q) := by
  unfold W_X3_addCode at h
  refine z_aload_n Q_X3_addCode (k := 0) rfl rfl ?_
  refine q_getI (o := a0) (z := 5) Q_X3_addCode (k := 1) rfl F_X3_28 rfl (Int.toNat_of_nonneg p0.1.1) rfl p0.1.2.1 p0.1.2.2.1 ?_
  refine y_sipush Q_X3_addCode (k := 2) rfl (by decide) ?_
  refine y_icmp_ge 57 Q_X3_addCode (k := 3) rfl (by decide) (hB.2.1 _ _) ⟨by decide, by decide⟩ (fun c => ?_) (fun c => ?_)
  · replace h := h.1 c
    exact z_vret Q_X3_addCode (k := 32) rfl rfl (qI_uV hB h)
  · replace h := h.2 c
    refine z_aload_n Q_X3_addCode (k := 4) rfl rfl ?_
    refine q_getI (o := a0) (z := 0) Q_X3_addCode (k := 5) rfl F_X3_24 rfl (Int.toNat_of_nonneg p0.1.1) rfl p0.1.2.1 p0.1.2.2.1 ?_
    refine y_if_le 57 Q_X3_addCode (k := 6) rfl (by decide) (hB.2.1 _ _) (fun c => ?_) (fun c => ?_)
    · replace h := h.1 c
      exact z_vret Q_X3_addCode (k := 32) rfl rfl (qI_uV hB h)
    · replace h := h.2 c
      refine z_aload_n Q_X3_addCode (k := 7) rfl rfl ?_
      refine z_getR (b := (a0 + 4).toNat) Q_X3_addCode (k := 8) rfl F_X3_21 rfl p0.1.2.1 p0.1.2.2.1 p0.2.1.2.2.2 ?_
      refine z_aload_n Q_X3_addCode (k := 9) rfl rfl ?_
      refine q_getI (o := a0) (z := 5) Q_X3_addCode (k := 10) rfl F_X3_28 rfl (Int.toNat_of_nonneg p0.1.1) rfl p0.1.2.1 p0.1.2.2.1 ?_
      refine z_iload_n Q_X3_addCode (k := 11) rfl rfl ?_
      refine y_bipush Q_X3_addCode (k := 12) rfl (by decide) ?_
      refine y_ishl Q_X3_addCode (k := 13) rfl ?_
      refine z_iload_n Q_X3_addCode (k := 14) rfl rfl ?_
      refine y_ior Q_X3_addCode (k := 15) rfl ?_
      obtain ⟨q1, h⟩ := h
      refine q_iast (o := a0 + 4) (N := 400) Q_X3_addCode (k := 16) rfl (Int.toNat_of_nonneg p0.2.2.2.2.2.1) p0.2.2.2.2.2.2.1 p0.2.2.2.2.2.2.2.1 rfl q1 (by decide) ?_
      have hB2 := qB.u (a := a0 + 4) (j := V a0 5) (x := zor (zshl a1 14) a2) hB (zor_r _ _) (Or.inl p0.2.2.2.2.2.2.2.2)
      refine z_aload_n Q_X3_addCode (k := 17) rfl rfl ?_
      refine z_dup Q_X3_addCode (k := 18) rfl rfl ?_
      refine q_getI (o := a0) (z := 5) Q_X3_addCode (k := 19) rfl F_X3_28 rfl (Int.toNat_of_nonneg p0.1.1) rfl p0.1.2.1 p0.1.2.2.1 ?_
      refine y_iconst Q_X3_addCode (k := 20) rfl ?_
      obtain ⟨q3, h⟩ := h
      refine y_iadd Q_X3_addCode (k := 21) rfl ?_
      refine q_putI (o := a0) (z := 5) Q_X3_addCode (k := 22) rfl F_X3_28 rfl (Int.toNat_of_nonneg p0.1.1) rfl p0.1.2.1 p0.1.2.2.1 ?_
      have hB4 := qB.u (a := a0) (j := 5) (x := ((qu V (a0 + 4) (V a0 5) (zor (zshl a1 14) a2)) a0 5) + 1) hB2 q3 (Or.inl p0.1.2.2.2)
      refine z_aload_n Q_X3_addCode (k := 23) rfl rfl ?_
      refine z_getR (b := (a0 + 3).toNat) Q_X3_addCode (k := 24) rfl F_X3_18 rfl p0.1.2.1 p0.1.2.2.1 p0.2.1.2.2.1 ?_
      refine z_aload_n Q_X3_addCode (k := 25) rfl rfl ?_
      refine q_getI (o := a0) (z := 0) Q_X3_addCode (k := 26) rfl F_X3_24 rfl (Int.toNat_of_nonneg p0.1.1) rfl p0.1.2.1 p0.1.2.2.1 ?_
      refine y_iconst Q_X3_addCode (k := 27) rfl ?_
      obtain ⟨q5, h⟩ := h
      refine y_isub Q_X3_addCode (k := 28) rfl ?_
      refine z_aload_n Q_X3_addCode (k := 29) rfl rfl ?_
      refine q_getI (o := a0) (z := 5) Q_X3_addCode (k := 30) rfl F_X3_28 rfl (Int.toNat_of_nonneg p0.1.1) rfl p0.1.2.1 p0.1.2.2.1 ?_
      obtain ⟨q6, h⟩ := h
      refine q_iast (o := a0 + 3) (N := 12) Q_X3_addCode (k := 31) rfl (Int.toNat_of_nonneg p0.2.2.2.2.1.1) p0.2.2.2.2.1.2.1 p0.2.2.2.2.1.2.2.1 rfl q6 (by decide) ?_
      have hB7 := qB.u (a := a0 + 3) (j := ((qu (qu V (a0 + 4) (V a0 5) (zor (zshl a1 14) a2)) a0 5 (((qu V (a0 + 4) (V a0 5) (zor (zshl a1 14) a2)) a0 5) + 1)) a0 0) - 1) (x := (qu (qu V (a0 + 4) (V a0 5) (zor (zshl a1 14) a2)) a0 5 (((qu V (a0 + 4) (V a0 5) (zor (zshl a1 14) a2)) a0 5) + 1)) a0 5) hB4 (hB4.2.1 _ _) (Or.inl p0.2.2.2.2.1.2.2.2)
      exact z_vret Q_X3_addCode (k := 32) rfl rfl (qI_uV hB7 h)
set_option maxHeartbeats 4000000 in
set_option maxRecDepth 20000 in
theorem w_X3_addUse {S : zS} {V : qV} {J : qJ} {Q : qV → Prop} (d : Nat) (hB : qB S V) {a0 : Int} (p0 : qLa S a0) {a1 : Int} (z1 : zr a1) (h : W_X3_addUse a0 a1 V Q) : Z M_X3_addUse d 0 0 0 [some (.ref a0.toNat), some (.int (iI a1))] [] S (qi V) (qj J) (qP_uV S J Q) := by
  unfold W_X3_addUse at h
  refine z_aload_n Q_X3_addUse (k := 0) rfl rfl ?_
  refine z_dup Q_X3_addUse (k := 1) rfl rfl ?_
  refine q_getI (o := a0) (z := 6) Q_X3_addUse (k := 2) rfl F_X3_31 rfl (Int.toNat_of_nonneg p0.1.1) rfl p0.1.2.1 p0.1.2.2.1 ?_
  refine y_iconst Q_X3_addUse (k := 3) rfl ?_
  refine z_iload_n Q_X3_addUse (k := 4) rfl rfl ?_
  refine y_ishl Q_X3_addUse (k := 5) rfl ?_
  refine y_ior Q_X3_addUse (k := 6) rfl ?_
  refine q_putI (o := a0) (z := 6) Q_X3_addUse (k := 7) rfl F_X3_31 rfl (Int.toNat_of_nonneg p0.1.1) rfl p0.1.2.1 p0.1.2.2.1 ?_
  have hB1 := qB.u (a := a0) (j := 6) (x := zor (V a0 6) (zshl 1 a1)) hB (zor_r _ _) (Or.inl p0.1.2.2.2)
  exact z_vret Q_X3_addUse (k := 8) rfl rfl (qI_uV hB1 h)
set_option maxHeartbeats 4000000 in
set_option maxRecDepth 20000 in
theorem w_X4_begin {S : zS} {V : qV} {J : qJ} {Q : qV → Prop} (d : Nat) (hB : qB S V) {a0 : Int} (p0 : qPa S a0) {a1 : Int} (z1 : zr a1) {a2 : Int} (z2 : zr a2) {a3 : Int} (z3 : zr a3) {a4 : Int} (z4 : zr a4) (h : W_X4_begin a0 a1 a2 a3 a4 V Q) : Z M_X4_begin d 0 0 0 [some (.ref a0.toNat), some (.int (iI a1)), some (.int (iI a2)), some (.int (iI a3)), some (.int (iI a4))] [] S (qi V) (qj J) (qP_uV S J Q) := by
  unfold W_X4_begin at h
  refine z_aload_n Q_X4_begin (k := 0) rfl rfl ?_
  refine z_iload_n Q_X4_begin (k := 1) rfl rfl ?_
  refine q_putI (o := a0) (z := 0) Q_X4_begin (k := 2) rfl F_X4_7 rfl (Int.toNat_of_nonneg p0.1) rfl p0.2.1 p0.2.2.1 ?_
  have hB1 := qB.u (a := a0) (j := 0) (x := a1) hB z1 (Or.inl p0.2.2.2)
  refine z_aload_n Q_X4_begin (k := 3) rfl rfl ?_
  refine z_iload_n Q_X4_begin (k := 4) rfl rfl ?_
  refine q_putI (o := a0) (z := 1) Q_X4_begin (k := 5) rfl F_X4_13 rfl (Int.toNat_of_nonneg p0.1) rfl p0.2.1 p0.2.2.1 ?_
  have hB2 := qB.u (a := a0) (j := 1) (x := a2) hB1 z2 (Or.inl p0.2.2.2)
  refine z_aload_n Q_X4_begin (k := 6) rfl rfl ?_
  refine z_iload_n Q_X4_begin (k := 7) rfl rfl ?_
  refine q_putI (o := a0) (z := 2) Q_X4_begin (k := 8) rfl F_X4_16 rfl (Int.toNat_of_nonneg p0.1) rfl p0.2.1 p0.2.2.1 ?_
  have hB3 := qB.u (a := a0) (j := 2) (x := a3) hB2 z3 (Or.inl p0.2.2.2)
  refine z_aload_n Q_X4_begin (k := 9) rfl rfl ?_
  refine z_iload Q_X4_begin (k := 10) rfl rfl ?_
  refine q_putI (o := a0) (z := 3) Q_X4_begin (k := 11) rfl F_X4_19 rfl (Int.toNat_of_nonneg p0.1) rfl p0.2.1 p0.2.2.1 ?_
  have hB4 := qB.u (a := a0) (j := 3) (x := a4) hB3 z4 (Or.inl p0.2.2.2)
  exact z_vret Q_X4_begin (k := 12) rfl rfl (qI_uV hB4 h)
set_option maxHeartbeats 4000000 in
set_option maxRecDepth 20000 in
theorem v_X5_begin_17 {S : zS} {J : qJ} {K : Int → qV → Prop} {Q : qV → Prop} {kc ks : Nat} (d : Nat) {l0 : Int} (o0_ : qPe S l0) (hK : ∀ (l3 : Int) (V : qV), qB S V → zr l3 → K l3 V → Z M_X5_begin d kc ks 35 [some (.ref l0.toNat), none, none, some (.int (iI l3))] [] S (qi V) (qj J) (qP_uV S J Q)) : ∀ (f : Nat) (l3 : Int) (V : qV), qB S V → zr l3 → lp_X5_begin_17 l0 K f l3 V → Z M_X5_begin d kc ks 17 [some (.ref l0.toNat), none, none, some (.int (iI l3))] [] S (qi V) (qj J) (qP_uV S J Q) := by
  intro f
  induction f with
  | zero =>
    intro l3 V hB z3 h
    exact h.elim
  | succ f ih =>
    intro l3 V hB z3 h
    rw [lp_X5_begin_17] at h
    refine z_iload_n Q_X5_begin (k := 11) rfl rfl ?_
    refine y_iconst Q_X5_begin (k := 12) rfl ?_
    refine y_icmp_ge 35 Q_X5_begin (k := 13) rfl (by decide) z3 ⟨by decide, by decide⟩ (fun c => ?_) (fun c => ?_)
    · replace h := h.1 c
      exact y_fg (zsb_c rfl (zsb_n (zsb_n (zsb_c rfl zsb_e)))) (hK l3 V hB z3 h)
    · replace h := h.2 c
      refine z_aload_n Q_X5_begin (k := 14) rfl rfl ?_
      refine z_getR (b := (l0 + 1).toNat) Q_X5_begin (k := 15) rfl F_X5_9 rfl o0_.1.2.1 o0_.1.2.2.1 o0_.2.1 ?_
      refine z_iload_n Q_X5_begin (k := 16) rfl rfl ?_
      refine y_iconst Q_X5_begin (k := 17) rfl ?_
      obtain ⟨q4, h⟩ := h
      refine q_iast (o := l0 + 1) (N := 4) Q_X5_begin (k := 18) rfl (Int.toNat_of_nonneg o0_.2.2.1) o0_.2.2.2.1 o0_.2.2.2.2.1 rfl q4 (by decide) ?_
      have hB5 := qB.u (a := l0 + 1) (j := l3) (x := 0) hB ⟨by decide, by decide⟩ (Or.inl o0_.2.2.2.2.2)
      obtain ⟨q6, h⟩ := h
      refine y_iinc (L' := [some (.ref l0.toNat), none, none, some (.int (iI (l3 + 1)))]) Q_X5_begin (k := 19) rfl (by decide) rfl rfl ?_
      refine z_goto (tgt := 17) Q_X5_begin (k := 20) rfl (by decide) ?_
      exact y_fg (zsb_c rfl (zsb_n (zsb_n (zsb_c rfl zsb_e)))) (ih (l3 + 1) (qu V (l0 + 1) l3 0) hB5 q6 h)
set_option maxHeartbeats 4000000 in
set_option maxRecDepth 20000 in
theorem w_X5_begin {S : zS} {V : qV} {J : qJ} {Q : qV → Prop} (d : Nat) (hB : qB S V) {a0 : Int} (p0 : qPe S a0) {a1 : Int} (z1 : zr a1) {a2 : Int} (z2 : zr a2) (h : W_X5_begin a0 a1 a2 V Q) : Z M_X5_begin d 0 0 0 [some (.ref a0.toNat), some (.int (iI a1)), some (.int (iI a2)), none] [] S (qi V) (qj J) (qP_uV S J Q) := by
  unfold W_X5_begin at h
  refine z_aload_n Q_X5_begin (k := 0) rfl rfl ?_
  refine z_iload_n Q_X5_begin (k := 1) rfl rfl ?_
  refine q_putI (o := a0) (z := 0) Q_X5_begin (k := 2) rfl F_X5_15 rfl (Int.toNat_of_nonneg p0.1.1) rfl p0.1.2.1 p0.1.2.2.1 ?_
  have hB1 := qB.u (a := a0) (j := 0) (x := a1) hB z1 (Or.inl p0.1.2.2.2)
  refine z_aload_n Q_X5_begin (k := 3) rfl rfl ?_
  refine z_iload_n Q_X5_begin (k := 4) rfl rfl ?_
  refine q_putI (o := a0) (z := 1) Q_X5_begin (k := 5) rfl F_X5_19 rfl (Int.toNat_of_nonneg p0.1.1) rfl p0.1.2.1 p0.1.2.2.1 ?_
  have hB2 := qB.u (a := a0) (j := 1) (x := a2) hB1 z2 (Or.inl p0.1.2.2.2)
  refine z_aload_n Q_X5_begin (k := 6) rfl rfl ?_
  refine y_iconst Q_X5_begin (k := 7) rfl ?_
  refine q_putZ (o := a0) (z := 3) Q_X5_begin (k := 8) rfl F_X5_22 rfl (Or.inl rfl) (Int.toNat_of_nonneg p0.1.1) rfl p0.1.2.1 p0.1.2.2.1 ?_
  have hB3 := qB.u (a := a0) (j := 3) (x := 0) hB2 ⟨by decide, by decide⟩ (Or.inl p0.1.2.2.2)
  refine y_iconst Q_X5_begin (k := 9) rfl ?_
  refine y_istore_n (L' := [some (.ref a0.toNat), some (.int (iI a1)), some (.int (iI a2)), some (.int (iI 0))]) Q_X5_begin (k := 10) rfl (by decide) rfl ?_
  refine y_fg (zsb_c rfl (zsb_n (zsb_n (zsb_c rfl zsb_e)))) (v_X5_begin_17 d p0 (fun l3x7 V7 hB7 zl3x7 h => ?_) 100000 0 (qu (qu (qu V a0 0 a1) a0 1 a2) a0 3 0) hB3 ⟨by decide, by decide⟩ h)
  exact z_vret Q_X5_begin (k := 21) rfl rfl (qI_uV hB7 h)
set_option maxHeartbeats 4000000 in
set_option maxRecDepth 20000 in
theorem w_X5_copy {S : zS} {V : qV} {J : qJ} {Q : qV → Prop} (d : Nat) (hB : qB S V) {a0 : Int} (p0 : qPe S a0) {a1 : Int} (p1 : qPe S a1) (h : W_X5_copy a0 a1 V Q) : Z M_X5_copy d 0 0 0 [some (.ref a0.toNat), some (.ref a1.toNat)] [] S (qi V) (qj J) (qP_uV S J Q) := by
  unfold W_X5_copy at h
  refine z_aload_n Q_X5_copy (k := 0) rfl rfl ?_
  refine z_aload_n Q_X5_copy (k := 1) rfl rfl ?_
  refine q_getI (o := a1) (z := 0) Q_X5_copy (k := 2) rfl F_X5_15 rfl (Int.toNat_of_nonneg p1.1.1) rfl p1.1.2.1 p1.1.2.2.1 ?_
  refine q_putI (o := a0) (z := 0) Q_X5_copy (k := 3) rfl F_X5_15 rfl (Int.toNat_of_nonneg p0.1.1) rfl p0.1.2.1 p0.1.2.2.1 ?_
  have hB1 := qB.u (a := a0) (j := 0) (x := V a1 0) hB (hB.2.1 _ _) (Or.inl p0.1.2.2.2)
  refine z_aload_n Q_X5_copy (k := 4) rfl rfl ?_
  refine z_aload_n Q_X5_copy (k := 5) rfl rfl ?_
  refine q_getI (o := a1) (z := 1) Q_X5_copy (k := 6) rfl F_X5_19 rfl (Int.toNat_of_nonneg p1.1.1) rfl p1.1.2.1 p1.1.2.2.1 ?_
  refine q_putI (o := a0) (z := 1) Q_X5_copy (k := 7) rfl F_X5_19 rfl (Int.toNat_of_nonneg p0.1.1) rfl p0.1.2.1 p0.1.2.2.1 ?_
  have hB2 := qB.u (a := a0) (j := 1) (x := (qu V a0 0 (V a1 0)) a1 1) hB1 (hB1.2.1 _ _) (Or.inl p0.1.2.2.2)
  refine z_aload_n Q_X5_copy (k := 8) rfl rfl ?_
  refine z_aload_n Q_X5_copy (k := 9) rfl rfl ?_
  refine q_getI (o := a1) (z := 3) Q_X5_copy (k := 10) rfl F_X5_22 rfl (Int.toNat_of_nonneg p1.1.1) rfl p1.1.2.1 p1.1.2.2.1 ?_
  obtain ⟨q3, h⟩ := h
  refine q_putZ (o := a0) (z := 3) Q_X5_copy (k := 11) rfl F_X5_22 rfl q3 (Int.toNat_of_nonneg p0.1.1) rfl p0.1.2.1 p0.1.2.2.1 ?_
  have hB4 := qB.u (a := a0) (j := 3) (x := (qu (qu V a0 0 (V a1 0)) a0 1 ((qu V a0 0 (V a1 0)) a1 1)) a1 3) hB2 (hB2.2.1 _ _) (Or.inl p0.1.2.2.2)
  refine z_aload_n Q_X5_copy (k := 12) rfl rfl ?_
  refine z_getR (b := (a1 + 1).toNat) Q_X5_copy (k := 13) rfl F_X5_9 rfl p1.1.2.1 p1.1.2.2.1 p1.2.1 ?_
  refine y_iconst Q_X5_copy (k := 14) rfl ?_
  refine z_aload_n Q_X5_copy (k := 15) rfl rfl ?_
  refine z_getR (b := (a0 + 1).toNat) Q_X5_copy (k := 16) rfl F_X5_9 rfl p0.1.2.1 p0.1.2.2.1 p0.2.1 ?_
  refine y_iconst Q_X5_copy (k := 17) rfl ?_
  refine y_iconst Q_X5_copy (k := 18) rfl ?_
  refine q_copyi (oa := a0 + 1) (ob := a1 + 1) (N := 4) Q_X5_copy (k := 19) rfl L_X5_26 G_copy 4 rfl (by decide) (Int.toNat_of_nonneg p0.2.2.1) (Int.toNat_of_nonneg p1.2.2.1) p0.2.2.2.1 p0.2.2.2.2.1 p1.2.2.2.1 p1.2.2.2.2.1 (by decide) (by decide) (Nat.le_of_ble_eq_true rfl) ?_
  have hB5 := qB.cp (b := a1 + 1) (a := a0 + 1) (n := 4) hB4 p0.2.2.2.2.2
  exact z_vret Q_X5_copy (k := 20) rfl rfl (qI_uV hB5 h)
set_option maxHeartbeats 4000000 in
set_option maxRecDepth 20000 in
theorem v_X6_put_3 {S : zS} {J : qJ} {K : Int → qV → Prop} {Q : qV → Prop} {kc ks : Nat} (d : Nat) {l1 : Int} (z1 : zr l1) (hK : ∀ (l2 : Int) (V : qV), qB S V → zr l2 → K l2 V → Z M_X6_put d kc ks 46 [some (.ref 1), some (.int (iI l1)), some (.int (iI l2))] [] S (qi V) (qj J) (qP_uV S J Q)) : ∀ (f : Nat) (l2 : Int) (V : qV), qB S V → zr l2 → lp_X6_put_3 l1 K f l2 V → Z M_X6_put d kc ks 3 [some (.ref 1), some (.int (iI l1)), some (.int (iI l2))] [] S (qi V) (qj J) (qP_uV S J Q) := by
  intro f
  induction f with
  | zero =>
    intro l2 V hB z2 h
    exact h.elim
  | succ f ih =>
    intro l2 V hB z2 h
    rw [lp_X6_put_3] at h
    refine z_iload_n Q_X6_put (k := 2) rfl rfl ?_
    refine y_if_lt 46 Q_X6_put (k := 3) rfl (by decide) z2 (fun c => ?_) (fun c => ?_)
    · replace h := h.1 c
      exact y_fg (zsb_c rfl (zsb_c rfl (zsb_c rfl zsb_e))) (hK l2 V hB z2 h)
    · replace h := h.2 c
      refine z_aload_n Q_X6_put (k := 4) rfl rfl ?_
      refine q_getI (o := 1) (z := 1) Q_X6_put (k := 5) rfl F_X6_39 rfl rfl rfl (n_ hB.1 rfl) (k_1 hB.1) ?_
      refine y_sipush Q_X6_put (k := 6) rfl (by decide) ?_
      refine y_icmp_ge 46 Q_X6_put (k := 7) rfl (by decide) (hB.2.1 _ _) ⟨by decide, by decide⟩ (fun c => ?_) (fun c => ?_)
      · replace h := h.1 c
        exact y_fg (zsb_c rfl (zsb_c rfl (zsb_c rfl zsb_e))) (hK l2 V hB z2 h)
      · replace h := h.2 c
        refine z_aload_n Q_X6_put (k := 8) rfl rfl ?_
        refine z_getR (b := 2) Q_X6_put (k := 9) rfl F_X6_9 rfl (n_ hB.1 rfl) (k_1 hB.1) (r_1_0 hB.1) ?_
        refine z_aload_n Q_X6_put (k := 10) rfl rfl ?_
        refine q_getI (o := 1) (z := 1) Q_X6_put (k := 11) rfl F_X6_39 rfl rfl rfl (n_ hB.1 rfl) (k_1 hB.1) ?_
        refine z_iload_n Q_X6_put (k := 12) rfl rfl ?_
        refine z_iload_n Q_X6_put (k := 13) rfl rfl ?_
        refine y_ishr Q_X6_put (k := 14) rfl ?_
        refine y_i2b Q_X6_put (k := 15) rfl (zshr_r _ _) ?_
        obtain ⟨q1, h⟩ := h
        refine q_bast (o := 2) (N := 400) Q_X6_put (k := 16) rfl rfl (n_ hB.1 rfl) (k_2 hB.1) rfl q1 (by decide) q_bm2 ?_
        have hB2 := qB.u (a := 2) (j := V 1 1) (x := (zshr l1 l2).bmod 256) hB q_bm (Or.inl (by decide))
        refine z_aload_n Q_X6_put (k := 17) rfl rfl ?_
        refine z_dup Q_X6_put (k := 18) rfl rfl ?_
        refine q_getI (o := 1) (z := 1) Q_X6_put (k := 19) rfl F_X6_39 rfl rfl rfl (n_ hB2.1 rfl) (k_1 hB2.1) ?_
        refine y_iconst Q_X6_put (k := 20) rfl ?_
        obtain ⟨q3, h⟩ := h
        refine y_iadd Q_X6_put (k := 21) rfl ?_
        refine q_putI (o := 1) (z := 1) Q_X6_put (k := 22) rfl F_X6_39 rfl rfl rfl (n_ hB2.1 rfl) (k_1 hB2.1) ?_
        have hB4 := qB.u (a := 1) (j := 1) (x := ((qu V 2 (V 1 1) ((zshr l1 l2).bmod 256)) 1 1) + 1) hB2 q3 (Or.inr (Or.inl ⟨rfl, by decide⟩))
        obtain ⟨q5, h⟩ := h
        refine y_iinc (L' := [some (.ref 1), some (.int (iI l1)), some (.int (iI (l2 + (-8))))]) Q_X6_put (k := 23) rfl (by decide) rfl rfl ?_
        refine z_goto (tgt := 3) Q_X6_put (k := 24) rfl (by decide) ?_
        exact y_fg (zsb_c rfl (zsb_c rfl (zsb_c rfl zsb_e))) (ih (l2 + (-8)) (qu (qu V 2 (V 1 1) ((zshr l1 l2).bmod 256)) 1 1 (((qu V 2 (V 1 1) ((zshr l1 l2).bmod 256)) 1 1) + 1)) hB4 q5 h)
set_option maxHeartbeats 4000000 in
set_option maxRecDepth 20000 in
theorem w_X6_put {S : zS} {V : qV} {J : qJ} {Q : qV → Prop} (d : Nat) (hB : qB S V) {a1 : Int} (z1 : zr a1) (h : W_X6_put a1 V Q) : Z M_X6_put d 0 0 0 [some (.ref 1), some (.int (iI a1)), none] [] S (qi V) (qj J) (qP_uV S J Q) := by
  unfold W_X6_put at h
  refine y_bipush Q_X6_put (k := 0) rfl (by decide) ?_
  refine y_istore_n (L' := [some (.ref 1), some (.int (iI a1)), some (.int (iI 24))]) Q_X6_put (k := 1) rfl (by decide) rfl ?_
  refine y_fg (zsb_c rfl (zsb_c rfl (zsb_c rfl zsb_e))) (v_X6_put_3 d z1 (fun l2x6 V6 hB6 zl2x6 h => ?_) 100000 24 V hB ⟨by decide, by decide⟩ h)
  exact z_vret Q_X6_put (k := 25) rfl rfl (qI_uV hB6 h)
set_option maxHeartbeats 4000000 in
set_option maxRecDepth 20000 in
theorem w_X6_empty {S : zS} {V : qV} {J : qJ} {Q : qV → Prop} (d : Nat) (hB : qB S V) (h : W_X6_empty V Q) : Z M_X6_empty d 0 0 0 [some (.ref 1)] [] S (qi V) (qj J) (qP_uV S J Q) := by
  unfold W_X6_empty at h
  refine z_aload_n Q_X6_empty (k := 0) rfl rfl ?_
  refine y_iconst Q_X6_empty (k := 1) rfl ?_
  refine q_putI (o := 1) (z := 1) Q_X6_empty (k := 2) rfl F_X6_39 rfl rfl rfl (n_ hB.1 rfl) (k_1 hB.1) ?_
  have hB1 := qB.u (a := 1) (j := 1) (x := 0) hB ⟨by decide, by decide⟩ (Or.inr (Or.inl ⟨rfl, by decide⟩))
  refine z_aload_n Q_X6_empty (k := 3) rfl rfl ?_
  refine y_iconst Q_X6_empty (k := 4) rfl ?_
  refine q_putI (o := 1) (z := 12) Q_X6_empty (k := 5) rfl F_X6_25 rfl rfl rfl (n_ hB1.1 rfl) (k_1 hB1.1) ?_
  have hB2 := qB.u (a := 1) (j := 12) (x := (-1)) hB1 ⟨by decide, by decide⟩ (Or.inr (Or.inl ⟨rfl, by decide⟩))
  exact z_vret Q_X6_empty (k := 6) rfl rfl (qI_uV hB2 h)
set_option maxHeartbeats 4000000 in
set_option maxRecDepth 20000 in
theorem w_X6_byteAt {S : zS} {V : qV} {J : qJ} {Q : Int → Prop} (d : Nat) (hB : qB S V) {a1 : Int} (z1 : zr a1) (h : W_X6_byteAt a1 V Q) : Z M_X6_byteAt d 0 0 0 [some (.ref 1), some (.int (iI a1))] [] S (qi V) (qj J) (qP_i S V J Q) := by
  unfold W_X6_byteAt at h
  refine z_iload_n Q_X6_byteAt (k := 0) rfl rfl ?_
  refine y_if_lt 32 Q_X6_byteAt (k := 1) rfl (by decide) z1 (fun c => ?_) (fun c => ?_)
  · replace h := h.1 c
    refine y_iconst Q_X6_byteAt (k := 16) rfl ?_
    exact y_iret Q_X6_byteAt (k := 17) rfl rfl (qI_i ⟨by decide, by decide⟩ h)
  · replace h := h.2 c
    refine z_iload_n Q_X6_byteAt (k := 2) rfl rfl ?_
    refine z_aload_n Q_X6_byteAt (k := 3) rfl rfl ?_
    refine q_getI (o := 1) (z := 2) Q_X6_byteAt (k := 4) rfl F_X6_74 rfl rfl rfl (n_ hB.1 rfl) (k_1 hB.1) ?_
    refine y_icmp_ge 32 Q_X6_byteAt (k := 5) rfl (by decide) z1 (hB.2.1 _ _) (fun c => ?_) (fun c => ?_)
    · replace h := h.1 c
      refine y_iconst Q_X6_byteAt (k := 16) rfl ?_
      exact y_iret Q_X6_byteAt (k := 17) rfl rfl (qI_i ⟨by decide, by decide⟩ h)
    · replace h := h.2 c
      refine z_iload_n Q_X6_byteAt (k := 6) rfl rfl ?_
      refine y_sipush Q_X6_byteAt (k := 7) rfl (by decide) ?_
      refine y_icmp_ge 32 Q_X6_byteAt (k := 8) rfl (by decide) z1 ⟨by decide, by decide⟩ (fun c => ?_) (fun c => ?_)
      · replace h := h.1 c
        refine y_iconst Q_X6_byteAt (k := 16) rfl ?_
        exact y_iret Q_X6_byteAt (k := 17) rfl rfl (qI_i ⟨by decide, by decide⟩ h)
      · replace h := h.2 c
        refine z_aload_n Q_X6_byteAt (k := 9) rfl rfl ?_
        refine z_getR (b := 2) Q_X6_byteAt (k := 10) rfl F_X6_9 rfl (n_ hB.1 rfl) (k_1 hB.1) (r_1_0 hB.1) ?_
        refine z_iload_n Q_X6_byteAt (k := 11) rfl rfl ?_
        obtain ⟨q1, h⟩ := h
        refine q_bald (o := 2) (N := 400) Q_X6_byteAt (k := 12) rfl rfl (n_ hB.1 rfl) (k_2 hB.1) rfl q1 (by decide) ?_
        refine y_sipush Q_X6_byteAt (k := 13) rfl (by decide) ?_
        refine y_iand Q_X6_byteAt (k := 14) rfl ?_
        refine z_goto (tgt := 33) Q_X6_byteAt (k := 15) rfl (by decide) ?_
        exact y_iret Q_X6_byteAt (k := 17) rfl rfl (qI_i (zand_r _ _) h)
set_option maxHeartbeats 4000000 in
set_option maxRecDepth 20000 in
theorem w_X6_isLetter {S : zS} {V : qV} {J : qJ} {Q : Int → Prop} (d : Nat) (hB : qB S V) {a0 : Int} (z0 : zr a0) (h : W_X6_isLetter a0 V Q) : Z M_X6_isLetter d 0 0 0 [some (.int (iI a0))] [] S (qi V) (qj J) (qP_z S V J Q) := by
  unfold W_X6_isLetter at h
  refine z_iload_n Q_X6_isLetter (k := 0) rfl rfl ?_
  refine y_bipush Q_X6_isLetter (k := 1) rfl (by decide) ?_
  refine y_icmp_lt 16 Q_X6_isLetter (k := 2) rfl (by decide) z0 ⟨by decide, by decide⟩ (fun c => ?_) (fun c => ?_)
  · replace h := h.1 c
    refine y_iconst Q_X6_isLetter (k := 8) rfl ?_
    exact y_zret Q_X6_isLetter (k := 9) rfl rfl (Or.inl rfl) (qI_z ⟨by decide, by decide⟩ (Or.inl rfl) h)
  · replace h := h.2 c
    refine z_iload_n Q_X6_isLetter (k := 3) rfl rfl ?_
    refine y_bipush Q_X6_isLetter (k := 4) rfl (by decide) ?_
    refine y_icmp_gt 16 Q_X6_isLetter (k := 5) rfl (by decide) z0 ⟨by decide, by decide⟩ (fun c => ?_) (fun c => ?_)
    · replace h := h.1 c
      refine y_iconst Q_X6_isLetter (k := 8) rfl ?_
      exact y_zret Q_X6_isLetter (k := 9) rfl rfl (Or.inl rfl) (qI_z ⟨by decide, by decide⟩ (Or.inl rfl) h)
    · replace h := h.2 c
      refine y_iconst Q_X6_isLetter (k := 6) rfl ?_
      refine z_goto (tgt := 17) Q_X6_isLetter (k := 7) rfl (by decide) ?_
      exact y_zret Q_X6_isLetter (k := 9) rfl rfl (Or.inr rfl) (qI_z ⟨by decide, by decide⟩ (Or.inr rfl) h)
set_option maxHeartbeats 4000000 in
set_option maxRecDepth 20000 in
theorem w_X6_isDigit {S : zS} {V : qV} {J : qJ} {Q : Int → Prop} (d : Nat) (hB : qB S V) {a0 : Int} (z0 : zr a0) (h : W_X6_isDigit a0 V Q) : Z M_X6_isDigit d 0 0 0 [some (.int (iI a0))] [] S (qi V) (qj J) (qP_z S V J Q) := by
  unfold W_X6_isDigit at h
  refine z_iload_n Q_X6_isDigit (k := 0) rfl rfl ?_
  refine y_bipush Q_X6_isDigit (k := 1) rfl (by decide) ?_
  refine y_icmp_lt 16 Q_X6_isDigit (k := 2) rfl (by decide) z0 ⟨by decide, by decide⟩ (fun c => ?_) (fun c => ?_)
  · replace h := h.1 c
    refine y_iconst Q_X6_isDigit (k := 8) rfl ?_
    exact y_zret Q_X6_isDigit (k := 9) rfl rfl (Or.inl rfl) (qI_z ⟨by decide, by decide⟩ (Or.inl rfl) h)
  · replace h := h.2 c
    refine z_iload_n Q_X6_isDigit (k := 3) rfl rfl ?_
    refine y_bipush Q_X6_isDigit (k := 4) rfl (by decide) ?_
    refine y_icmp_gt 16 Q_X6_isDigit (k := 5) rfl (by decide) z0 ⟨by decide, by decide⟩ (fun c => ?_) (fun c => ?_)
    · replace h := h.1 c
      refine y_iconst Q_X6_isDigit (k := 8) rfl ?_
      exact y_zret Q_X6_isDigit (k := 9) rfl rfl (Or.inl rfl) (qI_z ⟨by decide, by decide⟩ (Or.inl rfl) h)
    · replace h := h.2 c
      refine y_iconst Q_X6_isDigit (k := 6) rfl ?_
      refine z_goto (tgt := 17) Q_X6_isDigit (k := 7) rfl (by decide) ?_
      exact y_zret Q_X6_isDigit (k := 9) rfl rfl (Or.inr rfl) (qI_z ⟨by decide, by decide⟩ (Or.inr rfl) h)
set_option maxHeartbeats 4000000 in
set_option maxRecDepth 20000 in
theorem w_X6_addPiece {S : zS} {V : qV} {J : qJ} {Q : qV → Prop} (d : Nat) (hB : qB S V) {a1 : Int} (z1 : zr a1) {a2 : Int} (z2 : zr a2) {a3 : Int} (z3 : zr a3) (h : W_X6_addPiece a1 a2 a3 V Q) : Z M_X6_addPiece d 0 0 0 [some (.ref 1), some (.int (iI a1)), some (.int (iI a2)), some (.int (iI a3))] [] S (qi V) (qj J) (qP_uV S J Q) := by
  unfold W_X6_addPiece at h
  refine z_aload_n Q_X6_addPiece (k := 0) rfl rfl ?_
  refine q_getI (o := 1) (z := 6) Q_X6_addPiece (k := 1) rfl F_X6_144 rfl rfl rfl (n_ hB.1 rfl) (k_1 hB.1) ?_
  refine y_sipush Q_X6_addPiece (k := 2) rfl (by decide) ?_
  refine y_icmp_gt 50 Q_X6_addPiece (k := 3) rfl (by decide) (hB.2.1 _ _) ⟨by decide, by decide⟩ (fun c => ?_) (fun c => ?_)
  · replace h := h.1 c
    exact z_vret Q_X6_addPiece (k := 28) rfl rfl (qI_uV hB h)
  · replace h := h.2 c
    refine z_aload_n Q_X6_addPiece (k := 4) rfl rfl ?_
    refine z_getR (b := 3) Q_X6_addPiece (k := 5) rfl F_X6_15 rfl (n_ hB.1 rfl) (k_1 hB.1) (r_1_3 hB.1) ?_
    refine z_aload_n Q_X6_addPiece (k := 6) rfl rfl ?_
    refine q_getI (o := 1) (z := 6) Q_X6_addPiece (k := 7) rfl F_X6_144 rfl rfl rfl (n_ hB.1 rfl) (k_1 hB.1) ?_
    refine z_iload_n Q_X6_addPiece (k := 8) rfl rfl ?_
    obtain ⟨q1, h⟩ := h
    refine q_iast (o := 3) (N := 401) Q_X6_addPiece (k := 9) rfl rfl (n_ hB.1 rfl) (k_3 hB.1) rfl q1 (by decide) ?_
    have hB2 := qB.u (a := 3) (j := V 1 6) (x := a1) hB z1 (Or.inl (by decide))
    refine z_aload_n Q_X6_addPiece (k := 10) rfl rfl ?_
    refine z_getR (b := 4) Q_X6_addPiece (k := 11) rfl F_X6_19 rfl (n_ hB2.1 rfl) (k_1 hB2.1) (r_1_4 hB2.1) ?_
    refine z_aload_n Q_X6_addPiece (k := 12) rfl rfl ?_
    refine q_getI (o := 1) (z := 6) Q_X6_addPiece (k := 13) rfl F_X6_144 rfl rfl rfl (n_ hB2.1 rfl) (k_1 hB2.1) ?_
    refine z_iload_n Q_X6_addPiece (k := 14) rfl rfl ?_
    obtain ⟨q3, h⟩ := h
    refine q_iast (o := 4) (N := 401) Q_X6_addPiece (k := 15) rfl rfl (n_ hB2.1 rfl) (k_4 hB2.1) rfl q3 (by decide) ?_
    have hB4 := qB.u (a := 4) (j := (qu V 3 (V 1 6) a1) 1 6) (x := a2) hB2 z2 (Or.inl (by decide))
    refine z_aload_n Q_X6_addPiece (k := 16) rfl rfl ?_
    refine z_getR (b := 5) Q_X6_addPiece (k := 17) rfl F_X6_22 rfl (n_ hB4.1 rfl) (k_1 hB4.1) (r_1_5 hB4.1) ?_
    refine z_aload_n Q_X6_addPiece (k := 18) rfl rfl ?_
    refine q_getI (o := 1) (z := 6) Q_X6_addPiece (k := 19) rfl F_X6_144 rfl rfl rfl (n_ hB4.1 rfl) (k_1 hB4.1) ?_
    refine z_iload_n Q_X6_addPiece (k := 20) rfl rfl ?_
    obtain ⟨q5, h⟩ := h
    refine q_iast (o := 5) (N := 401) Q_X6_addPiece (k := 21) rfl rfl (n_ hB4.1 rfl) (k_5 hB4.1) rfl q5 (by decide) ?_
    have hB6 := qB.u (a := 5) (j := (qu (qu V 3 (V 1 6) a1) 4 ((qu V 3 (V 1 6) a1) 1 6) a2) 1 6) (x := a3) hB4 z3 (Or.inl (by decide))
    refine z_aload_n Q_X6_addPiece (k := 22) rfl rfl ?_
    refine z_dup Q_X6_addPiece (k := 23) rfl rfl ?_
    refine q_getI (o := 1) (z := 6) Q_X6_addPiece (k := 24) rfl F_X6_144 rfl rfl rfl (n_ hB6.1 rfl) (k_1 hB6.1) ?_
    refine y_iconst Q_X6_addPiece (k := 25) rfl ?_
    obtain ⟨q7, h⟩ := h
    refine y_iadd Q_X6_addPiece (k := 26) rfl ?_
    refine q_putI (o := 1) (z := 6) Q_X6_addPiece (k := 27) rfl F_X6_144 rfl rfl rfl (n_ hB6.1 rfl) (k_1 hB6.1) ?_
    have hB8 := qB.u (a := 1) (j := 6) (x := ((qu (qu (qu V 3 (V 1 6) a1) 4 ((qu V 3 (V 1 6) a1) 1 6) a2) 5 ((qu (qu V 3 (V 1 6) a1) 4 ((qu V 3 (V 1 6) a1) 1 6) a2) 1 6) a3) 1 6) + 1) hB6 q7 (Or.inr (Or.inl ⟨rfl, by decide⟩))
    exact z_vret Q_X6_addPiece (k := 28) rfl rfl (qI_uV hB8 h)
set_option maxHeartbeats 4000000 in
set_option maxRecDepth 20000 in
theorem v_X6_wordNumber_11 {S : zS} {V : qV} {J : qJ} {K : Int → Int → Int → Int → Prop} {Q : Int → Prop} {kc ks : Nat} (d : Nat) (hB : qB S V) {l1 : Int} (z1 : zr l1) {l2 : Int} (z2 : zr l2) (hK : ∀ (l3 : Int) (l4 : Int) (l5 : Int) (l6 : Int), zr l3 → zr l4 → zr l5 → zr l6 → K l3 l4 l5 l6 → Z M_X6_wordNumber (d + 4) kc ks 109 [some (.ref 1), some (.int (iI l1)), some (.int (iI l2)), some (.int (iI l3)), some (.int (iI l4)), some (.int (iI l5)), some (.int (iI l6))] [] S (qi V) (qj J) (qP_i S V J Q)) : ∀ (f : Nat) (l3 : Int) (l4 : Int) (l5 : Int) (l6 : Int), zr l3 → zr l4 → zr l5 → zr l6 → lp_X6_wordNumber_11 l1 l2 V K Q f l3 l4 l5 l6 → Z M_X6_wordNumber (d + 4) kc ks 11 [some (.ref 1), some (.int (iI l1)), some (.int (iI l2)), some (.int (iI l3)), some (.int (iI l4)), some (.int (iI l5)), some (.int (iI l6))] [] S (qi V) (qj J) (qP_i S V J Q) := by
  intro f
  induction f with
  | zero =>
    intro l3 l4 l5 l6 z3 z4 z5 z6 h
    exact h.elim
  | succ f ih =>
    intro l3 l4 l5 l6 z3 z4 z5 z6 h
    rw [lp_X6_wordNumber_11] at h
    refine z_iload Q_X6_wordNumber (k := 8) rfl rfl ?_
    refine z_ldcT Q_X6_wordNumber (k := 9) rfl rfl ?_
    refine q_txlen Q_X6_wordNumber (k := 10) rfl rfl L_X6_175 (Nat.le_of_ble_eq_true rfl) ?_
    refine y_icmp_gt 109 Q_X6_wordNumber (k := 11) rfl (by decide) z6 ⟨by decide, by decide⟩ (fun c => ?_) (fun c => ?_)
    · replace h := h.1 c
      exact y_fg (zsb_c rfl (zsb_c rfl (zsb_c rfl (zsb_c rfl (zsb_c rfl (zsb_c rfl (zsb_c rfl zsb_e))))))) (hK l3 l4 l5 l6 z3 z4 z5 z6 h)
    · replace h := h.2 c
      refine z_iload Q_X6_wordNumber (k := 12) rfl rfl ?_
      refine z_ldcT Q_X6_wordNumber (k := 13) rfl rfl ?_
      refine q_txlen Q_X6_wordNumber (k := 14) rfl rfl L_X6_175 (Nat.le_of_ble_eq_true rfl) ?_
      refine y_icmp_eq 43 Q_X6_wordNumber (k := 15) rfl (by decide) z6 ⟨by decide, by decide⟩ (fun c => ?_) (fun c => ?_)
      · replace h := h.1 c
        refine z_iload Q_X6_wordNumber (k := 21) rfl rfl ?_
        refine z_iload Q_X6_wordNumber (k := 22) rfl rfl ?_
        refine y_icmp_ne 60 Q_X6_wordNumber (k := 23) rfl (by decide) z4 z5 (fun c => ?_) (fun c => ?_)
        · replace h := h.2 c
          obtain ⟨q1, h⟩ := h
          refine y_iinc (L' := [some (.ref 1), some (.int (iI l1)), some (.int (iI l2)), some (.int (iI (l3 + 1))), some (.int (iI l4)), some (.int (iI l5)), some (.int (iI l6))]) Q_X6_wordNumber (k := 31) rfl (by decide) rfl rfl ?_
          refine y_iconst Q_X6_wordNumber (k := 32) rfl ?_
          refine y_istore (L' := [some (.ref 1), some (.int (iI l1)), some (.int (iI l2)), some (.int (iI (l3 + 1))), some (.int (iI 0)), some (.int (iI l5)), some (.int (iI l6))]) Q_X6_wordNumber (k := 33) rfl (by decide) rfl ?_
          refine y_iconst Q_X6_wordNumber (k := 34) rfl ?_
          refine y_istore (L' := [some (.ref 1), some (.int (iI l1)), some (.int (iI l2)), some (.int (iI (l3 + 1))), some (.int (iI 0)), some (.int (iI 0)), some (.int (iI l6))]) Q_X6_wordNumber (k := 35) rfl (by decide) rfl ?_
          refine z_goto (tgt := 103) Q_X6_wordNumber (k := 36) rfl (by decide) ?_
          obtain ⟨q2, h⟩ := h
          refine y_iinc (L' := [some (.ref 1), some (.int (iI l1)), some (.int (iI l2)), some (.int (iI (l3 + 1))), some (.int (iI 0)), some (.int (iI 0)), some (.int (iI (l6 + 1)))]) Q_X6_wordNumber (k := 53) rfl (by decide) rfl rfl ?_
          refine z_goto (tgt := 11) Q_X6_wordNumber (k := 54) rfl (by decide) ?_
          exact y_fg (zsb_c rfl (zsb_c rfl (zsb_c rfl (zsb_c rfl (zsb_c rfl (zsb_c rfl (zsb_c rfl zsb_e))))))) (ih (l3 + 1) 0 0 (l6 + 1) q1 ⟨by decide, by decide⟩ ⟨by decide, by decide⟩ q2 h)
        · replace h := h.1 c
          refine z_iload Q_X6_wordNumber (k := 24) rfl rfl ?_
          refine z_iload_n Q_X6_wordNumber (k := 25) rfl rfl ?_
          refine z_iload_n Q_X6_wordNumber (k := 26) rfl rfl ?_
          obtain ⟨q3, h⟩ := h
          refine y_isub Q_X6_wordNumber (k := 27) rfl ?_
          refine y_icmp_ne 60 Q_X6_wordNumber (k := 28) rfl (by decide) z5 q3 (fun c => ?_) (fun c => ?_)
          · replace h := h.2 c
            obtain ⟨q4, h⟩ := h
            refine y_iinc (L' := [some (.ref 1), some (.int (iI l1)), some (.int (iI l2)), some (.int (iI (l3 + 1))), some (.int (iI l4)), some (.int (iI l5)), some (.int (iI l6))]) Q_X6_wordNumber (k := 31) rfl (by decide) rfl rfl ?_
            refine y_iconst Q_X6_wordNumber (k := 32) rfl ?_
            refine y_istore (L' := [some (.ref 1), some (.int (iI l1)), some (.int (iI l2)), some (.int (iI (l3 + 1))), some (.int (iI 0)), some (.int (iI l5)), some (.int (iI l6))]) Q_X6_wordNumber (k := 33) rfl (by decide) rfl ?_
            refine y_iconst Q_X6_wordNumber (k := 34) rfl ?_
            refine y_istore (L' := [some (.ref 1), some (.int (iI l1)), some (.int (iI l2)), some (.int (iI (l3 + 1))), some (.int (iI 0)), some (.int (iI 0)), some (.int (iI l6))]) Q_X6_wordNumber (k := 35) rfl (by decide) rfl ?_
            refine z_goto (tgt := 103) Q_X6_wordNumber (k := 36) rfl (by decide) ?_
            obtain ⟨q5, h⟩ := h
            refine y_iinc (L' := [some (.ref 1), some (.int (iI l1)), some (.int (iI l2)), some (.int (iI (l3 + 1))), some (.int (iI 0)), some (.int (iI 0)), some (.int (iI (l6 + 1)))]) Q_X6_wordNumber (k := 53) rfl (by decide) rfl rfl ?_
            refine z_goto (tgt := 11) Q_X6_wordNumber (k := 54) rfl (by decide) ?_
            exact y_fg (zsb_c rfl (zsb_c rfl (zsb_c rfl (zsb_c rfl (zsb_c rfl (zsb_c rfl (zsb_c rfl zsb_e))))))) (ih (l3 + 1) 0 0 (l6 + 1) q4 ⟨by decide, by decide⟩ ⟨by decide, by decide⟩ q5 h)
          · replace h := h.1 c
            refine z_iload_n Q_X6_wordNumber (k := 29) rfl rfl ?_
            exact y_iret Q_X6_wordNumber (k := 30) rfl rfl (qI_i z3 h)
      · replace h := h.2 c
        refine z_ldcT Q_X6_wordNumber (k := 16) rfl rfl ?_
        refine z_iload Q_X6_wordNumber (k := 17) rfl rfl ?_
        obtain ⟨q6, h⟩ := h
        refine q_txch Q_X6_wordNumber (k := 18) rfl rfl L_X6_180 (Nat.le_of_ble_eq_true rfl) q6 ?_
        refine y_bipush Q_X6_wordNumber (k := 19) rfl (by decide) ?_
        refine y_icmp_ne 72 Q_X6_wordNumber (k := 20) rfl (by decide) (qtx_r _) ⟨by decide, by decide⟩ (fun c => ?_) (fun c => ?_)
        · replace h := h.2 c
          refine z_iload Q_X6_wordNumber (k := 37) rfl rfl ?_
          refine z_aload_n Q_X6_wordNumber (k := 38) rfl rfl ?_
          refine z_iload_n Q_X6_wordNumber (k := 39) rfl rfl ?_
          refine z_iload Q_X6_wordNumber (k := 40) rfl rfl ?_
          obtain ⟨q7, h⟩ := h
          refine y_iadd Q_X6_wordNumber (k := 41) rfl ?_
          refine q_callV1_i Q_X6_wordNumber (k := 42) rfl rfl K_X6_byteAt V_X6_byteAt L_X6_150 (n_ hB.1 rfl) (k_1 hB.1) (Nat.le_of_ble_eq_true rfl) (Nat.le_of_ble_eq_true rfl) rfl (Nat.zero_le _) (Nat.zero_le _) (w_X6_byteAt (d + 3) hB q7 h) (fun r8 hz8 h => ?_)
          refine z_ldcT Q_X6_wordNumber (k := 43) rfl rfl ?_
          refine z_iload Q_X6_wordNumber (k := 44) rfl rfl ?_
          obtain ⟨q9, h⟩ := h
          refine q_txch Q_X6_wordNumber (k := 45) rfl rfl L_X6_180 (Nat.le_of_ble_eq_true rfl) q9 ?_
          refine y_icmp_ne 96 Q_X6_wordNumber (k := 46) rfl (by decide) hz8 (qtx_r _) (fun c => ?_) (fun c => ?_)
          · replace h := h.2 c
            refine y_iconst Q_X6_wordNumber (k := 49) rfl ?_
            obtain ⟨q10, h⟩ := h
            refine y_iadd Q_X6_wordNumber (k := 50) rfl ?_
            refine y_istore (L' := [some (.ref 1), some (.int (iI l1)), some (.int (iI l2)), some (.int (iI l3)), some (.int (iI (l4 + 0))), some (.int (iI l5)), some (.int (iI l6))]) Q_X6_wordNumber (k := 51) rfl (by decide) rfl ?_
            obtain ⟨q11, h⟩ := h
            refine y_iinc (L' := [some (.ref 1), some (.int (iI l1)), some (.int (iI l2)), some (.int (iI l3)), some (.int (iI (l4 + 0))), some (.int (iI (l5 + 1))), some (.int (iI l6))]) Q_X6_wordNumber (k := 52) rfl (by decide) rfl rfl ?_
            obtain ⟨q12, h⟩ := h
            refine y_iinc (L' := [some (.ref 1), some (.int (iI l1)), some (.int (iI l2)), some (.int (iI l3)), some (.int (iI (l4 + 0))), some (.int (iI (l5 + 1))), some (.int (iI (l6 + 1)))]) Q_X6_wordNumber (k := 53) rfl (by decide) rfl rfl ?_
            refine z_goto (tgt := 11) Q_X6_wordNumber (k := 54) rfl (by decide) ?_
            exact y_fg (zsb_c rfl (zsb_c rfl (zsb_c rfl (zsb_c rfl (zsb_c rfl (zsb_c rfl (zsb_c rfl zsb_e))))))) (ih l3 (l4 + 0) (l5 + 1) (l6 + 1) z3 q10 q11 q12 h)
          · replace h := h.1 c
            refine y_iconst Q_X6_wordNumber (k := 47) rfl ?_
            refine z_goto (tgt := 97) Q_X6_wordNumber (k := 48) rfl (by decide) ?_
            obtain ⟨q13, h⟩ := h
            refine y_iadd Q_X6_wordNumber (k := 50) rfl ?_
            refine y_istore (L' := [some (.ref 1), some (.int (iI l1)), some (.int (iI l2)), some (.int (iI l3)), some (.int (iI (l4 + 1))), some (.int (iI l5)), some (.int (iI l6))]) Q_X6_wordNumber (k := 51) rfl (by decide) rfl ?_
            obtain ⟨q14, h⟩ := h
            refine y_iinc (L' := [some (.ref 1), some (.int (iI l1)), some (.int (iI l2)), some (.int (iI l3)), some (.int (iI (l4 + 1))), some (.int (iI (l5 + 1))), some (.int (iI l6))]) Q_X6_wordNumber (k := 52) rfl (by decide) rfl rfl ?_
            obtain ⟨q15, h⟩ := h
            refine y_iinc (L' := [some (.ref 1), some (.int (iI l1)), some (.int (iI l2)), some (.int (iI l3)), some (.int (iI (l4 + 1))), some (.int (iI (l5 + 1))), some (.int (iI (l6 + 1)))]) Q_X6_wordNumber (k := 53) rfl (by decide) rfl rfl ?_
            refine z_goto (tgt := 11) Q_X6_wordNumber (k := 54) rfl (by decide) ?_
            exact y_fg (zsb_c rfl (zsb_c rfl (zsb_c rfl (zsb_c rfl (zsb_c rfl (zsb_c rfl (zsb_c rfl zsb_e))))))) (ih l3 (l4 + 1) (l5 + 1) (l6 + 1) z3 q13 q14 q15 h)
        · replace h := h.1 c
          refine z_iload Q_X6_wordNumber (k := 21) rfl rfl ?_
          refine z_iload Q_X6_wordNumber (k := 22) rfl rfl ?_
          refine y_icmp_ne 60 Q_X6_wordNumber (k := 23) rfl (by decide) z4 z5 (fun c => ?_) (fun c => ?_)
          · replace h := h.2 c
            obtain ⟨q16, h⟩ := h
            refine y_iinc (L' := [some (.ref 1), some (.int (iI l1)), some (.int (iI l2)), some (.int (iI (l3 + 1))), some (.int (iI l4)), some (.int (iI l5)), some (.int (iI l6))]) Q_X6_wordNumber (k := 31) rfl (by decide) rfl rfl ?_
            refine y_iconst Q_X6_wordNumber (k := 32) rfl ?_
            refine y_istore (L' := [some (.ref 1), some (.int (iI l1)), some (.int (iI l2)), some (.int (iI (l3 + 1))), some (.int (iI 0)), some (.int (iI l5)), some (.int (iI l6))]) Q_X6_wordNumber (k := 33) rfl (by decide) rfl ?_
            refine y_iconst Q_X6_wordNumber (k := 34) rfl ?_
            refine y_istore (L' := [some (.ref 1), some (.int (iI l1)), some (.int (iI l2)), some (.int (iI (l3 + 1))), some (.int (iI 0)), some (.int (iI 0)), some (.int (iI l6))]) Q_X6_wordNumber (k := 35) rfl (by decide) rfl ?_
            refine z_goto (tgt := 103) Q_X6_wordNumber (k := 36) rfl (by decide) ?_
            obtain ⟨q17, h⟩ := h
            refine y_iinc (L' := [some (.ref 1), some (.int (iI l1)), some (.int (iI l2)), some (.int (iI (l3 + 1))), some (.int (iI 0)), some (.int (iI 0)), some (.int (iI (l6 + 1)))]) Q_X6_wordNumber (k := 53) rfl (by decide) rfl rfl ?_
            refine z_goto (tgt := 11) Q_X6_wordNumber (k := 54) rfl (by decide) ?_
            exact y_fg (zsb_c rfl (zsb_c rfl (zsb_c rfl (zsb_c rfl (zsb_c rfl (zsb_c rfl (zsb_c rfl zsb_e))))))) (ih (l3 + 1) 0 0 (l6 + 1) q16 ⟨by decide, by decide⟩ ⟨by decide, by decide⟩ q17 h)
          · replace h := h.1 c
            refine z_iload Q_X6_wordNumber (k := 24) rfl rfl ?_
            refine z_iload_n Q_X6_wordNumber (k := 25) rfl rfl ?_
            refine z_iload_n Q_X6_wordNumber (k := 26) rfl rfl ?_
            obtain ⟨q18, h⟩ := h
            refine y_isub Q_X6_wordNumber (k := 27) rfl ?_
            refine y_icmp_ne 60 Q_X6_wordNumber (k := 28) rfl (by decide) z5 q18 (fun c => ?_) (fun c => ?_)
            · replace h := h.2 c
              obtain ⟨q19, h⟩ := h
              refine y_iinc (L' := [some (.ref 1), some (.int (iI l1)), some (.int (iI l2)), some (.int (iI (l3 + 1))), some (.int (iI l4)), some (.int (iI l5)), some (.int (iI l6))]) Q_X6_wordNumber (k := 31) rfl (by decide) rfl rfl ?_
              refine y_iconst Q_X6_wordNumber (k := 32) rfl ?_
              refine y_istore (L' := [some (.ref 1), some (.int (iI l1)), some (.int (iI l2)), some (.int (iI (l3 + 1))), some (.int (iI 0)), some (.int (iI l5)), some (.int (iI l6))]) Q_X6_wordNumber (k := 33) rfl (by decide) rfl ?_
              refine y_iconst Q_X6_wordNumber (k := 34) rfl ?_
              refine y_istore (L' := [some (.ref 1), some (.int (iI l1)), some (.int (iI l2)), some (.int (iI (l3 + 1))), some (.int (iI 0)), some (.int (iI 0)), some (.int (iI l6))]) Q_X6_wordNumber (k := 35) rfl (by decide) rfl ?_
              refine z_goto (tgt := 103) Q_X6_wordNumber (k := 36) rfl (by decide) ?_
              obtain ⟨q20, h⟩ := h
              refine y_iinc (L' := [some (.ref 1), some (.int (iI l1)), some (.int (iI l2)), some (.int (iI (l3 + 1))), some (.int (iI 0)), some (.int (iI 0)), some (.int (iI (l6 + 1)))]) Q_X6_wordNumber (k := 53) rfl (by decide) rfl rfl ?_
              refine z_goto (tgt := 11) Q_X6_wordNumber (k := 54) rfl (by decide) ?_
              exact y_fg (zsb_c rfl (zsb_c rfl (zsb_c rfl (zsb_c rfl (zsb_c rfl (zsb_c rfl (zsb_c rfl zsb_e))))))) (ih (l3 + 1) 0 0 (l6 + 1) q19 ⟨by decide, by decide⟩ ⟨by decide, by decide⟩ q20 h)
            · replace h := h.1 c
              refine z_iload_n Q_X6_wordNumber (k := 29) rfl rfl ?_
              exact y_iret Q_X6_wordNumber (k := 30) rfl rfl (qI_i z3 h)
set_option maxHeartbeats 4000000 in
set_option maxRecDepth 20000 in
theorem w_X6_wordNumber {S : zS} {V : qV} {J : qJ} {Q : Int → Prop} (d : Nat) (hB : qB S V) {a1 : Int} (z1 : zr a1) {a2 : Int} (z2 : zr a2) (h : W_X6_wordNumber a1 a2 V Q) : Z M_X6_wordNumber (d + 4) 0 0 0 [some (.ref 1), some (.int (iI a1)), some (.int (iI a2)), none, none, none, none] [] S (qi V) (qj J) (qP_i S V J Q) := by
  unfold W_X6_wordNumber at h
  refine y_iconst Q_X6_wordNumber (k := 0) rfl ?_
  refine y_istore_n (L' := [some (.ref 1), some (.int (iI a1)), some (.int (iI a2)), some (.int (iI 0)), none, none, none]) Q_X6_wordNumber (k := 1) rfl (by decide) rfl ?_
  refine y_iconst Q_X6_wordNumber (k := 2) rfl ?_
  refine y_istore (L' := [some (.ref 1), some (.int (iI a1)), some (.int (iI a2)), some (.int (iI 0)), some (.int (iI 0)), none, none]) Q_X6_wordNumber (k := 3) rfl (by decide) rfl ?_
  refine y_iconst Q_X6_wordNumber (k := 4) rfl ?_
  refine y_istore (L' := [some (.ref 1), some (.int (iI a1)), some (.int (iI a2)), some (.int (iI 0)), some (.int (iI 0)), some (.int (iI 0)), none]) Q_X6_wordNumber (k := 5) rfl (by decide) rfl ?_
  refine y_iconst Q_X6_wordNumber (k := 6) rfl ?_
  refine y_istore (L' := [some (.ref 1), some (.int (iI a1)), some (.int (iI a2)), some (.int (iI 0)), some (.int (iI 0)), some (.int (iI 0)), some (.int (iI 0))]) Q_X6_wordNumber (k := 7) rfl (by decide) rfl ?_
  refine y_fg (zsb_c rfl (zsb_c rfl (zsb_c rfl (zsb_c rfl (zsb_c rfl (zsb_c rfl (zsb_c rfl zsb_e))))))) (v_X6_wordNumber_11 d hB z1 z2 (fun l3x21 l4x21 l5x21 l6x21 zl3x21 zl4x21 zl5x21 zl6x21 h => ?_) 100000 0 0 0 0 ⟨by decide, by decide⟩ ⟨by decide, by decide⟩ ⟨by decide, by decide⟩ ⟨by decide, by decide⟩ h)
  refine y_iconst Q_X6_wordNumber (k := 55) rfl ?_
  exact y_iret Q_X6_wordNumber (k := 56) rfl rfl (qI_i ⟨by decide, by decide⟩ h)
set_option maxHeartbeats 4000000 in
set_option maxRecDepth 20000 in
theorem v_X6_cutWord_4 {S : zS} {V : qV} {J : qJ} {K : Int → Int → Prop} {Q : Int → qV → Prop} {kc ks : Nat} (d : Nat) (hB : qB S V) {l1 : Int} (z1 : zr l1) (hK : ∀ (l2 : Int) (l3 : Int), zr l2 → zr l3 → K l2 l3 → Z M_X6_cutWord (d + 5) kc ks 31 [some (.ref 1), some (.int (iI l1)), some (.int (iI l2)), some (.int (iI l3))] [] S (qi V) (qj J) (qP_iV S J Q)) : ∀ (f : Nat) (l2 : Int) (l3 : Int), zr l2 → zr l3 → lp_X6_cutWord_4 l1 V K f l2 l3 → Z M_X6_cutWord (d + 5) kc ks 4 [some (.ref 1), some (.int (iI l1)), some (.int (iI l2)), some (.int (iI l3))] [] S (qi V) (qj J) (qP_iV S J Q) := by
  intro f
  induction f with
  | zero =>
    intro l2 l3 z2 z3 h
    exact h.elim
  | succ f ih =>
    intro l2 l3 z2 z3 h
    rw [lp_X6_cutWord_4] at h
    refine z_iload_n Q_X6_cutWord (k := 4) rfl rfl ?_
    refine y_sipush Q_X6_cutWord (k := 5) rfl (by decide) ?_
    refine y_icmp_ge 31 Q_X6_cutWord (k := 6) rfl (by decide) z3 ⟨by decide, by decide⟩ (fun c => ?_) (fun c => ?_)
    · replace h := h.1 c
      exact y_fg (zsb_c rfl (zsb_c rfl (zsb_c rfl (zsb_c rfl zsb_e)))) (hK l2 l3 z2 z3 h)
    · replace h := h.2 c
      refine z_aload_n Q_X6_cutWord (k := 7) rfl rfl ?_
      refine z_iload_n Q_X6_cutWord (k := 8) rfl rfl ?_
      refine q_callV1_i Q_X6_cutWord (k := 9) rfl rfl K_X6_byteAt V_X6_byteAt L_X6_150 (n_ hB.1 rfl) (k_1 hB.1) (Nat.le_of_ble_eq_true rfl) (Nat.le_of_ble_eq_true rfl) rfl (Nat.zero_le _) (Nat.zero_le _) (w_X6_byteAt (d + 4) hB z2 h) (fun r1 hz1 h => ?_)
      refine q_callS1_z Q_X6_cutWord (k := 10) rfl rfl K_X6_isLetter S_X6_isLetter L_X6_154 (Nat.le_of_ble_eq_true rfl) (Nat.le_of_ble_eq_true rfl) rfl (Nat.zero_le _) (Nat.zero_le _) (w_X6_isLetter (d + 4) hB hz1 h) (fun r2 hz2 hb2 h => ?_)
      refine y_if_eq 31 Q_X6_cutWord (k := 11) rfl (by decide) hz2 (fun c => ?_) (fun c => ?_)
      · replace h := h.1 c
        exact y_fg (zsb_c rfl (zsb_c rfl (zsb_c rfl (zsb_c rfl zsb_e)))) (hK l2 l3 z2 z3 h)
      · replace h := h.2 c
        obtain ⟨q3, h⟩ := h
        refine y_iinc (L' := [some (.ref 1), some (.int (iI l1)), some (.int (iI (l2 + 1))), some (.int (iI l3))]) Q_X6_cutWord (k := 12) rfl (by decide) rfl rfl ?_
        obtain ⟨q4, h⟩ := h
        refine y_iinc (L' := [some (.ref 1), some (.int (iI l1)), some (.int (iI (l2 + 1))), some (.int (iI (l3 + 1)))]) Q_X6_cutWord (k := 13) rfl (by decide) rfl rfl ?_
        refine z_goto (tgt := 4) Q_X6_cutWord (k := 14) rfl (by decide) ?_
        exact y_fg (zsb_c rfl (zsb_c rfl (zsb_c rfl (zsb_c rfl zsb_e)))) (ih (l2 + 1) (l3 + 1) q3 q4 h)
set_option maxHeartbeats 4000000 in
set_option maxRecDepth 20000 in
theorem w_X6_cutWord {S : zS} {V : qV} {J : qJ} {Q : Int → qV → Prop} (d : Nat) (hB : qB S V) {a1 : Int} (z1 : zr a1) (h : W_X6_cutWord a1 V Q) : Z M_X6_cutWord (d + 5) 0 0 0 [some (.ref 1), some (.int (iI a1)), none, none] [] S (qi V) (qj J) (qP_iV S J Q) := by
  unfold W_X6_cutWord at h
  refine z_iload_n Q_X6_cutWord (k := 0) rfl rfl ?_
  refine y_istore_n (L' := [some (.ref 1), some (.int (iI a1)), some (.int (iI a1)), none]) Q_X6_cutWord (k := 1) rfl (by decide) rfl ?_
  refine y_iconst Q_X6_cutWord (k := 2) rfl ?_
  refine y_istore_n (L' := [some (.ref 1), some (.int (iI a1)), some (.int (iI a1)), some (.int (iI 0))]) Q_X6_cutWord (k := 3) rfl (by decide) rfl ?_
  refine y_fg (zsb_c rfl (zsb_c rfl (zsb_c rfl (zsb_c rfl zsb_e)))) (v_X6_cutWord_4 d hB z1 (fun l2x5 l3x5 zl2x5 zl3x5 h => ?_) 100000 a1 0 z1 ⟨by decide, by decide⟩ h)
  refine z_aload_n Q_X6_cutWord (k := 15) rfl rfl ?_
  refine z_iload_n Q_X6_cutWord (k := 16) rfl rfl ?_
  refine y_iconst Q_X6_cutWord (k := 17) rfl ?_
  obtain ⟨q6, h⟩ := h
  refine y_iadd Q_X6_cutWord (k := 18) rfl ?_
  refine q_callV1_i Q_X6_cutWord (k := 19) rfl rfl K_X6_byteAt V_X6_byteAt L_X6_150 (n_ hB.1 rfl) (k_1 hB.1) (Nat.le_of_ble_eq_true rfl) (Nat.le_of_ble_eq_true rfl) rfl (Nat.zero_le _) (Nat.zero_le _) (w_X6_byteAt (d + 4) hB q6 h) (fun r7 hz7 h => ?_)
  refine y_istore_n (L' := [some (.ref 1), some (.int (iI a1)), some (.int (iI l2x5)), some (.int (iI r7))]) Q_X6_cutWord (k := 20) rfl (by decide) rfl ?_
  refine z_iload_n Q_X6_cutWord (k := 21) rfl rfl ?_
  refine z_iload_n Q_X6_cutWord (k := 22) rfl rfl ?_
  obtain ⟨q8, h⟩ := h
  refine y_isub Q_X6_cutWord (k := 23) rfl ?_
  refine y_iconst Q_X6_cutWord (k := 24) rfl ?_
  refine y_icmp_ne 99 Q_X6_cutWord (k := 25) rfl (by decide) q8 ⟨by decide, by decide⟩ (fun c => ?_) (fun c => ?_)
  · replace h := h.2 c
    refine z_aload_n Q_X6_cutWord (k := 55) rfl rfl ?_
    refine y_iconst Q_X6_cutWord (k := 56) rfl ?_
    refine z_aload_n Q_X6_cutWord (k := 57) rfl rfl ?_
    refine z_iload_n Q_X6_cutWord (k := 58) rfl rfl ?_
    refine z_iload_n Q_X6_cutWord (k := 59) rfl rfl ?_
    refine q_callV2_i Q_X6_cutWord (k := 60) rfl rfl K_X6_wordNumber V_X6_wordNumber L_X6_170 (n_ hB.1 rfl) (k_1 hB.1) (Nat.le_of_ble_eq_true rfl) (Nat.le_of_ble_eq_true rfl) rfl (Nat.zero_le _) (Nat.zero_le _) (w_X6_wordNumber d hB z1 zl2x5 h) (fun r9 hz9 h => ?_)
    refine z_iload_n Q_X6_cutWord (k := 61) rfl rfl ?_
    refine q_callV3_uV Q_X6_cutWord (k := 62) rfl rfl K_X6_addPiece V_X6_addPiece L_X6_166 (n_ hB.1 rfl) (k_1 hB.1) (Nat.le_of_ble_eq_true rfl) (Nat.le_of_ble_eq_true rfl) rfl (Nat.zero_le _) (Nat.zero_le _) (w_X6_addPiece (d + 4) hB ⟨by decide, by decide⟩ hz9 z1 h) (fun V10 hB10 h => ?_)
    refine z_iload_n Q_X6_cutWord (k := 63) rfl rfl ?_
    exact y_iret Q_X6_cutWord (k := 64) rfl rfl (qI_iV hB10 zl2x5 h)
  · replace h := h.1 c
    refine z_aload_n Q_X6_cutWord (k := 26) rfl rfl ?_
    refine z_iload_n Q_X6_cutWord (k := 27) rfl rfl ?_
    refine q_callV1_i Q_X6_cutWord (k := 28) rfl rfl K_X6_byteAt V_X6_byteAt L_X6_150 (n_ hB.1 rfl) (k_1 hB.1) (Nat.le_of_ble_eq_true rfl) (Nat.le_of_ble_eq_true rfl) rfl (Nat.zero_le _) (Nat.zero_le _) (w_X6_byteAt (d + 4) hB z1 h) (fun r11 hz11 h => ?_)
    refine y_bipush Q_X6_cutWord (k := 29) rfl (by decide) ?_
    refine y_icmp_ne 99 Q_X6_cutWord (k := 30) rfl (by decide) hz11 ⟨by decide, by decide⟩ (fun c => ?_) (fun c => ?_)
    · replace h := h.2 c
      refine z_aload_n Q_X6_cutWord (k := 55) rfl rfl ?_
      refine y_iconst Q_X6_cutWord (k := 56) rfl ?_
      refine z_aload_n Q_X6_cutWord (k := 57) rfl rfl ?_
      refine z_iload_n Q_X6_cutWord (k := 58) rfl rfl ?_
      refine z_iload_n Q_X6_cutWord (k := 59) rfl rfl ?_
      refine q_callV2_i Q_X6_cutWord (k := 60) rfl rfl K_X6_wordNumber V_X6_wordNumber L_X6_170 (n_ hB.1 rfl) (k_1 hB.1) (Nat.le_of_ble_eq_true rfl) (Nat.le_of_ble_eq_true rfl) rfl (Nat.zero_le _) (Nat.zero_le _) (w_X6_wordNumber d hB z1 zl2x5 h) (fun r12 hz12 h => ?_)
      refine z_iload_n Q_X6_cutWord (k := 61) rfl rfl ?_
      refine q_callV3_uV Q_X6_cutWord (k := 62) rfl rfl K_X6_addPiece V_X6_addPiece L_X6_166 (n_ hB.1 rfl) (k_1 hB.1) (Nat.le_of_ble_eq_true rfl) (Nat.le_of_ble_eq_true rfl) rfl (Nat.zero_le _) (Nat.zero_le _) (w_X6_addPiece (d + 4) hB ⟨by decide, by decide⟩ hz12 z1 h) (fun V13 hB13 h => ?_)
      refine z_iload_n Q_X6_cutWord (k := 63) rfl rfl ?_
      exact y_iret Q_X6_cutWord (k := 64) rfl rfl (qI_iV hB13 zl2x5 h)
    · replace h := h.1 c
      refine z_aload_n Q_X6_cutWord (k := 31) rfl rfl ?_
      refine z_iload_n Q_X6_cutWord (k := 32) rfl rfl ?_
      refine q_callV1_i Q_X6_cutWord (k := 33) rfl rfl K_X6_byteAt V_X6_byteAt L_X6_150 (n_ hB.1 rfl) (k_1 hB.1) (Nat.le_of_ble_eq_true rfl) (Nat.le_of_ble_eq_true rfl) rfl (Nat.zero_le _) (Nat.zero_le _) (w_X6_byteAt (d + 4) hB zl2x5 h) (fun r14 hz14 h => ?_)
      refine q_callS1_z Q_X6_cutWord (k := 34) rfl rfl K_X6_isDigit S_X6_isDigit L_X6_160 (Nat.le_of_ble_eq_true rfl) (Nat.le_of_ble_eq_true rfl) rfl (Nat.zero_le _) (Nat.zero_le _) (w_X6_isDigit (d + 4) hB hz14 h) (fun r15 hz15 hb15 h => ?_)
      refine y_if_eq 99 Q_X6_cutWord (k := 35) rfl (by decide) hz15 (fun c => ?_) (fun c => ?_)
      · replace h := h.1 c
        refine z_aload_n Q_X6_cutWord (k := 55) rfl rfl ?_
        refine y_iconst Q_X6_cutWord (k := 56) rfl ?_
        refine z_aload_n Q_X6_cutWord (k := 57) rfl rfl ?_
        refine z_iload_n Q_X6_cutWord (k := 58) rfl rfl ?_
        refine z_iload_n Q_X6_cutWord (k := 59) rfl rfl ?_
        refine q_callV2_i Q_X6_cutWord (k := 60) rfl rfl K_X6_wordNumber V_X6_wordNumber L_X6_170 (n_ hB.1 rfl) (k_1 hB.1) (Nat.le_of_ble_eq_true rfl) (Nat.le_of_ble_eq_true rfl) rfl (Nat.zero_le _) (Nat.zero_le _) (w_X6_wordNumber d hB z1 zl2x5 h) (fun r16 hz16 h => ?_)
        refine z_iload_n Q_X6_cutWord (k := 61) rfl rfl ?_
        refine q_callV3_uV Q_X6_cutWord (k := 62) rfl rfl K_X6_addPiece V_X6_addPiece L_X6_166 (n_ hB.1 rfl) (k_1 hB.1) (Nat.le_of_ble_eq_true rfl) (Nat.le_of_ble_eq_true rfl) rfl (Nat.zero_le _) (Nat.zero_le _) (w_X6_addPiece (d + 4) hB ⟨by decide, by decide⟩ hz16 z1 h) (fun V17 hB17 h => ?_)
        refine z_iload_n Q_X6_cutWord (k := 63) rfl rfl ?_
        exact y_iret Q_X6_cutWord (k := 64) rfl rfl (qI_iV hB17 zl2x5 h)
      · replace h := h.2 c
        refine z_iload_n Q_X6_cutWord (k := 36) rfl rfl ?_
        refine q_callS1_z Q_X6_cutWord (k := 37) rfl rfl K_X6_isDigit S_X6_isDigit L_X6_160 (Nat.le_of_ble_eq_true rfl) (Nat.le_of_ble_eq_true rfl) rfl (Nat.zero_le _) (Nat.zero_le _) (w_X6_isDigit (d + 4) hB hz7 h) (fun r18 hz18 hb18 h => ?_)
        refine y_if_ne 99 Q_X6_cutWord (k := 38) rfl (by decide) hz18 (fun c => ?_) (fun c => ?_)
        · replace h := h.2 c
          refine z_aload_n Q_X6_cutWord (k := 55) rfl rfl ?_
          refine y_iconst Q_X6_cutWord (k := 56) rfl ?_
          refine z_aload_n Q_X6_cutWord (k := 57) rfl rfl ?_
          refine z_iload_n Q_X6_cutWord (k := 58) rfl rfl ?_
          refine z_iload_n Q_X6_cutWord (k := 59) rfl rfl ?_
          refine q_callV2_i Q_X6_cutWord (k := 60) rfl rfl K_X6_wordNumber V_X6_wordNumber L_X6_170 (n_ hB.1 rfl) (k_1 hB.1) (Nat.le_of_ble_eq_true rfl) (Nat.le_of_ble_eq_true rfl) rfl (Nat.zero_le _) (Nat.zero_le _) (w_X6_wordNumber d hB z1 zl2x5 h) (fun r19 hz19 h => ?_)
          refine z_iload_n Q_X6_cutWord (k := 61) rfl rfl ?_
          refine q_callV3_uV Q_X6_cutWord (k := 62) rfl rfl K_X6_addPiece V_X6_addPiece L_X6_166 (n_ hB.1 rfl) (k_1 hB.1) (Nat.le_of_ble_eq_true rfl) (Nat.le_of_ble_eq_true rfl) rfl (Nat.zero_le _) (Nat.zero_le _) (w_X6_addPiece (d + 4) hB ⟨by decide, by decide⟩ hz19 z1 h) (fun V20 hB20 h => ?_)
          refine z_iload_n Q_X6_cutWord (k := 63) rfl rfl ?_
          exact y_iret Q_X6_cutWord (k := 64) rfl rfl (qI_iV hB20 zl2x5 h)
        · replace h := h.1 c
          refine z_iload_n Q_X6_cutWord (k := 39) rfl rfl ?_
          refine q_callS1_z Q_X6_cutWord (k := 40) rfl rfl K_X6_isLetter S_X6_isLetter L_X6_154 (Nat.le_of_ble_eq_true rfl) (Nat.le_of_ble_eq_true rfl) rfl (Nat.zero_le _) (Nat.zero_le _) (w_X6_isLetter (d + 4) hB hz7 h) (fun r21 hz21 hb21 h => ?_)
          refine y_if_ne 99 Q_X6_cutWord (k := 41) rfl (by decide) hz21 (fun c => ?_) (fun c => ?_)
          · replace h := h.2 c
            refine z_aload_n Q_X6_cutWord (k := 55) rfl rfl ?_
            refine y_iconst Q_X6_cutWord (k := 56) rfl ?_
            refine z_aload_n Q_X6_cutWord (k := 57) rfl rfl ?_
            refine z_iload_n Q_X6_cutWord (k := 58) rfl rfl ?_
            refine z_iload_n Q_X6_cutWord (k := 59) rfl rfl ?_
            refine q_callV2_i Q_X6_cutWord (k := 60) rfl rfl K_X6_wordNumber V_X6_wordNumber L_X6_170 (n_ hB.1 rfl) (k_1 hB.1) (Nat.le_of_ble_eq_true rfl) (Nat.le_of_ble_eq_true rfl) rfl (Nat.zero_le _) (Nat.zero_le _) (w_X6_wordNumber d hB z1 zl2x5 h) (fun r22 hz22 h => ?_)
            refine z_iload_n Q_X6_cutWord (k := 61) rfl rfl ?_
            refine q_callV3_uV Q_X6_cutWord (k := 62) rfl rfl K_X6_addPiece V_X6_addPiece L_X6_166 (n_ hB.1 rfl) (k_1 hB.1) (Nat.le_of_ble_eq_true rfl) (Nat.le_of_ble_eq_true rfl) rfl (Nat.zero_le _) (Nat.zero_le _) (w_X6_addPiece (d + 4) hB ⟨by decide, by decide⟩ hz22 z1 h) (fun V23 hB23 h => ?_)
            refine z_iload_n Q_X6_cutWord (k := 63) rfl rfl ?_
            exact y_iret Q_X6_cutWord (k := 64) rfl rfl (qI_iV hB23 zl2x5 h)
          · replace h := h.1 c
            refine z_aload_n Q_X6_cutWord (k := 42) rfl rfl ?_
            refine y_iconst Q_X6_cutWord (k := 43) rfl ?_
            refine z_aload_n Q_X6_cutWord (k := 44) rfl rfl ?_
            refine z_iload_n Q_X6_cutWord (k := 45) rfl rfl ?_
            refine q_callV1_i Q_X6_cutWord (k := 46) rfl rfl K_X6_byteAt V_X6_byteAt L_X6_150 (n_ hB.1 rfl) (k_1 hB.1) (Nat.le_of_ble_eq_true rfl) (Nat.le_of_ble_eq_true rfl) rfl (Nat.zero_le _) (Nat.zero_le _) (w_X6_byteAt (d + 4) hB zl2x5 h) (fun r24 hz24 h => ?_)
            refine y_bipush Q_X6_cutWord (k := 47) rfl (by decide) ?_
            obtain ⟨q25, h⟩ := h
            refine y_isub Q_X6_cutWord (k := 48) rfl ?_
            refine z_iload_n Q_X6_cutWord (k := 49) rfl rfl ?_
            refine q_callV3_uV Q_X6_cutWord (k := 50) rfl rfl K_X6_addPiece V_X6_addPiece L_X6_166 (n_ hB.1 rfl) (k_1 hB.1) (Nat.le_of_ble_eq_true rfl) (Nat.le_of_ble_eq_true rfl) rfl (Nat.zero_le _) (Nat.zero_le _) (w_X6_addPiece (d + 4) hB ⟨by decide, by decide⟩ q25 z1 h) (fun V26 hB26 h => ?_)
            refine z_iload_n Q_X6_cutWord (k := 51) rfl rfl ?_
            refine y_iconst Q_X6_cutWord (k := 52) rfl ?_
            obtain ⟨q27, h⟩ := h
            refine y_iadd Q_X6_cutWord (k := 53) rfl ?_
            exact y_iret Q_X6_cutWord (k := 54) rfl rfl (qI_iV hB26 q27 h)
set_option maxHeartbeats 4000000 in
set_option maxRecDepth 20000 in
theorem v_X6_cutDigits_7 {S : zS} {V : qV} {J : qJ} {K : Int → Int → Int → Prop} {Q : Int → qV → Prop} {kc ks : Nat} (d : Nat) (hB : qB S V) {l1 : Int} (z1 : zr l1) (hK : ∀ (l2 : Int) (l3 : Int) (l4 : Int), zr l2 → zr l3 → zr l4 → K l2 l3 l4 → Z M_X6_cutDigits (d + 1) kc ks 55 [some (.ref 1), some (.int (iI l1)), some (.int (iI l2)), some (.int (iI l3)), some (.int (iI l4))] [] S (qi V) (qj J) (qP_iV S J Q)) : ∀ (f : Nat) (l2 : Int) (l3 : Int) (l4 : Int), zr l2 → zr l3 → zr l4 → lp_X6_cutDigits_7 l1 V K f l2 l3 l4 → Z M_X6_cutDigits (d + 1) kc ks 7 [some (.ref 1), some (.int (iI l1)), some (.int (iI l2)), some (.int (iI l3)), some (.int (iI l4))] [] S (qi V) (qj J) (qP_iV S J Q) := by
  intro f
  induction f with
  | zero =>
    intro l2 l3 l4 z2 z3 z4 h
    exact h.elim
  | succ f ih =>
    intro l2 l3 l4 z2 z3 z4 h
    rw [lp_X6_cutDigits_7] at h
    refine z_iload Q_X6_cutDigits (k := 6) rfl rfl ?_
    refine y_sipush Q_X6_cutDigits (k := 7) rfl (by decide) ?_
    refine y_icmp_ge 55 Q_X6_cutDigits (k := 8) rfl (by decide) z4 ⟨by decide, by decide⟩ (fun c => ?_) (fun c => ?_)
    · replace h := h.1 c
      exact y_fg (zsb_c rfl (zsb_c rfl (zsb_c rfl (zsb_c rfl (zsb_c rfl zsb_e))))) (hK l2 l3 l4 z2 z3 z4 h)
    · replace h := h.2 c
      refine z_aload_n Q_X6_cutDigits (k := 9) rfl rfl ?_
      refine z_iload_n Q_X6_cutDigits (k := 10) rfl rfl ?_
      refine q_callV1_i Q_X6_cutDigits (k := 11) rfl rfl K_X6_byteAt V_X6_byteAt L_X6_150 (n_ hB.1 rfl) (k_1 hB.1) (Nat.le_of_ble_eq_true rfl) (Nat.le_of_ble_eq_true rfl) rfl (Nat.zero_le _) (Nat.zero_le _) (w_X6_byteAt d hB z2 h) (fun r1 hz1 h => ?_)
      refine q_callS1_z Q_X6_cutDigits (k := 12) rfl rfl K_X6_isDigit S_X6_isDigit L_X6_160 (Nat.le_of_ble_eq_true rfl) (Nat.le_of_ble_eq_true rfl) rfl (Nat.zero_le _) (Nat.zero_le _) (w_X6_isDigit d hB hz1 h) (fun r2 hz2 hb2 h => ?_)
      refine y_if_eq 55 Q_X6_cutDigits (k := 13) rfl (by decide) hz2 (fun c => ?_) (fun c => ?_)
      · replace h := h.1 c
        exact y_fg (zsb_c rfl (zsb_c rfl (zsb_c rfl (zsb_c rfl (zsb_c rfl zsb_e))))) (hK l2 l3 l4 z2 z3 z4 h)
      · replace h := h.2 c
        refine z_iload_n Q_X6_cutDigits (k := 14) rfl rfl ?_
        refine y_bipush Q_X6_cutDigits (k := 15) rfl (by decide) ?_
        obtain ⟨q3, h⟩ := h
        refine y_imul Q_X6_cutDigits (k := 16) rfl ?_
        refine z_aload_n Q_X6_cutDigits (k := 17) rfl rfl ?_
        refine z_iload_n Q_X6_cutDigits (k := 18) rfl rfl ?_
        refine q_callV1_i Q_X6_cutDigits (k := 19) rfl rfl K_X6_byteAt V_X6_byteAt L_X6_150 (n_ hB.1 rfl) (k_1 hB.1) (Nat.le_of_ble_eq_true rfl) (Nat.le_of_ble_eq_true rfl) rfl (Nat.zero_le _) (Nat.zero_le _) (w_X6_byteAt d hB z2 h) (fun r4 hz4 h => ?_)
        obtain ⟨q5, h⟩ := h
        refine y_iadd Q_X6_cutDigits (k := 20) rfl ?_
        refine y_bipush Q_X6_cutDigits (k := 21) rfl (by decide) ?_
        obtain ⟨q6, h⟩ := h
        refine y_isub Q_X6_cutDigits (k := 22) rfl ?_
        refine y_sipush Q_X6_cutDigits (k := 23) rfl (by decide) ?_
        refine y_min Q_X6_cutDigits (k := 24) rfl L_X6_68 G_min (Nat.le_of_ble_eq_true rfl) q6 ⟨by decide, by decide⟩ ?_
        refine y_istore_n (L' := [some (.ref 1), some (.int (iI l1)), some (.int (iI l2)), some (.int (iI (min (((l3 * 10) + r4) - 48) 10000))), some (.int (iI l4))]) Q_X6_cutDigits (k := 25) rfl (by decide) rfl ?_
        obtain ⟨q7, h⟩ := h
        refine y_iinc (L' := [some (.ref 1), some (.int (iI l1)), some (.int (iI (l2 + 1))), some (.int (iI (min (((l3 * 10) + r4) - 48) 10000))), some (.int (iI l4))]) Q_X6_cutDigits (k := 26) rfl (by decide) rfl rfl ?_
        obtain ⟨q8, h⟩ := h
        refine y_iinc (L' := [some (.ref 1), some (.int (iI l1)), some (.int (iI (l2 + 1))), some (.int (iI (min (((l3 * 10) + r4) - 48) 10000))), some (.int (iI (l4 + 1)))]) Q_X6_cutDigits (k := 27) rfl (by decide) rfl rfl ?_
        refine z_goto (tgt := 7) Q_X6_cutDigits (k := 28) rfl (by decide) ?_
        exact y_fg (zsb_c rfl (zsb_c rfl (zsb_c rfl (zsb_c rfl (zsb_c rfl zsb_e))))) (ih (l2 + 1) (min (((l3 * 10) + r4) - 48) 10000) (l4 + 1) q7 (q_mn q6 ⟨by decide, by decide⟩) q8 h)
set_option maxHeartbeats 4000000 in
set_option maxRecDepth 20000 in
theorem w_X6_cutDigits {S : zS} {V : qV} {J : qJ} {Q : Int → qV → Prop} (d : Nat) (hB : qB S V) {a1 : Int} (z1 : zr a1) (h : W_X6_cutDigits a1 V Q) : Z M_X6_cutDigits (d + 1) 0 0 0 [some (.ref 1), some (.int (iI a1)), none, none, none] [] S (qi V) (qj J) (qP_iV S J Q) := by
  unfold W_X6_cutDigits at h
  refine z_iload_n Q_X6_cutDigits (k := 0) rfl rfl ?_
  refine y_istore_n (L' := [some (.ref 1), some (.int (iI a1)), some (.int (iI a1)), none, none]) Q_X6_cutDigits (k := 1) rfl (by decide) rfl ?_
  refine y_iconst Q_X6_cutDigits (k := 2) rfl ?_
  refine y_istore_n (L' := [some (.ref 1), some (.int (iI a1)), some (.int (iI a1)), some (.int (iI 0)), none]) Q_X6_cutDigits (k := 3) rfl (by decide) rfl ?_
  refine y_iconst Q_X6_cutDigits (k := 4) rfl ?_
  refine y_istore (L' := [some (.ref 1), some (.int (iI a1)), some (.int (iI a1)), some (.int (iI 0)), some (.int (iI 0))]) Q_X6_cutDigits (k := 5) rfl (by decide) rfl ?_
  refine y_fg (zsb_c rfl (zsb_c rfl (zsb_c rfl (zsb_c rfl (zsb_c rfl zsb_e))))) (v_X6_cutDigits_7 d hB z1 (fun l2x9 l3x9 l4x9 zl2x9 zl3x9 zl4x9 h => ?_) 100000 a1 0 0 z1 ⟨by decide, by decide⟩ ⟨by decide, by decide⟩ h)
  refine z_aload_n Q_X6_cutDigits (k := 29) rfl rfl ?_
  refine y_iconst Q_X6_cutDigits (k := 30) rfl ?_
  refine z_iload_n Q_X6_cutDigits (k := 31) rfl rfl ?_
  refine z_iload_n Q_X6_cutDigits (k := 32) rfl rfl ?_
  refine q_callV3_uV Q_X6_cutDigits (k := 33) rfl rfl K_X6_addPiece V_X6_addPiece L_X6_166 (n_ hB.1 rfl) (k_1 hB.1) (Nat.le_of_ble_eq_true rfl) (Nat.le_of_ble_eq_true rfl) rfl (Nat.zero_le _) (Nat.zero_le _) (w_X6_addPiece d hB ⟨by decide, by decide⟩ zl3x9 z1 h) (fun V10 hB10 h => ?_)
  refine z_iload_n Q_X6_cutDigits (k := 34) rfl rfl ?_
  exact y_iret Q_X6_cutDigits (k := 35) rfl rfl (qI_iV hB10 zl2x9 h)
set_option maxHeartbeats 4000000 in
set_option maxRecDepth 20000 in
theorem v_X6_cut_9 {S : zS} {J : qJ} {K : Int → Int → qV → Prop} {Q : qV → Prop} {kc ks : Nat} (d : Nat) (hK : ∀ (l1 : Int) (l2 : Int) (V : qV), qB S V → zr l1 → zr l2 → K l1 l2 V → Z M_X6_cut (d + 6) kc ks 90 [some (.ref 1), some (.int (iI l1)), some (.int (iI l2)), none] [] S (qi V) (qj J) (qP_uV S J Q)) : ∀ (f : Nat) (l1 : Int) (l2 : Int) (V : qV), qB S V → zr l1 → zr l2 → lp_X6_cut_9 K f l1 l2 V → Z M_X6_cut (d + 6) kc ks 9 [some (.ref 1), some (.int (iI l1)), some (.int (iI l2)), none] [] S (qi V) (qj J) (qP_uV S J Q) := by
  intro f
  induction f with
  | zero =>
    intro l1 l2 V hB z1 z2 h
    exact h.elim
  | succ f ih =>
    intro l1 l2 V hB z1 z2 h
    rw [lp_X6_cut_9] at h
    refine z_iload_n Q_X6_cut (k := 7) rfl rfl ?_
    refine y_sipush Q_X6_cut (k := 8) rfl (by decide) ?_
    refine y_icmp_ge 90 Q_X6_cut (k := 9) rfl (by decide) z2 ⟨by decide, by decide⟩ (fun c => ?_) (fun c => ?_)
    · replace h := h.1 c
      exact y_fg (zsb_c rfl (zsb_c rfl (zsb_c rfl (zsb_n zsb_e)))) (hK l1 l2 V hB z1 z2 h)
    · replace h := h.2 c
      refine z_iload_n Q_X6_cut (k := 10) rfl rfl ?_
      refine z_aload_n Q_X6_cut (k := 11) rfl rfl ?_
      refine q_getI (o := 1) (z := 2) Q_X6_cut (k := 12) rfl F_X6_74 rfl rfl rfl (n_ hB.1 rfl) (k_1 hB.1) ?_
      refine y_icmp_ge 90 Q_X6_cut (k := 13) rfl (by decide) z1 (hB.2.1 _ _) (fun c => ?_) (fun c => ?_)
      · replace h := h.1 c
        exact y_fg (zsb_c rfl (zsb_c rfl (zsb_c rfl (zsb_n zsb_e)))) (hK l1 l2 V hB z1 z2 h)
      · replace h := h.2 c
        refine z_aload_n Q_X6_cut (k := 14) rfl rfl ?_
        refine z_iload_n Q_X6_cut (k := 15) rfl rfl ?_
        refine q_callV1_i Q_X6_cut (k := 16) rfl rfl K_X6_byteAt V_X6_byteAt L_X6_150 (n_ hB.1 rfl) (k_1 hB.1) (Nat.le_of_ble_eq_true rfl) (Nat.le_of_ble_eq_true rfl) rfl (Nat.zero_le _) (Nat.zero_le _) (w_X6_byteAt (d + 5) hB z1 h) (fun r2 hz2 h => ?_)
        refine y_istore_n (L' := [some (.ref 1), some (.int (iI l1)), some (.int (iI l2)), some (.int (iI r2))]) Q_X6_cut (k := 17) rfl (by decide) rfl ?_
        refine z_iload_n Q_X6_cut (k := 18) rfl rfl ?_
        refine y_bipush Q_X6_cut (k := 19) rfl (by decide) ?_
        refine y_icmp_ne 42 Q_X6_cut (k := 20) rfl (by decide) hz2 ⟨by decide, by decide⟩ (fun c => ?_) (fun c => ?_)
        · replace h := h.2 c
          refine z_iload_n Q_X6_cut (k := 23) rfl rfl ?_
          refine q_callS1_z Q_X6_cut (k := 24) rfl rfl K_X6_isLetter S_X6_isLetter L_X6_154 (Nat.le_of_ble_eq_true rfl) (Nat.le_of_ble_eq_true rfl) rfl (Nat.zero_le _) (Nat.zero_le _) (w_X6_isLetter (d + 5) hB hz2 h) (fun r3 hz3 hb3 h => ?_)
          refine y_if_eq 58 Q_X6_cut (k := 25) rfl (by decide) hz3 (fun c => ?_) (fun c => ?_)
          · replace h := h.1 c
            refine z_iload_n Q_X6_cut (k := 31) rfl rfl ?_
            refine q_callS1_z Q_X6_cut (k := 32) rfl rfl K_X6_isDigit S_X6_isDigit L_X6_160 (Nat.le_of_ble_eq_true rfl) (Nat.le_of_ble_eq_true rfl) rfl (Nat.zero_le _) (Nat.zero_le _) (w_X6_isDigit (d + 5) hB hz2 h) (fun r4 hz4 hb4 h => ?_)
            refine y_if_eq 74 Q_X6_cut (k := 33) rfl (by decide) hz4 (fun c => ?_) (fun c => ?_)
            · replace h := h.1 c
              refine z_aload_n Q_X6_cut (k := 39) rfl rfl ?_
              refine y_iconst Q_X6_cut (k := 40) rfl ?_
              refine z_iload_n Q_X6_cut (k := 41) rfl rfl ?_
              refine z_iload_n Q_X6_cut (k := 42) rfl rfl ?_
              refine q_callV3_uV Q_X6_cut (k := 43) rfl rfl K_X6_addPiece V_X6_addPiece L_X6_166 (n_ hB.1 rfl) (k_1 hB.1) (Nat.le_of_ble_eq_true rfl) (Nat.le_of_ble_eq_true rfl) rfl (Nat.zero_le _) (Nat.zero_le _) (w_X6_addPiece (d + 5) hB ⟨by decide, by decide⟩ hz2 z1 h) (fun V5 hB5 h => ?_)
              obtain ⟨q6, h⟩ := h
              refine y_iinc (L' := [some (.ref 1), some (.int (iI (l1 + 1))), some (.int (iI l2)), some (.int (iI r2))]) Q_X6_cut (k := 44) rfl (by decide) rfl rfl ?_
              obtain ⟨q7, h⟩ := h
              refine y_iinc (L' := [some (.ref 1), some (.int (iI (l1 + 1))), some (.int (iI (l2 + 1))), some (.int (iI r2))]) Q_X6_cut (k := 45) rfl (by decide) rfl rfl ?_
              refine z_goto (tgt := 9) Q_X6_cut (k := 46) rfl (by decide) ?_
              exact y_fg (zsb_c rfl (zsb_c rfl (zsb_c rfl (zsb_n zsb_e)))) (ih (l1 + 1) (l2 + 1) V5 hB5 q6 q7 h)
            · replace h := h.2 c
              refine z_aload_n Q_X6_cut (k := 34) rfl rfl ?_
              refine z_iload_n Q_X6_cut (k := 35) rfl rfl ?_
              refine q_callV1_iV Q_X6_cut (k := 36) rfl rfl K_X6_cutDigits V_X6_cutDigits L_X6_163 (n_ hB.1 rfl) (k_1 hB.1) (Nat.le_of_ble_eq_true rfl) (Nat.le_of_ble_eq_true rfl) rfl (Nat.zero_le _) (Nat.zero_le _) (w_X6_cutDigits (d + 4) hB z1 h) (fun r8 V8 hB8 hz8 h => ?_)
              refine y_istore_n (L' := [some (.ref 1), some (.int (iI r8)), some (.int (iI l2)), some (.int (iI r2))]) Q_X6_cut (k := 37) rfl (by decide) rfl ?_
              refine z_goto (tgt := 84) Q_X6_cut (k := 38) rfl (by decide) ?_
              obtain ⟨q9, h⟩ := h
              refine y_iinc (L' := [some (.ref 1), some (.int (iI r8)), some (.int (iI (l2 + 1))), some (.int (iI r2))]) Q_X6_cut (k := 45) rfl (by decide) rfl rfl ?_
              refine z_goto (tgt := 9) Q_X6_cut (k := 46) rfl (by decide) ?_
              exact y_fg (zsb_c rfl (zsb_c rfl (zsb_c rfl (zsb_n zsb_e)))) (ih r8 (l2 + 1) V8 hB8 hz8 q9 h)
          · replace h := h.2 c
            refine z_aload_n Q_X6_cut (k := 26) rfl rfl ?_
            refine z_iload_n Q_X6_cut (k := 27) rfl rfl ?_
            refine q_callV1_iV Q_X6_cut (k := 28) rfl rfl K_X6_cutWord V_X6_cutWord L_X6_157 (n_ hB.1 rfl) (k_1 hB.1) (Nat.le_of_ble_eq_true rfl) (Nat.le_of_ble_eq_true rfl) rfl (Nat.zero_le _) (Nat.zero_le _) (w_X6_cutWord d hB z1 h) (fun r10 V10 hB10 hz10 h => ?_)
            refine y_istore_n (L' := [some (.ref 1), some (.int (iI r10)), some (.int (iI l2)), some (.int (iI r2))]) Q_X6_cut (k := 29) rfl (by decide) rfl ?_
            refine z_goto (tgt := 84) Q_X6_cut (k := 30) rfl (by decide) ?_
            obtain ⟨q11, h⟩ := h
            refine y_iinc (L' := [some (.ref 1), some (.int (iI r10)), some (.int (iI (l2 + 1))), some (.int (iI r2))]) Q_X6_cut (k := 45) rfl (by decide) rfl rfl ?_
            refine z_goto (tgt := 9) Q_X6_cut (k := 46) rfl (by decide) ?_
            exact y_fg (zsb_c rfl (zsb_c rfl (zsb_c rfl (zsb_n zsb_e)))) (ih r10 (l2 + 1) V10 hB10 hz10 q11 h)
        · replace h := h.1 c
          obtain ⟨q12, h⟩ := h
          refine y_iinc (L' := [some (.ref 1), some (.int (iI (l1 + 1))), some (.int (iI l2)), some (.int (iI r2))]) Q_X6_cut (k := 21) rfl (by decide) rfl rfl ?_
          refine z_goto (tgt := 84) Q_X6_cut (k := 22) rfl (by decide) ?_
          obtain ⟨q13, h⟩ := h
          refine y_iinc (L' := [some (.ref 1), some (.int (iI (l1 + 1))), some (.int (iI (l2 + 1))), some (.int (iI r2))]) Q_X6_cut (k := 45) rfl (by decide) rfl rfl ?_
          refine z_goto (tgt := 9) Q_X6_cut (k := 46) rfl (by decide) ?_
          exact y_fg (zsb_c rfl (zsb_c rfl (zsb_c rfl (zsb_n zsb_e)))) (ih (l1 + 1) (l2 + 1) V hB q12 q13 h)
set_option maxHeartbeats 4000000 in
set_option maxRecDepth 20000 in
theorem w_X6_cut {S : zS} {V : qV} {J : qJ} {Q : qV → Prop} (d : Nat) (hB : qB S V) (h : W_X6_cut V Q) : Z M_X6_cut (d + 6) 0 0 0 [some (.ref 1), none, none, none] [] S (qi V) (qj J) (qP_uV S J Q) := by
  unfold W_X6_cut at h
  refine z_aload_n Q_X6_cut (k := 0) rfl rfl ?_
  refine y_iconst Q_X6_cut (k := 1) rfl ?_
  refine q_putI (o := 1) (z := 6) Q_X6_cut (k := 2) rfl F_X6_144 rfl rfl rfl (n_ hB.1 rfl) (k_1 hB.1) ?_
  have hB1 := qB.u (a := 1) (j := 6) (x := 0) hB ⟨by decide, by decide⟩ (Or.inr (Or.inl ⟨rfl, by decide⟩))
  refine y_iconst Q_X6_cut (k := 3) rfl ?_
  refine y_istore_n (L' := [some (.ref 1), some (.int (iI 0)), none, none]) Q_X6_cut (k := 4) rfl (by decide) rfl ?_
  refine y_iconst Q_X6_cut (k := 5) rfl ?_
  refine y_istore_n (L' := [some (.ref 1), some (.int (iI 0)), some (.int (iI 0)), none]) Q_X6_cut (k := 6) rfl (by decide) rfl ?_
  refine y_fg (zsb_c rfl (zsb_c rfl (zsb_c rfl (zsb_n zsb_e)))) (v_X6_cut_9 d (fun l1x14 l2x14 V14 hB14 zl1x14 zl2x14 h => ?_) 100000 0 0 (qu V 1 6 0) hB1 ⟨by decide, by decide⟩ ⟨by decide, by decide⟩ h)
  refine z_aload_n Q_X6_cut (k := 47) rfl rfl ?_
  refine y_iconst Q_X6_cut (k := 48) rfl ?_
  refine y_iconst Q_X6_cut (k := 49) rfl ?_
  refine z_aload_n Q_X6_cut (k := 50) rfl rfl ?_
  refine q_getI (o := 1) (z := 2) Q_X6_cut (k := 51) rfl F_X6_74 rfl rfl rfl (n_ hB14.1 rfl) (k_1 hB14.1) ?_
  refine q_callV3_uV Q_X6_cut (k := 52) rfl rfl K_X6_addPiece V_X6_addPiece L_X6_166 (n_ hB14.1 rfl) (k_1 hB14.1) (Nat.le_of_ble_eq_true rfl) (Nat.le_of_ble_eq_true rfl) rfl (Nat.zero_le _) (Nat.zero_le _) (w_X6_addPiece (d + 5) hB14 ⟨by decide, by decide⟩ ⟨by decide, by decide⟩ (hB14.2.1 _ _) h) (fun V15 hB15 h => ?_)
  exact z_vret Q_X6_cut (k := 53) rfl rfl (qI_uV hB15 h)
set_option maxHeartbeats 4000000 in
set_option maxRecDepth 20000 in
theorem w_X6_goOn {S : zS} {V : qV} {J : qJ} {Q : qV → Prop} (d : Nat) (hB : qB S V) (h : W_X6_goOn V Q) : Z M_X6_goOn d 0 0 0 [some (.ref 1)] [] S (qi V) (qj J) (qP_uV S J Q) := by
  unfold W_X6_goOn at h
  refine z_aload_n Q_X6_goOn (k := 0) rfl rfl ?_
  refine y_iconst Q_X6_goOn (k := 1) rfl ?_
  refine z_aload_n Q_X6_goOn (k := 2) rfl rfl ?_
  refine q_getI (o := 1) (z := 7) Q_X6_goOn (k := 3) rfl F_X6_86 rfl rfl rfl (n_ hB.1 rfl) (k_1 hB.1) ?_
  refine y_iconst Q_X6_goOn (k := 4) rfl ?_
  obtain ⟨q1, h⟩ := h
  refine y_iadd Q_X6_goOn (k := 5) rfl ?_
  refine z_aload_n Q_X6_goOn (k := 6) rfl rfl ?_
  refine q_getI (o := 1) (z := 6) Q_X6_goOn (k := 7) rfl F_X6_144 rfl rfl rfl (n_ hB.1 rfl) (k_1 hB.1) ?_
  refine y_iconst Q_X6_goOn (k := 8) rfl ?_
  obtain ⟨q2, h⟩ := h
  refine y_isub Q_X6_goOn (k := 9) rfl ?_
  refine y_sipush Q_X6_goOn (k := 10) rfl (by decide) ?_
  refine y_min Q_X6_goOn (k := 11) rfl L_X6_68 G_min (Nat.le_of_ble_eq_true rfl) q2 ⟨by decide, by decide⟩ ?_
  refine y_min Q_X6_goOn (k := 12) rfl L_X6_68 G_min (Nat.le_of_ble_eq_true rfl) q1 (q_mn q2 ⟨by decide, by decide⟩) ?_
  refine y_max Q_X6_goOn (k := 13) rfl L_X6_147 G_max (Nat.le_of_ble_eq_true rfl) ⟨by decide, by decide⟩ (q_mn q1 (q_mn q2 ⟨by decide, by decide⟩)) ?_
  refine q_putI (o := 1) (z := 7) Q_X6_goOn (k := 14) rfl F_X6_86 rfl rfl rfl (n_ hB.1 rfl) (k_1 hB.1) ?_
  have hB3 := qB.u (a := 1) (j := 7) (x := max 0 (min ((V 1 7) + 1) (min ((V 1 6) - 1) 400))) hB (q_mx ⟨by decide, by decide⟩ (q_mn q1 (q_mn q2 ⟨by decide, by decide⟩))) (Or.inr (Or.inl ⟨rfl, by decide⟩))
  refine z_aload_n Q_X6_goOn (k := 15) rfl rfl ?_
  refine z_aload_n Q_X6_goOn (k := 16) rfl rfl ?_
  refine z_getR (b := 3) Q_X6_goOn (k := 17) rfl F_X6_15 rfl (n_ hB3.1 rfl) (k_1 hB3.1) (r_1_3 hB3.1) ?_
  refine z_aload_n Q_X6_goOn (k := 18) rfl rfl ?_
  refine q_getI (o := 1) (z := 7) Q_X6_goOn (k := 19) rfl F_X6_86 rfl rfl rfl (n_ hB3.1 rfl) (k_1 hB3.1) ?_
  obtain ⟨q4, h⟩ := h
  refine q_iald (o := 3) (N := 401) Q_X6_goOn (k := 20) rfl rfl (n_ hB3.1 rfl) (k_3 hB3.1) rfl q4 (by decide) ?_
  refine q_putI (o := 1) (z := 8) Q_X6_goOn (k := 21) rfl F_X6_46 rfl rfl rfl (n_ hB3.1 rfl) (k_1 hB3.1) ?_
  have hB5 := qB.u (a := 1) (j := 8) (x := (qu V 1 7 (max 0 (min ((V 1 7) + 1) (min ((V 1 6) - 1) 400)))) 3 ((qu V 1 7 (max 0 (min ((V 1 7) + 1) (min ((V 1 6) - 1) 400)))) 1 7)) hB3 (hB3.2.1 _ _) (Or.inr (Or.inl ⟨rfl, by decide⟩))
  refine z_aload_n Q_X6_goOn (k := 22) rfl rfl ?_
  refine z_aload_n Q_X6_goOn (k := 23) rfl rfl ?_
  refine z_getR (b := 4) Q_X6_goOn (k := 24) rfl F_X6_19 rfl (n_ hB5.1 rfl) (k_1 hB5.1) (r_1_4 hB5.1) ?_
  refine z_aload_n Q_X6_goOn (k := 25) rfl rfl ?_
  refine q_getI (o := 1) (z := 7) Q_X6_goOn (k := 26) rfl F_X6_86 rfl rfl rfl (n_ hB5.1 rfl) (k_1 hB5.1) ?_
  obtain ⟨q6, h⟩ := h
  refine q_iald (o := 4) (N := 401) Q_X6_goOn (k := 27) rfl rfl (n_ hB5.1 rfl) (k_4 hB5.1) rfl q6 (by decide) ?_
  refine q_putI (o := 1) (z := 9) Q_X6_goOn (k := 28) rfl F_X6_95 rfl rfl rfl (n_ hB5.1 rfl) (k_1 hB5.1) ?_
  have hB7 := qB.u (a := 1) (j := 9) (x := (qu (qu V 1 7 (max 0 (min ((V 1 7) + 1) (min ((V 1 6) - 1) 400)))) 1 8 ((qu V 1 7 (max 0 (min ((V 1 7) + 1) (min ((V 1 6) - 1) 400)))) 3 ((qu V 1 7 (max 0 (min ((V 1 7) + 1) (min ((V 1 6) - 1) 400)))) 1 7))) 4 ((qu (qu V 1 7 (max 0 (min ((V 1 7) + 1) (min ((V 1 6) - 1) 400)))) 1 8 ((qu V 1 7 (max 0 (min ((V 1 7) + 1) (min ((V 1 6) - 1) 400)))) 3 ((qu V 1 7 (max 0 (min ((V 1 7) + 1) (min ((V 1 6) - 1) 400)))) 1 7))) 1 7)) hB5 (hB5.2.1 _ _) (Or.inr (Or.inl ⟨rfl, by decide⟩))
  exact z_vret Q_X6_goOn (k := 29) rfl rfl (qI_uV hB7 h)
set_option maxHeartbeats 4000000 in
set_option maxRecDepth 20000 in
theorem w_X6_start {S : zS} {V : qV} {J : qJ} {Q : qV → Prop} (d : Nat) (hB : qB S V) {a1 : Int} (z1 : zr a1) {a2 : Int} (p2 : qLa S a2) (h : W_X6_start a1 a2 V Q) : Z M_X6_start (d + 7) 0 0 0 [some (.ref 1), some (.int (iI a1)), some (.ref a2.toNat)] [] S (qi V) (qj J) (qP_uSV S J Q) := by
  unfold W_X6_start at h
  refine z_aload_n Q_X6_start (k := 0) rfl rfl ?_
  refine z_iload_n Q_X6_start (k := 1) rfl rfl ?_
  refine y_sipush Q_X6_start (k := 2) rfl (by decide) ?_
  refine y_min Q_X6_start (k := 3) rfl L_X6_68 G_min (Nat.le_of_ble_eq_true rfl) z1 ⟨by decide, by decide⟩ ?_
  refine q_putI (o := 1) (z := 2) Q_X6_start (k := 4) rfl F_X6_74 rfl rfl rfl (n_ hB.1 rfl) (k_1 hB.1) ?_
  have hB1 := qB.u (a := 1) (j := 2) (x := min a1 400) hB (q_mn z1 ⟨by decide, by decide⟩) (Or.inr (Or.inl ⟨rfl, by decide⟩))
  refine z_aload_n Q_X6_start (k := 5) rfl rfl ?_
  refine q_callV0_uV Q_X6_start (k := 6) rfl rfl K_X6_cut V_X6_cut L_X6_77 (n_ hB1.1 rfl) (k_1 hB1.1) (Nat.le_of_ble_eq_true rfl) (Nat.le_of_ble_eq_true rfl) rfl (Nat.zero_le _) (Nat.zero_le _) (w_X6_cut d hB1  h) (fun V2 hB2 h => ?_)
  refine z_aload_n Q_X6_start (k := 7) rfl rfl ?_
  refine y_iconst Q_X6_start (k := 8) rfl ?_
  refine q_putI (o := 1) (z := 10) Q_X6_start (k := 9) rfl F_X6_80 rfl rfl rfl (n_ hB2.1 rfl) (k_1 hB2.1) ?_
  have hB3 := qB.u (a := 1) (j := 10) (x := 0) hB2 ⟨by decide, by decide⟩ (Or.inr (Or.inl ⟨rfl, by decide⟩))
  refine z_aload_n Q_X6_start (k := 10) rfl rfl ?_
  refine z_aload_n Q_X6_start (k := 11) rfl rfl ?_
  refine q_putL (o := a2) hB3 Q_X6_start (k := 12) rfl F_X6_36 (fun _ => rfl) (fun _ => rfl) ?_
  have hB4 := qB.law hB3 p2 (qLa_r p2)
  refine z_aload_n Q_X6_start (k := 13) rfl rfl ?_
  refine z_getR (b := ((qu (qu V2 1 10 0) 1 14 a2) 1 14).toNat) Q_X6_start (k := 14) rfl F_X6_36 rfl (n_ hB4.1 rfl) (k_1 hB4.1) hB4.2.2.1.2 ?_
  refine q_callV0_uV Q_X6_start (k := 15) rfl rfl K_X3_clear V_X3_clear L_X6_83 hB4.2.2.1.1.1.2.1 hB4.2.2.1.1.1.2.2.1 (Nat.le_of_ble_eq_true rfl) (Nat.le_of_ble_eq_true rfl) rfl (Nat.zero_le _) (Nat.zero_le _) (w_X3_clear (d + 6) hB4 hB4.2.2.1.1 h) (fun V5 hB5 h => ?_)
  refine z_aload_n Q_X6_start (k := 16) rfl rfl ?_
  refine y_iconst Q_X6_start (k := 17) rfl ?_
  refine q_putI (o := 1) (z := 7) Q_X6_start (k := 18) rfl F_X6_86 rfl rfl rfl (n_ hB5.1 rfl) (k_1 hB5.1) ?_
  have hB6 := qB.u (a := 1) (j := 7) (x := (-1)) hB5 ⟨by decide, by decide⟩ (Or.inr (Or.inl ⟨rfl, by decide⟩))
  refine z_aload_n Q_X6_start (k := 19) rfl rfl ?_
  refine q_callV0_uV Q_X6_start (k := 20) rfl rfl K_X6_goOn V_X6_goOn L_X6_89 (n_ hB6.1 rfl) (k_1 hB6.1) (Nat.le_of_ble_eq_true rfl) (Nat.le_of_ble_eq_true rfl) rfl (Nat.zero_le _) (Nat.zero_le _) (w_X6_goOn (d + 6) hB6  h) (fun V7 hB7 h => ?_)
  exact z_vret Q_X6_start (k := 21) rfl rfl (qI_uSV hB7 rfl h)
set_option maxHeartbeats 4000000 in
set_option maxRecDepth 20000 in
theorem w_X6_refuse {S : zS} {V : qV} {J : qJ} {Q : Int → qV → Prop} (d : Nat) (hB : qB S V) {a1 : Int} (z1 : zr a1) (h : W_X6_refuse a1 V Q) : Z M_X6_refuse d 0 0 0 [some (.ref 1), some (.int (iI a1))] [] S (qi V) (qj J) (qP_zV S J Q) := by
  unfold W_X6_refuse at h
  refine z_aload_n Q_X6_refuse (k := 0) rfl rfl ?_
  refine z_iload_n Q_X6_refuse (k := 1) rfl rfl ?_
  refine q_putI (o := 1) (z := 11) Q_X6_refuse (k := 2) rfl F_X6_92 rfl rfl rfl (n_ hB.1 rfl) (k_1 hB.1) ?_
  have hB1 := qB.u (a := 1) (j := 11) (x := a1) hB z1 (Or.inr (Or.inl ⟨rfl, by decide⟩))
  refine z_aload_n Q_X6_refuse (k := 3) rfl rfl ?_
  refine z_aload_n Q_X6_refuse (k := 4) rfl rfl ?_
  refine z_getR (b := 5) Q_X6_refuse (k := 5) rfl F_X6_22 rfl (n_ hB1.1 rfl) (k_1 hB1.1) (r_1_5 hB1.1) ?_
  refine z_aload_n Q_X6_refuse (k := 6) rfl rfl ?_
  refine q_getI (o := 1) (z := 7) Q_X6_refuse (k := 7) rfl F_X6_86 rfl rfl rfl (n_ hB1.1 rfl) (k_1 hB1.1) ?_
  obtain ⟨q2, h⟩ := h
  refine q_iald (o := 5) (N := 401) Q_X6_refuse (k := 8) rfl rfl (n_ hB1.1 rfl) (k_5 hB1.1) rfl q2 (by decide) ?_
  refine q_putI (o := 1) (z := 12) Q_X6_refuse (k := 9) rfl F_X6_25 rfl rfl rfl (n_ hB1.1 rfl) (k_1 hB1.1) ?_
  have hB3 := qB.u (a := 1) (j := 12) (x := (qu V 1 11 a1) 5 ((qu V 1 11 a1) 1 7)) hB1 (hB1.2.1 _ _) (Or.inr (Or.inl ⟨rfl, by decide⟩))
  refine y_iconst Q_X6_refuse (k := 10) rfl ?_
  exact y_zret Q_X6_refuse (k := 11) rfl rfl (Or.inl rfl) (qI_zV hB3 ⟨by decide, by decide⟩ (Or.inl rfl) h)
set_option maxHeartbeats 4000000 in
set_option maxRecDepth 20000 in
theorem w_X6_isWord {S : zS} {V : qV} {J : qJ} {Q : Int → Prop} (d : Nat) (hB : qB S V) {a1 : Int} (z1 : zr a1) (h : W_X6_isWord a1 V Q) : Z M_X6_isWord d 0 0 0 [some (.ref 1), some (.int (iI a1))] [] S (qi V) (qj J) (qP_z S V J Q) := by
  unfold W_X6_isWord at h
  refine z_aload_n Q_X6_isWord (k := 0) rfl rfl ?_
  refine q_getI (o := 1) (z := 8) Q_X6_isWord (k := 1) rfl F_X6_46 rfl rfl rfl (n_ hB.1 rfl) (k_1 hB.1) ?_
  refine y_iconst Q_X6_isWord (k := 2) rfl ?_
  refine y_icmp_ne 20 Q_X6_isWord (k := 3) rfl (by decide) (hB.2.1 _ _) ⟨by decide, by decide⟩ (fun c => ?_) (fun c => ?_)
  · replace h := h.2 c
    refine y_iconst Q_X6_isWord (k := 10) rfl ?_
    exact y_zret Q_X6_isWord (k := 11) rfl rfl (Or.inl rfl) (qI_z ⟨by decide, by decide⟩ (Or.inl rfl) h)
  · replace h := h.1 c
    refine z_aload_n Q_X6_isWord (k := 4) rfl rfl ?_
    refine q_getI (o := 1) (z := 9) Q_X6_isWord (k := 5) rfl F_X6_95 rfl rfl rfl (n_ hB.1 rfl) (k_1 hB.1) ?_
    refine z_iload_n Q_X6_isWord (k := 6) rfl rfl ?_
    refine y_icmp_ne 20 Q_X6_isWord (k := 7) rfl (by decide) (hB.2.1 _ _) z1 (fun c => ?_) (fun c => ?_)
    · replace h := h.2 c
      refine y_iconst Q_X6_isWord (k := 10) rfl ?_
      exact y_zret Q_X6_isWord (k := 11) rfl rfl (Or.inl rfl) (qI_z ⟨by decide, by decide⟩ (Or.inl rfl) h)
    · replace h := h.1 c
      refine y_iconst Q_X6_isWord (k := 8) rfl ?_
      refine z_goto (tgt := 21) Q_X6_isWord (k := 9) rfl (by decide) ?_
      exact y_zret Q_X6_isWord (k := 11) rfl rfl (Or.inr rfl) (qI_z ⟨by decide, by decide⟩ (Or.inr rfl) h)
set_option maxHeartbeats 4000000 in
set_option maxRecDepth 20000 in
theorem w_X6_needNumber {S : zS} {V : qV} {J : qJ} {Q : Int → qV → Prop} (d : Nat) (hB : qB S V) (h : W_X6_needNumber V Q) : Z M_X6_needNumber (d + 1) 0 0 0 [some (.ref 1)] [] S (qi V) (qj J) (qP_zV S J Q) := by
  unfold W_X6_needNumber at h
  refine z_aload_n Q_X6_needNumber (k := 0) rfl rfl ?_
  refine q_getI (o := 1) (z := 8) Q_X6_needNumber (k := 1) rfl F_X6_46 rfl rfl rfl (n_ hB.1 rfl) (k_1 hB.1) ?_
  refine y_iconst Q_X6_needNumber (k := 2) rfl ?_
  refine y_icmp_eq 14 Q_X6_needNumber (k := 3) rfl (by decide) (hB.2.1 _ _) ⟨by decide, by decide⟩ (fun c => ?_) (fun c => ?_)
  · replace h := h.1 c
    refine z_aload_n Q_X6_needNumber (k := 8) rfl rfl ?_
    refine q_getI (o := 1) (z := 9) Q_X6_needNumber (k := 9) rfl F_X6_95 rfl rfl rfl (n_ hB.1 rfl) (k_1 hB.1) ?_
    refine y_sipush Q_X6_needNumber (k := 10) rfl (by decide) ?_
    refine y_icmp_le 32 Q_X6_needNumber (k := 11) rfl (by decide) (hB.2.1 _ _) ⟨by decide, by decide⟩ (fun c => ?_) (fun c => ?_)
    · replace h := h.1 c
      refine y_iconst Q_X6_needNumber (k := 16) rfl ?_
      refine z_goto (tgt := 37) Q_X6_needNumber (k := 17) rfl (by decide) ?_
      exact y_zret Q_X6_needNumber (k := 19) rfl rfl (Or.inr rfl) (qI_zV hB ⟨by decide, by decide⟩ (Or.inr rfl) h)
    · replace h := h.2 c
      refine z_aload_n Q_X6_needNumber (k := 12) rfl rfl ?_
      refine y_iconst Q_X6_needNumber (k := 13) rfl ?_
      refine q_callV1_zV Q_X6_needNumber (k := 14) rfl rfl K_X6_refuse V_X6_refuse L_X6_64 (n_ hB.1 rfl) (k_1 hB.1) (Nat.le_of_ble_eq_true rfl) (Nat.le_of_ble_eq_true rfl) rfl (Nat.zero_le _) (Nat.zero_le _) (w_X6_refuse d hB ⟨by decide, by decide⟩ h) (fun r1 V1 hB1 hz1 hb1 h => ?_)
      refine y_if_eq 36 Q_X6_needNumber (k := 15) rfl (by decide) hz1 (fun c => ?_) (fun c => ?_)
      · replace h := h.1 c
        refine y_iconst Q_X6_needNumber (k := 18) rfl ?_
        exact y_zret Q_X6_needNumber (k := 19) rfl rfl (Or.inl rfl) (qI_zV hB1 ⟨by decide, by decide⟩ (Or.inl rfl) h)
      · replace h := h.2 c
        refine y_iconst Q_X6_needNumber (k := 16) rfl ?_
        refine z_goto (tgt := 37) Q_X6_needNumber (k := 17) rfl (by decide) ?_
        exact y_zret Q_X6_needNumber (k := 19) rfl rfl (Or.inr rfl) (qI_zV hB1 ⟨by decide, by decide⟩ (Or.inr rfl) h)
  · replace h := h.2 c
    refine z_aload_n Q_X6_needNumber (k := 4) rfl rfl ?_
    refine y_iconst Q_X6_needNumber (k := 5) rfl ?_
    refine q_callV1_zV Q_X6_needNumber (k := 6) rfl rfl K_X6_refuse V_X6_refuse L_X6_64 (n_ hB.1 rfl) (k_1 hB.1) (Nat.le_of_ble_eq_true rfl) (Nat.le_of_ble_eq_true rfl) rfl (Nat.zero_le _) (Nat.zero_le _) (w_X6_refuse d hB ⟨by decide, by decide⟩ h) (fun r2 V2 hB2 hz2 hb2 h => ?_)
    exact y_zret Q_X6_needNumber (k := 7) rfl rfl hb2 (qI_zV hB2 hz2 hb2 h)
set_option maxHeartbeats 4000000 in
set_option maxRecDepth 20000 in
theorem w_X6_isSign {S : zS} {V : qV} {J : qJ} {Q : Int → Prop} (d : Nat) (hB : qB S V) {a1 : Int} (z1 : zr a1) (h : W_X6_isSign a1 V Q) : Z M_X6_isSign d 0 0 0 [some (.ref 1), some (.int (iI a1))] [] S (qi V) (qj J) (qP_z S V J Q) := by
  unfold W_X6_isSign at h
  refine z_aload_n Q_X6_isSign (k := 0) rfl rfl ?_
  refine q_getI (o := 1) (z := 8) Q_X6_isSign (k := 1) rfl F_X6_46 rfl rfl rfl (n_ hB.1 rfl) (k_1 hB.1) ?_
  refine y_iconst Q_X6_isSign (k := 2) rfl ?_
  refine y_icmp_ne 20 Q_X6_isSign (k := 3) rfl (by decide) (hB.2.1 _ _) ⟨by decide, by decide⟩ (fun c => ?_) (fun c => ?_)
  · replace h := h.2 c
    refine y_iconst Q_X6_isSign (k := 10) rfl ?_
    exact y_zret Q_X6_isSign (k := 11) rfl rfl (Or.inl rfl) (qI_z ⟨by decide, by decide⟩ (Or.inl rfl) h)
  · replace h := h.1 c
    refine z_aload_n Q_X6_isSign (k := 4) rfl rfl ?_
    refine q_getI (o := 1) (z := 9) Q_X6_isSign (k := 5) rfl F_X6_95 rfl rfl rfl (n_ hB.1 rfl) (k_1 hB.1) ?_
    refine z_iload_n Q_X6_isSign (k := 6) rfl rfl ?_
    refine y_icmp_ne 20 Q_X6_isSign (k := 7) rfl (by decide) (hB.2.1 _ _) z1 (fun c => ?_) (fun c => ?_)
    · replace h := h.2 c
      refine y_iconst Q_X6_isSign (k := 10) rfl ?_
      exact y_zret Q_X6_isSign (k := 11) rfl rfl (Or.inl rfl) (qI_z ⟨by decide, by decide⟩ (Or.inl rfl) h)
    · replace h := h.1 c
      refine y_iconst Q_X6_isSign (k := 8) rfl ?_
      refine z_goto (tgt := 21) Q_X6_isSign (k := 9) rfl (by decide) ?_
      exact y_zret Q_X6_isSign (k := 11) rfl rfl (Or.inr rfl) (qI_z ⟨by decide, by decide⟩ (Or.inr rfl) h)
set_option maxHeartbeats 4000000 in
set_option maxRecDepth 20000 in
theorem w_X6_mayOpen {S : zS} {V : qV} {J : qJ} {Q : Int → qV → Prop} (d : Nat) (hB : qB S V) (h : W_X6_mayOpen V Q) : Z M_X6_mayOpen (d + 1) 0 0 0 [some (.ref 1)] [] S (qi V) (qj J) (qP_zV S J Q) := by
  unfold W_X6_mayOpen at h
  refine z_aload_n Q_X6_mayOpen (k := 0) rfl rfl ?_
  refine q_getI (o := 1) (z := 10) Q_X6_mayOpen (k := 1) rfl F_X6_80 rfl rfl rfl (n_ hB.1 rfl) (k_1 hB.1) ?_
  refine y_bipush Q_X6_mayOpen (k := 2) rfl (by decide) ?_
  refine y_icmp_lt 15 Q_X6_mayOpen (k := 3) rfl (by decide) (hB.2.1 _ _) ⟨by decide, by decide⟩ (fun c => ?_) (fun c => ?_)
  · replace h := h.1 c
    refine z_aload_n Q_X6_mayOpen (k := 8) rfl rfl ?_
    refine z_dup Q_X6_mayOpen (k := 9) rfl rfl ?_
    refine q_getI (o := 1) (z := 10) Q_X6_mayOpen (k := 10) rfl F_X6_80 rfl rfl rfl (n_ hB.1 rfl) (k_1 hB.1) ?_
    refine y_iconst Q_X6_mayOpen (k := 11) rfl ?_
    obtain ⟨q1, h⟩ := h
    refine y_iadd Q_X6_mayOpen (k := 12) rfl ?_
    refine q_putI (o := 1) (z := 10) Q_X6_mayOpen (k := 13) rfl F_X6_80 rfl rfl rfl (n_ hB.1 rfl) (k_1 hB.1) ?_
    have hB2 := qB.u (a := 1) (j := 10) (x := (V 1 10) + 1) hB q1 (Or.inr (Or.inl ⟨rfl, by decide⟩))
    refine y_iconst Q_X6_mayOpen (k := 14) rfl ?_
    exact y_zret Q_X6_mayOpen (k := 15) rfl rfl (Or.inr rfl) (qI_zV hB2 ⟨by decide, by decide⟩ (Or.inr rfl) h)
  · replace h := h.2 c
    refine z_aload_n Q_X6_mayOpen (k := 4) rfl rfl ?_
    refine y_iconst Q_X6_mayOpen (k := 5) rfl ?_
    refine q_callV1_zV Q_X6_mayOpen (k := 6) rfl rfl K_X6_refuse V_X6_refuse L_X6_64 (n_ hB.1 rfl) (k_1 hB.1) (Nat.le_of_ble_eq_true rfl) (Nat.le_of_ble_eq_true rfl) rfl (Nat.zero_le _) (Nat.zero_le _) (w_X6_refuse d hB ⟨by decide, by decide⟩ h) (fun r3 V3 hB3 hz3 hb3 h => ?_)
    exact y_zret Q_X6_mayOpen (k := 7) rfl rfl hb3 (qI_zV hB3 hz3 hb3 h)
set_option maxHeartbeats 4000000 in
set_option maxRecDepth 20000 in
theorem w_X6_readSign {S : zS} {V : qV} {J : qJ} {Q : Int → qV → Prop} (d : Nat) (hB : qB S V) {a1 : Int} (z1 : zr a1) (h : W_X6_readSign a1 V Q) : Z M_X6_readSign (d + 1) 0 0 0 [some (.ref 1), some (.int (iI a1))] [] S (qi V) (qj J) (qP_zV S J Q) := by
  unfold W_X6_readSign at h
  refine z_aload_n Q_X6_readSign (k := 0) rfl rfl ?_
  refine z_iload_n Q_X6_readSign (k := 1) rfl rfl ?_
  refine q_callV1_z Q_X6_readSign (k := 2) rfl rfl K_X6_isSign V_X6_isSign L_X6_119 (n_ hB.1 rfl) (k_1 hB.1) (Nat.le_of_ble_eq_true rfl) (Nat.le_of_ble_eq_true rfl) rfl (Nat.zero_le _) (Nat.zero_le _) (w_X6_isSign d hB z1 h) (fun r1 hz1 hb1 h => ?_)
  refine y_if_ne 14 Q_X6_readSign (k := 3) rfl (by decide) hz1 (fun c => ?_) (fun c => ?_)
  · replace h := h.2 c
    refine z_aload_n Q_X6_readSign (k := 8) rfl rfl ?_
    refine q_callV0_uV Q_X6_readSign (k := 9) rfl rfl K_X6_goOn V_X6_goOn L_X6_89 (n_ hB.1 rfl) (k_1 hB.1) (Nat.le_of_ble_eq_true rfl) (Nat.le_of_ble_eq_true rfl) rfl (Nat.zero_le _) (Nat.zero_le _) (w_X6_goOn d hB  h) (fun V2 hB2 h => ?_)
    refine y_iconst Q_X6_readSign (k := 10) rfl ?_
    exact y_zret Q_X6_readSign (k := 11) rfl rfl (Or.inr rfl) (qI_zV hB2 ⟨by decide, by decide⟩ (Or.inr rfl) h)
  · replace h := h.1 c
    refine z_aload_n Q_X6_readSign (k := 4) rfl rfl ?_
    refine y_iconst Q_X6_readSign (k := 5) rfl ?_
    refine q_callV1_zV Q_X6_readSign (k := 6) rfl rfl K_X6_refuse V_X6_refuse L_X6_64 (n_ hB.1 rfl) (k_1 hB.1) (Nat.le_of_ble_eq_true rfl) (Nat.le_of_ble_eq_true rfl) rfl (Nat.zero_le _) (Nat.zero_le _) (w_X6_refuse d hB ⟨by decide, by decide⟩ h) (fun r3 V3 hB3 hz3 hb3 h => ?_)
    exact y_zret Q_X6_readSign (k := 7) rfl rfl hb3 (qI_zV hB3 hz3 hb3 h)
set_option maxHeartbeats 4000000 in
set_option maxRecDepth 20000 in
theorem v_X6_readSum_11 {S : zS} {J : qJ} {g_X6_readTerm : qV → (Int → qV → Prop) → Prop} {K : Int → qV → Prop} {Q : Int → qV → Prop} {kc ks : Nat} (d : Nat) (hg_X6_readTerm : ∀ {V : qV} {Q : Int → qV → Prop}, qB S V → g_X6_readTerm V Q → Z M_X6_readTerm (d + 1) 0 0 0 [some (.ref 1), none] [] S (qi V) (qj J) (qP_zV S J Q)) (hK : ∀ (l1 : Int) (V : qV), qB S V → zr l1 → K l1 V → Z M_X6_readSum (d + 2) kc ks 81 [some (.ref 1), some (.int (iI l1)), none] [] S (qi V) (qj J) (qP_zV S J Q)) : ∀ (f : Nat) (l1 : Int) (V : qV), qB S V → zr l1 → lp_X6_readSum_11 g_X6_readTerm K Q f l1 V → Z M_X6_readSum (d + 2) kc ks 11 [some (.ref 1), some (.int (iI l1)), none] [] S (qi V) (qj J) (qP_zV S J Q) := by
  intro f
  induction f with
  | zero =>
    intro l1 V hB z1 h
    exact h.elim
  | succ f ih =>
    intro l1 V hB z1 h
    rw [lp_X6_readSum_11] at h
    refine z_iload_n Q_X6_readSum (k := 7) rfl rfl ?_
    refine y_sipush Q_X6_readSum (k := 8) rfl (by decide) ?_
    refine y_icmp_ge 81 Q_X6_readSum (k := 9) rfl (by decide) z1 ⟨by decide, by decide⟩ (fun c => ?_) (fun c => ?_)
    · replace h := h.1 c
      exact y_fg (zsb_c rfl (zsb_c rfl (zsb_n zsb_e))) (hK l1 V hB z1 h)
    · replace h := h.2 c
      refine z_aload_n Q_X6_readSum (k := 10) rfl rfl ?_
      refine y_bipush Q_X6_readSum (k := 11) rfl (by decide) ?_
      refine q_callV1_z Q_X6_readSum (k := 12) rfl rfl K_X6_isSign V_X6_isSign L_X6_119 (n_ hB.1 rfl) (k_1 hB.1) (Nat.le_of_ble_eq_true rfl) (Nat.le_of_ble_eq_true rfl) rfl (Nat.zero_le _) (Nat.zero_le _) (w_X6_isSign (d + 1) hB ⟨by decide, by decide⟩ h) (fun r2 hz2 hb2 h => ?_)
      refine y_if_ne 36 Q_X6_readSum (k := 13) rfl (by decide) hz2 (fun c => ?_) (fun c => ?_)
      · replace h := h.2 c
        refine z_aload_n Q_X6_readSum (k := 18) rfl rfl ?_
        refine y_bipush Q_X6_readSum (k := 19) rfl (by decide) ?_
        refine q_callV1_z Q_X6_readSum (k := 20) rfl rfl K_X6_isSign V_X6_isSign L_X6_119 (n_ hB.1 rfl) (k_1 hB.1) (Nat.le_of_ble_eq_true rfl) (Nat.le_of_ble_eq_true rfl) rfl (Nat.zero_le _) (Nat.zero_le _) (w_X6_isSign (d + 1) hB ⟨by decide, by decide⟩ h) (fun r3 hz3 hb3 h => ?_)
        refine y_if_eq 50 Q_X6_readSum (k := 21) rfl (by decide) hz3 (fun c => ?_) (fun c => ?_)
        · replace h := h.1 c
          refine y_bipush Q_X6_readSum (k := 24) rfl (by decide) ?_
          refine y_istore_n (L' := [some (.ref 1), some (.int (iI l1)), some (.int (iI 7))]) Q_X6_readSum (k := 25) rfl (by decide) rfl ?_
          refine z_aload_n Q_X6_readSum (k := 26) rfl rfl ?_
          refine q_callV0_uV Q_X6_readSum (k := 27) rfl rfl K_X6_goOn V_X6_goOn L_X6_89 (n_ hB.1 rfl) (k_1 hB.1) (Nat.le_of_ble_eq_true rfl) (Nat.le_of_ble_eq_true rfl) rfl (Nat.zero_le _) (Nat.zero_le _) (w_X6_goOn (d + 1) hB  h) (fun V4 hB4 h => ?_)
          refine z_aload_n Q_X6_readSum (k := 28) rfl rfl ?_
          refine q_callV0_zV Q_X6_readSum (k := 29) rfl rfl K_X6_readTerm V_X6_readTerm L_X6_134 (n_ hB4.1 rfl) (k_1 hB4.1) (Nat.le_of_ble_eq_true rfl) (Nat.le_of_ble_eq_true rfl) rfl (Nat.zero_le _) (Nat.zero_le _) (hg_X6_readTerm hB4 h) (fun r5 V5 hB5 hz5 hb5 h => ?_)
          refine y_if_ne 66 Q_X6_readSum (k := 30) rfl (by decide) hz5 (fun c => ?_) (fun c => ?_)
          · replace h := h.2 c
            refine z_aload_n Q_X6_readSum (k := 33) rfl rfl ?_
            refine z_getR (b := (V5 1 14).toNat) Q_X6_readSum (k := 34) rfl F_X6_36 rfl (n_ hB5.1 rfl) (k_1 hB5.1) hB5.2.2.1.2 ?_
            refine z_iload_n Q_X6_readSum (k := 35) rfl rfl ?_
            refine y_iconst Q_X6_readSum (k := 36) rfl ?_
            refine q_callV2_uV Q_X6_readSum (k := 37) rfl rfl K_X3_addCode V_X3_addCode L_X6_110 hB5.2.2.1.1.1.2.1 hB5.2.2.1.1.1.2.2.1 (Nat.le_of_ble_eq_true rfl) (Nat.le_of_ble_eq_true rfl) rfl (Nat.zero_le _) (Nat.zero_le _) (w_X3_addCode (d + 1) hB5 hB5.2.2.1.1 ⟨by decide, by decide⟩ ⟨by decide, by decide⟩ h) (fun V6 hB6 h => ?_)
            obtain ⟨q7, h⟩ := h
            refine y_iinc (L' := [some (.ref 1), some (.int (iI (l1 + 1))), some (.int (iI 7))]) Q_X6_readSum (k := 38) rfl (by decide) rfl rfl ?_
            refine z_goto (tgt := 11) Q_X6_readSum (k := 39) rfl (by decide) ?_
            exact y_fg (zsb_c rfl (zsb_c rfl (zsb_n zsb_e))) (ih (l1 + 1) V6 hB6 q7 h)
          · replace h := h.1 c
            refine y_iconst Q_X6_readSum (k := 31) rfl ?_
            exact y_zret Q_X6_readSum (k := 32) rfl rfl (Or.inl rfl) (qI_zV hB5 ⟨by decide, by decide⟩ (Or.inl rfl) h)
        · replace h := h.2 c
          refine y_bipush Q_X6_readSum (k := 22) rfl (by decide) ?_
          refine z_goto (tgt := 52) Q_X6_readSum (k := 23) rfl (by decide) ?_
          refine y_istore_n (L' := [some (.ref 1), some (.int (iI l1)), some (.int (iI 6))]) Q_X6_readSum (k := 25) rfl (by decide) rfl ?_
          refine z_aload_n Q_X6_readSum (k := 26) rfl rfl ?_
          refine q_callV0_uV Q_X6_readSum (k := 27) rfl rfl K_X6_goOn V_X6_goOn L_X6_89 (n_ hB.1 rfl) (k_1 hB.1) (Nat.le_of_ble_eq_true rfl) (Nat.le_of_ble_eq_true rfl) rfl (Nat.zero_le _) (Nat.zero_le _) (w_X6_goOn (d + 1) hB  h) (fun V8 hB8 h => ?_)
          refine z_aload_n Q_X6_readSum (k := 28) rfl rfl ?_
          refine q_callV0_zV Q_X6_readSum (k := 29) rfl rfl K_X6_readTerm V_X6_readTerm L_X6_134 (n_ hB8.1 rfl) (k_1 hB8.1) (Nat.le_of_ble_eq_true rfl) (Nat.le_of_ble_eq_true rfl) rfl (Nat.zero_le _) (Nat.zero_le _) (hg_X6_readTerm hB8 h) (fun r9 V9 hB9 hz9 hb9 h => ?_)
          refine y_if_ne 66 Q_X6_readSum (k := 30) rfl (by decide) hz9 (fun c => ?_) (fun c => ?_)
          · replace h := h.2 c
            refine z_aload_n Q_X6_readSum (k := 33) rfl rfl ?_
            refine z_getR (b := (V9 1 14).toNat) Q_X6_readSum (k := 34) rfl F_X6_36 rfl (n_ hB9.1 rfl) (k_1 hB9.1) hB9.2.2.1.2 ?_
            refine z_iload_n Q_X6_readSum (k := 35) rfl rfl ?_
            refine y_iconst Q_X6_readSum (k := 36) rfl ?_
            refine q_callV2_uV Q_X6_readSum (k := 37) rfl rfl K_X3_addCode V_X3_addCode L_X6_110 hB9.2.2.1.1.1.2.1 hB9.2.2.1.1.1.2.2.1 (Nat.le_of_ble_eq_true rfl) (Nat.le_of_ble_eq_true rfl) rfl (Nat.zero_le _) (Nat.zero_le _) (w_X3_addCode (d + 1) hB9 hB9.2.2.1.1 ⟨by decide, by decide⟩ ⟨by decide, by decide⟩ h) (fun V10 hB10 h => ?_)
            obtain ⟨q11, h⟩ := h
            refine y_iinc (L' := [some (.ref 1), some (.int (iI (l1 + 1))), some (.int (iI 6))]) Q_X6_readSum (k := 38) rfl (by decide) rfl rfl ?_
            refine z_goto (tgt := 11) Q_X6_readSum (k := 39) rfl (by decide) ?_
            exact y_fg (zsb_c rfl (zsb_c rfl (zsb_n zsb_e))) (ih (l1 + 1) V10 hB10 q11 h)
          · replace h := h.1 c
            refine y_iconst Q_X6_readSum (k := 31) rfl ?_
            exact y_zret Q_X6_readSum (k := 32) rfl rfl (Or.inl rfl) (qI_zV hB9 ⟨by decide, by decide⟩ (Or.inl rfl) h)
      · replace h := h.1 c
        refine z_aload_n Q_X6_readSum (k := 14) rfl rfl ?_
        refine y_bipush Q_X6_readSum (k := 15) rfl (by decide) ?_
        refine q_callV1_z Q_X6_readSum (k := 16) rfl rfl K_X6_isSign V_X6_isSign L_X6_119 (n_ hB.1 rfl) (k_1 hB.1) (Nat.le_of_ble_eq_true rfl) (Nat.le_of_ble_eq_true rfl) rfl (Nat.zero_le _) (Nat.zero_le _) (w_X6_isSign (d + 1) hB ⟨by decide, by decide⟩ h) (fun r12 hz12 hb12 h => ?_)
        refine y_if_eq 81 Q_X6_readSum (k := 17) rfl (by decide) hz12 (fun c => ?_) (fun c => ?_)
        · replace h := h.1 c
          exact y_fg (zsb_c rfl (zsb_c rfl (zsb_n zsb_e))) (hK l1 V hB z1 h)
        · replace h := h.2 c
          refine z_aload_n Q_X6_readSum (k := 18) rfl rfl ?_
          refine y_bipush Q_X6_readSum (k := 19) rfl (by decide) ?_
          refine q_callV1_z Q_X6_readSum (k := 20) rfl rfl K_X6_isSign V_X6_isSign L_X6_119 (n_ hB.1 rfl) (k_1 hB.1) (Nat.le_of_ble_eq_true rfl) (Nat.le_of_ble_eq_true rfl) rfl (Nat.zero_le _) (Nat.zero_le _) (w_X6_isSign (d + 1) hB ⟨by decide, by decide⟩ h) (fun r13 hz13 hb13 h => ?_)
          refine y_if_eq 50 Q_X6_readSum (k := 21) rfl (by decide) hz13 (fun c => ?_) (fun c => ?_)
          · replace h := h.1 c
            refine y_bipush Q_X6_readSum (k := 24) rfl (by decide) ?_
            refine y_istore_n (L' := [some (.ref 1), some (.int (iI l1)), some (.int (iI 7))]) Q_X6_readSum (k := 25) rfl (by decide) rfl ?_
            refine z_aload_n Q_X6_readSum (k := 26) rfl rfl ?_
            refine q_callV0_uV Q_X6_readSum (k := 27) rfl rfl K_X6_goOn V_X6_goOn L_X6_89 (n_ hB.1 rfl) (k_1 hB.1) (Nat.le_of_ble_eq_true rfl) (Nat.le_of_ble_eq_true rfl) rfl (Nat.zero_le _) (Nat.zero_le _) (w_X6_goOn (d + 1) hB  h) (fun V14 hB14 h => ?_)
            refine z_aload_n Q_X6_readSum (k := 28) rfl rfl ?_
            refine q_callV0_zV Q_X6_readSum (k := 29) rfl rfl K_X6_readTerm V_X6_readTerm L_X6_134 (n_ hB14.1 rfl) (k_1 hB14.1) (Nat.le_of_ble_eq_true rfl) (Nat.le_of_ble_eq_true rfl) rfl (Nat.zero_le _) (Nat.zero_le _) (hg_X6_readTerm hB14 h) (fun r15 V15 hB15 hz15 hb15 h => ?_)
            refine y_if_ne 66 Q_X6_readSum (k := 30) rfl (by decide) hz15 (fun c => ?_) (fun c => ?_)
            · replace h := h.2 c
              refine z_aload_n Q_X6_readSum (k := 33) rfl rfl ?_
              refine z_getR (b := (V15 1 14).toNat) Q_X6_readSum (k := 34) rfl F_X6_36 rfl (n_ hB15.1 rfl) (k_1 hB15.1) hB15.2.2.1.2 ?_
              refine z_iload_n Q_X6_readSum (k := 35) rfl rfl ?_
              refine y_iconst Q_X6_readSum (k := 36) rfl ?_
              refine q_callV2_uV Q_X6_readSum (k := 37) rfl rfl K_X3_addCode V_X3_addCode L_X6_110 hB15.2.2.1.1.1.2.1 hB15.2.2.1.1.1.2.2.1 (Nat.le_of_ble_eq_true rfl) (Nat.le_of_ble_eq_true rfl) rfl (Nat.zero_le _) (Nat.zero_le _) (w_X3_addCode (d + 1) hB15 hB15.2.2.1.1 ⟨by decide, by decide⟩ ⟨by decide, by decide⟩ h) (fun V16 hB16 h => ?_)
              obtain ⟨q17, h⟩ := h
              refine y_iinc (L' := [some (.ref 1), some (.int (iI (l1 + 1))), some (.int (iI 7))]) Q_X6_readSum (k := 38) rfl (by decide) rfl rfl ?_
              refine z_goto (tgt := 11) Q_X6_readSum (k := 39) rfl (by decide) ?_
              exact y_fg (zsb_c rfl (zsb_c rfl (zsb_n zsb_e))) (ih (l1 + 1) V16 hB16 q17 h)
            · replace h := h.1 c
              refine y_iconst Q_X6_readSum (k := 31) rfl ?_
              exact y_zret Q_X6_readSum (k := 32) rfl rfl (Or.inl rfl) (qI_zV hB15 ⟨by decide, by decide⟩ (Or.inl rfl) h)
          · replace h := h.2 c
            refine y_bipush Q_X6_readSum (k := 22) rfl (by decide) ?_
            refine z_goto (tgt := 52) Q_X6_readSum (k := 23) rfl (by decide) ?_
            refine y_istore_n (L' := [some (.ref 1), some (.int (iI l1)), some (.int (iI 6))]) Q_X6_readSum (k := 25) rfl (by decide) rfl ?_
            refine z_aload_n Q_X6_readSum (k := 26) rfl rfl ?_
            refine q_callV0_uV Q_X6_readSum (k := 27) rfl rfl K_X6_goOn V_X6_goOn L_X6_89 (n_ hB.1 rfl) (k_1 hB.1) (Nat.le_of_ble_eq_true rfl) (Nat.le_of_ble_eq_true rfl) rfl (Nat.zero_le _) (Nat.zero_le _) (w_X6_goOn (d + 1) hB  h) (fun V18 hB18 h => ?_)
            refine z_aload_n Q_X6_readSum (k := 28) rfl rfl ?_
            refine q_callV0_zV Q_X6_readSum (k := 29) rfl rfl K_X6_readTerm V_X6_readTerm L_X6_134 (n_ hB18.1 rfl) (k_1 hB18.1) (Nat.le_of_ble_eq_true rfl) (Nat.le_of_ble_eq_true rfl) rfl (Nat.zero_le _) (Nat.zero_le _) (hg_X6_readTerm hB18 h) (fun r19 V19 hB19 hz19 hb19 h => ?_)
            refine y_if_ne 66 Q_X6_readSum (k := 30) rfl (by decide) hz19 (fun c => ?_) (fun c => ?_)
            · replace h := h.2 c
              refine z_aload_n Q_X6_readSum (k := 33) rfl rfl ?_
              refine z_getR (b := (V19 1 14).toNat) Q_X6_readSum (k := 34) rfl F_X6_36 rfl (n_ hB19.1 rfl) (k_1 hB19.1) hB19.2.2.1.2 ?_
              refine z_iload_n Q_X6_readSum (k := 35) rfl rfl ?_
              refine y_iconst Q_X6_readSum (k := 36) rfl ?_
              refine q_callV2_uV Q_X6_readSum (k := 37) rfl rfl K_X3_addCode V_X3_addCode L_X6_110 hB19.2.2.1.1.1.2.1 hB19.2.2.1.1.1.2.2.1 (Nat.le_of_ble_eq_true rfl) (Nat.le_of_ble_eq_true rfl) rfl (Nat.zero_le _) (Nat.zero_le _) (w_X3_addCode (d + 1) hB19 hB19.2.2.1.1 ⟨by decide, by decide⟩ ⟨by decide, by decide⟩ h) (fun V20 hB20 h => ?_)
              obtain ⟨q21, h⟩ := h
              refine y_iinc (L' := [some (.ref 1), some (.int (iI (l1 + 1))), some (.int (iI 6))]) Q_X6_readSum (k := 38) rfl (by decide) rfl rfl ?_
              refine z_goto (tgt := 11) Q_X6_readSum (k := 39) rfl (by decide) ?_
              exact y_fg (zsb_c rfl (zsb_c rfl (zsb_n zsb_e))) (ih (l1 + 1) V20 hB20 q21 h)
            · replace h := h.1 c
              refine y_iconst Q_X6_readSum (k := 31) rfl ?_
              exact y_zret Q_X6_readSum (k := 32) rfl rfl (Or.inl rfl) (qI_zV hB19 ⟨by decide, by decide⟩ (Or.inl rfl) h)
set_option maxHeartbeats 4000000 in
set_option maxRecDepth 20000 in
theorem b_X6_readSum {S : zS} {V : qV} {J : qJ} {g_X6_readTerm : qV → (Int → qV → Prop) → Prop} {Q : Int → qV → Prop} (d : Nat) (hg_X6_readTerm : ∀ {V : qV} {Q : Int → qV → Prop}, qB S V → g_X6_readTerm V Q → Z M_X6_readTerm (d + 1) 0 0 0 [some (.ref 1), none] [] S (qi V) (qj J) (qP_zV S J Q)) (hB : qB S V) (h : B_X6_readSum g_X6_readTerm V Q) : Z M_X6_readSum (d + 2) 0 0 0 [some (.ref 1), none, none] [] S (qi V) (qj J) (qP_zV S J Q) := by
  unfold B_X6_readSum at h
  refine z_aload_n Q_X6_readSum (k := 0) rfl rfl ?_
  refine q_callV0_zV Q_X6_readSum (k := 1) rfl rfl K_X6_readTerm V_X6_readTerm L_X6_134 (n_ hB.1 rfl) (k_1 hB.1) (Nat.le_of_ble_eq_true rfl) (Nat.le_of_ble_eq_true rfl) rfl (Nat.zero_le _) (Nat.zero_le _) (hg_X6_readTerm hB h) (fun r1 V1 hB1 hz1 hb1 h => ?_)
  refine y_if_ne 9 Q_X6_readSum (k := 2) rfl (by decide) hz1 (fun c => ?_) (fun c => ?_)
  · replace h := h.2 c
    refine y_iconst Q_X6_readSum (k := 5) rfl ?_
    refine y_istore_n (L' := [some (.ref 1), some (.int (iI 0)), none]) Q_X6_readSum (k := 6) rfl (by decide) rfl ?_
    refine y_fg (zsb_c rfl (zsb_c rfl (zsb_n zsb_e))) (v_X6_readSum_11 d hg_X6_readTerm (fun l1x22 V22 hB22 zl1x22 h => ?_) 100000 0 V1 hB1 ⟨by decide, by decide⟩ h)
    refine y_iconst Q_X6_readSum (k := 40) rfl ?_
    exact y_zret Q_X6_readSum (k := 41) rfl rfl (Or.inr rfl) (qI_zV hB22 ⟨by decide, by decide⟩ (Or.inr rfl) h)
  · replace h := h.1 c
    refine y_iconst Q_X6_readSum (k := 3) rfl ?_
    exact y_zret Q_X6_readSum (k := 4) rfl rfl (Or.inl rfl) (qI_zV hB1 ⟨by decide, by decide⟩ (Or.inl rfl) h)
set_option maxHeartbeats 4000000 in
set_option maxRecDepth 20000 in
theorem b_X6_readTerm {S : zS} {V : qV} {J : qJ} {g_X6_readParenthesis : qV → (Int → qV → Prop) → Prop} {Q : Int → qV → Prop} (d : Nat) (hg_X6_readParenthesis : ∀ {V : qV} {Q : Int → qV → Prop}, qB S V → g_X6_readParenthesis V Q → Z M_X6_readParenthesis (d + 1) 0 0 0 [some (.ref 1)] [] S (qi V) (qj J) (qP_zV S J Q)) (hB : qB S V) (h : B_X6_readTerm g_X6_readParenthesis V Q) : Z M_X6_readTerm (d + 2) 0 0 0 [some (.ref 1), none] [] S (qi V) (qj J) (qP_zV S J Q) := by
  unfold B_X6_readTerm at h
  refine z_aload_n Q_X6_readTerm (k := 0) rfl rfl ?_
  refine y_bipush Q_X6_readTerm (k := 1) rfl (by decide) ?_
  refine q_callV1_z Q_X6_readTerm (k := 2) rfl rfl K_X6_isSign V_X6_isSign L_X6_119 (n_ hB.1 rfl) (k_1 hB.1) (Nat.le_of_ble_eq_true rfl) (Nat.le_of_ble_eq_true rfl) rfl (Nat.zero_le _) (Nat.zero_le _) (w_X6_isSign (d + 1) hB ⟨by decide, by decide⟩ h) (fun r1 hz1 hb1 h => ?_)
  refine y_if_eq 14 Q_X6_readTerm (k := 3) rfl (by decide) hz1 (fun c => ?_) (fun c => ?_)
  · replace h := h.1 c
    refine z_aload_n Q_X6_readTerm (k := 7) rfl rfl ?_
    refine q_getI (o := 1) (z := 9) Q_X6_readTerm (k := 8) rfl F_X6_95 rfl rfl rfl (n_ hB.1 rfl) (k_1 hB.1) ?_
    refine y_iconst Q_X6_readTerm (k := 9) rfl ?_
    obtain ⟨q2, h⟩ := h
    refine y_isub Q_X6_readTerm (k := 10) rfl ?_
    refine y_istore_n (L' := [some (.ref 1), some (.int (iI ((V 1 9) - 5)))]) Q_X6_readTerm (k := 11) rfl (by decide) rfl ?_
    refine z_aload_n Q_X6_readTerm (k := 12) rfl rfl ?_
    refine q_getI (o := 1) (z := 8) Q_X6_readTerm (k := 13) rfl F_X6_46 rfl rfl rfl (n_ hB.1 rfl) (k_1 hB.1) ?_
    refine y_iconst Q_X6_readTerm (k := 14) rfl ?_
    refine y_icmp_ne 59 Q_X6_readTerm (k := 15) rfl (by decide) (hB.2.1 _ _) ⟨by decide, by decide⟩ (fun c => ?_) (fun c => ?_)
    · replace h := h.2 c
      refine z_aload_n Q_X6_readTerm (k := 31) rfl rfl ?_
      refine q_callV0_zV Q_X6_readTerm (k := 32) rfl rfl K_X6_needNumber V_X6_needNumber L_X6_104 (n_ hB.1 rfl) (k_1 hB.1) (Nat.le_of_ble_eq_true rfl) (Nat.le_of_ble_eq_true rfl) rfl (Nat.zero_le _) (Nat.zero_le _) (w_X6_needNumber d hB  h) (fun r3 V3 hB3 hz3 hb3 h => ?_)
      refine y_if_eq 81 Q_X6_readTerm (k := 33) rfl (by decide) hz3 (fun c => ?_) (fun c => ?_)
      · replace h := h.1 c
        refine y_iconst Q_X6_readTerm (k := 41) rfl ?_
        exact y_zret Q_X6_readTerm (k := 42) rfl rfl (Or.inl rfl) (qI_zV hB3 ⟨by decide, by decide⟩ (Or.inl rfl) h)
      · replace h := h.2 c
        refine z_aload_n Q_X6_readTerm (k := 34) rfl rfl ?_
        refine z_getR (b := (V3 1 14).toNat) Q_X6_readTerm (k := 35) rfl F_X6_36 rfl (n_ hB3.1 rfl) (k_1 hB3.1) hB3.2.2.1.2 ?_
        refine y_iconst Q_X6_readTerm (k := 36) rfl ?_
        refine z_aload_n Q_X6_readTerm (k := 37) rfl rfl ?_
        refine q_getI (o := 1) (z := 9) Q_X6_readTerm (k := 38) rfl F_X6_95 rfl rfl rfl (n_ hB3.1 rfl) (k_1 hB3.1) ?_
        refine q_callV2_uV Q_X6_readTerm (k := 39) rfl rfl K_X3_addCode V_X3_addCode L_X6_110 hB3.2.2.1.1.1.2.1 hB3.2.2.1.1.1.2.2.1 (Nat.le_of_ble_eq_true rfl) (Nat.le_of_ble_eq_true rfl) rfl (Nat.zero_le _) (Nat.zero_le _) (w_X3_addCode (d + 1) hB3 hB3.2.2.1.1 ⟨by decide, by decide⟩ (hB3.2.1 _ _) h) (fun V4 hB4 h => ?_)
        refine z_goto (tgt := 83) Q_X6_readTerm (k := 40) rfl (by decide) ?_
        refine z_aload_n Q_X6_readTerm (k := 43) rfl rfl ?_
        refine q_callV0_uV Q_X6_readTerm (k := 44) rfl rfl K_X6_goOn V_X6_goOn L_X6_89 (n_ hB4.1 rfl) (k_1 hB4.1) (Nat.le_of_ble_eq_true rfl) (Nat.le_of_ble_eq_true rfl) rfl (Nat.zero_le _) (Nat.zero_le _) (w_X6_goOn (d + 1) hB4  h) (fun V5 hB5 h => ?_)
        refine y_iconst Q_X6_readTerm (k := 45) rfl ?_
        exact y_zret Q_X6_readTerm (k := 46) rfl rfl (Or.inr rfl) (qI_zV hB5 ⟨by decide, by decide⟩ (Or.inr rfl) h)
    · replace h := h.1 c
      refine z_iload_n Q_X6_readTerm (k := 16) rfl rfl ?_
      refine y_if_lt 59 Q_X6_readTerm (k := 17) rfl (by decide) q2 (fun c => ?_) (fun c => ?_)
      · replace h := h.1 c
        refine z_aload_n Q_X6_readTerm (k := 31) rfl rfl ?_
        refine q_callV0_zV Q_X6_readTerm (k := 32) rfl rfl K_X6_needNumber V_X6_needNumber L_X6_104 (n_ hB.1 rfl) (k_1 hB.1) (Nat.le_of_ble_eq_true rfl) (Nat.le_of_ble_eq_true rfl) rfl (Nat.zero_le _) (Nat.zero_le _) (w_X6_needNumber d hB  h) (fun r6 V6 hB6 hz6 hb6 h => ?_)
        refine y_if_eq 81 Q_X6_readTerm (k := 33) rfl (by decide) hz6 (fun c => ?_) (fun c => ?_)
        · replace h := h.1 c
          refine y_iconst Q_X6_readTerm (k := 41) rfl ?_
          exact y_zret Q_X6_readTerm (k := 42) rfl rfl (Or.inl rfl) (qI_zV hB6 ⟨by decide, by decide⟩ (Or.inl rfl) h)
        · replace h := h.2 c
          refine z_aload_n Q_X6_readTerm (k := 34) rfl rfl ?_
          refine z_getR (b := (V6 1 14).toNat) Q_X6_readTerm (k := 35) rfl F_X6_36 rfl (n_ hB6.1 rfl) (k_1 hB6.1) hB6.2.2.1.2 ?_
          refine y_iconst Q_X6_readTerm (k := 36) rfl ?_
          refine z_aload_n Q_X6_readTerm (k := 37) rfl rfl ?_
          refine q_getI (o := 1) (z := 9) Q_X6_readTerm (k := 38) rfl F_X6_95 rfl rfl rfl (n_ hB6.1 rfl) (k_1 hB6.1) ?_
          refine q_callV2_uV Q_X6_readTerm (k := 39) rfl rfl K_X3_addCode V_X3_addCode L_X6_110 hB6.2.2.1.1.1.2.1 hB6.2.2.1.1.1.2.2.1 (Nat.le_of_ble_eq_true rfl) (Nat.le_of_ble_eq_true rfl) rfl (Nat.zero_le _) (Nat.zero_le _) (w_X3_addCode (d + 1) hB6 hB6.2.2.1.1 ⟨by decide, by decide⟩ (hB6.2.1 _ _) h) (fun V7 hB7 h => ?_)
          refine z_goto (tgt := 83) Q_X6_readTerm (k := 40) rfl (by decide) ?_
          refine z_aload_n Q_X6_readTerm (k := 43) rfl rfl ?_
          refine q_callV0_uV Q_X6_readTerm (k := 44) rfl rfl K_X6_goOn V_X6_goOn L_X6_89 (n_ hB7.1 rfl) (k_1 hB7.1) (Nat.le_of_ble_eq_true rfl) (Nat.le_of_ble_eq_true rfl) rfl (Nat.zero_le _) (Nat.zero_le _) (w_X6_goOn (d + 1) hB7  h) (fun V8 hB8 h => ?_)
          refine y_iconst Q_X6_readTerm (k := 45) rfl ?_
          exact y_zret Q_X6_readTerm (k := 46) rfl rfl (Or.inr rfl) (qI_zV hB8 ⟨by decide, by decide⟩ (Or.inr rfl) h)
      · replace h := h.2 c
        refine z_iload_n Q_X6_readTerm (k := 18) rfl rfl ?_
        refine y_bipush Q_X6_readTerm (k := 19) rfl (by decide) ?_
        refine y_icmp_ge 59 Q_X6_readTerm (k := 20) rfl (by decide) q2 ⟨by decide, by decide⟩ (fun c => ?_) (fun c => ?_)
        · replace h := h.1 c
          refine z_aload_n Q_X6_readTerm (k := 31) rfl rfl ?_
          refine q_callV0_zV Q_X6_readTerm (k := 32) rfl rfl K_X6_needNumber V_X6_needNumber L_X6_104 (n_ hB.1 rfl) (k_1 hB.1) (Nat.le_of_ble_eq_true rfl) (Nat.le_of_ble_eq_true rfl) rfl (Nat.zero_le _) (Nat.zero_le _) (w_X6_needNumber d hB  h) (fun r9 V9 hB9 hz9 hb9 h => ?_)
          refine y_if_eq 81 Q_X6_readTerm (k := 33) rfl (by decide) hz9 (fun c => ?_) (fun c => ?_)
          · replace h := h.1 c
            refine y_iconst Q_X6_readTerm (k := 41) rfl ?_
            exact y_zret Q_X6_readTerm (k := 42) rfl rfl (Or.inl rfl) (qI_zV hB9 ⟨by decide, by decide⟩ (Or.inl rfl) h)
          · replace h := h.2 c
            refine z_aload_n Q_X6_readTerm (k := 34) rfl rfl ?_
            refine z_getR (b := (V9 1 14).toNat) Q_X6_readTerm (k := 35) rfl F_X6_36 rfl (n_ hB9.1 rfl) (k_1 hB9.1) hB9.2.2.1.2 ?_
            refine y_iconst Q_X6_readTerm (k := 36) rfl ?_
            refine z_aload_n Q_X6_readTerm (k := 37) rfl rfl ?_
            refine q_getI (o := 1) (z := 9) Q_X6_readTerm (k := 38) rfl F_X6_95 rfl rfl rfl (n_ hB9.1 rfl) (k_1 hB9.1) ?_
            refine q_callV2_uV Q_X6_readTerm (k := 39) rfl rfl K_X3_addCode V_X3_addCode L_X6_110 hB9.2.2.1.1.1.2.1 hB9.2.2.1.1.1.2.2.1 (Nat.le_of_ble_eq_true rfl) (Nat.le_of_ble_eq_true rfl) rfl (Nat.zero_le _) (Nat.zero_le _) (w_X3_addCode (d + 1) hB9 hB9.2.2.1.1 ⟨by decide, by decide⟩ (hB9.2.1 _ _) h) (fun V10 hB10 h => ?_)
            refine z_goto (tgt := 83) Q_X6_readTerm (k := 40) rfl (by decide) ?_
            refine z_aload_n Q_X6_readTerm (k := 43) rfl rfl ?_
            refine q_callV0_uV Q_X6_readTerm (k := 44) rfl rfl K_X6_goOn V_X6_goOn L_X6_89 (n_ hB10.1 rfl) (k_1 hB10.1) (Nat.le_of_ble_eq_true rfl) (Nat.le_of_ble_eq_true rfl) rfl (Nat.zero_le _) (Nat.zero_le _) (w_X6_goOn (d + 1) hB10  h) (fun V11 hB11 h => ?_)
            refine y_iconst Q_X6_readTerm (k := 45) rfl ?_
            exact y_zret Q_X6_readTerm (k := 46) rfl rfl (Or.inr rfl) (qI_zV hB11 ⟨by decide, by decide⟩ (Or.inr rfl) h)
        · replace h := h.2 c
          refine z_aload_n Q_X6_readTerm (k := 21) rfl rfl ?_
          refine z_getR (b := (V 1 14).toNat) Q_X6_readTerm (k := 22) rfl F_X6_36 rfl (n_ hB.1 rfl) (k_1 hB.1) hB.2.2.1.2 ?_
          refine y_iconst Q_X6_readTerm (k := 23) rfl ?_
          refine z_iload_n Q_X6_readTerm (k := 24) rfl rfl ?_
          refine q_callV2_uV Q_X6_readTerm (k := 25) rfl rfl K_X3_addCode V_X3_addCode L_X6_110 hB.2.2.1.1.1.2.1 hB.2.2.1.1.1.2.2.1 (Nat.le_of_ble_eq_true rfl) (Nat.le_of_ble_eq_true rfl) rfl (Nat.zero_le _) (Nat.zero_le _) (w_X3_addCode (d + 1) hB hB.2.2.1.1 ⟨by decide, by decide⟩ q2 h) (fun V12 hB12 h => ?_)
          refine z_aload_n Q_X6_readTerm (k := 26) rfl rfl ?_
          refine z_getR (b := (V12 1 14).toNat) Q_X6_readTerm (k := 27) rfl F_X6_36 rfl (n_ hB12.1 rfl) (k_1 hB12.1) hB12.2.2.1.2 ?_
          refine z_iload_n Q_X6_readTerm (k := 28) rfl rfl ?_
          refine q_callV1_uV Q_X6_readTerm (k := 29) rfl rfl K_X3_addUse V_X3_addUse L_X6_140 hB12.2.2.1.1.1.2.1 hB12.2.2.1.1.1.2.2.1 (Nat.le_of_ble_eq_true rfl) (Nat.le_of_ble_eq_true rfl) rfl (Nat.zero_le _) (Nat.zero_le _) (w_X3_addUse (d + 1) hB12 hB12.2.2.1.1 q2 h) (fun V13 hB13 h => ?_)
          refine z_goto (tgt := 83) Q_X6_readTerm (k := 30) rfl (by decide) ?_
          refine z_aload_n Q_X6_readTerm (k := 43) rfl rfl ?_
          refine q_callV0_uV Q_X6_readTerm (k := 44) rfl rfl K_X6_goOn V_X6_goOn L_X6_89 (n_ hB13.1 rfl) (k_1 hB13.1) (Nat.le_of_ble_eq_true rfl) (Nat.le_of_ble_eq_true rfl) rfl (Nat.zero_le _) (Nat.zero_le _) (w_X6_goOn (d + 1) hB13  h) (fun V14 hB14 h => ?_)
          refine y_iconst Q_X6_readTerm (k := 45) rfl ?_
          exact y_zret Q_X6_readTerm (k := 46) rfl rfl (Or.inr rfl) (qI_zV hB14 ⟨by decide, by decide⟩ (Or.inr rfl) h)
  · replace h := h.2 c
    refine z_aload_n Q_X6_readTerm (k := 4) rfl rfl ?_
    refine q_callV0_zV Q_X6_readTerm (k := 5) rfl rfl K_X6_readParenthesis V_X6_readParenthesis L_X6_137 (n_ hB.1 rfl) (k_1 hB.1) (Nat.le_of_ble_eq_true rfl) (Nat.le_of_ble_eq_true rfl) rfl (Nat.zero_le _) (Nat.zero_le _) (hg_X6_readParenthesis hB h) (fun r15 V15 hB15 hz15 hb15 h => ?_)
    exact y_zret Q_X6_readTerm (k := 6) rfl rfl hb15 (qI_zV hB15 hz15 hb15 h)
set_option maxHeartbeats 4000000 in
set_option maxRecDepth 20000 in
theorem b_X6_readParenthesis {S : zS} {V : qV} {J : qJ} {g_X6_readSum : qV → (Int → qV → Prop) → Prop} {Q : Int → qV → Prop} (d : Nat) (hg_X6_readSum : ∀ {V : qV} {Q : Int → qV → Prop}, qB S V → g_X6_readSum V Q → Z M_X6_readSum (d + 1) 0 0 0 [some (.ref 1), none, none] [] S (qi V) (qj J) (qP_zV S J Q)) (hB : qB S V) (h : B_X6_readParenthesis g_X6_readSum V Q) : Z M_X6_readParenthesis (d + 2) 0 0 0 [some (.ref 1)] [] S (qi V) (qj J) (qP_zV S J Q) := by
  unfold B_X6_readParenthesis at h
  refine z_aload_n Q_X6_readParenthesis (k := 0) rfl rfl ?_
  refine q_callV0_zV Q_X6_readParenthesis (k := 1) rfl rfl K_X6_mayOpen V_X6_mayOpen L_X6_128 (n_ hB.1 rfl) (k_1 hB.1) (Nat.le_of_ble_eq_true rfl) (Nat.le_of_ble_eq_true rfl) rfl (Nat.zero_le _) (Nat.zero_le _) (w_X6_mayOpen d hB  h) (fun r1 V1 hB1 hz1 hb1 h => ?_)
  refine y_if_ne 9 Q_X6_readParenthesis (k := 2) rfl (by decide) hz1 (fun c => ?_) (fun c => ?_)
  · replace h := h.2 c
    refine z_aload_n Q_X6_readParenthesis (k := 5) rfl rfl ?_
    refine q_callV0_uV Q_X6_readParenthesis (k := 6) rfl rfl K_X6_goOn V_X6_goOn L_X6_89 (n_ hB1.1 rfl) (k_1 hB1.1) (Nat.le_of_ble_eq_true rfl) (Nat.le_of_ble_eq_true rfl) rfl (Nat.zero_le _) (Nat.zero_le _) (w_X6_goOn (d + 1) hB1  h) (fun V2 hB2 h => ?_)
    refine z_aload_n Q_X6_readParenthesis (k := 7) rfl rfl ?_
    refine q_callV0_zV Q_X6_readParenthesis (k := 8) rfl rfl K_X6_readSum V_X6_readSum L_X6_131 (n_ hB2.1 rfl) (k_1 hB2.1) (Nat.le_of_ble_eq_true rfl) (Nat.le_of_ble_eq_true rfl) rfl (Nat.zero_le _) (Nat.zero_le _) (hg_X6_readSum hB2 h) (fun r3 V3 hB3 hz3 hb3 h => ?_)
    refine y_if_eq 29 Q_X6_readParenthesis (k := 9) rfl (by decide) hz3 (fun c => ?_) (fun c => ?_)
    · replace h := h.1 c
      refine y_iconst Q_X6_readParenthesis (k := 14) rfl ?_
      exact y_zret Q_X6_readParenthesis (k := 15) rfl rfl (Or.inl rfl) (qI_zV hB3 ⟨by decide, by decide⟩ (Or.inl rfl) h)
    · replace h := h.2 c
      refine z_aload_n Q_X6_readParenthesis (k := 10) rfl rfl ?_
      refine y_bipush Q_X6_readParenthesis (k := 11) rfl (by decide) ?_
      refine q_callV1_zV Q_X6_readParenthesis (k := 12) rfl rfl K_X6_readSign V_X6_readSign L_X6_60 (n_ hB3.1 rfl) (k_1 hB3.1) (Nat.le_of_ble_eq_true rfl) (Nat.le_of_ble_eq_true rfl) rfl (Nat.zero_le _) (Nat.zero_le _) (w_X6_readSign d hB3 ⟨by decide, by decide⟩ h) (fun r4 V4 hB4 hz4 hb4 h => ?_)
      refine y_if_ne 31 Q_X6_readParenthesis (k := 13) rfl (by decide) hz4 (fun c => ?_) (fun c => ?_)
      · replace h := h.2 c
        refine z_aload_n Q_X6_readParenthesis (k := 16) rfl rfl ?_
        refine z_dup Q_X6_readParenthesis (k := 17) rfl rfl ?_
        refine q_getI (o := 1) (z := 10) Q_X6_readParenthesis (k := 18) rfl F_X6_80 rfl rfl rfl (n_ hB4.1 rfl) (k_1 hB4.1) ?_
        refine y_iconst Q_X6_readParenthesis (k := 19) rfl ?_
        obtain ⟨q5, h⟩ := h
        refine y_isub Q_X6_readParenthesis (k := 20) rfl ?_
        refine q_putI (o := 1) (z := 10) Q_X6_readParenthesis (k := 21) rfl F_X6_80 rfl rfl rfl (n_ hB4.1 rfl) (k_1 hB4.1) ?_
        have hB6 := qB.u (a := 1) (j := 10) (x := (V4 1 10) - 1) hB4 q5 (Or.inr (Or.inl ⟨rfl, by decide⟩))
        refine y_iconst Q_X6_readParenthesis (k := 22) rfl ?_
        exact y_zret Q_X6_readParenthesis (k := 23) rfl rfl (Or.inr rfl) (qI_zV hB6 ⟨by decide, by decide⟩ (Or.inr rfl) h)
      · replace h := h.1 c
        refine y_iconst Q_X6_readParenthesis (k := 14) rfl ?_
        exact y_zret Q_X6_readParenthesis (k := 15) rfl rfl (Or.inl rfl) (qI_zV hB4 ⟨by decide, by decide⟩ (Or.inl rfl) h)
  · replace h := h.1 c
    refine y_iconst Q_X6_readParenthesis (k := 3) rfl ?_
    exact y_zret Q_X6_readParenthesis (k := 4) rfl rfl (Or.inl rfl) (qI_zV hB1 ⟨by decide, by decide⟩ (Or.inl rfl) h)
theorem g_rs {S : zS} {J : qJ} (d : Nat) : ∀ n : Nat, (∀ {V : qV} {Q : Int → qV → Prop}, qB S V → G_rs n 0 V Q → Z M_X6_readSum (d + n + 1) 0 0 0 [some (.ref 1), none, none] [] S (qi V) (qj J) (qP_zV S J Q)) ∧ (∀ {V : qV} {Q : Int → qV → Prop}, qB S V → G_rs n 1 V Q → Z M_X6_readTerm (d + n + 1) 0 0 0 [some (.ref 1), none] [] S (qi V) (qj J) (qP_zV S J Q)) ∧ (∀ {V : qV} {Q : Int → qV → Prop}, qB S V → G_rs n 2 V Q → Z M_X6_readParenthesis (d + n + 1) 0 0 0 [some (.ref 1)] [] S (qi V) (qj J) (qP_zV S J Q)) := by
  intro n
  induction n with
  | zero => exact ⟨fun _ h => h.elim, fun _ h => h.elim, fun _ h => h.elim⟩
  | succ n ih =>
    obtain ⟨i0, i1, i2⟩ := ih
    refine ⟨?_, ?_, ?_⟩
    · intro V Q hB h
      have h2 : B_X6_readSum (G_rs n 1) V Q := by simpa [G_rs] using h
      exact b_X6_readSum (d + n) (fun hB h => i1 hB h) hB h2
    · intro V Q hB h
      have h2 : B_X6_readTerm (G_rs n 2) V Q := by simpa [G_rs] using h
      exact b_X6_readTerm (d + n) (fun hB h => i2 hB h) hB h2
    · intro V Q hB h
      have h2 : B_X6_readParenthesis (G_rs n 0) V Q := by simpa [G_rs] using h
      exact b_X6_readParenthesis (d + n) (fun hB h => i0 hB h) hB h2
theorem w_X6_readSum {S : zS} {V : qV} {J : qJ} {Q : Int → qV → Prop} (d : Nat) (hB : qB S V) (h : W_X6_readSum V Q) : Z M_X6_readSum (d + 61 + 1) 0 0 0 [some (.ref 1), none, none] [] S (qi V) (qj J) (qP_zV S J Q) := (g_rs d 61).1 hB h
theorem w_X6_readTerm {S : zS} {V : qV} {J : qJ} {Q : Int → qV → Prop} (d : Nat) (hB : qB S V) (h : W_X6_readTerm V Q) : Z M_X6_readTerm (d + 61 + 1) 0 0 0 [some (.ref 1), none] [] S (qi V) (qj J) (qP_zV S J Q) := (g_rs d 61).2.1 hB h
theorem w_X6_readParenthesis {S : zS} {V : qV} {J : qJ} {Q : Int → qV → Prop} (d : Nat) (hB : qB S V) (h : W_X6_readParenthesis V Q) : Z M_X6_readParenthesis (d + 61 + 1) 0 0 0 [some (.ref 1)] [] S (qi V) (qj J) (qP_zV S J Q) := (g_rs d 61).2.2 hB h
