/-! methods keep their predicates -/
set_option maxHeartbeats 4000000 in
set_option maxRecDepth 20000 in
theorem w_X10_holds {S : zS} {V : qV} {J : qJ} {Q : Int → qV → qJ → Prop} {X : String → qV → qJ → Prop} (d : Nat) (hB : qB S V) {a1 : Int} (z1 : zr a1) (h : W_X10_holds a1 V J Q X) : Z M_X10_holds (d + 126) 1 6 0 [some (.ref 0), some (.int (iI a1))] [] S (qi V) (qj J) (qP_iSVJt S Q X) := by
  unfold W_X10_holds at h
  refine z_aload_n Q_X10_holds (k := 0) rfl rfl ?_
  refine z_iload_n Q_X10_holds (k := 1) rfl rfl ?_
  refine q_callV1_uVt Q_X10_holds (k := 2) rfl rfl K_X10_takeTape V_X10_takeTape L_X10_84 (n_ hB.1 rfl) (k_0 hB.1) (Nat.le_of_ble_eq_true rfl) (Nat.le_of_ble_eq_true rfl) rfl (by decide) (by decide) (w_X10_takeTape (d + 124) hB z1 h) (fun E V1 hB1 h => qX_iSVJt hB1 rfl h) (fun V1 hB1 h => ?_)
  refine z_aload_n Q_X10_holds (k := 3) rfl rfl ?_
  refine z_getR (b := 12) Q_X10_holds (k := 4) rfl F_X10_25 rfl (n_ hB1.1 rfl) (k_0 hB1.1) (r_0_3 hB1.1) ?_
  refine q_getI (o := 12) (z := 0) Q_X10_holds (k := 5) rfl F_X10_97 rfl rfl rfl (n_ hB1.1 rfl) (k_12 hB1.1) ?_
  refine y_bipush Q_X10_holds (k := 6) rfl (by decide) ?_
  refine y_icmp_lt 19 Q_X10_holds (k := 7) rfl (by decide) (hB1.2.1 _ _) ⟨by decide, by decide⟩ (fun c => ?_) (fun c => ?_)
  · replace h := h.1 c
    refine z_aload_n Q_X10_holds (k := 10) rfl rfl ?_
    refine z_getR (b := 1) Q_X10_holds (k := 11) rfl F_X10_12 rfl (n_ hB1.1 rfl) (k_0 hB1.1) (r_0_0 hB1.1) ?_
    refine z_iload_n Q_X10_holds (k := 12) rfl rfl ?_
    refine q_callV1_zSV Q_X10_holds (k := 13) rfl rfl K_X6_readCondition V_X6_readCondition L_X10_100 (n_ hB1.1 rfl) (k_1 hB1.1) (Nat.le_of_ble_eq_true rfl) (Nat.le_of_ble_eq_true rfl) rfl (Nat.zero_le _) (Nat.zero_le _) (w_X6_readCondition d hB1 z1 h) (fun r2 S2 V2 hB2 hn2 hz2 hb2 h => ?_)
    refine y_if_ne 41 Q_X10_holds (k := 14) rfl (by decide) hz2 (fun c => ?_) (fun c => ?_)
    · replace h := h.2 c
      refine z_aload_n Q_X10_holds (k := 21) rfl rfl ?_
      refine z_getR (b := 151) Q_X10_holds (k := 22) rfl F_X10_36 rfl (n_ hB2.1 rfl) (k_0 hB2.1) (r_0_6 hB2.1) ?_
      refine z_aload_n Q_X10_holds (k := 23) rfl rfl ?_
      refine z_getR (b := 1) Q_X10_holds (k := 24) rfl F_X10_12 rfl (n_ hB2.1 rfl) (k_0 hB2.1) (r_0_0 hB2.1) ?_
      refine z_getR (b := 6) Q_X10_holds (k := 25) rfl F_X10_104 rfl (n_ hB2.1 rfl) (k_1 hB2.1) (r_1_13 hB2.1) ?_
      refine z_getsN Q_X10_holds (k := 26) rfl gN_X10_108 ?_
      refine z_aload_n Q_X10_holds (k := 27) rfl rfl ?_
      refine z_getR (b := 12) Q_X10_holds (k := 28) rfl F_X10_25 rfl (n_ hB2.1 rfl) (k_0 hB2.1) (r_0_3 hB2.1) ?_
      refine z_getR (b := 13) Q_X10_holds (k := 29) rfl F_X10_111 rfl (n_ hB2.1 rfl) (k_12 hB2.1) (r_12_1 hB2.1) ?_
      refine q_callV3_uVJ Q_X10_holds (k := 30) rfl rfl K_X2_narrow V_X2_narrow L_X10_114 (n_ hB2.1 rfl) (k_151 hB2.1) (Nat.le_of_ble_eq_true rfl) (Nat.le_of_ble_eq_true rfl) rfl (Nat.zero_le _) (Nat.zero_le _) (w_X2_narrow (d + 121) hB2 (Or.inr rfl) h) (fun V3 J3 hB3 h => ?_)
      refine z_aload_n Q_X10_holds (k := 31) rfl rfl ?_
      refine z_getR (b := 12) Q_X10_holds (k := 32) rfl F_X10_25 rfl (n_ hB3.1 rfl) (k_0 hB3.1) (r_0_3 hB3.1) ?_
      refine z_dup Q_X10_holds (k := 33) rfl rfl ?_
      refine q_getI (o := 12) (z := 0) Q_X10_holds (k := 34) rfl F_X10_97 rfl rfl rfl (n_ hB3.1 rfl) (k_12 hB3.1) ?_
      refine y_iconst Q_X10_holds (k := 35) rfl ?_
      obtain ⟨q4, h⟩ := h
      refine y_iadd Q_X10_holds (k := 36) rfl ?_
      refine q_putI (o := 12) (z := 0) Q_X10_holds (k := 37) rfl F_X10_97 rfl rfl rfl (n_ hB3.1 rfl) (k_12 hB3.1) ?_
      have hB5 := qB.u (a := 12) (j := 0) (x := (V3 12 0) + 1) hB3 q4 (Or.inl (by decide))
      refine z_aload_n Q_X10_holds (k := 38) rfl rfl ?_
      refine z_getR (b := 12) Q_X10_holds (k := 39) rfl F_X10_25 rfl (n_ hB5.1 rfl) (k_0 hB5.1) (r_0_3 hB5.1) ?_
      refine q_getI (o := 12) (z := 0) Q_X10_holds (k := 40) rfl F_X10_97 rfl rfl rfl (n_ hB5.1 rfl) (k_12 hB5.1) ?_
      exact y_iret Q_X10_holds (k := 41) rfl rfl (qI_iSVJt hB5 (hn2.trans rfl) (hB5.2.1 _ _) h)
    · replace h := h.1 c
      refine z_aload_n Q_X10_holds (k := 15) rfl rfl ?_
      refine z_getR (b := 1) Q_X10_holds (k := 16) rfl F_X10_12 rfl (n_ hB2.1 rfl) (k_0 hB2.1) (r_0_0 hB2.1) ?_
      refine q_getI (o := 1) (z := 11) Q_X10_holds (k := 17) rfl F_X10_94 rfl rfl rfl (n_ hB2.1 rfl) (k_1 hB2.1) ?_
      refine y_bipush Q_X10_holds (k := 18) rfl (by decide) ?_
      obtain ⟨q6, h⟩ := h
      refine y_isub Q_X10_holds (k := 19) rfl ?_
      exact y_iret Q_X10_holds (k := 20) rfl rfl (qI_iSVJt hB2 (hn2.trans rfl) q6 h)
  · replace h := h.2 c
    refine y_iconst Q_X10_holds (k := 8) rfl ?_
    exact y_iret Q_X10_holds (k := 9) rfl rfl (qI_iSVJt hB1 rfl ⟨by decide, by decide⟩ h)
set_option maxHeartbeats 4000000 in
set_option maxRecDepth 20000 in
theorem w_X10_fault {S : zS} {V : qV} {J : qJ} {Q : Int → Prop} (d : Nat) (hB : qB S V) (h : W_X10_fault V Q) : Z M_X10_fault d 0 0 0 [some (.ref 0)] [] S (qi V) (qj J) (qP_i S V J Q) := by
  unfold W_X10_fault at h
  refine z_aload_n Q_X10_fault (k := 0) rfl rfl ?_
  refine z_getR (b := 1) Q_X10_fault (k := 1) rfl F_X10_12 rfl (n_ hB.1 rfl) (k_0 hB.1) (r_0_0 hB.1) ?_
  refine q_getI (o := 1) (z := 12) Q_X10_fault (k := 2) rfl F_X10_128 rfl rfl rfl (n_ hB.1 rfl) (k_1 hB.1) ?_
  exact y_iret Q_X10_fault (k := 3) rfl rfl (qI_i (hB.2.1 _ _) h)
set_option maxHeartbeats 4000000 in
set_option maxRecDepth 20000 in
theorem w_X10_testUnknown {S : zS} {V : qV} {J : qJ} {Q : Prop} {X : String → Prop} (d : Nat) (hB : qB S V) {a0 : Int} (z0 : zr a0) (h : W_X10_testUnknown a0 V Q X) : Z M_X10_testUnknown d 1 6 0 [some (.int (iI a0))] [] S (qi V) (qj J) (qP_ut S V J Q X) := by
  unfold W_X10_testUnknown at h
  refine z_iload_n Q_X10_testUnknown (k := 0) rfl rfl ?_
  refine y_if_lt 10 Q_X10_testUnknown (k := 1) rfl (by decide) z0 (fun c => ?_) (fun c => ?_)
  · replace h := h.1 c
    exact z_throw Q_X10_testUnknown (k := 5) rfl (zT.at Q_X10_testUnknown (k := 6) rfl).1 (zT.at Q_X10_testUnknown (k := 7) rfl).1 (zT.at Q_X10_testUnknown (k := 8) rfl).1 (zT.at Q_X10_testUnknown (k := 9) rfl).1 rfl (t_X10_144_146) (Nat.le_of_ble_eq_true rfl) (by decide) (by decide) (qX_ut h)
  · replace h := h.2 c
    refine z_iload_n Q_X10_testUnknown (k := 2) rfl rfl ?_
    refine y_bipush Q_X10_testUnknown (k := 3) rfl (by decide) ?_
    refine y_icmp_lt 20 Q_X10_testUnknown (k := 4) rfl (by decide) z0 ⟨by decide, by decide⟩ (fun c => ?_) (fun c => ?_)
    · replace h := h.1 c
      exact z_vret Q_X10_testUnknown (k := 10) rfl rfl (qI_ut h)
    · replace h := h.2 c
      exact z_throw Q_X10_testUnknown (k := 5) rfl (zT.at Q_X10_testUnknown (k := 6) rfl).1 (zT.at Q_X10_testUnknown (k := 7) rfl).1 (zT.at Q_X10_testUnknown (k := 8) rfl).1 (zT.at Q_X10_testUnknown (k := 9) rfl).1 rfl (t_X10_144_146) (Nat.le_of_ble_eq_true rfl) (by decide) (by decide) (qX_ut h)
set_option maxHeartbeats 4000000 in
set_option maxRecDepth 20000 in
theorem w_X10_testRange {S : zS} {V : qV} {J : qJ} {Q : Prop} {X : String → Prop} (d : Nat) (hB : qB S V) {a0 : Int} (z0 : zr a0) {a1 : Int} (z1 : zr a1) {a2 : Int} (z2 : zr a2) (h : W_X10_testRange a0 a1 a2 V Q X) : Z M_X10_testRange d 1 6 0 [some (.int (iI a0)), some (.int (iI a1)), some (.int (iI a2))] [] S (qi V) (qj J) (qP_ut S V J Q X) := by
  unfold W_X10_testRange at h
  refine z_iload_n Q_X10_testRange (k := 0) rfl rfl ?_
  refine z_iload_n Q_X10_testRange (k := 1) rfl rfl ?_
  refine y_icmp_lt 10 Q_X10_testRange (k := 2) rfl (by decide) z0 z1 (fun c => ?_) (fun c => ?_)
  · replace h := h.1 c
    exact z_throw Q_X10_testRange (k := 6) rfl (zT.at Q_X10_testRange (k := 7) rfl).1 (zT.at Q_X10_testRange (k := 8) rfl).1 (zT.at Q_X10_testRange (k := 9) rfl).1 (zT.at Q_X10_testRange (k := 10) rfl).1 rfl (t_X10_118_149) (Nat.le_of_ble_eq_true rfl) (by decide) (by decide) (qX_ut h)
  · replace h := h.2 c
    refine z_iload_n Q_X10_testRange (k := 3) rfl rfl ?_
    refine z_iload_n Q_X10_testRange (k := 4) rfl rfl ?_
    refine y_icmp_le 20 Q_X10_testRange (k := 5) rfl (by decide) z0 z2 (fun c => ?_) (fun c => ?_)
    · replace h := h.1 c
      exact z_vret Q_X10_testRange (k := 11) rfl rfl (qI_ut h)
    · replace h := h.2 c
      exact z_throw Q_X10_testRange (k := 6) rfl (zT.at Q_X10_testRange (k := 7) rfl).1 (zT.at Q_X10_testRange (k := 8) rfl).1 (zT.at Q_X10_testRange (k := 9) rfl).1 (zT.at Q_X10_testRange (k := 10) rfl).1 rfl (t_X10_118_149) (Nat.le_of_ble_eq_true rfl) (by decide) (by decide) (qX_ut h)
set_option maxHeartbeats 4000000 in
set_option maxRecDepth 20000 in
theorem w_X10_know {S : zS} {V : qV} {J : qJ} {Q : Int → qV → Prop} {X : String → qV → Prop} (d : Nat) (hB : qB S V) {a1 : Int} (z1 : zr a1) {a2 : Int} (z2 : zr a2) (h : W_X10_know a1 a2 V Q X) : Z M_X10_know (d + 1) 2 12 0 [some (.ref 0), some (.int (iI a1)), some (.int (iI a2)), none] [] S (qi V) (qj J) (qP_iVt S J Q X) := by
  unfold W_X10_know at h
  refine z_iload_n Q_X10_know (k := 0) rfl rfl ?_
  refine q_callS1_ut Q_X10_know (k := 1) rfl rfl K_X10_testUnknown S_X10_testUnknown L_X10_131 (Nat.le_of_ble_eq_true rfl) (Nat.le_of_ble_eq_true rfl) rfl (by decide) (by decide) (w_X10_testUnknown d hB z1 h) (fun E h => qX_iVt hB h) (fun h => ?_)
  refine z_iload_n Q_X10_know (k := 2) rfl rfl ?_
  refine y_iconst Q_X10_know (k := 3) rfl ?_
  refine y_iconst Q_X10_know (k := 4) rfl ?_
  refine q_callS3_ut Q_X10_know (k := 5) rfl rfl K_X10_testRange S_X10_testRange L_X10_134 (Nat.le_of_ble_eq_true rfl) (Nat.le_of_ble_eq_true rfl) rfl (by decide) (by decide) (w_X10_testRange d hB z2 ⟨by decide, by decide⟩ ⟨by decide, by decide⟩ h) (fun E h => qX_iVt hB h) (fun h => ?_)
  refine z_aload_n Q_X10_know (k := 6) rfl rfl ?_
  refine z_getR (b := 12) Q_X10_know (k := 7) rfl F_X10_25 rfl (n_ hB.1 rfl) (k_0 hB.1) (r_0_3 hB.1) ?_
  refine z_getR (b := 14) Q_X10_know (k := 8) rfl F_X10_138 rfl (n_ hB.1 rfl) (k_12 hB.1) (r_12_2 hB.1) ?_
  refine z_iload_n Q_X10_know (k := 9) rfl rfl ?_
  obtain ⟨q3, h⟩ := h
  refine q_iald (o := 14) (N := 10) Q_X10_know (k := 10) rfl rfl (n_ hB.1 rfl) (k_14 hB.1) rfl q3 (by decide) ?_
  refine y_istore_n (L' := [some (.ref 0), some (.int (iI a1)), some (.int (iI a2)), some (.int (iI (V 14 a1)))]) Q_X10_know (k := 11) rfl (by decide) rfl ?_
  refine z_aload_n Q_X10_know (k := 12) rfl rfl ?_
  refine z_getR (b := 12) Q_X10_know (k := 13) rfl F_X10_25 rfl (n_ hB.1 rfl) (k_0 hB.1) (r_0_3 hB.1) ?_
  refine z_getR (b := 14) Q_X10_know (k := 14) rfl F_X10_138 rfl (n_ hB.1 rfl) (k_12 hB.1) (r_12_2 hB.1) ?_
  refine z_iload_n Q_X10_know (k := 15) rfl rfl ?_
  refine z_iload_n Q_X10_know (k := 16) rfl rfl ?_
  obtain ⟨q4, h⟩ := h
  refine q_iast (o := 14) (N := 10) Q_X10_know (k := 17) rfl rfl (n_ hB.1 rfl) (k_14 hB.1) rfl q4 (by decide) ?_
  have hB5 := qB.u (a := 14) (j := a1) (x := a2) hB z2 (Or.inl (by decide))
  refine z_iload_n Q_X10_know (k := 18) rfl rfl ?_
  exact y_iret Q_X10_know (k := 19) rfl rfl (qI_iVt hB5 (hB.2.1 _ _) h)
set_option maxHeartbeats 4000000 in
set_option maxRecDepth 20000 in
theorem w_X10_weigh {S : zS} {V : qV} {J : qJ} {Q : Int → qV → Prop} {X : String → qV → Prop} (d : Nat) (hB : qB S V) {a1 : Int} (z1 : zr a1) {a2 : Int} (z2 : zr a2) (h : W_X10_weigh a1 a2 V Q X) : Z M_X10_weigh (d + 1) 2 12 0 [some (.ref 0), some (.int (iI a1)), some (.int (iI a2)), none] [] S (qi V) (qj J) (qP_iVt S J Q X) := by
  unfold W_X10_weigh at h
  refine z_iload_n Q_X10_weigh (k := 0) rfl rfl ?_
  refine q_callS1_ut Q_X10_weigh (k := 1) rfl rfl K_X10_testUnknown S_X10_testUnknown L_X10_131 (Nat.le_of_ble_eq_true rfl) (Nat.le_of_ble_eq_true rfl) rfl (by decide) (by decide) (w_X10_testUnknown d hB z1 h) (fun E h => qX_iVt hB h) (fun h => ?_)
  refine z_iload_n Q_X10_weigh (k := 2) rfl rfl ?_
  refine y_iconst Q_X10_weigh (k := 3) rfl ?_
  refine y_bipush Q_X10_weigh (k := 4) rfl (by decide) ?_
  refine q_callS3_ut Q_X10_weigh (k := 5) rfl rfl K_X10_testRange S_X10_testRange L_X10_134 (Nat.le_of_ble_eq_true rfl) (Nat.le_of_ble_eq_true rfl) rfl (by decide) (by decide) (w_X10_testRange d hB z2 ⟨by decide, by decide⟩ ⟨by decide, by decide⟩ h) (fun E h => qX_iVt hB h) (fun h => ?_)
  refine z_aload_n Q_X10_weigh (k := 6) rfl rfl ?_
  refine z_getR (b := 12) Q_X10_weigh (k := 7) rfl F_X10_25 rfl (n_ hB.1 rfl) (k_0 hB.1) (r_0_3 hB.1) ?_
  refine z_getR (b := 15) Q_X10_weigh (k := 8) rfl F_X10_141 rfl (n_ hB.1 rfl) (k_12 hB.1) (r_12_3 hB.1) ?_
  refine z_iload_n Q_X10_weigh (k := 9) rfl rfl ?_
  obtain ⟨q3, h⟩ := h
  refine q_iald (o := 15) (N := 10) Q_X10_weigh (k := 10) rfl rfl (n_ hB.1 rfl) (k_15 hB.1) rfl q3 (by decide) ?_
  refine y_istore_n (L' := [some (.ref 0), some (.int (iI a1)), some (.int (iI a2)), some (.int (iI (V 15 a1)))]) Q_X10_weigh (k := 11) rfl (by decide) rfl ?_
  refine z_aload_n Q_X10_weigh (k := 12) rfl rfl ?_
  refine z_getR (b := 12) Q_X10_weigh (k := 13) rfl F_X10_25 rfl (n_ hB.1 rfl) (k_0 hB.1) (r_0_3 hB.1) ?_
  refine z_getR (b := 15) Q_X10_weigh (k := 14) rfl F_X10_141 rfl (n_ hB.1 rfl) (k_12 hB.1) (r_12_3 hB.1) ?_
  refine z_iload_n Q_X10_weigh (k := 15) rfl rfl ?_
  refine z_iload_n Q_X10_weigh (k := 16) rfl rfl ?_
  obtain ⟨q4, h⟩ := h
  refine q_iast (o := 15) (N := 10) Q_X10_weigh (k := 17) rfl rfl (n_ hB.1 rfl) (k_15 hB.1) rfl q4 (by decide) ?_
  have hB5 := qB.u (a := 15) (j := a1) (x := a2) hB z2 (Or.inl (by decide))
  refine z_iload_n Q_X10_weigh (k := 18) rfl rfl ?_
  exact y_iret Q_X10_weigh (k := 19) rfl rfl (qI_iVt hB5 (hB.2.1 _ _) h)
set_option maxHeartbeats 4000000 in
set_option maxRecDepth 20000 in
theorem v_X10_fillWorldSet_21 {S : zS} {V : qV} {J : qJ} {K : Int64 → Int → Prop} {Q : qJ → Prop} {kc ks : Nat} (d : Nat) (hB : qB S V) {l1 : Int} (z1 : zr l1) (hK : ∀ (l2 : Int64) (l4 : Int), zr l4 → K l2 l4 → Z M_X10_fillWorldSet (d + 1) kc ks 84 [some (.ref 0), some (.int (iI l1)), some (.long l2), none, some (.int (iI l4)), none, none] [] S (qi V) (qj J) (qP_uJ S V Q)) : ∀ (f : Nat) (l2 : Int64) (l4 : Int), zr l4 → lp_X10_fillWorldSet_21 l1 V J K f l2 l4 → Z M_X10_fillWorldSet (d + 1) kc ks 21 [some (.ref 0), some (.int (iI l1)), some (.long l2), none, some (.int (iI l4)), none, none] [] S (qi V) (qj J) (qP_uJ S V Q) := by
  intro f
  induction f with
  | zero =>
    intro l2 l4 z4 h
    exact h.elim
  | succ f ih =>
    intro l2 l4 z4 h
    rw [lp_X10_fillWorldSet_21] at h
    refine z_iload Q_X10_fillWorldSet (k := 13) rfl rfl ?_
    refine y_bipush Q_X10_fillWorldSet (k := 14) rfl (by decide) ?_
    refine y_icmp_ge 84 Q_X10_fillWorldSet (k := 15) rfl (by decide) z4 ⟨by decide, by decide⟩ (fun c => ?_) (fun c => ?_)
    · replace h := h.1 c
      exact y_fg (zsb_c rfl (zsb_c rfl (zsb_c rfl (zsb_n (zsb_c rfl (zsb_n (zsb_n zsb_e))))))) (hK l2 l4 z4 h)
    · replace h := h.2 c
      refine z_aload_n Q_X10_fillWorldSet (k := 16) rfl rfl ?_
      refine z_getR (b := 12) Q_X10_fillWorldSet (k := 17) rfl F_X10_25 rfl (n_ hB.1 rfl) (k_0 hB.1) (r_0_3 hB.1) ?_
      refine z_getR (b := 14) Q_X10_fillWorldSet (k := 18) rfl F_X10_138 rfl (n_ hB.1 rfl) (k_12 hB.1) (r_12_2 hB.1) ?_
      refine z_iload Q_X10_fillWorldSet (k := 19) rfl rfl ?_
      obtain ⟨q2, h⟩ := h
      refine q_iald (o := 14) (N := 10) Q_X10_fillWorldSet (k := 20) rfl rfl (n_ hB.1 rfl) (k_14 hB.1) rfl q2 (by decide) ?_
      refine y_iconst Q_X10_fillWorldSet (k := 21) rfl ?_
      refine y_icmp_eq 78 Q_X10_fillWorldSet (k := 22) rfl (by decide) (hB.2.1 _ _) ⟨by decide, by decide⟩ (fun c => ?_) (fun c => ?_)
      · replace h := h.1 c
        obtain ⟨q3, h⟩ := h
        refine y_iinc (L' := [some (.ref 0), some (.int (iI l1)), some (.long l2), none, some (.int (iI (l4 + 1))), none, none]) Q_X10_fillWorldSet (k := 42) rfl (by decide) rfl rfl ?_
        refine z_goto (tgt := 21) Q_X10_fillWorldSet (k := 43) rfl (by decide) ?_
        exact y_fg (zsb_c rfl (zsb_c rfl (zsb_c rfl (zsb_n (zsb_c rfl (zsb_n (zsb_n zsb_e))))))) (ih l2 (l4 + 1) q3 h)
      · replace h := h.2 c
        refine z_iload Q_X10_fillWorldSet (k := 23) rfl rfl ?_
        refine z_iload_n Q_X10_fillWorldSet (k := 24) rfl rfl ?_
        refine q_callS2_l Q_X10_fillWorldSet (k := 25) rfl rfl K_X10_trueBits S_X10_trueBits L_X10_168 (Nat.le_of_ble_eq_true rfl) (Nat.le_of_ble_eq_true rfl) rfl (Nat.zero_le _) (Nat.zero_le _) (w_X10_trueBits d hB z4 z1 h) (fun r4 h => ?_)
        refine y_lstore (L' := [some (.ref 0), some (.int (iI l1)), some (.long l2), none, some (.int (iI l4)), some (.long r4), none]) Q_X10_fillWorldSet (k := 26) rfl (by decide) rfl ?_
        refine z_lload_n Q_X10_fillWorldSet (k := 27) rfl rfl ?_
        refine z_aload_n Q_X10_fillWorldSet (k := 28) rfl rfl ?_
        refine z_getR (b := 12) Q_X10_fillWorldSet (k := 29) rfl F_X10_25 rfl (n_ hB.1 rfl) (k_0 hB.1) (r_0_3 hB.1) ?_
        refine z_getR (b := 14) Q_X10_fillWorldSet (k := 30) rfl F_X10_138 rfl (n_ hB.1 rfl) (k_12 hB.1) (r_12_2 hB.1) ?_
        refine z_iload Q_X10_fillWorldSet (k := 31) rfl rfl ?_
        obtain ⟨q5, h⟩ := h
        refine q_iald (o := 14) (N := 10) Q_X10_fillWorldSet (k := 32) rfl rfl (n_ hB.1 rfl) (k_14 hB.1) rfl q5 (by decide) ?_
        refine y_iconst Q_X10_fillWorldSet (k := 33) rfl ?_
        refine y_icmp_ne 70 Q_X10_fillWorldSet (k := 34) rfl (by decide) (hB.2.1 _ _) ⟨by decide, by decide⟩ (fun c => ?_) (fun c => ?_)
        · replace h := h.2 c
          refine z_lload Q_X10_fillWorldSet (k := 37) rfl rfl ?_
          refine z_ldc2 Q_X10_fillWorldSet (k := 38) rfl lC_X10_172 ?_
          refine z_lxor Q_X10_fillWorldSet (k := 39) rfl ?_
          refine z_land Q_X10_fillWorldSet (k := 40) rfl ?_
          refine y_lstore_n (L' := [some (.ref 0), some (.int (iI l1)), some (.long (l2 &&& (r4 ^^^ (-1)))), none, some (.int (iI l4)), some (.long r4), none]) Q_X10_fillWorldSet (k := 41) rfl (by decide) rfl ?_
          obtain ⟨q6, h⟩ := h
          refine y_iinc (L' := [some (.ref 0), some (.int (iI l1)), some (.long (l2 &&& (r4 ^^^ (-1)))), none, some (.int (iI (l4 + 1))), some (.long r4), none]) Q_X10_fillWorldSet (k := 42) rfl (by decide) rfl rfl ?_
          refine z_goto (tgt := 21) Q_X10_fillWorldSet (k := 43) rfl (by decide) ?_
          exact y_fg (zsb_c rfl (zsb_c rfl (zsb_c rfl (zsb_n (zsb_c rfl (zsb_n (zsb_n zsb_e))))))) (ih (l2 &&& (r4 ^^^ (-1))) (l4 + 1) q6 h)
        · replace h := h.1 c
          refine z_lload Q_X10_fillWorldSet (k := 35) rfl rfl ?_
          refine z_goto (tgt := 76) Q_X10_fillWorldSet (k := 36) rfl (by decide) ?_
          refine z_land Q_X10_fillWorldSet (k := 40) rfl ?_
          refine y_lstore_n (L' := [some (.ref 0), some (.int (iI l1)), some (.long (l2 &&& r4)), none, some (.int (iI l4)), some (.long r4), none]) Q_X10_fillWorldSet (k := 41) rfl (by decide) rfl ?_
          obtain ⟨q7, h⟩ := h
          refine y_iinc (L' := [some (.ref 0), some (.int (iI l1)), some (.long (l2 &&& r4)), none, some (.int (iI (l4 + 1))), some (.long r4), none]) Q_X10_fillWorldSet (k := 42) rfl (by decide) rfl rfl ?_
          refine z_goto (tgt := 21) Q_X10_fillWorldSet (k := 43) rfl (by decide) ?_
          exact y_fg (zsb_c rfl (zsb_c rfl (zsb_c rfl (zsb_n (zsb_c rfl (zsb_n (zsb_n zsb_e))))))) (ih (l2 &&& r4) (l4 + 1) q7 h)
set_option maxHeartbeats 4000000 in
set_option maxRecDepth 20000 in
theorem v_X10_fillWorldSet_2 {S : zS} {V : qV} {K : Int → qJ → Prop} {Q : qJ → Prop} {kc ks : Nat} (d : Nat) (hB : qB S V) (hK : ∀ (l1 : Int) (J : qJ), zr l1 → K l1 J → Z M_X10_fillWorldSet (d + 1) kc ks 97 [some (.ref 0), some (.int (iI l1)), none, none, none, none, none] [] S (qi V) (qj J) (qP_uJ S V Q)) : ∀ (f : Nat) (l1 : Int) (J : qJ), zr l1 → lp_X10_fillWorldSet_2 V K f l1 J → Z M_X10_fillWorldSet (d + 1) kc ks 2 [some (.ref 0), some (.int (iI l1)), none, none, none, none, none] [] S (qi V) (qj J) (qP_uJ S V Q) := by
  intro f
  induction f with
  | zero =>
    intro l1 J z1 h
    exact h.elim
  | succ f ih =>
    intro l1 J z1 h
    rw [lp_X10_fillWorldSet_2] at h
    refine z_iload_n Q_X10_fillWorldSet (k := 2) rfl rfl ?_
    refine y_bipush Q_X10_fillWorldSet (k := 3) rfl (by decide) ?_
    refine y_icmp_ge 97 Q_X10_fillWorldSet (k := 4) rfl (by decide) z1 ⟨by decide, by decide⟩ (fun c => ?_) (fun c => ?_)
    · replace h := h.1 c
      exact y_fg (zsb_c rfl (zsb_c rfl (zsb_n (zsb_n (zsb_n (zsb_n (zsb_n zsb_e))))))) (hK l1 J z1 h)
    · replace h := h.2 c
      refine z_aload_n Q_X10_fillWorldSet (k := 5) rfl rfl ?_
      refine z_getR (b := 12) Q_X10_fillWorldSet (k := 6) rfl F_X10_25 rfl (n_ hB.1 rfl) (k_0 hB.1) (r_0_3 hB.1) ?_
      refine z_getR (b := 13) Q_X10_fillWorldSet (k := 7) rfl F_X10_111 rfl (n_ hB.1 rfl) (k_12 hB.1) (r_12_1 hB.1) ?_
      refine z_iload_n Q_X10_fillWorldSet (k := 8) rfl rfl ?_
      obtain ⟨q1, h⟩ := h
      refine q_lald (o := 13) (N := 16) Q_X10_fillWorldSet (k := 9) rfl rfl (n_ hB.1 rfl) (k_13 hB.1) rfl q1 (by decide) ?_
      refine y_lstore_n (L' := [some (.ref 0), some (.int (iI l1)), some (.long (J 13 l1)), none, none, none, none]) Q_X10_fillWorldSet (k := 10) rfl (by decide) rfl ?_
      refine y_iconst Q_X10_fillWorldSet (k := 11) rfl ?_
      refine y_istore (L' := [some (.ref 0), some (.int (iI l1)), some (.long (J 13 l1)), none, some (.int (iI 0)), none, none]) Q_X10_fillWorldSet (k := 12) rfl (by decide) rfl ?_
      refine y_fg (zsb_c rfl (zsb_c rfl (zsb_c rfl (zsb_n (zsb_c rfl (zsb_n (zsb_n zsb_e))))))) (v_X10_fillWorldSet_21 d hB z1 (fun l2x8 l4x8 zl4x8 h => ?_) 100000 (J 13 l1) 0 ⟨by decide, by decide⟩ h)
      refine z_aload_n Q_X10_fillWorldSet (k := 44) rfl rfl ?_
      refine z_getR (b := 166) Q_X10_fillWorldSet (k := 45) rfl F_X10_57 rfl (n_ hB.1 rfl) (k_0 hB.1) (r_0_10 hB.1) ?_
      refine z_iload_n Q_X10_fillWorldSet (k := 46) rfl rfl ?_
      refine z_lload_n Q_X10_fillWorldSet (k := 47) rfl rfl ?_
      obtain ⟨q9, h⟩ := h
      refine q_last (o := 166) (N := 16) Q_X10_fillWorldSet (k := 48) rfl rfl (n_ hB.1 rfl) (k_166 hB.1) rfl q9 (by decide) ?_
      obtain ⟨q10, h⟩ := h
      refine y_iinc (L' := [some (.ref 0), some (.int (iI (l1 + 1))), some (.long l2x8), none, some (.int (iI l4x8)), none, none]) Q_X10_fillWorldSet (k := 49) rfl (by decide) rfl rfl ?_
      refine z_goto (tgt := 2) Q_X10_fillWorldSet (k := 50) rfl (by decide) ?_
      exact y_fg (zsb_c rfl (zsb_c rfl (zsb_n (zsb_n (zsb_n (zsb_n (zsb_n zsb_e))))))) (ih (l1 + 1) (qu J 166 l1 l2x8) q10 h)
set_option maxHeartbeats 4000000 in
set_option maxRecDepth 20000 in
theorem w_X10_fillWorldSet {S : zS} {V : qV} {J : qJ} {Q : qJ → Prop} (d : Nat) (hB : qB S V) (h : W_X10_fillWorldSet V J Q) : Z M_X10_fillWorldSet (d + 1) 0 0 0 [some (.ref 0), none, none, none, none, none, none] [] S (qi V) (qj J) (qP_uJ S V Q) := by
  unfold W_X10_fillWorldSet at h
  refine y_iconst Q_X10_fillWorldSet (k := 0) rfl ?_
  refine y_istore_n (L' := [some (.ref 0), some (.int (iI 0)), none, none, none, none, none]) Q_X10_fillWorldSet (k := 1) rfl (by decide) rfl ?_
  refine y_fg (zsb_c rfl (zsb_c rfl (zsb_n (zsb_n (zsb_n (zsb_n (zsb_n zsb_e))))))) (v_X10_fillWorldSet_2 d hB (fun l1x11 J11 zl1x11 h => ?_) 100000 0 J ⟨by decide, by decide⟩ h)
  exact z_vret Q_X10_fillWorldSet (k := 51) rfl rfl (qI_uJ h)
set_option maxHeartbeats 4000000 in
set_option maxRecDepth 20000 in
theorem w_J13_bitCount_95d88 {S : zS} {V : qV} {J : qJ} {Q : Int → Prop} (d : Nat) (hB : qB S V) {a0 : Int64} (h : W_J13_bitCount_95d88 a0 V Q) : Z M_J13_bitCount_95d88 d 0 0 0 [some (.long a0), none] [] S (qi V) (qj J) (qP_i S V J Q) := by
  unfold W_J13_bitCount_95d88 at h
  refine z_lload_n Q_J13_bitCount_95d88 (k := 0) rfl rfl ?_
  refine z_lload_n Q_J13_bitCount_95d88 (k := 1) rfl rfl ?_
  refine y_iconst Q_J13_bitCount_95d88 (k := 2) rfl ?_
  refine z_lushr Q_J13_bitCount_95d88 (k := 3) rfl ?_
  refine z_ldc2 Q_J13_bitCount_95d88 (k := 4) rfl lC_J13_314 ?_
  refine z_land Q_J13_bitCount_95d88 (k := 5) rfl ?_
  refine z_lsub Q_J13_bitCount_95d88 (k := 6) rfl ?_
  refine y_lstore_n (L' := [some (.long (a0 - (((a0.toUInt64 >>> ((iI 1).toInt64.toUInt64 &&& Int64.toUInt64 63)).toInt64) &&& (6148914691236517205)))), none]) Q_J13_bitCount_95d88 (k := 7) rfl (by decide) rfl ?_
  refine z_lload_n Q_J13_bitCount_95d88 (k := 8) rfl rfl ?_
  refine z_ldc2 Q_J13_bitCount_95d88 (k := 9) rfl lC_J13_316 ?_
  refine z_land Q_J13_bitCount_95d88 (k := 10) rfl ?_
  refine z_lload_n Q_J13_bitCount_95d88 (k := 11) rfl rfl ?_
  refine y_iconst Q_J13_bitCount_95d88 (k := 12) rfl ?_
  refine z_lushr Q_J13_bitCount_95d88 (k := 13) rfl ?_
  refine z_ldc2 Q_J13_bitCount_95d88 (k := 14) rfl lC_J13_316 ?_
  refine z_land Q_J13_bitCount_95d88 (k := 15) rfl ?_
  refine z_ladd Q_J13_bitCount_95d88 (k := 16) rfl ?_
  refine y_lstore_n (L' := [some (.long (((a0 - (((a0.toUInt64 >>> ((iI 1).toInt64.toUInt64 &&& Int64.toUInt64 63)).toInt64) &&& (6148914691236517205))) &&& (3689348814741910323)) + ((((a0 - (((a0.toUInt64 >>> ((iI 1).toInt64.toUInt64 &&& Int64.toUInt64 63)).toInt64) &&& (6148914691236517205))).toUInt64 >>> ((iI 2).toInt64.toUInt64 &&& Int64.toUInt64 63)).toInt64) &&& (3689348814741910323)))), none]) Q_J13_bitCount_95d88 (k := 17) rfl (by decide) rfl ?_
  refine z_lload_n Q_J13_bitCount_95d88 (k := 18) rfl rfl ?_
  refine z_lload_n Q_J13_bitCount_95d88 (k := 19) rfl rfl ?_
  refine y_iconst Q_J13_bitCount_95d88 (k := 20) rfl ?_
  refine z_lushr Q_J13_bitCount_95d88 (k := 21) rfl ?_
  refine z_ladd Q_J13_bitCount_95d88 (k := 22) rfl ?_
  refine z_ldc2 Q_J13_bitCount_95d88 (k := 23) rfl lC_J13_318 ?_
  refine z_land Q_J13_bitCount_95d88 (k := 24) rfl ?_
  refine y_lstore_n (L' := [some (.long (((((a0 - (((a0.toUInt64 >>> ((iI 1).toInt64.toUInt64 &&& Int64.toUInt64 63)).toInt64) &&& (6148914691236517205))) &&& (3689348814741910323)) + ((((a0 - (((a0.toUInt64 >>> ((iI 1).toInt64.toUInt64 &&& Int64.toUInt64 63)).toInt64) &&& (6148914691236517205))).toUInt64 >>> ((iI 2).toInt64.toUInt64 &&& Int64.toUInt64 63)).toInt64) &&& (3689348814741910323))) + (((((a0 - (((a0.toUInt64 >>> ((iI 1).toInt64.toUInt64 &&& Int64.toUInt64 63)).toInt64) &&& (6148914691236517205))) &&& (3689348814741910323)) + ((((a0 - (((a0.toUInt64 >>> ((iI 1).toInt64.toUInt64 &&& Int64.toUInt64 63)).toInt64) &&& (6148914691236517205))).toUInt64 >>> ((iI 2).toInt64.toUInt64 &&& Int64.toUInt64 63)).toInt64) &&& (3689348814741910323))).toUInt64 >>> ((iI 4).toInt64.toUInt64 &&& Int64.toUInt64 63)).toInt64)) &&& (1085102592571150095))), none]) Q_J13_bitCount_95d88 (k := 25) rfl (by decide) rfl ?_
  refine z_lload_n Q_J13_bitCount_95d88 (k := 26) rfl rfl ?_
  refine z_lload_n Q_J13_bitCount_95d88 (k := 27) rfl rfl ?_
  refine y_bipush Q_J13_bitCount_95d88 (k := 28) rfl (by decide) ?_
  refine z_lushr Q_J13_bitCount_95d88 (k := 29) rfl ?_
  refine z_ladd Q_J13_bitCount_95d88 (k := 30) rfl ?_
  refine y_lstore_n (L' := [some (.long ((((((a0 - (((a0.toUInt64 >>> ((iI 1).toInt64.toUInt64 &&& Int64.toUInt64 63)).toInt64) &&& (6148914691236517205))) &&& (3689348814741910323)) + ((((a0 - (((a0.toUInt64 >>> ((iI 1).toInt64.toUInt64 &&& Int64.toUInt64 63)).toInt64) &&& (6148914691236517205))).toUInt64 >>> ((iI 2).toInt64.toUInt64 &&& Int64.toUInt64 63)).toInt64) &&& (3689348814741910323))) + (((((a0 - (((a0.toUInt64 >>> ((iI 1).toInt64.toUInt64 &&& Int64.toUInt64 63)).toInt64) &&& (6148914691236517205))) &&& (3689348814741910323)) + ((((a0 - (((a0.toUInt64 >>> ((iI 1).toInt64.toUInt64 &&& Int64.toUInt64 63)).toInt64) &&& (6148914691236517205))).toUInt64 >>> ((iI 2).toInt64.toUInt64 &&& Int64.toUInt64 63)).toInt64) &&& (3689348814741910323))).toUInt64 >>> ((iI 4).toInt64.toUInt64 &&& Int64.toUInt64 63)).toInt64)) &&& (1085102592571150095)) + (((((((a0 - (((a0.toUInt64 >>> ((iI 1).toInt64.toUInt64 &&& Int64.toUInt64 63)).toInt64) &&& (6148914691236517205))) &&& (3689348814741910323)) + ((((a0 - (((a0.toUInt64 >>> ((iI 1).toInt64.toUInt64 &&& Int64.toUInt64 63)).toInt64) &&& (6148914691236517205))).toUInt64 >>> ((iI 2).toInt64.toUInt64 &&& Int64.toUInt64 63)).toInt64) &&& (3689348814741910323))) + (((((a0 - (((a0.toUInt64 >>> ((iI 1).toInt64.toUInt64 &&& Int64.toUInt64 63)).toInt64) &&& (6148914691236517205))) &&& (3689348814741910323)) + ((((a0 - (((a0.toUInt64 >>> ((iI 1).toInt64.toUInt64 &&& Int64.toUInt64 63)).toInt64) &&& (6148914691236517205))).toUInt64 >>> ((iI 2).toInt64.toUInt64 &&& Int64.toUInt64 63)).toInt64) &&& (3689348814741910323))).toUInt64 >>> ((iI 4).toInt64.toUInt64 &&& Int64.toUInt64 63)).toInt64)) &&& (1085102592571150095)).toUInt64 >>> ((iI 8).toInt64.toUInt64 &&& Int64.toUInt64 63)).toInt64))), none]) Q_J13_bitCount_95d88 (k := 31) rfl (by decide) rfl ?_
  refine z_lload_n Q_J13_bitCount_95d88 (k := 32) rfl rfl ?_
  refine z_lload_n Q_J13_bitCount_95d88 (k := 33) rfl rfl ?_
  refine y_bipush Q_J13_bitCount_95d88 (k := 34) rfl (by decide) ?_
  refine z_lushr Q_J13_bitCount_95d88 (k := 35) rfl ?_
  refine z_ladd Q_J13_bitCount_95d88 (k := 36) rfl ?_
  refine y_lstore_n (L' := [some (.long (((((((a0 - (((a0.toUInt64 >>> ((iI 1).toInt64.toUInt64 &&& Int64.toUInt64 63)).toInt64) &&& (6148914691236517205))) &&& (3689348814741910323)) + ((((a0 - (((a0.toUInt64 >>> ((iI 1).toInt64.toUInt64 &&& Int64.toUInt64 63)).toInt64) &&& (6148914691236517205))).toUInt64 >>> ((iI 2).toInt64.toUInt64 &&& Int64.toUInt64 63)).toInt64) &&& (3689348814741910323))) + (((((a0 - (((a0.toUInt64 >>> ((iI 1).toInt64.toUInt64 &&& Int64.toUInt64 63)).toInt64) &&& (6148914691236517205))) &&& (3689348814741910323)) + ((((a0 - (((a0.toUInt64 >>> ((iI 1).toInt64.toUInt64 &&& Int64.toUInt64 63)).toInt64) &&& (6148914691236517205))).toUInt64 >>> ((iI 2).toInt64.toUInt64 &&& Int64.toUInt64 63)).toInt64) &&& (3689348814741910323))).toUInt64 >>> ((iI 4).toInt64.toUInt64 &&& Int64.toUInt64 63)).toInt64)) &&& (1085102592571150095)) + (((((((a0 - (((a0.toUInt64 >>> ((iI 1).toInt64.toUInt64 &&& Int64.toUInt64 63)).toInt64) &&& (6148914691236517205))) &&& (3689348814741910323)) + ((((a0 - (((a0.toUInt64 >>> ((iI 1).toInt64.toUInt64 &&& Int64.toUInt64 63)).toInt64) &&& (6148914691236517205))).toUInt64 >>> ((iI 2).toInt64.toUInt64 &&& Int64.toUInt64 63)).toInt64) &&& (3689348814741910323))) + (((((a0 - (((a0.toUInt64 >>> ((iI 1).toInt64.toUInt64 &&& Int64.toUInt64 63)).toInt64) &&& (6148914691236517205))) &&& (3689348814741910323)) + ((((a0 - (((a0.toUInt64 >>> ((iI 1).toInt64.toUInt64 &&& Int64.toUInt64 63)).toInt64) &&& (6148914691236517205))).toUInt64 >>> ((iI 2).toInt64.toUInt64 &&& Int64.toUInt64 63)).toInt64) &&& (3689348814741910323))).toUInt64 >>> ((iI 4).toInt64.toUInt64 &&& Int64.toUInt64 63)).toInt64)) &&& (1085102592571150095)).toUInt64 >>> ((iI 8).toInt64.toUInt64 &&& Int64.toUInt64 63)).toInt64)) + ((((((((a0 - (((a0.toUInt64 >>> ((iI 1).toInt64.toUInt64 &&& Int64.toUInt64 63)).toInt64) &&& (6148914691236517205))) &&& (3689348814741910323)) + ((((a0 - (((a0.toUInt64 >>> ((iI 1).toInt64.toUInt64 &&& Int64.toUInt64 63)).toInt64) &&& (6148914691236517205))).toUInt64 >>> ((iI 2).toInt64.toUInt64 &&& Int64.toUInt64 63)).toInt64) &&& (3689348814741910323))) + (((((a0 - (((a0.toUInt64 >>> ((iI 1).toInt64.toUInt64 &&& Int64.toUInt64 63)).toInt64) &&& (6148914691236517205))) &&& (3689348814741910323)) + ((((a0 - (((a0.toUInt64 >>> ((iI 1).toInt64.toUInt64 &&& Int64.toUInt64 63)).toInt64) &&& (6148914691236517205))).toUInt64 >>> ((iI 2).toInt64.toUInt64 &&& Int64.toUInt64 63)).toInt64) &&& (3689348814741910323))).toUInt64 >>> ((iI 4).toInt64.toUInt64 &&& Int64.toUInt64 63)).toInt64)) &&& (1085102592571150095)) + (((((((a0 - (((a0.toUInt64 >>> ((iI 1).toInt64.toUInt64 &&& Int64.toUInt64 63)).toInt64) &&& (6148914691236517205))) &&& (3689348814741910323)) + ((((a0 - (((a0.toUInt64 >>> ((iI 1).toInt64.toUInt64 &&& Int64.toUInt64 63)).toInt64) &&& (6148914691236517205))).toUInt64 >>> ((iI 2).toInt64.toUInt64 &&& Int64.toUInt64 63)).toInt64) &&& (3689348814741910323))) + (((((a0 - (((a0.toUInt64 >>> ((iI 1).toInt64.toUInt64 &&& Int64.toUInt64 63)).toInt64) &&& (6148914691236517205))) &&& (3689348814741910323)) + ((((a0 - (((a0.toUInt64 >>> ((iI 1).toInt64.toUInt64 &&& Int64.toUInt64 63)).toInt64) &&& (6148914691236517205))).toUInt64 >>> ((iI 2).toInt64.toUInt64 &&& Int64.toUInt64 63)).toInt64) &&& (3689348814741910323))).toUInt64 >>> ((iI 4).toInt64.toUInt64 &&& Int64.toUInt64 63)).toInt64)) &&& (1085102592571150095)).toUInt64 >>> ((iI 8).toInt64.toUInt64 &&& Int64.toUInt64 63)).toInt64)).toUInt64 >>> ((iI 16).toInt64.toUInt64 &&& Int64.toUInt64 63)).toInt64))), none]) Q_J13_bitCount_95d88 (k := 37) rfl (by decide) rfl ?_
  refine z_lload_n Q_J13_bitCount_95d88 (k := 38) rfl rfl ?_
  refine z_lload_n Q_J13_bitCount_95d88 (k := 39) rfl rfl ?_
  refine y_bipush Q_J13_bitCount_95d88 (k := 40) rfl (by decide) ?_
  refine z_lushr Q_J13_bitCount_95d88 (k := 41) rfl ?_
  refine z_ladd Q_J13_bitCount_95d88 (k := 42) rfl ?_
  refine y_lstore_n (L' := [some (.long ((((((((a0 - (((a0.toUInt64 >>> ((iI 1).toInt64.toUInt64 &&& Int64.toUInt64 63)).toInt64) &&& (6148914691236517205))) &&& (3689348814741910323)) + ((((a0 - (((a0.toUInt64 >>> ((iI 1).toInt64.toUInt64 &&& Int64.toUInt64 63)).toInt64) &&& (6148914691236517205))).toUInt64 >>> ((iI 2).toInt64.toUInt64 &&& Int64.toUInt64 63)).toInt64) &&& (3689348814741910323))) + (((((a0 - (((a0.toUInt64 >>> ((iI 1).toInt64.toUInt64 &&& Int64.toUInt64 63)).toInt64) &&& (6148914691236517205))) &&& (3689348814741910323)) + ((((a0 - (((a0.toUInt64 >>> ((iI 1).toInt64.toUInt64 &&& Int64.toUInt64 63)).toInt64) &&& (6148914691236517205))).toUInt64 >>> ((iI 2).toInt64.toUInt64 &&& Int64.toUInt64 63)).toInt64) &&& (3689348814741910323))).toUInt64 >>> ((iI 4).toInt64.toUInt64 &&& Int64.toUInt64 63)).toInt64)) &&& (1085102592571150095)) + (((((((a0 - (((a0.toUInt64 >>> ((iI 1).toInt64.toUInt64 &&& Int64.toUInt64 63)).toInt64) &&& (6148914691236517205))) &&& (3689348814741910323)) + ((((a0 - (((a0.toUInt64 >>> ((iI 1).toInt64.toUInt64 &&& Int64.toUInt64 63)).toInt64) &&& (6148914691236517205))).toUInt64 >>> ((iI 2).toInt64.toUInt64 &&& Int64.toUInt64 63)).toInt64) &&& (3689348814741910323))) + (((((a0 - (((a0.toUInt64 >>> ((iI 1).toInt64.toUInt64 &&& Int64.toUInt64 63)).toInt64) &&& (6148914691236517205))) &&& (3689348814741910323)) + ((((a0 - (((a0.toUInt64 >>> ((iI 1).toInt64.toUInt64 &&& Int64.toUInt64 63)).toInt64) &&& (6148914691236517205))).toUInt64 >>> ((iI 2).toInt64.toUInt64 &&& Int64.toUInt64 63)).toInt64) &&& (3689348814741910323))).toUInt64 >>> ((iI 4).toInt64.toUInt64 &&& Int64.toUInt64 63)).toInt64)) &&& (1085102592571150095)).toUInt64 >>> ((iI 8).toInt64.toUInt64 &&& Int64.toUInt64 63)).toInt64)) + ((((((((a0 - (((a0.toUInt64 >>> ((iI 1).toInt64.toUInt64 &&& Int64.toUInt64 63)).toInt64) &&& (6148914691236517205))) &&& (3689348814741910323)) + ((((a0 - (((a0.toUInt64 >>> ((iI 1).toInt64.toUInt64 &&& Int64.toUInt64 63)).toInt64) &&& (6148914691236517205))).toUInt64 >>> ((iI 2).toInt64.toUInt64 &&& Int64.toUInt64 63)).toInt64) &&& (3689348814741910323))) + (((((a0 - (((a0.toUInt64 >>> ((iI 1).toInt64.toUInt64 &&& Int64.toUInt64 63)).toInt64) &&& (6148914691236517205))) &&& (3689348814741910323)) + ((((a0 - (((a0.toUInt64 >>> ((iI 1).toInt64.toUInt64 &&& Int64.toUInt64 63)).toInt64) &&& (6148914691236517205))).toUInt64 >>> ((iI 2).toInt64.toUInt64 &&& Int64.toUInt64 63)).toInt64) &&& (3689348814741910323))).toUInt64 >>> ((iI 4).toInt64.toUInt64 &&& Int64.toUInt64 63)).toInt64)) &&& (1085102592571150095)) + (((((((a0 - (((a0.toUInt64 >>> ((iI 1).toInt64.toUInt64 &&& Int64.toUInt64 63)).toInt64) &&& (6148914691236517205))) &&& (3689348814741910323)) + ((((a0 - (((a0.toUInt64 >>> ((iI 1).toInt64.toUInt64 &&& Int64.toUInt64 63)).toInt64) &&& (6148914691236517205))).toUInt64 >>> ((iI 2).toInt64.toUInt64 &&& Int64.toUInt64 63)).toInt64) &&& (3689348814741910323))) + (((((a0 - (((a0.toUInt64 >>> ((iI 1).toInt64.toUInt64 &&& Int64.toUInt64 63)).toInt64) &&& (6148914691236517205))) &&& (3689348814741910323)) + ((((a0 - (((a0.toUInt64 >>> ((iI 1).toInt64.toUInt64 &&& Int64.toUInt64 63)).toInt64) &&& (6148914691236517205))).toUInt64 >>> ((iI 2).toInt64.toUInt64 &&& Int64.toUInt64 63)).toInt64) &&& (3689348814741910323))).toUInt64 >>> ((iI 4).toInt64.toUInt64 &&& Int64.toUInt64 63)).toInt64)) &&& (1085102592571150095)).toUInt64 >>> ((iI 8).toInt64.toUInt64 &&& Int64.toUInt64 63)).toInt64)).toUInt64 >>> ((iI 16).toInt64.toUInt64 &&& Int64.toUInt64 63)).toInt64)) + (((((((((a0 - (((a0.toUInt64 >>> ((iI 1).toInt64.toUInt64 &&& Int64.toUInt64 63)).toInt64) &&& (6148914691236517205))) &&& (3689348814741910323)) + ((((a0 - (((a0.toUInt64 >>> ((iI 1).toInt64.toUInt64 &&& Int64.toUInt64 63)).toInt64) &&& (6148914691236517205))).toUInt64 >>> ((iI 2).toInt64.toUInt64 &&& Int64.toUInt64 63)).toInt64) &&& (3689348814741910323))) + (((((a0 - (((a0.toUInt64 >>> ((iI 1).toInt64.toUInt64 &&& Int64.toUInt64 63)).toInt64) &&& (6148914691236517205))) &&& (3689348814741910323)) + ((((a0 - (((a0.toUInt64 >>> ((iI 1).toInt64.toUInt64 &&& Int64.toUInt64 63)).toInt64) &&& (6148914691236517205))).toUInt64 >>> ((iI 2).toInt64.toUInt64 &&& Int64.toUInt64 63)).toInt64) &&& (3689348814741910323))).toUInt64 >>> ((iI 4).toInt64.toUInt64 &&& Int64.toUInt64 63)).toInt64)) &&& (1085102592571150095)) + (((((((a0 - (((a0.toUInt64 >>> ((iI 1).toInt64.toUInt64 &&& Int64.toUInt64 63)).toInt64) &&& (6148914691236517205))) &&& (3689348814741910323)) + ((((a0 - (((a0.toUInt64 >>> ((iI 1).toInt64.toUInt64 &&& Int64.toUInt64 63)).toInt64) &&& (6148914691236517205))).toUInt64 >>> ((iI 2).toInt64.toUInt64 &&& Int64.toUInt64 63)).toInt64) &&& (3689348814741910323))) + (((((a0 - (((a0.toUInt64 >>> ((iI 1).toInt64.toUInt64 &&& Int64.toUInt64 63)).toInt64) &&& (6148914691236517205))) &&& (3689348814741910323)) + ((((a0 - (((a0.toUInt64 >>> ((iI 1).toInt64.toUInt64 &&& Int64.toUInt64 63)).toInt64) &&& (6148914691236517205))).toUInt64 >>> ((iI 2).toInt64.toUInt64 &&& Int64.toUInt64 63)).toInt64) &&& (3689348814741910323))).toUInt64 >>> ((iI 4).toInt64.toUInt64 &&& Int64.toUInt64 63)).toInt64)) &&& (1085102592571150095)).toUInt64 >>> ((iI 8).toInt64.toUInt64 &&& Int64.toUInt64 63)).toInt64)) + ((((((((a0 - (((a0.toUInt64 >>> ((iI 1).toInt64.toUInt64 &&& Int64.toUInt64 63)).toInt64) &&& (6148914691236517205))) &&& (3689348814741910323)) + ((((a0 - (((a0.toUInt64 >>> ((iI 1).toInt64.toUInt64 &&& Int64.toUInt64 63)).toInt64) &&& (6148914691236517205))).toUInt64 >>> ((iI 2).toInt64.toUInt64 &&& Int64.toUInt64 63)).toInt64) &&& (3689348814741910323))) + (((((a0 - (((a0.toUInt64 >>> ((iI 1).toInt64.toUInt64 &&& Int64.toUInt64 63)).toInt64) &&& (6148914691236517205))) &&& (3689348814741910323)) + ((((a0 - (((a0.toUInt64 >>> ((iI 1).toInt64.toUInt64 &&& Int64.toUInt64 63)).toInt64) &&& (6148914691236517205))).toUInt64 >>> ((iI 2).toInt64.toUInt64 &&& Int64.toUInt64 63)).toInt64) &&& (3689348814741910323))).toUInt64 >>> ((iI 4).toInt64.toUInt64 &&& Int64.toUInt64 63)).toInt64)) &&& (1085102592571150095)) + (((((((a0 - (((a0.toUInt64 >>> ((iI 1).toInt64.toUInt64 &&& Int64.toUInt64 63)).toInt64) &&& (6148914691236517205))) &&& (3689348814741910323)) + ((((a0 - (((a0.toUInt64 >>> ((iI 1).toInt64.toUInt64 &&& Int64.toUInt64 63)).toInt64) &&& (6148914691236517205))).toUInt64 >>> ((iI 2).toInt64.toUInt64 &&& Int64.toUInt64 63)).toInt64) &&& (3689348814741910323))) + (((((a0 - (((a0.toUInt64 >>> ((iI 1).toInt64.toUInt64 &&& Int64.toUInt64 63)).toInt64) &&& (6148914691236517205))) &&& (3689348814741910323)) + ((((a0 - (((a0.toUInt64 >>> ((iI 1).toInt64.toUInt64 &&& Int64.toUInt64 63)).toInt64) &&& (6148914691236517205))).toUInt64 >>> ((iI 2).toInt64.toUInt64 &&& Int64.toUInt64 63)).toInt64) &&& (3689348814741910323))).toUInt64 >>> ((iI 4).toInt64.toUInt64 &&& Int64.toUInt64 63)).toInt64)) &&& (1085102592571150095)).toUInt64 >>> ((iI 8).toInt64.toUInt64 &&& Int64.toUInt64 63)).toInt64)).toUInt64 >>> ((iI 16).toInt64.toUInt64 &&& Int64.toUInt64 63)).toInt64)).toUInt64 >>> ((iI 32).toInt64.toUInt64 &&& Int64.toUInt64 63)).toInt64))), none]) Q_J13_bitCount_95d88 (k := 43) rfl (by decide) rfl ?_
  refine z_lload_n Q_J13_bitCount_95d88 (k := 44) rfl rfl ?_
  refine y_l2i Q_J13_bitCount_95d88 (k := 45) rfl ?_
  refine y_bipush Q_J13_bitCount_95d88 (k := 46) rfl (by decide) ?_
  refine y_iand Q_J13_bitCount_95d88 (k := 47) rfl ?_
  exact y_iret Q_J13_bitCount_95d88 (k := 48) rfl rfl (qI_i (zand_r _ _) h)
set_option maxHeartbeats 4000000 in
set_option maxRecDepth 20000 in
theorem v_X10_worlds_8 {S : zS} {V : qV} {J : qJ} {K : Int → Int → Prop} {Q : Int → qJ → Prop} {kc ks : Nat} (d : Nat) (hB : qB S V) (hK : ∀ (l1 : Int) (l2 : Int), zr l1 → zr l2 → K l1 l2 → Z M_X10_worlds (d + 2) kc ks 32 [some (.ref 0), some (.int (iI l1)), some (.int (iI l2))] [] S (qi V) (qj J) (qP_iJ S V Q)) : ∀ (f : Nat) (l1 : Int) (l2 : Int), zr l1 → zr l2 → lp_X10_worlds_8 V J K f l1 l2 → Z M_X10_worlds (d + 2) kc ks 8 [some (.ref 0), some (.int (iI l1)), some (.int (iI l2))] [] S (qi V) (qj J) (qP_iJ S V Q) := by
  intro f
  induction f with
  | zero =>
    intro l1 l2 z1 z2 h
    exact h.elim
  | succ f ih =>
    intro l1 l2 z1 z2 h
    rw [lp_X10_worlds_8] at h
    refine z_iload_n Q_X10_worlds (k := 6) rfl rfl ?_
    refine y_bipush Q_X10_worlds (k := 7) rfl (by decide) ?_
    refine y_icmp_ge 32 Q_X10_worlds (k := 8) rfl (by decide) z2 ⟨by decide, by decide⟩ (fun c => ?_) (fun c => ?_)
    · replace h := h.1 c
      exact y_fg (zsb_c rfl (zsb_c rfl (zsb_c rfl zsb_e))) (hK l1 l2 z1 z2 h)
    · replace h := h.2 c
      refine z_iload_n Q_X10_worlds (k := 9) rfl rfl ?_
      refine z_aload_n Q_X10_worlds (k := 10) rfl rfl ?_
      refine z_getR (b := 166) Q_X10_worlds (k := 11) rfl F_X10_57 rfl (n_ hB.1 rfl) (k_0 hB.1) (r_0_10 hB.1) ?_
      refine z_iload_n Q_X10_worlds (k := 12) rfl rfl ?_
      obtain ⟨q2, h⟩ := h
      refine q_lald (o := 166) (N := 16) Q_X10_worlds (k := 13) rfl rfl (n_ hB.1 rfl) (k_166 hB.1) rfl q2 (by decide) ?_
      refine q_callS1_i Q_X10_worlds (k := 14) rfl rfl K_J13_bitCount_95d88 S_J13_bitCount_95d88 L_X10_154 (Nat.le_of_ble_eq_true rfl) (Nat.le_of_ble_eq_true rfl) rfl (Nat.zero_le _) (Nat.zero_le _) (w_J13_bitCount_95d88 (d + 1) hB  h) (fun r3 hz3 h => ?_)
      obtain ⟨q4, h⟩ := h
      refine y_iadd Q_X10_worlds (k := 15) rfl ?_
      refine y_istore_n (L' := [some (.ref 0), some (.int (iI (l1 + r3))), some (.int (iI l2))]) Q_X10_worlds (k := 16) rfl (by decide) rfl ?_
      obtain ⟨q5, h⟩ := h
      refine y_iinc (L' := [some (.ref 0), some (.int (iI (l1 + r3))), some (.int (iI (l2 + 1)))]) Q_X10_worlds (k := 17) rfl (by decide) rfl rfl ?_
      refine z_goto (tgt := 8) Q_X10_worlds (k := 18) rfl (by decide) ?_
      exact y_fg (zsb_c rfl (zsb_c rfl (zsb_c rfl zsb_e))) (ih (l1 + r3) (l2 + 1) q4 q5 h)
set_option maxHeartbeats 4000000 in
set_option maxRecDepth 20000 in
theorem w_X10_worlds {S : zS} {V : qV} {J : qJ} {Q : Int → qJ → Prop} (d : Nat) (hB : qB S V) (h : W_X10_worlds V J Q) : Z M_X10_worlds (d + 2) 0 0 0 [some (.ref 0), none, none] [] S (qi V) (qj J) (qP_iJ S V Q) := by
  unfold W_X10_worlds at h
  refine z_aload_n Q_X10_worlds (k := 0) rfl rfl ?_
  refine q_callV0_uJ Q_X10_worlds (k := 1) rfl rfl K_X10_fillWorldSet V_X10_fillWorldSet L_X10_151 (n_ hB.1 rfl) (k_0 hB.1) (Nat.le_of_ble_eq_true rfl) (Nat.le_of_ble_eq_true rfl) rfl (Nat.zero_le _) (Nat.zero_le _) (w_X10_fillWorldSet d hB  h) (fun J1 h => ?_)
  refine y_iconst Q_X10_worlds (k := 2) rfl ?_
  refine y_istore_n (L' := [some (.ref 0), some (.int (iI 0)), none]) Q_X10_worlds (k := 3) rfl (by decide) rfl ?_
  refine y_iconst Q_X10_worlds (k := 4) rfl ?_
  refine y_istore_n (L' := [some (.ref 0), some (.int (iI 0)), some (.int (iI 0))]) Q_X10_worlds (k := 5) rfl (by decide) rfl ?_
  refine y_fg (zsb_c rfl (zsb_c rfl (zsb_c rfl zsb_e))) (v_X10_worlds_8 d hB (fun l1x6 l2x6 zl1x6 zl2x6 h => ?_) 100000 0 0 ⟨by decide, by decide⟩ ⟨by decide, by decide⟩ h)
  refine z_iload_n Q_X10_worlds (k := 19) rfl rfl ?_
  exact y_iret Q_X10_worlds (k := 20) rfl rfl (qI_iJ zl1x6 h)
set_option maxHeartbeats 4000000 in
set_option maxRecDepth 20000 in
theorem v_X10_world_8 {S : zS} {V : qV} {J : qJ} {K : Int → Int → Prop} {Q : Int → qJ → Prop} {kc ks : Nat} (d : Nat) (hB : qB S V) {l1 : Int} (z1 : zr l1) (hK : ∀ (l2 : Int) (l3 : Int), zr l2 → zr l3 → K l2 l3 → Z M_X10_world (d + 2) kc ks 43 [some (.ref 0), some (.int (iI l1)), some (.int (iI l2)), some (.int (iI l3))] [] S (qi V) (qj J) (qP_iJ S V Q)) : ∀ (f : Nat) (l2 : Int) (l3 : Int), zr l2 → zr l3 → lp_X10_world_8 l1 V J K Q f l2 l3 → Z M_X10_world (d + 2) kc ks 8 [some (.ref 0), some (.int (iI l1)), some (.int (iI l2)), some (.int (iI l3))] [] S (qi V) (qj J) (qP_iJ S V Q) := by
  intro f
  induction f with
  | zero =>
    intro l2 l3 z2 z3 h
    exact h.elim
  | succ f ih =>
    intro l2 l3 z2 z3 h
    rw [lp_X10_world_8] at h
    refine z_iload_n Q_X10_world (k := 6) rfl rfl ?_
    refine y_sipush Q_X10_world (k := 7) rfl (by decide) ?_
    refine y_icmp_ge 43 Q_X10_world (k := 8) rfl (by decide) z3 ⟨by decide, by decide⟩ (fun c => ?_) (fun c => ?_)
    · replace h := h.1 c
      exact y_fg (zsb_c rfl (zsb_c rfl (zsb_c rfl (zsb_c rfl zsb_e)))) (hK l2 l3 z2 z3 h)
    · replace h := h.2 c
      refine z_aload_n Q_X10_world (k := 9) rfl rfl ?_
      refine z_getR (b := 166) Q_X10_world (k := 10) rfl F_X10_57 rfl (n_ hB.1 rfl) (k_0 hB.1) (r_0_10 hB.1) ?_
      refine y_iconst Q_X10_world (k := 11) rfl ?_
      refine z_iload_n Q_X10_world (k := 12) rfl rfl ?_
      refine q_callS3_z Q_X10_world (k := 13) rfl rfl K_X10_hasWorld S_X10_hasWorld L_X10_160 (Nat.le_of_ble_eq_true rfl) (Nat.le_of_ble_eq_true rfl) rfl (Nat.zero_le _) (Nat.zero_le _) (w_X10_hasWorld (d + 1) hB (Or.inl rfl) ⟨by decide, by decide⟩ z3 h) (fun r2 hz2 hb2 h => ?_)
      refine y_if_eq 37 Q_X10_world (k := 14) rfl (by decide) hz2 (fun c => ?_) (fun c => ?_)
      · replace h := h.1 c
        obtain ⟨q3, h⟩ := h
        refine y_iinc (L' := [some (.ref 0), some (.int (iI l1)), some (.int (iI l2)), some (.int (iI (l3 + 1)))]) Q_X10_world (k := 21) rfl (by decide) rfl rfl ?_
        refine z_goto (tgt := 8) Q_X10_world (k := 22) rfl (by decide) ?_
        exact y_fg (zsb_c rfl (zsb_c rfl (zsb_c rfl (zsb_c rfl zsb_e)))) (ih l2 (l3 + 1) z2 q3 h)
      · replace h := h.2 c
        refine z_iload_n Q_X10_world (k := 15) rfl rfl ?_
        refine z_iload_n Q_X10_world (k := 16) rfl rfl ?_
        refine y_icmp_ne 34 Q_X10_world (k := 17) rfl (by decide) z2 z1 (fun c => ?_) (fun c => ?_)
        · replace h := h.2 c
          obtain ⟨q4, h⟩ := h
          refine y_iinc (L' := [some (.ref 0), some (.int (iI l1)), some (.int (iI (l2 + 1))), some (.int (iI l3))]) Q_X10_world (k := 20) rfl (by decide) rfl rfl ?_
          obtain ⟨q5, h⟩ := h
          refine y_iinc (L' := [some (.ref 0), some (.int (iI l1)), some (.int (iI (l2 + 1))), some (.int (iI (l3 + 1)))]) Q_X10_world (k := 21) rfl (by decide) rfl rfl ?_
          refine z_goto (tgt := 8) Q_X10_world (k := 22) rfl (by decide) ?_
          exact y_fg (zsb_c rfl (zsb_c rfl (zsb_c rfl (zsb_c rfl zsb_e)))) (ih (l2 + 1) (l3 + 1) q4 q5 h)
        · replace h := h.1 c
          refine z_iload_n Q_X10_world (k := 18) rfl rfl ?_
          exact y_iret Q_X10_world (k := 19) rfl rfl (qI_iJ z3 h)
set_option maxHeartbeats 4000000 in
set_option maxRecDepth 20000 in
theorem w_X10_world {S : zS} {V : qV} {J : qJ} {Q : Int → qJ → Prop} (d : Nat) (hB : qB S V) {a1 : Int} (z1 : zr a1) (h : W_X10_world a1 V J Q) : Z M_X10_world (d + 2) 0 0 0 [some (.ref 0), some (.int (iI a1)), none, none] [] S (qi V) (qj J) (qP_iJ S V Q) := by
  unfold W_X10_world at h
  refine z_aload_n Q_X10_world (k := 0) rfl rfl ?_
  refine q_callV0_uJ Q_X10_world (k := 1) rfl rfl K_X10_fillWorldSet V_X10_fillWorldSet L_X10_151 (n_ hB.1 rfl) (k_0 hB.1) (Nat.le_of_ble_eq_true rfl) (Nat.le_of_ble_eq_true rfl) rfl (Nat.zero_le _) (Nat.zero_le _) (w_X10_fillWorldSet d hB  h) (fun J1 h => ?_)
  refine y_iconst Q_X10_world (k := 2) rfl ?_
  refine y_istore_n (L' := [some (.ref 0), some (.int (iI a1)), some (.int (iI 0)), none]) Q_X10_world (k := 3) rfl (by decide) rfl ?_
  refine y_iconst Q_X10_world (k := 4) rfl ?_
  refine y_istore_n (L' := [some (.ref 0), some (.int (iI a1)), some (.int (iI 0)), some (.int (iI 0))]) Q_X10_world (k := 5) rfl (by decide) rfl ?_
  refine y_fg (zsb_c rfl (zsb_c rfl (zsb_c rfl (zsb_c rfl zsb_e)))) (v_X10_world_8 d hB z1 (fun l2x6 l3x6 zl2x6 zl3x6 h => ?_) 100000 0 0 ⟨by decide, by decide⟩ ⟨by decide, by decide⟩ h)
  refine y_iconst Q_X10_world (k := 23) rfl ?_
  exact y_iret Q_X10_world (k := 24) rfl rfl (qI_iJ ⟨by decide, by decide⟩ h)
set_option maxHeartbeats 4000000 in
set_option maxRecDepth 20000 in
theorem v_X10_fillWeights_82 {S : zS} {V : qV} {K : Int → qJ → Prop} {Q : qJ → Prop} {kc ks : Nat} (d : Nat) (hB : qB S V) {l1 : Int} (z1 : zr l1) {l3 : Int} (z3 : zr l3) {l4 : Int} (z4 : zr l4) {l5 : Int} (z5 : zr l5) (hK : ∀ (l6 : Int) (J : qJ), zr l6 → K l6 J → Z M_X10_fillWeights d kc ks 144 [some (.ref 0), some (.int (iI l1)), none, some (.int (iI l3)), some (.int (iI l4)), some (.int (iI l5)), some (.int (iI l6))] [] S (qi V) (qj J) (qP_uJ S V Q)) : ∀ (f : Nat) (l6 : Int) (J : qJ), zr l6 → lp_X10_fillWeights_82 l1 l3 l4 l5 V K f l6 J → Z M_X10_fillWeights d kc ks 82 [some (.ref 0), some (.int (iI l1)), none, some (.int (iI l3)), some (.int (iI l4)), some (.int (iI l5)), some (.int (iI l6))] [] S (qi V) (qj J) (qP_uJ S V Q) := by
  intro f
  induction f with
  | zero =>
    intro l6 J z6 h
    exact h.elim
  | succ f ih =>
    intro l6 J z6 h
    rw [lp_X10_fillWeights_82] at h
    refine z_iload Q_X10_fillWeights (k := 49) rfl rfl ?_
    refine z_iload Q_X10_fillWeights (k := 50) rfl rfl ?_
    refine y_icmp_ge 144 Q_X10_fillWeights (k := 51) rfl (by decide) z6 z5 (fun c => ?_) (fun c => ?_)
    · replace h := h.1 c
      exact y_fg (zsb_c rfl (zsb_c rfl (zsb_n (zsb_c rfl (zsb_c rfl (zsb_c rfl (zsb_c rfl zsb_e))))))) (hK l6 J z6 h)
    · replace h := h.2 c
      refine z_iload Q_X10_fillWeights (k := 52) rfl rfl ?_
      refine z_iload Q_X10_fillWeights (k := 53) rfl rfl ?_
      obtain ⟨q2, h⟩ := h
      refine y_iadd Q_X10_fillWeights (k := 54) rfl ?_
      refine y_sipush Q_X10_fillWeights (k := 55) rfl (by decide) ?_
      refine y_icmp_ge 144 Q_X10_fillWeights (k := 56) rfl (by decide) q2 ⟨by decide, by decide⟩ (fun c => ?_) (fun c => ?_)
      · replace h := h.1 c
        exact y_fg (zsb_c rfl (zsb_c rfl (zsb_n (zsb_c rfl (zsb_c rfl (zsb_c rfl (zsb_c rfl zsb_e))))))) (hK l6 J z6 h)
      · replace h := h.2 c
        refine z_aload_n Q_X10_fillWeights (k := 57) rfl rfl ?_
        refine z_getR (b := 167) Q_X10_fillWeights (k := 58) rfl F_X10_61 rfl (n_ hB.1 rfl) (k_0 hB.1) (r_0_11 hB.1) ?_
        refine z_iload Q_X10_fillWeights (k := 59) rfl rfl ?_
        refine z_iload Q_X10_fillWeights (k := 60) rfl rfl ?_
        obtain ⟨q3, h⟩ := h
        refine y_iadd Q_X10_fillWeights (k := 61) rfl ?_
        refine z_aload_n Q_X10_fillWeights (k := 62) rfl rfl ?_
        refine z_getR (b := 167) Q_X10_fillWeights (k := 63) rfl F_X10_61 rfl (n_ hB.1 rfl) (k_0 hB.1) (r_0_11 hB.1) ?_
        refine z_iload Q_X10_fillWeights (k := 64) rfl rfl ?_
        obtain ⟨q4, h⟩ := h
        refine q_lald (o := 167) (N := 1024) Q_X10_fillWeights (k := 65) rfl rfl (n_ hB.1 rfl) (k_167 hB.1) rfl q4 (by decide) ?_
        refine z_iload_n Q_X10_fillWeights (k := 66) rfl rfl ?_
        refine z_i2l Q_X10_fillWeights (k := 67) rfl ?_
        refine z_lmul Q_X10_fillWeights (k := 68) rfl ?_
        obtain ⟨q5, h⟩ := h
        refine q_last (o := 167) (N := 1024) Q_X10_fillWeights (k := 69) rfl rfl (n_ hB.1 rfl) (k_167 hB.1) rfl q5 (by decide) ?_
        refine z_aload_n Q_X10_fillWeights (k := 70) rfl rfl ?_
        refine z_getR (b := 167) Q_X10_fillWeights (k := 71) rfl F_X10_61 rfl (n_ hB.1 rfl) (k_0 hB.1) (r_0_11 hB.1) ?_
        refine z_iload Q_X10_fillWeights (k := 72) rfl rfl ?_
        refine z_aload_n Q_X10_fillWeights (k := 73) rfl rfl ?_
        refine z_getR (b := 167) Q_X10_fillWeights (k := 74) rfl F_X10_61 rfl (n_ hB.1 rfl) (k_0 hB.1) (r_0_11 hB.1) ?_
        refine z_iload Q_X10_fillWeights (k := 75) rfl rfl ?_
        obtain ⟨q6, h⟩ := h
        refine q_lald (o := 167) (N := 1024) Q_X10_fillWeights (k := 76) rfl rfl (n_ hB.1 rfl) (k_167 hB.1) rfl q6 (by decide) ?_
        refine z_iload Q_X10_fillWeights (k := 77) rfl rfl ?_
        refine z_i2l Q_X10_fillWeights (k := 78) rfl ?_
        refine z_lmul Q_X10_fillWeights (k := 79) rfl ?_
        obtain ⟨q7, h⟩ := h
        refine q_last (o := 167) (N := 1024) Q_X10_fillWeights (k := 80) rfl rfl (n_ hB.1 rfl) (k_167 hB.1) rfl q7 (by decide) ?_
        obtain ⟨q8, h⟩ := h
        refine y_iinc (L' := [some (.ref 0), some (.int (iI l1)), none, some (.int (iI l3)), some (.int (iI l4)), some (.int (iI l5)), some (.int (iI (l6 + 1)))]) Q_X10_fillWeights (k := 81) rfl (by decide) rfl rfl ?_
        refine z_goto (tgt := 82) Q_X10_fillWeights (k := 82) rfl (by decide) ?_
        exact y_fg (zsb_c rfl (zsb_c rfl (zsb_n (zsb_c rfl (zsb_c rfl (zsb_c rfl (zsb_c rfl zsb_e))))))) (ih (l6 + 1) (qu (qu J 167 (l6 + l5) ((J 167 l6) * ((iI l3).toInt64))) 167 l6 (((qu J 167 (l6 + l5) ((J 167 l6) * ((iI l3).toInt64))) 167 l6) * ((iI l4).toInt64))) q8 h)
set_option maxHeartbeats 4000000 in
set_option maxRecDepth 20000 in
theorem v_X10_fillWeights_9 {S : zS} {V : qV} {K : Int → qJ → Prop} {Q : qJ → Prop} {kc ks : Nat} (d : Nat) (hB : qB S V) (hK : ∀ (l1 : Int) (J : qJ), zr l1 → K l1 J → Z M_X10_fillWeights d kc ks 150 [some (.ref 0), some (.int (iI l1)), none, none, none, none, none] [] S (qi V) (qj J) (qP_uJ S V Q)) : ∀ (f : Nat) (l1 : Int) (J : qJ), zr l1 → lp_X10_fillWeights_9 V K f l1 J → Z M_X10_fillWeights d kc ks 9 [some (.ref 0), some (.int (iI l1)), none, none, none, none, none] [] S (qi V) (qj J) (qP_uJ S V Q) := by
  intro f
  induction f with
  | zero =>
    intro l1 J z1 h
    exact h.elim
  | succ f ih =>
    intro l1 J z1 h
    rw [lp_X10_fillWeights_9] at h
    refine z_iload_n Q_X10_fillWeights (k := 7) rfl rfl ?_
    refine y_bipush Q_X10_fillWeights (k := 8) rfl (by decide) ?_
    refine y_icmp_ge 150 Q_X10_fillWeights (k := 9) rfl (by decide) z1 ⟨by decide, by decide⟩ (fun c => ?_) (fun c => ?_)
    · replace h := h.1 c
      exact y_fg (zsb_c rfl (zsb_c rfl (zsb_n (zsb_n (zsb_n (zsb_n (zsb_n zsb_e))))))) (hK l1 J z1 h)
    · replace h := h.2 c
      refine z_aload_n Q_X10_fillWeights (k := 10) rfl rfl ?_
      refine z_getR (b := 12) Q_X10_fillWeights (k := 11) rfl F_X10_25 rfl (n_ hB.1 rfl) (k_0 hB.1) (r_0_3 hB.1) ?_
      refine z_getR (b := 14) Q_X10_fillWeights (k := 12) rfl F_X10_138 rfl (n_ hB.1 rfl) (k_12 hB.1) (r_12_2 hB.1) ?_
      refine z_iload_n Q_X10_fillWeights (k := 13) rfl rfl ?_
      obtain ⟨q1, h⟩ := h
      refine q_iald (o := 14) (N := 10) Q_X10_fillWeights (k := 14) rfl rfl (n_ hB.1 rfl) (k_14 hB.1) rfl q1 (by decide) ?_
      refine y_iconst Q_X10_fillWeights (k := 15) rfl ?_
      refine y_icmp_ne 32 Q_X10_fillWeights (k := 16) rfl (by decide) (hB.2.1 _ _) ⟨by decide, by decide⟩ (fun c => ?_) (fun c => ?_)
      · replace h := h.2 c
        refine y_iconst Q_X10_fillWeights (k := 19) rfl ?_
        refine y_istore_n (L' := [some (.ref 0), some (.int (iI l1)), some (.int (iI 0)), none, none, none, none]) Q_X10_fillWeights (k := 20) rfl (by decide) rfl ?_
        refine z_iload_n Q_X10_fillWeights (k := 21) rfl rfl ?_
        refine y_if_eq 50 Q_X10_fillWeights (k := 22) rfl (by decide) ⟨by decide, by decide⟩ (fun _ => ?_) (fun q => absurd q (by decide))
        refine y_iconst Q_X10_fillWeights (k := 29) rfl ?_
        refine y_istore_n (L' := [some (.ref 0), some (.int (iI l1)), some (.int (iI 0)), some (.int (iI 1)), none, none, none]) Q_X10_fillWeights (k := 30) rfl (by decide) rfl ?_
        refine z_iload_n Q_X10_fillWeights (k := 31) rfl rfl ?_
        refine y_if_eq 71 Q_X10_fillWeights (k := 32) rfl (by decide) ⟨by decide, by decide⟩ (fun _ => ?_) (fun q => absurd q (by decide))
        refine y_iconst Q_X10_fillWeights (k := 41) rfl ?_
        refine y_istore (L' := [some (.ref 0), some (.int (iI l1)), some (.int (iI 0)), some (.int (iI 1)), some (.int (iI 1)), none, none]) Q_X10_fillWeights (k := 42) rfl (by decide) rfl ?_
        refine y_iconst Q_X10_fillWeights (k := 43) rfl ?_
        refine z_iload_n Q_X10_fillWeights (k := 44) rfl rfl ?_
        refine y_ishl Q_X10_fillWeights (k := 45) rfl ?_
        refine y_istore (L' := [some (.ref 0), some (.int (iI l1)), some (.int (iI 0)), some (.int (iI 1)), some (.int (iI 1)), some (.int (iI (zshl 1 l1))), none]) Q_X10_fillWeights (k := 46) rfl (by decide) rfl ?_
        refine y_iconst Q_X10_fillWeights (k := 47) rfl ?_
        refine y_istore (L' := [some (.ref 0), some (.int (iI l1)), some (.int (iI 0)), some (.int (iI 1)), some (.int (iI 1)), some (.int (iI (zshl 1 l1))), some (.int (iI 0))]) Q_X10_fillWeights (k := 48) rfl (by decide) rfl ?_
        refine y_fg (zsb_c rfl (zsb_c rfl (zsb_n (zsb_c rfl (zsb_c rfl (zsb_c rfl (zsb_c rfl zsb_e))))))) (v_X10_fillWeights_82 d hB z1 ⟨by decide, by decide⟩ ⟨by decide, by decide⟩ (zshl_r _ _) (fun l6x9 J9 zl6x9 h => ?_) 100000 0 J ⟨by decide, by decide⟩ h)
        obtain ⟨q10, h⟩ := h
        refine y_iinc (L' := [some (.ref 0), some (.int (iI (l1 + 1))), none, some (.int (iI 1)), some (.int (iI 1)), some (.int (iI (zshl 1 l1))), some (.int (iI l6x9))]) Q_X10_fillWeights (k := 83) rfl (by decide) rfl rfl ?_
        refine z_goto (tgt := 9) Q_X10_fillWeights (k := 84) rfl (by decide) ?_
        exact y_fg (zsb_c rfl (zsb_c rfl (zsb_n (zsb_n (zsb_n (zsb_n (zsb_n zsb_e))))))) (ih (l1 + 1) J9 q10 h)
      · replace h := h.1 c
        refine y_iconst Q_X10_fillWeights (k := 17) rfl ?_
        refine z_goto (tgt := 33) Q_X10_fillWeights (k := 18) rfl (by decide) ?_
        refine y_istore_n (L' := [some (.ref 0), some (.int (iI l1)), some (.int (iI 1)), none, none, none, none]) Q_X10_fillWeights (k := 20) rfl (by decide) rfl ?_
        refine z_iload_n Q_X10_fillWeights (k := 21) rfl rfl ?_
        refine y_if_eq 50 Q_X10_fillWeights (k := 22) rfl (by decide) ⟨by decide, by decide⟩ (fun q => absurd q (by decide)) (fun _ => ?_)
        refine z_aload_n Q_X10_fillWeights (k := 23) rfl rfl ?_
        refine z_getR (b := 12) Q_X10_fillWeights (k := 24) rfl F_X10_25 rfl (n_ hB.1 rfl) (k_0 hB.1) (r_0_3 hB.1) ?_
        refine z_getR (b := 15) Q_X10_fillWeights (k := 25) rfl F_X10_141 rfl (n_ hB.1 rfl) (k_12 hB.1) (r_12_3 hB.1) ?_
        refine z_iload_n Q_X10_fillWeights (k := 26) rfl rfl ?_
        obtain ⟨q11, h⟩ := h
        refine q_iald (o := 15) (N := 10) Q_X10_fillWeights (k := 27) rfl rfl (n_ hB.1 rfl) (k_15 hB.1) rfl q11 (by decide) ?_
        refine z_goto (tgt := 51) Q_X10_fillWeights (k := 28) rfl (by decide) ?_
        refine y_istore_n (L' := [some (.ref 0), some (.int (iI l1)), some (.int (iI 1)), some (.int (iI (V 15 l1))), none, none, none]) Q_X10_fillWeights (k := 30) rfl (by decide) rfl ?_
        refine z_iload_n Q_X10_fillWeights (k := 31) rfl rfl ?_
        refine y_if_eq 71 Q_X10_fillWeights (k := 32) rfl (by decide) ⟨by decide, by decide⟩ (fun q => absurd q (by decide)) (fun _ => ?_)
        refine y_bipush Q_X10_fillWeights (k := 33) rfl (by decide) ?_
        refine z_aload_n Q_X10_fillWeights (k := 34) rfl rfl ?_
        refine z_getR (b := 12) Q_X10_fillWeights (k := 35) rfl F_X10_25 rfl (n_ hB.1 rfl) (k_0 hB.1) (r_0_3 hB.1) ?_
        refine z_getR (b := 15) Q_X10_fillWeights (k := 36) rfl F_X10_141 rfl (n_ hB.1 rfl) (k_12 hB.1) (r_12_3 hB.1) ?_
        refine z_iload_n Q_X10_fillWeights (k := 37) rfl rfl ?_
        obtain ⟨q12, h⟩ := h
        refine q_iald (o := 15) (N := 10) Q_X10_fillWeights (k := 38) rfl rfl (n_ hB.1 rfl) (k_15 hB.1) rfl q12 (by decide) ?_
        obtain ⟨q13, h⟩ := h
        refine y_isub Q_X10_fillWeights (k := 39) rfl ?_
        refine z_goto (tgt := 72) Q_X10_fillWeights (k := 40) rfl (by decide) ?_
        refine y_istore (L' := [some (.ref 0), some (.int (iI l1)), some (.int (iI 1)), some (.int (iI (V 15 l1))), some (.int (iI (10 - (V 15 l1)))), none, none]) Q_X10_fillWeights (k := 42) rfl (by decide) rfl ?_
        refine y_iconst Q_X10_fillWeights (k := 43) rfl ?_
        refine z_iload_n Q_X10_fillWeights (k := 44) rfl rfl ?_
        refine y_ishl Q_X10_fillWeights (k := 45) rfl ?_
        refine y_istore (L' := [some (.ref 0), some (.int (iI l1)), some (.int (iI 1)), some (.int (iI (V 15 l1))), some (.int (iI (10 - (V 15 l1)))), some (.int (iI (zshl 1 l1))), none]) Q_X10_fillWeights (k := 46) rfl (by decide) rfl ?_
        refine y_iconst Q_X10_fillWeights (k := 47) rfl ?_
        refine y_istore (L' := [some (.ref 0), some (.int (iI l1)), some (.int (iI 1)), some (.int (iI (V 15 l1))), some (.int (iI (10 - (V 15 l1)))), some (.int (iI (zshl 1 l1))), some (.int (iI 0))]) Q_X10_fillWeights (k := 48) rfl (by decide) rfl ?_
        refine y_fg (zsb_c rfl (zsb_c rfl (zsb_n (zsb_c rfl (zsb_c rfl (zsb_c rfl (zsb_c rfl zsb_e))))))) (v_X10_fillWeights_82 d hB z1 (hB.2.1 _ _) q13 (zshl_r _ _) (fun l6x14 J14 zl6x14 h => ?_) 100000 0 J ⟨by decide, by decide⟩ h)
        obtain ⟨q15, h⟩ := h
        refine y_iinc (L' := [some (.ref 0), some (.int (iI (l1 + 1))), none, some (.int (iI (V 15 l1))), some (.int (iI (10 - (V 15 l1)))), some (.int (iI (zshl 1 l1))), some (.int (iI l6x14))]) Q_X10_fillWeights (k := 83) rfl (by decide) rfl rfl ?_
        refine z_goto (tgt := 9) Q_X10_fillWeights (k := 84) rfl (by decide) ?_
        exact y_fg (zsb_c rfl (zsb_c rfl (zsb_n (zsb_n (zsb_n (zsb_n (zsb_n zsb_e))))))) (ih (l1 + 1) J14 q15 h)
set_option maxHeartbeats 4000000 in
set_option maxRecDepth 20000 in
theorem w_X10_fillWeights {S : zS} {V : qV} {J : qJ} {Q : qJ → Prop} (d : Nat) (hB : qB S V) (h : W_X10_fillWeights V J Q) : Z M_X10_fillWeights d 0 0 0 [some (.ref 0), none, none, none, none, none, none] [] S (qi V) (qj J) (qP_uJ S V Q) := by
  unfold W_X10_fillWeights at h
  refine z_aload_n Q_X10_fillWeights (k := 0) rfl rfl ?_
  refine z_getR (b := 167) Q_X10_fillWeights (k := 1) rfl F_X10_61 rfl (n_ hB.1 rfl) (k_0 hB.1) (r_0_11 hB.1) ?_
  refine y_iconst Q_X10_fillWeights (k := 2) rfl ?_
  refine z_lconst_ Q_X10_fillWeights (k := 3) rfl (v := 1) rfl ?_
  refine q_last (o := 167) (N := 1024) Q_X10_fillWeights (k := 4) rfl rfl (n_ hB.1 rfl) (k_167 hB.1) rfl ⟨by decide, by decide⟩ (by decide) ?_
  refine y_iconst Q_X10_fillWeights (k := 5) rfl ?_
  refine y_istore_n (L' := [some (.ref 0), some (.int (iI 0)), none, none, none, none, none]) Q_X10_fillWeights (k := 6) rfl (by decide) rfl ?_
  refine y_fg (zsb_c rfl (zsb_c rfl (zsb_n (zsb_n (zsb_n (zsb_n (zsb_n zsb_e))))))) (v_X10_fillWeights_9 d hB (fun l1x16 J16 zl1x16 h => ?_) 100000 0 (qu J 167 0 1) ⟨by decide, by decide⟩ h)
  exact z_vret Q_X10_fillWeights (k := 85) rfl rfl (qI_uJ h)
set_option maxHeartbeats 4000000 in
set_option maxRecDepth 20000 in
theorem v_X10_weightOf_9 {S : zS} {V : qV} {J : qJ} {K : Int64 → Int → Prop} {Q : Int64 → qJ → Prop} {kc ks : Nat} (d : Nat) (hB : qB S V) {l1 : Int} (o1_ : qLs l1) {l2 : Int} (z2 : zr l2) (hK : ∀ (l3 : Int64) (l5 : Int), zr l5 → K l3 l5 → Z M_X10_weightOf (d + 1) kc ks 43 [some (.ref 0), some (.ref l1.toNat), some (.int (iI l2)), some (.long l3), none, some (.int (iI l5))] [] S (qi V) (qj J) (qP_lJ S V Q)) : ∀ (f : Nat) (l3 : Int64) (l5 : Int), zr l5 → lp_X10_weightOf_9 l1 l2 V J K f l3 l5 → Z M_X10_weightOf (d + 1) kc ks 9 [some (.ref 0), some (.ref l1.toNat), some (.int (iI l2)), some (.long l3), none, some (.int (iI l5))] [] S (qi V) (qj J) (qP_lJ S V Q) := by
  intro f
  induction f with
  | zero =>
    intro l3 l5 z5 h
    exact h.elim
  | succ f ih =>
    intro l3 l5 z5 h
    rw [lp_X10_weightOf_9] at h
    refine z_iload Q_X10_weightOf (k := 6) rfl rfl ?_
    refine y_sipush Q_X10_weightOf (k := 7) rfl (by decide) ?_
    refine y_icmp_ge 43 Q_X10_weightOf (k := 8) rfl (by decide) z5 ⟨by decide, by decide⟩ (fun c => ?_) (fun c => ?_)
    · replace h := h.1 c
      exact y_fg (zsb_c rfl (zsb_c rfl (zsb_c rfl (zsb_c rfl (zsb_n (zsb_c rfl zsb_e)))))) (hK l3 l5 z5 h)
    · replace h := h.2 c
      refine z_aload_n Q_X10_weightOf (k := 9) rfl rfl ?_
      refine z_iload_n Q_X10_weightOf (k := 10) rfl rfl ?_
      refine z_iload Q_X10_weightOf (k := 11) rfl rfl ?_
      refine q_callS3_z Q_X10_weightOf (k := 12) rfl rfl K_X10_hasWorld S_X10_hasWorld L_X10_160 (Nat.le_of_ble_eq_true rfl) (Nat.le_of_ble_eq_true rfl) rfl (Nat.zero_le _) (Nat.zero_le _) (w_X10_hasWorld d hB o1_ z2 z5 h) (fun r2 hz2 hb2 h => ?_)
      refine y_if_eq 37 Q_X10_weightOf (k := 13) rfl (by decide) hz2 (fun c => ?_) (fun c => ?_)
      · replace h := h.1 c
        obtain ⟨q3, h⟩ := h
        refine y_iinc (L' := [some (.ref 0), some (.ref l1.toNat), some (.int (iI l2)), some (.long l3), none, some (.int (iI (l5 + 1)))]) Q_X10_weightOf (k := 21) rfl (by decide) rfl rfl ?_
        refine z_goto (tgt := 9) Q_X10_weightOf (k := 22) rfl (by decide) ?_
        exact y_fg (zsb_c rfl (zsb_c rfl (zsb_c rfl (zsb_c rfl (zsb_n (zsb_c rfl zsb_e)))))) (ih l3 (l5 + 1) q3 h)
      · replace h := h.2 c
        refine z_lload_n Q_X10_weightOf (k := 14) rfl rfl ?_
        refine z_aload_n Q_X10_weightOf (k := 15) rfl rfl ?_
        refine z_getR (b := 167) Q_X10_weightOf (k := 16) rfl F_X10_61 rfl (n_ hB.1 rfl) (k_0 hB.1) (r_0_11 hB.1) ?_
        refine z_iload Q_X10_weightOf (k := 17) rfl rfl ?_
        obtain ⟨q4, h⟩ := h
        refine q_lald (o := 167) (N := 1024) Q_X10_weightOf (k := 18) rfl rfl (n_ hB.1 rfl) (k_167 hB.1) rfl q4 (by decide) ?_
        refine z_ladd Q_X10_weightOf (k := 19) rfl ?_
        refine y_lstore_n (L' := [some (.ref 0), some (.ref l1.toNat), some (.int (iI l2)), some (.long (l3 + (J 167 l5))), none, some (.int (iI l5))]) Q_X10_weightOf (k := 20) rfl (by decide) rfl ?_
        obtain ⟨q5, h⟩ := h
        refine y_iinc (L' := [some (.ref 0), some (.ref l1.toNat), some (.int (iI l2)), some (.long (l3 + (J 167 l5))), none, some (.int (iI (l5 + 1)))]) Q_X10_weightOf (k := 21) rfl (by decide) rfl rfl ?_
        refine z_goto (tgt := 9) Q_X10_weightOf (k := 22) rfl (by decide) ?_
        exact y_fg (zsb_c rfl (zsb_c rfl (zsb_c rfl (zsb_c rfl (zsb_n (zsb_c rfl zsb_e)))))) (ih (l3 + (J 167 l5)) (l5 + 1) q5 h)
set_option maxHeartbeats 4000000 in
set_option maxRecDepth 20000 in
theorem w_X10_weightOf {S : zS} {V : qV} {J : qJ} {Q : Int64 → qJ → Prop} (d : Nat) (hB : qB S V) {a1 : Int} (p1 : qLs a1) {a2 : Int} (z2 : zr a2) (h : W_X10_weightOf a1 a2 V J Q) : Z M_X10_weightOf (d + 1) 0 0 0 [some (.ref 0), some (.ref a1.toNat), some (.int (iI a2)), none, none, none] [] S (qi V) (qj J) (qP_lJ S V Q) := by
  unfold W_X10_weightOf at h
  refine z_aload_n Q_X10_weightOf (k := 0) rfl rfl ?_
  refine q_callV0_uJ Q_X10_weightOf (k := 1) rfl rfl K_X10_fillWeights V_X10_fillWeights L_X10_177 (n_ hB.1 rfl) (k_0 hB.1) (Nat.le_of_ble_eq_true rfl) (Nat.le_of_ble_eq_true rfl) rfl (Nat.zero_le _) (Nat.zero_le _) (w_X10_fillWeights d hB  h) (fun J1 h => ?_)
  refine z_lconst_ Q_X10_weightOf (k := 2) rfl (v := 0) rfl ?_
  refine y_lstore_n (L' := [some (.ref 0), some (.ref a1.toNat), some (.int (iI a2)), some (.long 0), none, none]) Q_X10_weightOf (k := 3) rfl (by decide) rfl ?_
  refine y_iconst Q_X10_weightOf (k := 4) rfl ?_
  refine y_istore (L' := [some (.ref 0), some (.ref a1.toNat), some (.int (iI a2)), some (.long 0), none, some (.int (iI 0))]) Q_X10_weightOf (k := 5) rfl (by decide) rfl ?_
  refine y_fg (zsb_c rfl (zsb_c rfl (zsb_c rfl (zsb_c rfl (zsb_n (zsb_c rfl zsb_e)))))) (v_X10_weightOf_9 d hB p1 z2 (fun l3x6 l5x6 zl5x6 h => ?_) 100000 0 0 ⟨by decide, by decide⟩ h)
  refine z_lload_n Q_X10_weightOf (k := 23) rfl rfl ?_
  exact z_lret Q_X10_weightOf (k := 24) rfl rfl (qI_lJ h)
set_option maxHeartbeats 4000000 in
set_option maxRecDepth 20000 in
theorem w_X10_all {S : zS} {V : qV} {J : qJ} {Q : Int64 → qJ → Prop} (d : Nat) (hB : qB S V) (h : W_X10_all V J Q) : Z M_X10_all (d + 2) 0 0 0 [some (.ref 0)] [] S (qi V) (qj J) (qP_lJ S V Q) := by
  unfold W_X10_all at h
  refine z_aload_n Q_X10_all (k := 0) rfl rfl ?_
  refine q_callV0_uJ Q_X10_all (k := 1) rfl rfl K_X10_fillWorldSet V_X10_fillWorldSet L_X10_151 (n_ hB.1 rfl) (k_0 hB.1) (Nat.le_of_ble_eq_true rfl) (Nat.le_of_ble_eq_true rfl) rfl (Nat.zero_le _) (Nat.zero_le _) (w_X10_fillWorldSet d hB  h) (fun J1 h => ?_)
  refine z_aload_n Q_X10_all (k := 2) rfl rfl ?_
  refine z_aload_n Q_X10_all (k := 3) rfl rfl ?_
  refine z_getR (b := 166) Q_X10_all (k := 4) rfl F_X10_57 rfl (n_ hB.1 rfl) (k_0 hB.1) (r_0_10 hB.1) ?_
  refine y_iconst Q_X10_all (k := 5) rfl ?_
  refine q_callV2_lJ Q_X10_all (k := 6) rfl rfl K_X10_weightOf V_X10_weightOf L_X10_164 (n_ hB.1 rfl) (k_0 hB.1) (Nat.le_of_ble_eq_true rfl) (Nat.le_of_ble_eq_true rfl) rfl (Nat.zero_le _) (Nat.zero_le _) (w_X10_weightOf d hB (Or.inl rfl) ⟨by decide, by decide⟩ h) (fun r2 J2 h => ?_)
  exact z_lret Q_X10_all (k := 7) rfl rfl (qI_lJ h)
set_option maxHeartbeats 4000000 in
set_option maxRecDepth 20000 in
theorem w_X10_person {S : zS} {V : qV} {J : qJ} {Q : Int → qV → Prop} {X : String → qV → Prop} (d : Nat) (hB : qB S V) {a1 : Int} (z1 : zr a1) {a2 : Int} (z2 : zr a2) (h : W_X10_person a1 a2 V Q X) : Z M_X10_person (d + 1) 2 12 0 [some (.ref 0), some (.int (iI a1)), some (.int (iI a2))] [] S (qi V) (qj J) (qP_iVt S J Q X) := by
  unfold W_X10_person at h
  refine z_iload_n Q_X10_person (k := 0) rfl rfl ?_
  refine y_iconst Q_X10_person (k := 1) rfl ?_
  refine y_iconst Q_X10_person (k := 2) rfl ?_
  refine q_callS3_ut Q_X10_person (k := 3) rfl rfl K_X10_testRange S_X10_testRange L_X10_134 (Nat.le_of_ble_eq_true rfl) (Nat.le_of_ble_eq_true rfl) rfl (by decide) (by decide) (w_X10_testRange d hB z1 ⟨by decide, by decide⟩ ⟨by decide, by decide⟩ h) (fun E h => qX_iVt hB h) (fun h => ?_)
  refine z_iload_n Q_X10_person (k := 4) rfl rfl ?_
  refine y_iconst Q_X10_person (k := 5) rfl ?_
  refine y_sipush Q_X10_person (k := 6) rfl (by decide) ?_
  refine q_callS3_ut Q_X10_person (k := 7) rfl rfl K_X10_testRange S_X10_testRange L_X10_134 (Nat.le_of_ble_eq_true rfl) (Nat.le_of_ble_eq_true rfl) rfl (by decide) (by decide) (w_X10_testRange d hB z2 ⟨by decide, by decide⟩ ⟨by decide, by decide⟩ h) (fun E h => qX_iVt hB h) (fun h => ?_)
  refine z_aload_n Q_X10_person (k := 8) rfl rfl ?_
  refine z_getR (b := 12) Q_X10_person (k := 9) rfl F_X10_25 rfl (n_ hB.1 rfl) (k_0 hB.1) (r_0_3 hB.1) ?_
  refine q_getI (o := 12) (z := 8) Q_X10_person (k := 10) rfl F_X10_180 rfl rfl rfl (n_ hB.1 rfl) (k_12 hB.1) ?_
  refine y_bipush Q_X10_person (k := 11) rfl (by decide) ?_
  refine y_icmp_lt 28 Q_X10_person (k := 12) rfl (by decide) (hB.2.1 _ _) ⟨by decide, by decide⟩ (fun c => ?_) (fun c => ?_)
  · replace h := h.1 c
    refine z_aload_n Q_X10_person (k := 15) rfl rfl ?_
    refine z_getR (b := 12) Q_X10_person (k := 16) rfl F_X10_25 rfl (n_ hB.1 rfl) (k_0 hB.1) (r_0_3 hB.1) ?_
    refine z_getR (b := 18) Q_X10_person (k := 17) rfl F_X10_183 rfl (n_ hB.1 rfl) (k_12 hB.1) (r_12_7 hB.1) ?_
    refine z_aload_n Q_X10_person (k := 18) rfl rfl ?_
    refine z_getR (b := 12) Q_X10_person (k := 19) rfl F_X10_25 rfl (n_ hB.1 rfl) (k_0 hB.1) (r_0_3 hB.1) ?_
    refine q_getI (o := 12) (z := 8) Q_X10_person (k := 20) rfl F_X10_180 rfl rfl rfl (n_ hB.1 rfl) (k_12 hB.1) ?_
    obtain ⟨q3, h⟩ := h
    have o4 := (qe_person (i := V 12 8) hB.1 q3)
    refine y_aald (t := 6) (b := (22 + 2 * (V 12 8)).toNat) Q_X10_person (k := 21) rfl (n_ hB.1 rfl) (k_18 hB.1) (by decide) rfl q3.1 q3.2 (by decide) o4.2 ?_
    refine z_iload_n Q_X10_person (k := 22) rfl rfl ?_
    refine z_iload_n Q_X10_person (k := 23) rfl rfl ?_
    refine q_callV2_uV Q_X10_person (k := 24) rfl rfl K_X5_begin V_X5_begin L_X10_187 o4.1.1.2.1 o4.1.1.2.2.1 (Nat.le_of_ble_eq_true rfl) (Nat.le_of_ble_eq_true rfl) rfl (Nat.zero_le _) (Nat.zero_le _) (w_X5_begin d hB o4.1 z1 z2 h) (fun V5 hB5 h => ?_)
    refine z_aload_n Q_X10_person (k := 25) rfl rfl ?_
    refine z_getR (b := 12) Q_X10_person (k := 26) rfl F_X10_25 rfl (n_ hB5.1 rfl) (k_0 hB5.1) (r_0_3 hB5.1) ?_
    refine z_dup Q_X10_person (k := 27) rfl rfl ?_
    refine q_getI (o := 12) (z := 8) Q_X10_person (k := 28) rfl F_X10_180 rfl rfl rfl (n_ hB5.1 rfl) (k_12 hB5.1) ?_
    refine y_iconst Q_X10_person (k := 29) rfl ?_
    obtain ⟨q6, h⟩ := h
    refine y_iadd Q_X10_person (k := 30) rfl ?_
    refine q_putI (o := 12) (z := 8) Q_X10_person (k := 31) rfl F_X10_180 rfl rfl rfl (n_ hB5.1 rfl) (k_12 hB5.1) ?_
    have hB7 := qB.u (a := 12) (j := 8) (x := (V5 12 8) + 1) hB5 q6 (Or.inl (by decide))
    refine z_aload_n Q_X10_person (k := 32) rfl rfl ?_
    refine z_getR (b := 12) Q_X10_person (k := 33) rfl F_X10_25 rfl (n_ hB7.1 rfl) (k_0 hB7.1) (r_0_3 hB7.1) ?_
    refine q_getI (o := 12) (z := 8) Q_X10_person (k := 34) rfl F_X10_180 rfl rfl rfl (n_ hB7.1 rfl) (k_12 hB7.1) ?_
    refine y_iconst Q_X10_person (k := 35) rfl ?_
    obtain ⟨q8, h⟩ := h
    refine y_isub Q_X10_person (k := 36) rfl ?_
    exact y_iret Q_X10_person (k := 37) rfl rfl (qI_iVt hB7 q8 h)
  · replace h := h.2 c
    refine y_iconst Q_X10_person (k := 13) rfl ?_
    exact y_iret Q_X10_person (k := 14) rfl rfl (qI_iVt hB ⟨by decide, by decide⟩ h)
set_option maxHeartbeats 4000000 in
set_option maxRecDepth 20000 in
theorem w_X10_personOf {S : zS} {V : qV} {J : qJ} {Q : Int → Prop} {X : String → Prop} (d : Nat) (hB : qB S V) {a1 : Int} (z1 : zr a1) (h : W_X10_personOf a1 V Q X) : Z M_X10_personOf d 1 6 0 [some (.ref 0), some (.int (iI a1))] [] S (qi V) (qj J) (qP_rt S V J (fun r => qPe S r) Q X) := by
  unfold W_X10_personOf at h
  refine z_iload_n Q_X10_personOf (k := 0) rfl rfl ?_
  refine y_if_lt 21 Q_X10_personOf (k := 1) rfl (by decide) z1 (fun c => ?_) (fun c => ?_)
  · replace h := h.1 c
    exact z_throwN Q_X10_personOf (k := 10) rfl (zT.at Q_X10_personOf (k := 11) rfl).1 (zT.at Q_X10_personOf (k := 12) rfl).1 (zT.at Q_X10_personOf (k := 13) rfl).1 (zT.at Q_X10_personOf (k := 14) rfl).1 rfl rfl (Nat.le_of_ble_eq_true rfl) (by decide) (by decide) (qX_rt h)
  · replace h := h.2 c
    refine z_iload_n Q_X10_personOf (k := 2) rfl rfl ?_
    refine z_aload_n Q_X10_personOf (k := 3) rfl rfl ?_
    refine z_getR (b := 12) Q_X10_personOf (k := 4) rfl F_X10_25 rfl (n_ hB.1 rfl) (k_0 hB.1) (r_0_3 hB.1) ?_
    refine q_getI (o := 12) (z := 8) Q_X10_personOf (k := 5) rfl F_X10_180 rfl rfl rfl (n_ hB.1 rfl) (k_12 hB.1) ?_
    refine y_icmp_ge 21 Q_X10_personOf (k := 6) rfl (by decide) z1 (hB.2.1 _ _) (fun c => ?_) (fun c => ?_)
    · replace h := h.1 c
      exact z_throwN Q_X10_personOf (k := 10) rfl (zT.at Q_X10_personOf (k := 11) rfl).1 (zT.at Q_X10_personOf (k := 12) rfl).1 (zT.at Q_X10_personOf (k := 13) rfl).1 (zT.at Q_X10_personOf (k := 14) rfl).1 rfl rfl (Nat.le_of_ble_eq_true rfl) (by decide) (by decide) (qX_rt h)
    · replace h := h.2 c
      refine z_iload_n Q_X10_personOf (k := 7) rfl rfl ?_
      refine y_bipush Q_X10_personOf (k := 8) rfl (by decide) ?_
      refine y_icmp_lt 31 Q_X10_personOf (k := 9) rfl (by decide) z1 ⟨by decide, by decide⟩ (fun c => ?_) (fun c => ?_)
      · replace h := h.1 c
        refine z_aload_n Q_X10_personOf (k := 15) rfl rfl ?_
        refine z_getR (b := 12) Q_X10_personOf (k := 16) rfl F_X10_25 rfl (n_ hB.1 rfl) (k_0 hB.1) (r_0_3 hB.1) ?_
        refine z_getR (b := 18) Q_X10_personOf (k := 17) rfl F_X10_183 rfl (n_ hB.1 rfl) (k_12 hB.1) (r_12_7 hB.1) ?_
        refine z_iload_n Q_X10_personOf (k := 18) rfl rfl ?_
        obtain ⟨q1, h⟩ := h
        have o2 := (qe_person (i := a1) hB.1 q1)
        refine y_aald (t := 6) (b := (22 + 2 * a1).toNat) Q_X10_personOf (k := 19) rfl (n_ hB.1 rfl) (k_18 hB.1) (by decide) rfl q1.1 q1.2 (by decide) o2.2 ?_
        exact z_aret Q_X10_personOf (k := 20) rfl rfl (Or.inl ⟨_, rfl⟩) (qI_rt o2.1 h)
      · replace h := h.2 c
        exact z_throwN Q_X10_personOf (k := 10) rfl (zT.at Q_X10_personOf (k := 11) rfl).1 (zT.at Q_X10_personOf (k := 12) rfl).1 (zT.at Q_X10_personOf (k := 13) rfl).1 (zT.at Q_X10_personOf (k := 14) rfl).1 rfl rfl (Nat.le_of_ble_eq_true rfl) (by decide) (by decide) (qX_rt h)
set_option maxHeartbeats 4000000 in
set_option maxRecDepth 20000 in
theorem w_X10_passes {S : zS} {V : qV} {J : qJ} {Q : Int → qV → Prop} {X : String → qV → Prop} (d : Nat) (hB : qB S V) {a1 : Int} (z1 : zr a1) {a2 : Int} (z2 : zr a2) {a3 : Int} (z3 : zr a3) (h : W_X10_passes a1 a2 a3 V Q X) : Z M_X10_passes (d + 1) 3 18 0 [some (.ref 0), some (.int (iI a1)), some (.int (iI a2)), some (.int (iI a3)), none, none] [] S (qi V) (qj J) (qP_iVt S J Q X) := by
  unfold W_X10_passes at h
  refine z_aload_n Q_X10_passes (k := 0) rfl rfl ?_
  refine z_iload_n Q_X10_passes (k := 1) rfl rfl ?_
  refine q_callV1_rt Q_X10_passes (k := 2) rfl rfl K_X10_personOf V_X10_personOf L_X10_193 (n_ hB.1 rfl) (k_0 hB.1) (Nat.le_of_ble_eq_true rfl) (Nat.le_of_ble_eq_true rfl) rfl (by decide) (by decide) (w_X10_personOf d hB z1 h) (fun E h => qX_iVt hB h) (fun r1 ho1 h => ?_)
  refine y_astore (L' := [some (.ref 0), some (.int (iI a1)), some (.int (iI a2)), some (.int (iI a3)), some (.ref r1.toNat), none]) Q_X10_passes (k := 3) rfl (by decide) rfl ?_
  refine z_iload_n Q_X10_passes (k := 4) rfl rfl ?_
  refine y_iconst Q_X10_passes (k := 5) rfl ?_
  refine y_iconst Q_X10_passes (k := 6) rfl ?_
  refine q_callS3_ut Q_X10_passes (k := 7) rfl rfl K_X10_testRange S_X10_testRange L_X10_134 (Nat.le_of_ble_eq_true rfl) (Nat.le_of_ble_eq_true rfl) rfl (by decide) (by decide) (w_X10_testRange d hB z2 ⟨by decide, by decide⟩ ⟨by decide, by decide⟩ h) (fun E h => qX_iVt hB h) (fun h => ?_)
  refine z_iload_n Q_X10_passes (k := 8) rfl rfl ?_
  refine y_iconst Q_X10_passes (k := 9) rfl ?_
  refine y_bipush Q_X10_passes (k := 10) rfl (by decide) ?_
  refine q_callS3_ut Q_X10_passes (k := 11) rfl rfl K_X10_testRange S_X10_testRange L_X10_134 (Nat.le_of_ble_eq_true rfl) (Nat.le_of_ble_eq_true rfl) rfl (by decide) (by decide) (w_X10_testRange d hB z3 ⟨by decide, by decide⟩ ⟨by decide, by decide⟩ h) (fun E h => qX_iVt hB h) (fun h => ?_)
  refine z_aload Q_X10_passes (k := 12) rfl rfl ?_
  refine z_getR (b := (r1 + 1).toNat) Q_X10_passes (k := 13) rfl F_X10_197 rfl ho1.1.2.1 ho1.1.2.2.1 ho1.2.1 ?_
  refine z_iload_n Q_X10_passes (k := 14) rfl rfl ?_
  obtain ⟨q4, h⟩ := h
  refine q_iald (o := r1 + 1) (N := 4) Q_X10_passes (k := 15) rfl (Int.toNat_of_nonneg ho1.2.2.1) ho1.2.2.2.1 ho1.2.2.2.2.1 rfl q4 (by decide) ?_
  refine y_istore (L' := [some (.ref 0), some (.int (iI a1)), some (.int (iI a2)), some (.int (iI a3)), some (.ref r1.toNat), some (.int (iI (V (r1 + 1) a2)))]) Q_X10_passes (k := 16) rfl (by decide) rfl ?_
  refine z_aload Q_X10_passes (k := 17) rfl rfl ?_
  refine z_getR (b := (r1 + 1).toNat) Q_X10_passes (k := 18) rfl F_X10_197 rfl ho1.1.2.1 ho1.1.2.2.1 ho1.2.1 ?_
  refine z_iload_n Q_X10_passes (k := 19) rfl rfl ?_
  refine z_iload_n Q_X10_passes (k := 20) rfl rfl ?_
  obtain ⟨q5, h⟩ := h
  refine q_iast (o := r1 + 1) (N := 4) Q_X10_passes (k := 21) rfl (Int.toNat_of_nonneg ho1.2.2.1) ho1.2.2.2.1 ho1.2.2.2.2.1 rfl q5 (by decide) ?_
  have hB6 := qB.u (a := r1 + 1) (j := a2) (x := a3) hB z3 (Or.inl ho1.2.2.2.2.2)
  refine z_iload Q_X10_passes (k := 22) rfl rfl ?_
  exact y_iret Q_X10_passes (k := 23) rfl rfl (qI_iVt hB6 (hB.2.1 _ _) h)
set_option maxHeartbeats 4000000 in
set_option maxRecDepth 20000 in
theorem w_X10_ground {S : zS} {V : qV} {J : qJ} {Q : Int → qV → Prop} {X : String → qV → Prop} (d : Nat) (hB : qB S V) {a1 : Int} (z1 : zr a1) {a2 : Int} (z2 : zr a2) (b2 : a2 = 0 ∨ a2 = 1) {a3 : Int} (z3 : zr a3) (h : W_X10_ground a1 a2 a3 V Q X) : Z M_X10_ground (d + 1) 2 12 0 [some (.ref 0), some (.int (iI a1)), some (.int (iI a2)), some (.int (iI a3)), none] [] S (qi V) (qj J) (qP_iVt S J Q X) := by
  unfold W_X10_ground at h
  refine z_iload_n Q_X10_ground (k := 0) rfl rfl ?_
  refine y_iconst Q_X10_ground (k := 1) rfl ?_
  refine y_iconst Q_X10_ground (k := 2) rfl ?_
  refine q_callS3_ut Q_X10_ground (k := 3) rfl rfl K_X10_testRange S_X10_testRange L_X10_134 (Nat.le_of_ble_eq_true rfl) (Nat.le_of_ble_eq_true rfl) rfl (by decide) (by decide) (w_X10_testRange d hB z1 ⟨by decide, by decide⟩ ⟨by decide, by decide⟩ h) (fun E h => qX_iVt hB h) (fun h => ?_)
  refine z_iload_n Q_X10_ground (k := 4) rfl rfl ?_
  refine y_iconst Q_X10_ground (k := 5) rfl ?_
  refine y_icmp_eq 17 Q_X10_ground (k := 6) rfl (by decide) z3 ⟨by decide, by decide⟩ (fun c => ?_) (fun c => ?_)
  · replace h := h.1 c
    refine z_aload_n Q_X10_ground (k := 11) rfl rfl ?_
    refine z_getR (b := 12) Q_X10_ground (k := 12) rfl F_X10_25 rfl (n_ hB.1 rfl) (k_0 hB.1) (r_0_3 hB.1) ?_
    refine z_getR (b := 17) Q_X10_ground (k := 13) rfl F_X10_200 rfl (n_ hB.1 rfl) (k_12 hB.1) (r_12_6 hB.1) ?_
    refine z_iload_n Q_X10_ground (k := 14) rfl rfl ?_
    obtain ⟨q2, h⟩ := h
    refine q_iald (o := 17) (N := 4) Q_X10_ground (k := 15) rfl rfl (n_ hB.1 rfl) (k_17 hB.1) rfl q2 (by decide) ?_
    refine y_istore (L' := [some (.ref 0), some (.int (iI a1)), some (.int (iI a2)), some (.int (iI a3)), some (.int (iI (V 17 a1)))]) Q_X10_ground (k := 16) rfl (by decide) rfl ?_
    refine z_aload_n Q_X10_ground (k := 17) rfl rfl ?_
    refine z_getR (b := 12) Q_X10_ground (k := 18) rfl F_X10_25 rfl (n_ hB.1 rfl) (k_0 hB.1) (r_0_3 hB.1) ?_
    refine z_getR (b := 16) Q_X10_ground (k := 19) rfl F_X10_203 rfl (n_ hB.1 rfl) (k_12 hB.1) (r_12_5 hB.1) ?_
    refine z_iload_n Q_X10_ground (k := 20) rfl rfl ?_
    refine z_iload_n Q_X10_ground (k := 21) rfl rfl ?_
    refine y_if_eq 44 Q_X10_ground (k := 22) rfl (by decide) z2 (fun c => ?_) (fun c => ?_)
    · replace h := h.1 c
      refine y_iconst Q_X10_ground (k := 25) rfl ?_
      obtain ⟨q3, h⟩ := h
      refine q_iast (o := 16) (N := 4) Q_X10_ground (k := 26) rfl rfl (n_ hB.1 rfl) (k_16 hB.1) rfl q3 (by decide) ?_
      have hB4 := qB.u (a := 16) (j := a1) (x := 0) hB ⟨by decide, by decide⟩ (Or.inl (by decide))
      refine z_aload_n Q_X10_ground (k := 27) rfl rfl ?_
      refine z_getR (b := 12) Q_X10_ground (k := 28) rfl F_X10_25 rfl (n_ hB4.1 rfl) (k_0 hB4.1) (r_0_3 hB4.1) ?_
      refine z_getR (b := 17) Q_X10_ground (k := 29) rfl F_X10_200 rfl (n_ hB4.1 rfl) (k_12 hB4.1) (r_12_6 hB4.1) ?_
      refine z_iload_n Q_X10_ground (k := 30) rfl rfl ?_
      refine z_iload_n Q_X10_ground (k := 31) rfl rfl ?_
      obtain ⟨q5, h⟩ := h
      refine q_iast (o := 17) (N := 4) Q_X10_ground (k := 32) rfl rfl (n_ hB4.1 rfl) (k_17 hB4.1) rfl q5 (by decide) ?_
      have hB6 := qB.u (a := 17) (j := a1) (x := a3) hB4 z3 (Or.inl (by decide))
      refine z_iload Q_X10_ground (k := 33) rfl rfl ?_
      exact y_iret Q_X10_ground (k := 34) rfl rfl (qI_iVt hB6 (hB.2.1 _ _) h)
    · replace h := h.2 c
      refine y_iconst Q_X10_ground (k := 23) rfl ?_
      refine z_goto (tgt := 45) Q_X10_ground (k := 24) rfl (by decide) ?_
      obtain ⟨q7, h⟩ := h
      refine q_iast (o := 16) (N := 4) Q_X10_ground (k := 26) rfl rfl (n_ hB.1 rfl) (k_16 hB.1) rfl q7 (by decide) ?_
      have hB8 := qB.u (a := 16) (j := a1) (x := 1) hB ⟨by decide, by decide⟩ (Or.inl (by decide))
      refine z_aload_n Q_X10_ground (k := 27) rfl rfl ?_
      refine z_getR (b := 12) Q_X10_ground (k := 28) rfl F_X10_25 rfl (n_ hB8.1 rfl) (k_0 hB8.1) (r_0_3 hB8.1) ?_
      refine z_getR (b := 17) Q_X10_ground (k := 29) rfl F_X10_200 rfl (n_ hB8.1 rfl) (k_12 hB8.1) (r_12_6 hB8.1) ?_
      refine z_iload_n Q_X10_ground (k := 30) rfl rfl ?_
      refine z_iload_n Q_X10_ground (k := 31) rfl rfl ?_
      obtain ⟨q9, h⟩ := h
      refine q_iast (o := 17) (N := 4) Q_X10_ground (k := 32) rfl rfl (n_ hB8.1 rfl) (k_17 hB8.1) rfl q9 (by decide) ?_
      have hB10 := qB.u (a := 17) (j := a1) (x := a3) hB8 z3 (Or.inl (by decide))
      refine z_iload Q_X10_ground (k := 33) rfl rfl ?_
      exact y_iret Q_X10_ground (k := 34) rfl rfl (qI_iVt hB10 (hB.2.1 _ _) h)
  · replace h := h.2 c
    refine z_aload_n Q_X10_ground (k := 7) rfl rfl ?_
    refine z_iload_n Q_X10_ground (k := 8) rfl rfl ?_
    refine q_callV1_rt Q_X10_ground (k := 9) rfl rfl K_X10_personOf V_X10_personOf L_X10_193 (n_ hB.1 rfl) (k_0 hB.1) (Nat.le_of_ble_eq_true rfl) (Nat.le_of_ble_eq_true rfl) rfl (by decide) (by decide) (w_X10_personOf d hB z3 h) (fun E h => qX_iVt hB h) (fun r11 ho11 h => ?_)
    refine z_pop Q_X10_ground (k := 10) rfl rfl ?_
    refine z_aload_n Q_X10_ground (k := 11) rfl rfl ?_
    refine z_getR (b := 12) Q_X10_ground (k := 12) rfl F_X10_25 rfl (n_ hB.1 rfl) (k_0 hB.1) (r_0_3 hB.1) ?_
    refine z_getR (b := 17) Q_X10_ground (k := 13) rfl F_X10_200 rfl (n_ hB.1 rfl) (k_12 hB.1) (r_12_6 hB.1) ?_
    refine z_iload_n Q_X10_ground (k := 14) rfl rfl ?_
    obtain ⟨q12, h⟩ := h
    refine q_iald (o := 17) (N := 4) Q_X10_ground (k := 15) rfl rfl (n_ hB.1 rfl) (k_17 hB.1) rfl q12 (by decide) ?_
    refine y_istore (L' := [some (.ref 0), some (.int (iI a1)), some (.int (iI a2)), some (.int (iI a3)), some (.int (iI (V 17 a1)))]) Q_X10_ground (k := 16) rfl (by decide) rfl ?_
    refine z_aload_n Q_X10_ground (k := 17) rfl rfl ?_
    refine z_getR (b := 12) Q_X10_ground (k := 18) rfl F_X10_25 rfl (n_ hB.1 rfl) (k_0 hB.1) (r_0_3 hB.1) ?_
    refine z_getR (b := 16) Q_X10_ground (k := 19) rfl F_X10_203 rfl (n_ hB.1 rfl) (k_12 hB.1) (r_12_5 hB.1) ?_
    refine z_iload_n Q_X10_ground (k := 20) rfl rfl ?_
    refine z_iload_n Q_X10_ground (k := 21) rfl rfl ?_
    refine y_if_eq 44 Q_X10_ground (k := 22) rfl (by decide) z2 (fun c => ?_) (fun c => ?_)
    · replace h := h.1 c
      refine y_iconst Q_X10_ground (k := 25) rfl ?_
      obtain ⟨q13, h⟩ := h
      refine q_iast (o := 16) (N := 4) Q_X10_ground (k := 26) rfl rfl (n_ hB.1 rfl) (k_16 hB.1) rfl q13 (by decide) ?_
      have hB14 := qB.u (a := 16) (j := a1) (x := 0) hB ⟨by decide, by decide⟩ (Or.inl (by decide))
      refine z_aload_n Q_X10_ground (k := 27) rfl rfl ?_
      refine z_getR (b := 12) Q_X10_ground (k := 28) rfl F_X10_25 rfl (n_ hB14.1 rfl) (k_0 hB14.1) (r_0_3 hB14.1) ?_
      refine z_getR (b := 17) Q_X10_ground (k := 29) rfl F_X10_200 rfl (n_ hB14.1 rfl) (k_12 hB14.1) (r_12_6 hB14.1) ?_
      refine z_iload_n Q_X10_ground (k := 30) rfl rfl ?_
      refine z_iload_n Q_X10_ground (k := 31) rfl rfl ?_
      obtain ⟨q15, h⟩ := h
      refine q_iast (o := 17) (N := 4) Q_X10_ground (k := 32) rfl rfl (n_ hB14.1 rfl) (k_17 hB14.1) rfl q15 (by decide) ?_
      have hB16 := qB.u (a := 17) (j := a1) (x := a3) hB14 z3 (Or.inl (by decide))
      refine z_iload Q_X10_ground (k := 33) rfl rfl ?_
      exact y_iret Q_X10_ground (k := 34) rfl rfl (qI_iVt hB16 (hB.2.1 _ _) h)
    · replace h := h.2 c
      refine y_iconst Q_X10_ground (k := 23) rfl ?_
      refine z_goto (tgt := 45) Q_X10_ground (k := 24) rfl (by decide) ?_
      obtain ⟨q17, h⟩ := h
      refine q_iast (o := 16) (N := 4) Q_X10_ground (k := 26) rfl rfl (n_ hB.1 rfl) (k_16 hB.1) rfl q17 (by decide) ?_
      have hB18 := qB.u (a := 16) (j := a1) (x := 1) hB ⟨by decide, by decide⟩ (Or.inl (by decide))
      refine z_aload_n Q_X10_ground (k := 27) rfl rfl ?_
      refine z_getR (b := 12) Q_X10_ground (k := 28) rfl F_X10_25 rfl (n_ hB18.1 rfl) (k_0 hB18.1) (r_0_3 hB18.1) ?_
      refine z_getR (b := 17) Q_X10_ground (k := 29) rfl F_X10_200 rfl (n_ hB18.1 rfl) (k_12 hB18.1) (r_12_6 hB18.1) ?_
      refine z_iload_n Q_X10_ground (k := 30) rfl rfl ?_
      refine z_iload_n Q_X10_ground (k := 31) rfl rfl ?_
      obtain ⟨q19, h⟩ := h
      refine q_iast (o := 17) (N := 4) Q_X10_ground (k := 32) rfl rfl (n_ hB18.1 rfl) (k_17 hB18.1) rfl q19 (by decide) ?_
      have hB20 := qB.u (a := 17) (j := a1) (x := a3) hB18 z3 (Or.inl (by decide))
      refine z_iload Q_X10_ground (k := 33) rfl rfl ?_
      exact y_iret Q_X10_ground (k := 34) rfl rfl (qI_iVt hB20 (hB.2.1 _ _) h)
set_option maxHeartbeats 4000000 in
set_option maxRecDepth 20000 in
theorem w_X10_days {S : zS} {V : qV} {J : qJ} {Q : Int → qV → Prop} {X : String → qV → Prop} (d : Nat) (hB : qB S V) {a1 : Int} (z1 : zr a1) (h : W_X10_days a1 V Q X) : Z M_X10_days (d + 1) 2 12 0 [some (.ref 0), some (.int (iI a1))] [] S (qi V) (qj J) (qP_iVt S J Q X) := by
  unfold W_X10_days at h
  refine z_iload_n Q_X10_days (k := 0) rfl rfl ?_
  refine y_iconst Q_X10_days (k := 1) rfl ?_
  refine y_sipush Q_X10_days (k := 2) rfl (by decide) ?_
  refine q_callS3_ut Q_X10_days (k := 3) rfl rfl K_X10_testRange S_X10_testRange L_X10_134 (Nat.le_of_ble_eq_true rfl) (Nat.le_of_ble_eq_true rfl) rfl (by decide) (by decide) (w_X10_testRange d hB z1 ⟨by decide, by decide⟩ ⟨by decide, by decide⟩ h) (fun E h => qX_iVt hB h) (fun h => ?_)
  refine z_aload_n Q_X10_days (k := 4) rfl rfl ?_
  refine z_getR (b := 12) Q_X10_days (k := 5) rfl F_X10_25 rfl (n_ hB.1 rfl) (k_0 hB.1) (r_0_3 hB.1) ?_
  refine q_getI (o := 12) (z := 4) Q_X10_days (k := 6) rfl F_X10_211 rfl rfl rfl (n_ hB.1 rfl) (k_12 hB.1) ?_
  refine z_iload_n Q_X10_days (k := 7) rfl rfl ?_
  obtain ⟨q2, h⟩ := h
  refine y_iadd Q_X10_days (k := 8) rfl ?_
  refine y_sipush Q_X10_days (k := 9) rfl (by decide) ?_
  refine y_icmp_le 33 Q_X10_days (k := 10) rfl (by decide) q2 ⟨by decide, by decide⟩ (fun c => ?_) (fun c => ?_)
  · replace h := h.1 c
    refine z_aload_n Q_X10_days (k := 16) rfl rfl ?_
    refine z_getR (b := 12) Q_X10_days (k := 17) rfl F_X10_25 rfl (n_ hB.1 rfl) (k_0 hB.1) (r_0_3 hB.1) ?_
    refine z_dup Q_X10_days (k := 18) rfl rfl ?_
    refine q_getI (o := 12) (z := 4) Q_X10_days (k := 19) rfl F_X10_211 rfl rfl rfl (n_ hB.1 rfl) (k_12 hB.1) ?_
    refine z_iload_n Q_X10_days (k := 20) rfl rfl ?_
    obtain ⟨q3, h⟩ := h
    refine y_iadd Q_X10_days (k := 21) rfl ?_
    refine q_putI (o := 12) (z := 4) Q_X10_days (k := 22) rfl F_X10_211 rfl rfl rfl (n_ hB.1 rfl) (k_12 hB.1) ?_
    have hB4 := qB.u (a := 12) (j := 4) (x := (V 12 4) + a1) hB q3 (Or.inl (by decide))
    refine z_aload_n Q_X10_days (k := 23) rfl rfl ?_
    refine z_getR (b := 12) Q_X10_days (k := 24) rfl F_X10_25 rfl (n_ hB4.1 rfl) (k_0 hB4.1) (r_0_3 hB4.1) ?_
    refine q_getI (o := 12) (z := 4) Q_X10_days (k := 25) rfl F_X10_211 rfl rfl rfl (n_ hB4.1 rfl) (k_12 hB4.1) ?_
    exact y_iret Q_X10_days (k := 26) rfl rfl (qI_iVt hB4 (hB4.2.1 _ _) h)
  · replace h := h.2 c
    exact z_throw Q_X10_days (k := 11) rfl (zT.at Q_X10_days (k := 12) rfl).1 (zT.at Q_X10_days (k := 13) rfl).1 (zT.at Q_X10_days (k := 14) rfl).1 (zT.at Q_X10_days (k := 15) rfl).1 rfl (t_X10_214_216) (Nat.le_of_ble_eq_true rfl) (by decide) (by decide) (qX_iVt hB h)
set_option maxHeartbeats 4000000 in
set_option maxRecDepth 20000 in
theorem w_X10_find {S : zS} {V : qV} {J : qJ} {Q : Int → qV → Prop} {X : String → qV → Prop} (d : Nat) (hB : qB S V) {a1 : Int} (z1 : zr a1) {a2 : Int} (z2 : zr a2) {a3 : Int} (z3 : zr a3) {a4 : Int} (z4 : zr a4) {a5 : Int} (z5 : zr a5) (h : W_X10_find a1 a2 a3 a4 a5 V Q X) : Z M_X10_find (d + 1) 5 30 0 [some (.ref 0), some (.int (iI a1)), some (.int (iI a2)), some (.int (iI a3)), some (.int (iI a4)), some (.int (iI a5)), none] [] S (qi V) (qj J) (qP_iVt S J Q X) := by
  unfold W_X10_find at h
  refine z_iload_n Q_X10_find (k := 0) rfl rfl ?_
  refine y_iconst Q_X10_find (k := 1) rfl ?_
  refine y_iconst Q_X10_find (k := 2) rfl ?_
  refine q_callS3_ut Q_X10_find (k := 3) rfl rfl K_X10_testRange S_X10_testRange L_X10_134 (Nat.le_of_ble_eq_true rfl) (Nat.le_of_ble_eq_true rfl) rfl (by decide) (by decide) (w_X10_testRange d hB z1 ⟨by decide, by decide⟩ ⟨by decide, by decide⟩ h) (fun E h => qX_iVt hB h) (fun h => ?_)
  refine z_iload_n Q_X10_find (k := 4) rfl rfl ?_
  refine y_iconst Q_X10_find (k := 5) rfl ?_
  refine y_iconst Q_X10_find (k := 6) rfl ?_
  refine q_callS3_ut Q_X10_find (k := 7) rfl rfl K_X10_testRange S_X10_testRange L_X10_134 (Nat.le_of_ble_eq_true rfl) (Nat.le_of_ble_eq_true rfl) rfl (by decide) (by decide) (w_X10_testRange d hB z2 ⟨by decide, by decide⟩ ⟨by decide, by decide⟩ h) (fun E h => qX_iVt hB h) (fun h => ?_)
  refine z_iload_n Q_X10_find (k := 8) rfl rfl ?_
  refine y_iconst Q_X10_find (k := 9) rfl ?_
  refine y_sipush Q_X10_find (k := 10) rfl (by decide) ?_
  refine q_callS3_ut Q_X10_find (k := 11) rfl rfl K_X10_testRange S_X10_testRange L_X10_134 (Nat.le_of_ble_eq_true rfl) (Nat.le_of_ble_eq_true rfl) rfl (by decide) (by decide) (w_X10_testRange d hB z3 ⟨by decide, by decide⟩ ⟨by decide, by decide⟩ h) (fun E h => qX_iVt hB h) (fun h => ?_)
  refine z_iload Q_X10_find (k := 12) rfl rfl ?_
  refine y_iconst Q_X10_find (k := 13) rfl ?_
  refine y_sipush Q_X10_find (k := 14) rfl (by decide) ?_
  refine q_callS3_ut Q_X10_find (k := 15) rfl rfl K_X10_testRange S_X10_testRange L_X10_134 (Nat.le_of_ble_eq_true rfl) (Nat.le_of_ble_eq_true rfl) rfl (by decide) (by decide) (w_X10_testRange d hB z4 ⟨by decide, by decide⟩ ⟨by decide, by decide⟩ h) (fun E h => qX_iVt hB h) (fun h => ?_)
  refine z_iload Q_X10_find (k := 16) rfl rfl ?_
  refine y_iconst Q_X10_find (k := 17) rfl ?_
  refine y_bipush Q_X10_find (k := 18) rfl (by decide) ?_
  refine q_callS3_ut Q_X10_find (k := 19) rfl rfl K_X10_testRange S_X10_testRange L_X10_134 (Nat.le_of_ble_eq_true rfl) (Nat.le_of_ble_eq_true rfl) rfl (by decide) (by decide) (w_X10_testRange d hB z5 ⟨by decide, by decide⟩ ⟨by decide, by decide⟩ h) (fun E h => qX_iVt hB h) (fun h => ?_)
  refine z_aload_n Q_X10_find (k := 20) rfl rfl ?_
  refine z_getR (b := 12) Q_X10_find (k := 21) rfl F_X10_25 rfl (n_ hB.1 rfl) (k_0 hB.1) (r_0_3 hB.1) ?_
  refine q_getI (o := 12) (z := 10) Q_X10_find (k := 22) rfl F_X10_219 rfl rfl rfl (n_ hB.1 rfl) (k_12 hB.1) ?_
  refine y_bipush Q_X10_find (k := 23) rfl (by decide) ?_
  refine y_icmp_lt 51 Q_X10_find (k := 24) rfl (by decide) (hB.2.1 _ _) ⟨by decide, by decide⟩ (fun c => ?_) (fun c => ?_)
  · replace h := h.1 c
    refine z_aload_n Q_X10_find (k := 27) rfl rfl ?_
    refine z_getR (b := 12) Q_X10_find (k := 28) rfl F_X10_25 rfl (n_ hB.1 rfl) (k_0 hB.1) (r_0_3 hB.1) ?_
    refine z_getR (b := 19) Q_X10_find (k := 29) rfl F_X10_222 rfl (n_ hB.1 rfl) (k_12 hB.1) (r_12_9 hB.1) ?_
    refine z_aload_n Q_X10_find (k := 30) rfl rfl ?_
    refine z_getR (b := 12) Q_X10_find (k := 31) rfl F_X10_25 rfl (n_ hB.1 rfl) (k_0 hB.1) (r_0_3 hB.1) ?_
    refine q_getI (o := 12) (z := 10) Q_X10_find (k := 32) rfl F_X10_219 rfl rfl rfl (n_ hB.1 rfl) (k_12 hB.1) ?_
    obtain ⟨q6, h⟩ := h
    have o7 := (qe_find (i := V 12 10) hB.1 q6)
    refine y_aald (t := 7) (b := (54 + 4 * (V 12 10)).toNat) Q_X10_find (k := 33) rfl (n_ hB.1 rfl) (k_19 hB.1) (by decide) rfl q6.1 q6.2 (by decide) o7.2 ?_
    refine y_astore (L' := [some (.ref 0), some (.int (iI a1)), some (.int (iI a2)), some (.int (iI a3)), some (.int (iI a4)), some (.int (iI a5)), some (.ref (54 + 4 * (V 12 10)).toNat)]) Q_X10_find (k := 34) rfl (by decide) rfl ?_
    refine z_aload Q_X10_find (k := 35) rfl rfl ?_
    refine z_iload_n Q_X10_find (k := 36) rfl rfl ?_
    refine z_iload_n Q_X10_find (k := 37) rfl rfl ?_
    refine z_iload_n Q_X10_find (k := 38) rfl rfl ?_
    refine z_aload_n Q_X10_find (k := 39) rfl rfl ?_
    refine z_getR (b := 12) Q_X10_find (k := 40) rfl F_X10_25 rfl (n_ hB.1 rfl) (k_0 hB.1) (r_0_3 hB.1) ?_
    refine q_getI (o := 12) (z := 4) Q_X10_find (k := 41) rfl F_X10_211 rfl rfl rfl (n_ hB.1 rfl) (k_12 hB.1) ?_
    refine q_callV4_uV Q_X10_find (k := 42) rfl rfl K_X1_begin V_X1_begin L_X10_226 o7.1.1.2.1 o7.1.1.2.2.1 (Nat.le_of_ble_eq_true rfl) (Nat.le_of_ble_eq_true rfl) rfl (Nat.zero_le _) (Nat.zero_le _) (w_X1_begin d hB o7.1 z1 z2 z3 (hB.2.1 _ _) h) (fun V8 hB8 h => ?_)
    refine z_aload Q_X10_find (k := 43) rfl rfl ?_
    refine z_iload Q_X10_find (k := 44) rfl rfl ?_
    refine q_putI (o := 54 + 4 * (V 12 10)) (z := 3) Q_X10_find (k := 45) rfl F_X10_229 rfl (Int.toNat_of_nonneg o7.1.1.1) rfl o7.1.1.2.1 o7.1.1.2.2.1 ?_
    have hB9 := qB.u (a := 54 + 4 * (V 12 10)) (j := 3) (x := a4) hB8 z4 (Or.inl o7.1.1.2.2.2)
    refine z_aload Q_X10_find (k := 46) rfl rfl ?_
    refine z_iload Q_X10_find (k := 47) rfl rfl ?_
    refine q_putI (o := 54 + 4 * (V 12 10)) (z := 4) Q_X10_find (k := 48) rfl F_X10_232 rfl (Int.toNat_of_nonneg o7.1.1.1) rfl o7.1.1.2.1 o7.1.1.2.2.1 ?_
    have hB10 := qB.u (a := 54 + 4 * (V 12 10)) (j := 4) (x := a5) hB9 z5 (Or.inl o7.1.1.2.2.2)
    refine z_aload_n Q_X10_find (k := 49) rfl rfl ?_
    refine z_getR (b := 12) Q_X10_find (k := 50) rfl F_X10_25 rfl (n_ hB10.1 rfl) (k_0 hB10.1) (r_0_3 hB10.1) ?_
    refine z_dup Q_X10_find (k := 51) rfl rfl ?_
    refine q_getI (o := 12) (z := 10) Q_X10_find (k := 52) rfl F_X10_219 rfl rfl rfl (n_ hB10.1 rfl) (k_12 hB10.1) ?_
    refine y_iconst Q_X10_find (k := 53) rfl ?_
    obtain ⟨q11, h⟩ := h
    refine y_iadd Q_X10_find (k := 54) rfl ?_
    refine q_putI (o := 12) (z := 10) Q_X10_find (k := 55) rfl F_X10_219 rfl rfl rfl (n_ hB10.1 rfl) (k_12 hB10.1) ?_
    have hB12 := qB.u (a := 12) (j := 10) (x := ((qu (qu V8 (54 + 4 * (V 12 10)) 3 a4) (54 + 4 * (V 12 10)) 4 a5) 12 10) + 1) hB10 q11 (Or.inl (by decide))
    refine z_aload_n Q_X10_find (k := 56) rfl rfl ?_
    refine z_getR (b := 12) Q_X10_find (k := 57) rfl F_X10_25 rfl (n_ hB12.1 rfl) (k_0 hB12.1) (r_0_3 hB12.1) ?_
    refine q_getI (o := 12) (z := 10) Q_X10_find (k := 58) rfl F_X10_219 rfl rfl rfl (n_ hB12.1 rfl) (k_12 hB12.1) ?_
    refine y_iconst Q_X10_find (k := 59) rfl ?_
    obtain ⟨q13, h⟩ := h
    refine y_isub Q_X10_find (k := 60) rfl ?_
    exact y_iret Q_X10_find (k := 61) rfl rfl (qI_iVt hB12 q13 h)
  · replace h := h.2 c
    refine y_iconst Q_X10_find (k := 25) rfl ?_
    exact y_iret Q_X10_find (k := 26) rfl rfl (qI_iVt hB ⟨by decide, by decide⟩ h)
set_option maxHeartbeats 4000000 in
set_option maxRecDepth 20000 in
theorem w_X10_findOf {S : zS} {V : qV} {J : qJ} {Q : Int → Prop} {X : String → Prop} (d : Nat) (hB : qB S V) {a1 : Int} (z1 : zr a1) (h : W_X10_findOf a1 V Q X) : Z M_X10_findOf d 1 6 0 [some (.ref 0), some (.int (iI a1))] [] S (qi V) (qj J) (qP_rt S V J (fun r => qFi S r) Q X) := by
  unfold W_X10_findOf at h
  refine z_iload_n Q_X10_findOf (k := 0) rfl rfl ?_
  refine y_if_lt 21 Q_X10_findOf (k := 1) rfl (by decide) z1 (fun c => ?_) (fun c => ?_)
  · replace h := h.1 c
    exact z_throw Q_X10_findOf (k := 10) rfl (zT.at Q_X10_findOf (k := 11) rfl).1 (zT.at Q_X10_findOf (k := 12) rfl).1 (zT.at Q_X10_findOf (k := 13) rfl).1 (zT.at Q_X10_findOf (k := 14) rfl).1 rfl (t_X10_144_235) (Nat.le_of_ble_eq_true rfl) (by decide) (by decide) (qX_rt h)
  · replace h := h.2 c
    refine z_iload_n Q_X10_findOf (k := 2) rfl rfl ?_
    refine z_aload_n Q_X10_findOf (k := 3) rfl rfl ?_
    refine z_getR (b := 12) Q_X10_findOf (k := 4) rfl F_X10_25 rfl (n_ hB.1 rfl) (k_0 hB.1) (r_0_3 hB.1) ?_
    refine q_getI (o := 12) (z := 10) Q_X10_findOf (k := 5) rfl F_X10_219 rfl rfl rfl (n_ hB.1 rfl) (k_12 hB.1) ?_
    refine y_icmp_ge 21 Q_X10_findOf (k := 6) rfl (by decide) z1 (hB.2.1 _ _) (fun c => ?_) (fun c => ?_)
    · replace h := h.1 c
      exact z_throw Q_X10_findOf (k := 10) rfl (zT.at Q_X10_findOf (k := 11) rfl).1 (zT.at Q_X10_findOf (k := 12) rfl).1 (zT.at Q_X10_findOf (k := 13) rfl).1 (zT.at Q_X10_findOf (k := 14) rfl).1 rfl (t_X10_144_235) (Nat.le_of_ble_eq_true rfl) (by decide) (by decide) (qX_rt h)
    · replace h := h.2 c
      refine z_iload_n Q_X10_findOf (k := 7) rfl rfl ?_
      refine y_bipush Q_X10_findOf (k := 8) rfl (by decide) ?_
      refine y_icmp_lt 31 Q_X10_findOf (k := 9) rfl (by decide) z1 ⟨by decide, by decide⟩ (fun c => ?_) (fun c => ?_)
      · replace h := h.1 c
        refine z_aload_n Q_X10_findOf (k := 15) rfl rfl ?_
        refine z_getR (b := 12) Q_X10_findOf (k := 16) rfl F_X10_25 rfl (n_ hB.1 rfl) (k_0 hB.1) (r_0_3 hB.1) ?_
        refine z_getR (b := 19) Q_X10_findOf (k := 17) rfl F_X10_222 rfl (n_ hB.1 rfl) (k_12 hB.1) (r_12_9 hB.1) ?_
        refine z_iload_n Q_X10_findOf (k := 18) rfl rfl ?_
        obtain ⟨q1, h⟩ := h
        have o2 := (qe_find (i := a1) hB.1 q1)
        refine y_aald (t := 7) (b := (54 + 4 * a1).toNat) Q_X10_findOf (k := 19) rfl (n_ hB.1 rfl) (k_19 hB.1) (by decide) rfl q1.1 q1.2 (by decide) o2.2 ?_
        exact z_aret Q_X10_findOf (k := 20) rfl rfl (Or.inl ⟨_, rfl⟩) (qI_rt o2.1 h)
      · replace h := h.2 c
        exact z_throw Q_X10_findOf (k := 10) rfl (zT.at Q_X10_findOf (k := 11) rfl).1 (zT.at Q_X10_findOf (k := 12) rfl).1 (zT.at Q_X10_findOf (k := 13) rfl).1 (zT.at Q_X10_findOf (k := 14) rfl).1 rfl (t_X10_144_235) (Nat.le_of_ble_eq_true rfl) (by decide) (by decide) (qX_rt h)
set_option maxHeartbeats 4000000 in
set_option maxRecDepth 20000 in
theorem w_X10_name {S : zS} {V : qV} {J : qJ} {Q : Int → Prop} {X : String → Prop} (d : Nat) (hB : qB S V) {a1 : Int} (z1 : zr a1) {a2 : Int} (z2 : zr a2) (h : W_X10_name a1 a2 V Q X) : Z M_X10_name (d + 3) 2 12 0 [some (.ref 0), some (.int (iI a1)), some (.int (iI a2)), none] [] S (qi V) (qj J) (qP_it S V J Q X) := by
  unfold W_X10_name at h
  refine z_aload_n Q_X10_name (k := 0) rfl rfl ?_
  refine z_iload_n Q_X10_name (k := 1) rfl rfl ?_
  refine q_callV1_rt Q_X10_name (k := 2) rfl rfl K_X10_findOf V_X10_findOf L_X10_237 (n_ hB.1 rfl) (k_0 hB.1) (Nat.le_of_ble_eq_true rfl) (Nat.le_of_ble_eq_true rfl) rfl (by decide) (by decide) (w_X10_findOf (d + 2) hB z1 h) (fun E h => qX_it h) (fun r1 ho1 h => ?_)
  refine y_astore_n (L' := [some (.ref 0), some (.int (iI a1)), some (.int (iI a2)), some (.ref r1.toNat)]) Q_X10_name (k := 3) rfl (by decide) rfl ?_
  refine z_iload_n Q_X10_name (k := 4) rfl rfl ?_
  refine y_iconst Q_X10_name (k := 5) rfl ?_
  refine y_bipush Q_X10_name (k := 6) rfl (by decide) ?_
  refine q_callS3_ut Q_X10_name (k := 7) rfl rfl K_X10_testRange S_X10_testRange L_X10_134 (Nat.le_of_ble_eq_true rfl) (Nat.le_of_ble_eq_true rfl) rfl (by decide) (by decide) (w_X10_testRange (d + 2) hB z2 ⟨by decide, by decide⟩ ⟨by decide, by decide⟩ h) (fun E h => qX_it h) (fun h => ?_)
  refine z_aload_n Q_X10_name (k := 8) rfl rfl ?_
  refine z_getR (b := 12) Q_X10_name (k := 9) rfl F_X10_25 rfl (n_ hB.1 rfl) (k_0 hB.1) (r_0_3 hB.1) ?_
  refine z_aload_n Q_X10_name (k := 10) rfl rfl ?_
  refine z_iload_n Q_X10_name (k := 11) rfl rfl ?_
  refine z_iload_n Q_X10_name (k := 12) rfl rfl ?_
  refine q_callV3_i Q_X10_name (k := 13) rfl rfl K_X8_nameOf V_X8_nameOf L_X10_241 (n_ hB.1 rfl) (k_12 hB.1) (Nat.le_of_ble_eq_true rfl) (Nat.le_of_ble_eq_true rfl) rfl (Nat.zero_le _) (Nat.zero_le _) (w_X8_nameOf d hB ho1 z1 z2 h) (fun r3 hz3 h => ?_)
  exact y_iret Q_X10_name (k := 14) rfl rfl (qI_it hz3 h)
set_option maxHeartbeats 4000000 in
set_option maxRecDepth 20000 in
theorem v_X10_fillNames_2 {S : zS} {J : qJ} {K : Int → qV → Prop} {Q : qV → Prop} {kc ks : Nat} (d : Nat) {l1 : Int} (o1_ : qFi S l1) {l2 : Int} (z2 : zr l2) (hK : ∀ (l3 : Int) (V : qV), qB S V → zr l3 → K l3 V → Z M_X10_fillNames (d + 3) kc ks 30 [some (.ref 0), some (.ref l1.toNat), some (.int (iI l2)), some (.int (iI l3))] [] S (qi V) (qj J) (qP_uV S J Q)) : ∀ (f : Nat) (l3 : Int) (V : qV), qB S V → zr l3 → lp_X10_fillNames_2 l1 l2 K f l3 V → Z M_X10_fillNames (d + 3) kc ks 2 [some (.ref 0), some (.ref l1.toNat), some (.int (iI l2)), some (.int (iI l3))] [] S (qi V) (qj J) (qP_uV S J Q) := by
  intro f
  induction f with
  | zero =>
    intro l3 V hB z3 h
    exact h.elim
  | succ f ih =>
    intro l3 V hB z3 h
    rw [lp_X10_fillNames_2] at h
    refine z_iload_n Q_X10_fillNames (k := 2) rfl rfl ?_
    refine y_bipush Q_X10_fillNames (k := 3) rfl (by decide) ?_
    refine y_icmp_ge 30 Q_X10_fillNames (k := 4) rfl (by decide) z3 ⟨by decide, by decide⟩ (fun c => ?_) (fun c => ?_)
    · replace h := h.1 c
      exact y_fg (zsb_c rfl (zsb_c rfl (zsb_c rfl (zsb_c rfl zsb_e)))) (hK l3 V hB z3 h)
    · replace h := h.2 c
      refine z_aload_n Q_X10_fillNames (k := 5) rfl rfl ?_
      refine z_getR (b := 168) Q_X10_fillNames (k := 6) rfl F_X10_64 rfl (n_ hB.1 rfl) (k_0 hB.1) (r_0_12 hB.1) ?_
      refine z_iload_n Q_X10_fillNames (k := 7) rfl rfl ?_
      refine z_aload_n Q_X10_fillNames (k := 8) rfl rfl ?_
      refine z_getR (b := 12) Q_X10_fillNames (k := 9) rfl F_X10_25 rfl (n_ hB.1 rfl) (k_0 hB.1) (r_0_3 hB.1) ?_
      refine z_aload_n Q_X10_fillNames (k := 10) rfl rfl ?_
      refine z_iload_n Q_X10_fillNames (k := 11) rfl rfl ?_
      refine z_iload_n Q_X10_fillNames (k := 12) rfl rfl ?_
      refine q_callV3_i Q_X10_fillNames (k := 13) rfl rfl K_X8_nameOf V_X8_nameOf L_X10_241 (n_ hB.1 rfl) (k_12 hB.1) (Nat.le_of_ble_eq_true rfl) (Nat.le_of_ble_eq_true rfl) rfl (Nat.zero_le _) (Nat.zero_le _) (w_X8_nameOf d hB o1_ z2 z3 h) (fun r1 hz1 h => ?_)
      obtain ⟨q2, h⟩ := h
      refine q_iast (o := 168) (N := 10) Q_X10_fillNames (k := 14) rfl rfl (n_ hB.1 rfl) (k_168 hB.1) rfl q2 (by decide) ?_
      have hB3 := qB.u (a := 168) (j := l3) (x := r1) hB hz1 (Or.inl (by decide))
      obtain ⟨q4, h⟩ := h
      refine y_iinc (L' := [some (.ref 0), some (.ref l1.toNat), some (.int (iI l2)), some (.int (iI (l3 + 1)))]) Q_X10_fillNames (k := 15) rfl (by decide) rfl rfl ?_
      refine z_goto (tgt := 2) Q_X10_fillNames (k := 16) rfl (by decide) ?_
      exact y_fg (zsb_c rfl (zsb_c rfl (zsb_c rfl (zsb_c rfl zsb_e)))) (ih (l3 + 1) (qu V 168 l3 r1) hB3 q4 h)
set_option maxHeartbeats 4000000 in
set_option maxRecDepth 20000 in
theorem w_X10_fillNames {S : zS} {V : qV} {J : qJ} {Q : qV → Prop} (d : Nat) (hB : qB S V) {a1 : Int} (p1 : qFi S a1) {a2 : Int} (z2 : zr a2) (h : W_X10_fillNames a1 a2 V Q) : Z M_X10_fillNames (d + 3) 0 0 0 [some (.ref 0), some (.ref a1.toNat), some (.int (iI a2)), none] [] S (qi V) (qj J) (qP_uV S J Q) := by
  unfold W_X10_fillNames at h
  refine y_iconst Q_X10_fillNames (k := 0) rfl ?_
  refine y_istore_n (L' := [some (.ref 0), some (.ref a1.toNat), some (.int (iI a2)), some (.int (iI 0))]) Q_X10_fillNames (k := 1) rfl (by decide) rfl ?_
  refine y_fg (zsb_c rfl (zsb_c rfl (zsb_c rfl (zsb_c rfl zsb_e)))) (v_X10_fillNames_2 d p1 z2 (fun l3x5 V5 hB5 zl3x5 h => ?_) 100000 0 V hB ⟨by decide, by decide⟩ h)
  exact z_vret Q_X10_fillNames (k := 17) rfl rfl (qI_uV hB5 h)
set_option maxHeartbeats 4000000 in
set_option maxRecDepth 20000 in
theorem w_X10_hold {S : zS} {V : qV} {J : qJ} {Q : Int → qV → Prop} {X : String → qV → Prop} (d : Nat) (hB : qB S V) {a1 : Int} (z1 : zr a1) {a2 : Int} (z2 : zr a2) {a3 : Int} (z3 : zr a3) {a4 : Int} (z4 : zr a4) (h : W_X10_hold a1 a2 a3 a4 V Q X) : Z M_X10_hold (d + 1) 4 24 0 [some (.ref 0), some (.int (iI a1)), some (.int (iI a2)), some (.int (iI a3)), some (.int (iI a4)), none] [] S (qi V) (qj J) (qP_iVt S J Q X) := by
  unfold W_X10_hold at h
  refine z_aload_n Q_X10_hold (k := 0) rfl rfl ?_
  refine z_iload_n Q_X10_hold (k := 1) rfl rfl ?_
  refine q_callV1_rt Q_X10_hold (k := 2) rfl rfl K_X10_findOf V_X10_findOf L_X10_237 (n_ hB.1 rfl) (k_0 hB.1) (Nat.le_of_ble_eq_true rfl) (Nat.le_of_ble_eq_true rfl) rfl (by decide) (by decide) (w_X10_findOf d hB z1 h) (fun E h => qX_iVt hB h) (fun r1 ho1 h => ?_)
  refine y_astore (L' := [some (.ref 0), some (.int (iI a1)), some (.int (iI a2)), some (.int (iI a3)), some (.int (iI a4)), some (.ref r1.toNat)]) Q_X10_hold (k := 3) rfl (by decide) rfl ?_
  refine z_aload_n Q_X10_hold (k := 4) rfl rfl ?_
  refine z_iload_n Q_X10_hold (k := 5) rfl rfl ?_
  refine q_callV1_rt Q_X10_hold (k := 6) rfl rfl K_X10_personOf V_X10_personOf L_X10_193 (n_ hB.1 rfl) (k_0 hB.1) (Nat.le_of_ble_eq_true rfl) (Nat.le_of_ble_eq_true rfl) rfl (by decide) (by decide) (w_X10_personOf d hB z2 h) (fun E h => qX_iVt hB h) (fun r2 ho2 h => ?_)
  refine z_pop Q_X10_hold (k := 7) rfl rfl ?_
  refine z_iload_n Q_X10_hold (k := 8) rfl rfl ?_
  refine y_iconst Q_X10_hold (k := 9) rfl ?_
  refine y_iconst Q_X10_hold (k := 10) rfl ?_
  refine q_callS3_ut Q_X10_hold (k := 11) rfl rfl K_X10_testRange S_X10_testRange L_X10_134 (Nat.le_of_ble_eq_true rfl) (Nat.le_of_ble_eq_true rfl) rfl (by decide) (by decide) (w_X10_testRange d hB z3 ⟨by decide, by decide⟩ ⟨by decide, by decide⟩ h) (fun E h => qX_iVt hB h) (fun h => ?_)
  refine z_iload Q_X10_hold (k := 12) rfl rfl ?_
  refine y_iconst Q_X10_hold (k := 13) rfl ?_
  refine y_sipush Q_X10_hold (k := 14) rfl (by decide) ?_
  refine q_callS3_ut Q_X10_hold (k := 15) rfl rfl K_X10_testRange S_X10_testRange L_X10_134 (Nat.le_of_ble_eq_true rfl) (Nat.le_of_ble_eq_true rfl) rfl (by decide) (by decide) (w_X10_testRange d hB z4 ⟨by decide, by decide⟩ ⟨by decide, by decide⟩ h) (fun E h => qX_iVt hB h) (fun h => ?_)
  refine z_aload Q_X10_hold (k := 16) rfl rfl ?_
  refine z_iload_n Q_X10_hold (k := 17) rfl rfl ?_
  refine z_iload_n Q_X10_hold (k := 18) rfl rfl ?_
  refine z_iload Q_X10_hold (k := 19) rfl rfl ?_
  refine q_callV3_iV Q_X10_hold (k := 20) rfl rfl K_X1_addHold V_X1_addHold L_X10_245 ho1.1.2.1 ho1.1.2.2.1 (Nat.le_of_ble_eq_true rfl) (Nat.le_of_ble_eq_true rfl) rfl (Nat.zero_le _) (Nat.zero_le _) (w_X1_addHold d hB ho1 z2 z3 z4 h) (fun r5 V5 hB5 hz5 h => ?_)
  exact y_iret Q_X10_hold (k := 21) rfl rfl (qI_iVt hB5 hz5 h)
set_option maxHeartbeats 4000000 in
set_option maxRecDepth 20000 in
theorem w_X10_finders {S : zS} {V : qV} {J : qJ} {Q : Int → Prop} {X : String → Prop} (d : Nat) (hB : qB S V) {a1 : Int} (z1 : zr a1) (h : W_X10_finders a1 V Q X) : Z M_X10_finders (d + 1) 1 6 0 [some (.ref 0), some (.int (iI a1))] [] S (qi V) (qj J) (qP_it S V J Q X) := by
  unfold W_X10_finders at h
  refine z_aload_n Q_X10_finders (k := 0) rfl rfl ?_
  refine z_iload_n Q_X10_finders (k := 1) rfl rfl ?_
  refine q_callV1_rt Q_X10_finders (k := 2) rfl rfl K_X10_findOf V_X10_findOf L_X10_237 (n_ hB.1 rfl) (k_0 hB.1) (Nat.le_of_ble_eq_true rfl) (Nat.le_of_ble_eq_true rfl) rfl (by decide) (by decide) (w_X10_findOf d hB z1 h) (fun E h => qX_it h) (fun r1 ho1 h => ?_)
  refine q_callV0_i Q_X10_finders (k := 3) rfl rfl K_X1_finderBits V_X1_finderBits L_X10_249 ho1.1.2.1 ho1.1.2.2.1 (Nat.le_of_ble_eq_true rfl) (Nat.le_of_ble_eq_true rfl) rfl (Nat.zero_le _) (Nat.zero_le _) (w_X1_finderBits d hB ho1 h) (fun r2 hz2 h => ?_)
  exact y_iret Q_X10_finders (k := 4) rfl rfl (qI_it hz2 h)
set_option maxHeartbeats 4000000 in
set_option maxRecDepth 20000 in
theorem w_X10_lawOf {S : zS} {V : qV} {J : qJ} {Q : Int → Prop} {X : String → Prop} (d : Nat) (hB : qB S V) {a1 : Int} (z1 : zr a1) (h : W_X10_lawOf a1 V Q X) : Z M_X10_lawOf d 1 6 0 [some (.ref 0), some (.int (iI a1))] [] S (qi V) (qj J) (qP_rt S V J (fun r => qLa S r) Q X) := by
  unfold W_X10_lawOf at h
  refine z_iload_n Q_X10_lawOf (k := 0) rfl rfl ?_
  refine y_if_lt 17 Q_X10_lawOf (k := 1) rfl (by decide) z1 (fun c => ?_) (fun c => ?_)
  · replace h := h.1 c
    exact z_throwW Q_X10_lawOf (k := 9) rfl (zT.at Q_X10_lawOf (k := 10) rfl).1 (zT.at Q_X10_lawOf (k := 11) rfl).1 (zT.at Q_X10_lawOf (k := 12) rfl).1 (zT.at Q_X10_lawOf (k := 13) rfl).1 rfl (t_X10_118_275) (Nat.le_of_ble_eq_true rfl) (by decide) (by decide) (qX_rt h)
  · replace h := h.2 c
    refine z_iload_n Q_X10_lawOf (k := 2) rfl rfl ?_
    refine z_aload_n Q_X10_lawOf (k := 3) rfl rfl ?_
    refine q_getI (o := 0) (z := 2) Q_X10_lawOf (k := 4) rfl F_X10_87 rfl rfl rfl (n_ hB.1 rfl) (k_0 hB.1) ?_
    refine y_icmp_ge 17 Q_X10_lawOf (k := 5) rfl (by decide) z1 (hB.2.1 _ _) (fun c => ?_) (fun c => ?_)
    · replace h := h.1 c
      exact z_throwW Q_X10_lawOf (k := 9) rfl (zT.at Q_X10_lawOf (k := 10) rfl).1 (zT.at Q_X10_lawOf (k := 11) rfl).1 (zT.at Q_X10_lawOf (k := 12) rfl).1 (zT.at Q_X10_lawOf (k := 13) rfl).1 rfl (t_X10_118_275) (Nat.le_of_ble_eq_true rfl) (by decide) (by decide) (qX_rt h)
    · replace h := h.2 c
      refine z_iload_n Q_X10_lawOf (k := 6) rfl rfl ?_
      refine y_iconst Q_X10_lawOf (k := 7) rfl ?_
      refine y_icmp_lt 28 Q_X10_lawOf (k := 8) rfl (by decide) z1 ⟨by decide, by decide⟩ (fun c => ?_) (fun c => ?_)
      · replace h := h.1 c
        refine z_aload_n Q_X10_lawOf (k := 14) rfl rfl ?_
        refine z_getR (b := 11) Q_X10_lawOf (k := 15) rfl F_X10_18 rfl (n_ hB.1 rfl) (k_0 hB.1) (r_0_1 hB.1) ?_
        refine z_iload_n Q_X10_lawOf (k := 16) rfl rfl ?_
        obtain ⟨q1, h⟩ := h
        have o2 := (qe_law (i := a1) hB.1 q1)
        refine y_aald (t := 4) (b := (173 + 5 * a1).toNat) Q_X10_lawOf (k := 17) rfl (n_ hB.1 rfl) (k_11 hB.1) (by decide) rfl q1.1 q1.2 (by decide) o2.2 ?_
        exact z_aret Q_X10_lawOf (k := 18) rfl rfl (Or.inl ⟨_, rfl⟩) (qI_rt o2.1 h)
      · replace h := h.2 c
        exact z_throwW Q_X10_lawOf (k := 9) rfl (zT.at Q_X10_lawOf (k := 10) rfl).1 (zT.at Q_X10_lawOf (k := 11) rfl).1 (zT.at Q_X10_lawOf (k := 12) rfl).1 (zT.at Q_X10_lawOf (k := 13) rfl).1 rfl (t_X10_118_275) (Nat.le_of_ble_eq_true rfl) (by decide) (by decide) (qX_rt h)
set_option maxHeartbeats 4000000 in
set_option maxRecDepth 20000 in
theorem v_X10_whose_39 {S : zS} {V : qV} {K : Int → qJ → Prop} {Q : Int → qV → qJ → Prop} {X : String → qV → qJ → Prop} {kc ks : Nat} (d : Nat) (hB : qB S V) {l3 : Int} (z3 : zr l3) {l4 : Int} (z4 : zr l4) {l6 : Int} (o6_ : qLa S l6) (hK : ∀ (l7 : Int) (J : qJ), zr l7 → K l7 J → Z M_X10_whose (d + 5) kc ks 78 [some (.ref 0), none, none, some (.int (iI l3)), some (.int (iI l4)), none, some (.ref l6.toNat), some (.int (iI l7))] [] S (qi V) (qj J) (qP_iVJt S Q X)) : ∀ (f : Nat) (l7 : Int) (J : qJ), zr l7 → lp_X10_whose_39 l3 l4 l6 V K f l7 J → Z M_X10_whose (d + 5) kc ks 39 [some (.ref 0), none, none, some (.int (iI l3)), some (.int (iI l4)), none, some (.ref l6.toNat), some (.int (iI l7))] [] S (qi V) (qj J) (qP_iVJt S Q X) := by
  intro f
  induction f with
  | zero =>
    intro l7 J z7 h
    exact h.elim
  | succ f ih =>
    intro l7 J z7 h
    rw [lp_X10_whose_39] at h
    refine z_iload Q_X10_whose (k := 22) rfl rfl ?_
    refine y_bipush Q_X10_whose (k := 23) rfl (by decide) ?_
    refine y_icmp_ge 78 Q_X10_whose (k := 24) rfl (by decide) z7 ⟨by decide, by decide⟩ (fun c => ?_) (fun c => ?_)
    · replace h := h.1 c
      exact y_fg (zsb_c rfl (zsb_n (zsb_n (zsb_c rfl (zsb_c rfl (zsb_n (zsb_c rfl (zsb_c rfl zsb_e)))))))) (hK l7 J z7 h)
    · replace h := h.2 c
      refine z_aload_n Q_X10_whose (k := 25) rfl rfl ?_
      refine z_getR (b := 166) Q_X10_whose (k := 26) rfl F_X10_57 rfl (n_ hB.1 rfl) (k_0 hB.1) (r_0_10 hB.1) ?_
      refine z_iload Q_X10_whose (k := 27) rfl rfl ?_
      refine z_iload Q_X10_whose (k := 28) rfl rfl ?_
      refine z_iload_n Q_X10_whose (k := 29) rfl rfl ?_
      refine y_bipush Q_X10_whose (k := 30) rfl (by decide) ?_
      refine y_ishr Q_X10_whose (k := 31) rfl ?_
      refine y_icmp_ne 70 Q_X10_whose (k := 32) rfl (by decide) z7 (zshr_r _ _) (fun c => ?_) (fun c => ?_)
      · replace h := h.2 c
        refine z_lconst_ Q_X10_whose (k := 39) rfl (v := 0) rfl ?_
        obtain ⟨q6, h⟩ := h
        refine q_last (o := 166) (N := 16) Q_X10_whose (k := 40) rfl rfl (n_ hB.1 rfl) (k_166 hB.1) rfl q6 (by decide) ?_
        obtain ⟨q7, h⟩ := h
        refine y_iinc (L' := [some (.ref 0), none, none, some (.int (iI l3)), some (.int (iI l4)), none, some (.ref l6.toNat), some (.int (iI (l7 + 1)))]) Q_X10_whose (k := 41) rfl (by decide) rfl rfl ?_
        refine z_goto (tgt := 39) Q_X10_whose (k := 42) rfl (by decide) ?_
        exact y_fg (zsb_c rfl (zsb_n (zsb_n (zsb_c rfl (zsb_c rfl (zsb_n (zsb_c rfl (zsb_c rfl zsb_e)))))))) (ih (l7 + 1) (qu J 166 l7 0) q7 h)
      · replace h := h.1 c
        refine z_lconst_ Q_X10_whose (k := 33) rfl (v := 1) rfl ?_
        refine z_iload_n Q_X10_whose (k := 34) rfl rfl ?_
        refine y_bipush Q_X10_whose (k := 35) rfl (by decide) ?_
        refine y_iand Q_X10_whose (k := 36) rfl ?_
        refine z_lshl Q_X10_whose (k := 37) rfl ?_
        refine z_goto (tgt := 71) Q_X10_whose (k := 38) rfl (by decide) ?_
        obtain ⟨q8, h⟩ := h
        refine q_last (o := 166) (N := 16) Q_X10_whose (k := 40) rfl rfl (n_ hB.1 rfl) (k_166 hB.1) rfl q8 (by decide) ?_
        obtain ⟨q9, h⟩ := h
        refine y_iinc (L' := [some (.ref 0), none, none, some (.int (iI l3)), some (.int (iI l4)), none, some (.ref l6.toNat), some (.int (iI (l7 + 1)))]) Q_X10_whose (k := 41) rfl (by decide) rfl rfl ?_
        refine z_goto (tgt := 39) Q_X10_whose (k := 42) rfl (by decide) ?_
        exact y_fg (zsb_c rfl (zsb_n (zsb_n (zsb_c rfl (zsb_c rfl (zsb_n (zsb_c rfl (zsb_c rfl zsb_e)))))))) (ih (l7 + 1) (qu J 166 l7 (1 <<< ((iI (zand l3 63)).toInt64 &&& 63))) q9 h)
set_option maxHeartbeats 4000000 in
set_option maxRecDepth 20000 in
theorem w_X10_whose {S : zS} {V : qV} {J : qJ} {Q : Int → qV → qJ → Prop} {X : String → qV → qJ → Prop} (d : Nat) (hB : qB S V) {a1 : Int} (z1 : zr a1) {a2 : Int} (z2 : zr a2) {a3 : Int} (z3 : zr a3) {a4 : Int} (z4 : zr a4) (h : W_X10_whose a1 a2 a3 a4 V J Q X) : Z M_X10_whose (d + 5) 4 24 0 [some (.ref 0), some (.int (iI a1)), some (.int (iI a2)), some (.int (iI a3)), some (.int (iI a4)), none, none, none] [] S (qi V) (qj J) (qP_iVJt S Q X) := by
  unfold W_X10_whose at h
  refine z_aload_n Q_X10_whose (k := 0) rfl rfl ?_
  refine z_iload_n Q_X10_whose (k := 1) rfl rfl ?_
  refine q_callV1_rt Q_X10_whose (k := 2) rfl rfl K_X10_findOf V_X10_findOf L_X10_237 (n_ hB.1 rfl) (k_0 hB.1) (Nat.le_of_ble_eq_true rfl) (Nat.le_of_ble_eq_true rfl) rfl (by decide) (by decide) (w_X10_findOf (d + 4) hB z1 h) (fun E h => qX_iVJt hB h) (fun r1 ho1 h => ?_)
  refine y_astore (L' := [some (.ref 0), some (.int (iI a1)), some (.int (iI a2)), some (.int (iI a3)), some (.int (iI a4)), some (.ref r1.toNat), none, none]) Q_X10_whose (k := 3) rfl (by decide) rfl ?_
  refine z_aload_n Q_X10_whose (k := 4) rfl rfl ?_
  refine z_iload_n Q_X10_whose (k := 5) rfl rfl ?_
  refine q_callV1_rt Q_X10_whose (k := 6) rfl rfl K_X10_lawOf V_X10_lawOf L_X10_253 (n_ hB.1 rfl) (k_0 hB.1) (Nat.le_of_ble_eq_true rfl) (Nat.le_of_ble_eq_true rfl) rfl (by decide) (by decide) (w_X10_lawOf (d + 4) hB z2 h) (fun E h => qX_iVJt hB h) (fun r2 ho2 h => ?_)
  refine y_astore (L' := [some (.ref 0), some (.int (iI a1)), some (.int (iI a2)), some (.int (iI a3)), some (.int (iI a4)), some (.ref r1.toNat), some (.ref r2.toNat), none]) Q_X10_whose (k := 7) rfl (by decide) rfl ?_
  refine z_iload_n Q_X10_whose (k := 8) rfl rfl ?_
  refine y_iconst Q_X10_whose (k := 9) rfl ?_
  refine y_sipush Q_X10_whose (k := 10) rfl (by decide) ?_
  refine q_callS3_ut Q_X10_whose (k := 11) rfl rfl K_X10_testRange S_X10_testRange L_X10_134 (Nat.le_of_ble_eq_true rfl) (Nat.le_of_ble_eq_true rfl) rfl (by decide) (by decide) (w_X10_testRange (d + 4) hB z3 ⟨by decide, by decide⟩ ⟨by decide, by decide⟩ h) (fun E h => qX_iVJt hB h) (fun h => ?_)
  refine z_iload Q_X10_whose (k := 12) rfl rfl ?_
  refine y_iconst Q_X10_whose (k := 13) rfl ?_
  refine y_iconst Q_X10_whose (k := 14) rfl ?_
  refine q_callS3_ut Q_X10_whose (k := 15) rfl rfl K_X10_testRange S_X10_testRange L_X10_134 (Nat.le_of_ble_eq_true rfl) (Nat.le_of_ble_eq_true rfl) rfl (by decide) (by decide) (w_X10_testRange (d + 4) hB z4 ⟨by decide, by decide⟩ ⟨by decide, by decide⟩ h) (fun E h => qX_iVJt hB h) (fun h => ?_)
  refine z_aload_n Q_X10_whose (k := 16) rfl rfl ?_
  refine z_aload Q_X10_whose (k := 17) rfl rfl ?_
  refine z_iload_n Q_X10_whose (k := 18) rfl rfl ?_
  refine q_callV2_uV Q_X10_whose (k := 19) rfl rfl K_X10_fillNames V_X10_fillNames L_X10_257 (n_ hB.1 rfl) (k_0 hB.1) (Nat.le_of_ble_eq_true rfl) (Nat.le_of_ble_eq_true rfl) rfl (Nat.zero_le _) (Nat.zero_le _) (w_X10_fillNames (d + 1) hB ho1 z1 h) (fun V5 hB5 h => ?_)
  refine y_iconst Q_X10_whose (k := 20) rfl ?_
  refine y_istore (L' := [some (.ref 0), some (.int (iI a1)), some (.int (iI a2)), some (.int (iI a3)), some (.int (iI a4)), some (.ref r1.toNat), some (.ref r2.toNat), some (.int (iI 0))]) Q_X10_whose (k := 21) rfl (by decide) rfl ?_
  refine y_fg (zsb_c rfl (zsb_n (zsb_n (zsb_c rfl (zsb_c rfl (zsb_n (zsb_c rfl (zsb_c rfl zsb_e)))))))) (v_X10_whose_39 d hB5 z3 z4 ho2 (fun l7x10 J10 zl7x10 h => ?_) 100000 0 J ⟨by decide, by decide⟩ h)
  refine z_aload_n Q_X10_whose (k := 43) rfl rfl ?_
  refine z_getR (b := 151) Q_X10_whose (k := 44) rfl F_X10_36 rfl (n_ hB5.1 rfl) (k_0 hB5.1) (r_0_6 hB5.1) ?_
  refine z_aload Q_X10_whose (k := 45) rfl rfl ?_
  refine z_aload_n Q_X10_whose (k := 46) rfl rfl ?_
  refine z_getR (b := 168) Q_X10_whose (k := 47) rfl F_X10_64 rfl (n_ hB5.1 rfl) (k_0 hB5.1) (r_0_12 hB5.1) ?_
  refine z_aload_n Q_X10_whose (k := 48) rfl rfl ?_
  refine z_getR (b := 166) Q_X10_whose (k := 49) rfl F_X10_57 rfl (n_ hB5.1 rfl) (k_0 hB5.1) (r_0_10 hB5.1) ?_
  refine z_aload_n Q_X10_whose (k := 50) rfl rfl ?_
  refine z_getR (b := 155) Q_X10_whose (k := 51) rfl F_X10_43 rfl (n_ hB5.1 rfl) (k_0 hB5.1) (r_0_7 hB5.1) ?_
  refine q_callV4_uVJ Q_X10_whose (k := 52) rfl rfl K_X2_decide V_X2_decide L_X10_261 (n_ hB5.1 rfl) (k_151 hB5.1) (Nat.le_of_ble_eq_true rfl) (Nat.le_of_ble_eq_true rfl) rfl (Nat.zero_le _) (Nat.zero_le _) (w_X2_decide d hB5 ho2 (qVe_155 hB5.1) h) (fun V11 J11 hB11 h => ?_)
  refine z_iload Q_X10_whose (k := 53) rfl rfl ?_
  refine y_if_ne 112 Q_X10_whose (k := 54) rfl (by decide) z4 (fun c => ?_) (fun c => ?_)
  · replace h := h.2 c
    refine z_iload Q_X10_whose (k := 59) rfl rfl ?_
    refine y_iconst Q_X10_whose (k := 60) rfl ?_
    refine y_icmp_ne 129 Q_X10_whose (k := 61) rfl (by decide) z4 ⟨by decide, by decide⟩ (fun c => ?_) (fun c => ?_)
    · replace h := h.2 c
      refine z_aload_n Q_X10_whose (k := 67) rfl rfl ?_
      refine z_getR (b := 155) Q_X10_whose (k := 68) rfl F_X10_43 rfl (n_ hB11.1 rfl) (k_0 hB11.1) (r_0_7 hB11.1) ?_
      refine q_getI (o := 155) (z := 2) Q_X10_whose (k := 69) rfl F_X10_272 rfl rfl rfl (n_ hB11.1 rfl) (k_155 hB11.1) ?_
      exact y_iret Q_X10_whose (k := 70) rfl rfl (qI_iVJt hB11 (hB11.2.1 _ _) h)
    · replace h := h.1 c
      refine z_aload_n Q_X10_whose (k := 62) rfl rfl ?_
      refine z_getR (b := 155) Q_X10_whose (k := 63) rfl F_X10_43 rfl (n_ hB11.1 rfl) (k_0 hB11.1) (r_0_7 hB11.1) ?_
      refine z_iload_n Q_X10_whose (k := 64) rfl rfl ?_
      refine q_callV1_i Q_X10_whose (k := 65) rfl rfl K_X9_whoIn V_X9_whoIn L_X10_268 (n_ hB11.1 rfl) (k_155 hB11.1) (Nat.le_of_ble_eq_true rfl) (Nat.le_of_ble_eq_true rfl) rfl (Nat.zero_le _) (Nat.zero_le _) (w_X9_whoIn (d + 3) hB11 (qVe_155 hB11.1) z3 h) (fun r12 hz12 h => ?_)
      refine z_goto (tgt := 136) Q_X10_whose (k := 66) rfl (by decide) ?_
      exact y_iret Q_X10_whose (k := 70) rfl rfl (qI_iVJt hB11 hz12 h)
  · replace h := h.1 c
    refine z_aload_n Q_X10_whose (k := 55) rfl rfl ?_
    refine z_getR (b := 155) Q_X10_whose (k := 56) rfl F_X10_43 rfl (n_ hB11.1 rfl) (k_0 hB11.1) (r_0_7 hB11.1) ?_
    refine q_getI (o := 155) (z := 1) Q_X10_whose (k := 57) rfl F_X10_265 rfl rfl rfl (n_ hB11.1 rfl) (k_155 hB11.1) ?_
    exact y_iret Q_X10_whose (k := 58) rfl rfl (qI_iVJt hB11 (hB11.2.1 _ _) h)
set_option maxHeartbeats 4000000 in
set_option maxRecDepth 20000 in
theorem w_X10_decideFind {S : zS} {V : qV} {J : qJ} {Q : qV → qJ → Prop} {X : String → qV → qJ → Prop} (d : Nat) (hB : qB S V) {a1 : Int} (z1 : zr a1) {a2 : Int} (z2 : zr a2) (h : W_X10_decideFind a1 a2 V J Q X) : Z M_X10_decideFind (d + 5) 2 12 0 [some (.ref 0), some (.int (iI a1)), some (.int (iI a2)), none, none] [] S (qi V) (qj J) (qP_uVJt S Q X) := by
  unfold W_X10_decideFind at h
  refine z_aload_n Q_X10_decideFind (k := 0) rfl rfl ?_
  refine z_iload_n Q_X10_decideFind (k := 1) rfl rfl ?_
  refine q_callV1_rt Q_X10_decideFind (k := 2) rfl rfl K_X10_findOf V_X10_findOf L_X10_237 (n_ hB.1 rfl) (k_0 hB.1) (Nat.le_of_ble_eq_true rfl) (Nat.le_of_ble_eq_true rfl) rfl (by decide) (by decide) (w_X10_findOf (d + 4) hB z1 h) (fun E h => qX_uVJt hB h) (fun r1 ho1 h => ?_)
  refine y_astore_n (L' := [some (.ref 0), some (.int (iI a1)), some (.int (iI a2)), some (.ref r1.toNat), none]) Q_X10_decideFind (k := 3) rfl (by decide) rfl ?_
  refine z_aload_n Q_X10_decideFind (k := 4) rfl rfl ?_
  refine z_iload_n Q_X10_decideFind (k := 5) rfl rfl ?_
  refine q_callV1_rt Q_X10_decideFind (k := 6) rfl rfl K_X10_lawOf V_X10_lawOf L_X10_253 (n_ hB.1 rfl) (k_0 hB.1) (Nat.le_of_ble_eq_true rfl) (Nat.le_of_ble_eq_true rfl) rfl (by decide) (by decide) (w_X10_lawOf (d + 4) hB z2 h) (fun E h => qX_uVJt hB h) (fun r2 ho2 h => ?_)
  refine y_astore (L' := [some (.ref 0), some (.int (iI a1)), some (.int (iI a2)), some (.ref r1.toNat), some (.ref r2.toNat)]) Q_X10_decideFind (k := 7) rfl (by decide) rfl ?_
  refine z_aload_n Q_X10_decideFind (k := 8) rfl rfl ?_
  refine z_aload_n Q_X10_decideFind (k := 9) rfl rfl ?_
  refine z_iload_n Q_X10_decideFind (k := 10) rfl rfl ?_
  refine q_callV2_uV Q_X10_decideFind (k := 11) rfl rfl K_X10_fillNames V_X10_fillNames L_X10_257 (n_ hB.1 rfl) (k_0 hB.1) (Nat.le_of_ble_eq_true rfl) (Nat.le_of_ble_eq_true rfl) rfl (Nat.zero_le _) (Nat.zero_le _) (w_X10_fillNames (d + 1) hB ho1 z1 h) (fun V3 hB3 h => ?_)
  refine z_aload_n Q_X10_decideFind (k := 12) rfl rfl ?_
  refine q_callV0_uJ Q_X10_decideFind (k := 13) rfl rfl K_X10_fillWorldSet V_X10_fillWorldSet L_X10_151 (n_ hB3.1 rfl) (k_0 hB3.1) (Nat.le_of_ble_eq_true rfl) (Nat.le_of_ble_eq_true rfl) rfl (Nat.zero_le _) (Nat.zero_le _) (w_X10_fillWorldSet (d + 3) hB3  h) (fun J4 h => ?_)
  refine z_aload_n Q_X10_decideFind (k := 14) rfl rfl ?_
  refine z_getR (b := 151) Q_X10_decideFind (k := 15) rfl F_X10_36 rfl (n_ hB3.1 rfl) (k_0 hB3.1) (r_0_6 hB3.1) ?_
  refine z_aload Q_X10_decideFind (k := 16) rfl rfl ?_
  refine z_aload_n Q_X10_decideFind (k := 17) rfl rfl ?_
  refine z_getR (b := 168) Q_X10_decideFind (k := 18) rfl F_X10_64 rfl (n_ hB3.1 rfl) (k_0 hB3.1) (r_0_12 hB3.1) ?_
  refine z_aload_n Q_X10_decideFind (k := 19) rfl rfl ?_
  refine z_getR (b := 166) Q_X10_decideFind (k := 20) rfl F_X10_57 rfl (n_ hB3.1 rfl) (k_0 hB3.1) (r_0_10 hB3.1) ?_
  refine z_aload_n Q_X10_decideFind (k := 21) rfl rfl ?_
  refine z_getR (b := 155) Q_X10_decideFind (k := 22) rfl F_X10_43 rfl (n_ hB3.1 rfl) (k_0 hB3.1) (r_0_7 hB3.1) ?_
  refine q_callV4_uVJ Q_X10_decideFind (k := 23) rfl rfl K_X2_decide V_X2_decide L_X10_261 (n_ hB3.1 rfl) (k_151 hB3.1) (Nat.le_of_ble_eq_true rfl) (Nat.le_of_ble_eq_true rfl) rfl (Nat.zero_le _) (Nat.zero_le _) (w_X2_decide d hB3 ho2 (qVe_155 hB3.1) h) (fun V5 J5 hB5 h => ?_)
  exact z_vret Q_X10_decideFind (k := 24) rfl rfl (qI_uVJt hB5 h)
set_option maxHeartbeats 4000000 in
set_option maxRecDepth 20000 in
theorem v_X10_sure_24 {S : zS} {V : qV} {J : qJ} {K : Int → Prop} {Q : Int → qV → qJ → Prop} {X : String → qV → qJ → Prop} {kc ks : Nat} (d : Nat) (hB : qB S V) {l3 : Int} (z3 : zr l3) (hK : ∀ (l4 : Int), zr l4 → K l4 → Z M_X10_sure (d + 6) kc ks 47 [none, none, none, some (.int (iI l3)), some (.int (iI l4))] [] S (qi V) (qj J) (qP_iVJt S Q X)) : ∀ (f : Nat) (l4 : Int), zr l4 → lp_X10_sure_24 l3 V J K Q f l4 → Z M_X10_sure (d + 6) kc ks 24 [none, none, none, some (.int (iI l3)), some (.int (iI l4))] [] S (qi V) (qj J) (qP_iVJt S Q X) := by
  intro f
  induction f with
  | zero =>
    intro l4 z4 h
    exact h.elim
  | succ f ih =>
    intro l4 z4 h
    rw [lp_X10_sure_24] at h
    refine z_iload Q_X10_sure (k := 14) rfl rfl ?_
    refine y_iconst Q_X10_sure (k := 15) rfl ?_
    refine y_icmp_ge 47 Q_X10_sure (k := 16) rfl (by decide) z4 ⟨by decide, by decide⟩ (fun c => ?_) (fun c => ?_)
    · replace h := h.1 c
      exact y_fg (zsb_n (zsb_n (zsb_n (zsb_c rfl (zsb_c rfl zsb_e))))) (hK l4 z4 h)
    · replace h := h.2 c
      refine z_iload_n Q_X10_sure (k := 17) rfl rfl ?_
      refine y_iconst Q_X10_sure (k := 18) rfl ?_
      refine z_iload Q_X10_sure (k := 19) rfl rfl ?_
      refine y_ishl Q_X10_sure (k := 20) rfl ?_
      refine y_icmp_ne 41 Q_X10_sure (k := 21) rfl (by decide) z3 (zshl_r _ _) (fun c => ?_) (fun c => ?_)
      · replace h := h.2 c
        obtain ⟨q3, h⟩ := h
        refine y_iinc (L' := [none, none, none, some (.int (iI l3)), some (.int (iI (l4 + 1)))]) Q_X10_sure (k := 24) rfl (by decide) rfl rfl ?_
        refine z_goto (tgt := 24) Q_X10_sure (k := 25) rfl (by decide) ?_
        exact y_fg (zsb_n (zsb_n (zsb_n (zsb_c rfl (zsb_c rfl zsb_e))))) (ih (l4 + 1) q3 h)
      · replace h := h.1 c
        refine z_iload Q_X10_sure (k := 22) rfl rfl ?_
        exact y_iret Q_X10_sure (k := 23) rfl rfl (qI_iVJt hB z4 h)
set_option maxHeartbeats 4000000 in
set_option maxRecDepth 20000 in
theorem w_X10_sure {S : zS} {V : qV} {J : qJ} {Q : Int → qV → qJ → Prop} {X : String → qV → qJ → Prop} (d : Nat) (hB : qB S V) {a1 : Int} (z1 : zr a1) {a2 : Int} (z2 : zr a2) (h : W_X10_sure a1 a2 V J Q X) : Z M_X10_sure (d + 6) 2 12 0 [some (.ref 0), some (.int (iI a1)), some (.int (iI a2)), none, none] [] S (qi V) (qj J) (qP_iVJt S Q X) := by
  unfold W_X10_sure at h
  refine z_aload_n Q_X10_sure (k := 0) rfl rfl ?_
  refine z_iload_n Q_X10_sure (k := 1) rfl rfl ?_
  refine z_iload_n Q_X10_sure (k := 2) rfl rfl ?_
  refine q_callV2_uVJt Q_X10_sure (k := 3) rfl rfl K_X10_decideFind V_X10_decideFind L_X10_277 (n_ hB.1 rfl) (k_0 hB.1) (Nat.le_of_ble_eq_true rfl) (Nat.le_of_ble_eq_true rfl) rfl (by decide) (by decide) (w_X10_decideFind d hB z1 z2 h) (fun E V1 J1 hB1 h => qX_iVJt hB1 h) (fun V1 J1 hB1 h => ?_)
  refine z_aload_n Q_X10_sure (k := 4) rfl rfl ?_
  refine z_getR (b := 155) Q_X10_sure (k := 5) rfl F_X10_43 rfl (n_ hB1.1 rfl) (k_0 hB1.1) (r_0_7 hB1.1) ?_
  refine q_callV0_i Q_X10_sure (k := 6) rfl rfl K_X9_whoBits V_X9_whoBits L_X10_280 (n_ hB1.1 rfl) (k_155 hB1.1) (Nat.le_of_ble_eq_true rfl) (Nat.le_of_ble_eq_true rfl) rfl (Nat.zero_le _) (Nat.zero_le _) (w_X9_whoBits (d + 5) hB1 (qVe_155 hB1.1) h) (fun r2 hz2 h => ?_)
  refine y_istore_n (L' := [some (.ref 0), some (.int (iI a1)), some (.int (iI a2)), some (.int (iI r2)), none]) Q_X10_sure (k := 7) rfl (by decide) rfl ?_
  refine z_iload_n Q_X10_sure (k := 8) rfl rfl ?_
  refine y_if_ne 21 Q_X10_sure (k := 9) rfl (by decide) hz2 (fun c => ?_) (fun c => ?_)
  · replace h := h.2 c
    refine y_iconst Q_X10_sure (k := 12) rfl ?_
    refine y_istore (L' := [some (.ref 0), some (.int (iI a1)), some (.int (iI a2)), some (.int (iI r2)), some (.int (iI 0))]) Q_X10_sure (k := 13) rfl (by decide) rfl ?_
    refine y_fg (zsb_n (zsb_n (zsb_n (zsb_c rfl (zsb_c rfl zsb_e))))) (v_X10_sure_24 d hB1 hz2 (fun l4x4 zl4x4 h => ?_) 100000 0 ⟨by decide, by decide⟩ h)
    refine y_iconst Q_X10_sure (k := 26) rfl ?_
    exact y_iret Q_X10_sure (k := 27) rfl rfl (qI_iVJt hB1 ⟨by decide, by decide⟩ h)
  · replace h := h.1 c
    refine y_bipush Q_X10_sure (k := 10) rfl (by decide) ?_
    exact y_iret Q_X10_sure (k := 11) rfl rfl (qI_iVJt hB1 ⟨by decide, by decide⟩ h)
set_option maxHeartbeats 4000000 in
set_option maxRecDepth 20000 in
theorem w_X10_may {S : zS} {V : qV} {J : qJ} {Q : Int → qV → qJ → Prop} {X : String → qV → qJ → Prop} (d : Nat) (hB : qB S V) {a1 : Int} (z1 : zr a1) {a2 : Int} (z2 : zr a2) (h : W_X10_may a1 a2 V J Q X) : Z M_X10_may (d + 6) 2 12 0 [some (.ref 0), some (.int (iI a1)), some (.int (iI a2))] [] S (qi V) (qj J) (qP_iVJt S Q X) := by
  unfold W_X10_may at h
  refine z_aload_n Q_X10_may (k := 0) rfl rfl ?_
  refine z_iload_n Q_X10_may (k := 1) rfl rfl ?_
  refine z_iload_n Q_X10_may (k := 2) rfl rfl ?_
  refine q_callV2_uVJt Q_X10_may (k := 3) rfl rfl K_X10_decideFind V_X10_decideFind L_X10_277 (n_ hB.1 rfl) (k_0 hB.1) (Nat.le_of_ble_eq_true rfl) (Nat.le_of_ble_eq_true rfl) rfl (by decide) (by decide) (w_X10_decideFind d hB z1 z2 h) (fun E V1 J1 hB1 h => qX_iVJt hB1 h) (fun V1 J1 hB1 h => ?_)
  refine z_aload_n Q_X10_may (k := 4) rfl rfl ?_
  refine z_getR (b := 155) Q_X10_may (k := 5) rfl F_X10_43 rfl (n_ hB1.1 rfl) (k_0 hB1.1) (r_0_7 hB1.1) ?_
  refine q_callV0_i Q_X10_may (k := 6) rfl rfl K_X9_whoBits V_X9_whoBits L_X10_280 (n_ hB1.1 rfl) (k_155 hB1.1) (Nat.le_of_ble_eq_true rfl) (Nat.le_of_ble_eq_true rfl) rfl (Nat.zero_le _) (Nat.zero_le _) (w_X9_whoBits (d + 5) hB1 (qVe_155 hB1.1) h) (fun r2 hz2 h => ?_)
  exact y_iret Q_X10_may (k := 7) rfl rfl (qI_iVJt hB1 hz2 h)
set_option maxHeartbeats 4000000 in
set_option maxRecDepth 20000 in
theorem w_X10_part {S : zS} {V : qV} {J : qJ} {Q : Int64 → qV → qJ → Prop} {X : String → qV → qJ → Prop} (d : Nat) (hB : qB S V) {a1 : Int} (z1 : zr a1) {a2 : Int} (z2 : zr a2) {a3 : Int} (z3 : zr a3) (h : W_X10_part a1 a2 a3 V J Q X) : Z M_X10_part (d + 6) 3 18 0 [some (.ref 0), some (.int (iI a1)), some (.int (iI a2)), some (.int (iI a3))] [] S (qi V) (qj J) (qP_lVJt S Q X) := by
  unfold W_X10_part at h
  refine z_aload_n Q_X10_part (k := 0) rfl rfl ?_
  refine z_iload_n Q_X10_part (k := 1) rfl rfl ?_
  refine z_iload_n Q_X10_part (k := 2) rfl rfl ?_
  refine q_callV2_uVJt Q_X10_part (k := 3) rfl rfl K_X10_decideFind V_X10_decideFind L_X10_277 (n_ hB.1 rfl) (k_0 hB.1) (Nat.le_of_ble_eq_true rfl) (Nat.le_of_ble_eq_true rfl) rfl (by decide) (by decide) (w_X10_decideFind d hB z1 z2 h) (fun E V1 J1 hB1 h => qX_lVJt hB1 h) (fun V1 J1 hB1 h => ?_)
  refine z_iload_n Q_X10_part (k := 4) rfl rfl ?_
  refine y_iconst Q_X10_part (k := 5) rfl ?_
  refine y_iconst Q_X10_part (k := 6) rfl ?_
  refine q_callS3_ut Q_X10_part (k := 7) rfl rfl K_X10_testRange S_X10_testRange L_X10_134 (Nat.le_of_ble_eq_true rfl) (Nat.le_of_ble_eq_true rfl) rfl (by decide) (by decide) (w_X10_testRange (d + 5) hB1 z3 ⟨by decide, by decide⟩ ⟨by decide, by decide⟩ h) (fun E h => qX_lVJt hB1 h) (fun h => ?_)
  refine z_aload_n Q_X10_part (k := 8) rfl rfl ?_
  refine z_aload_n Q_X10_part (k := 9) rfl rfl ?_
  refine z_getR (b := 155) Q_X10_part (k := 10) rfl F_X10_43 rfl (n_ hB1.1 rfl) (k_0 hB1.1) (r_0_7 hB1.1) ?_
  refine z_getR (b := 156) Q_X10_part (k := 11) rfl F_X10_283 rfl (n_ hB1.1 rfl) (k_155 hB1.1) (r_155_0 hB1.1) ?_
  refine z_iload_n Q_X10_part (k := 12) rfl rfl ?_
  refine q_callV2_lJ Q_X10_part (k := 13) rfl rfl K_X10_weightOf V_X10_weightOf L_X10_164 (n_ hB1.1 rfl) (k_0 hB1.1) (Nat.le_of_ble_eq_true rfl) (Nat.le_of_ble_eq_true rfl) rfl (Nat.zero_le _) (Nat.zero_le _) (w_X10_weightOf (d + 4) hB1 (Or.inr (Or.inl rfl)) z3 h) (fun r3 J3 h => ?_)
  exact z_lret Q_X10_part (k := 14) rfl rfl (qI_lVJt hB1 h)
set_option maxHeartbeats 4000000 in
set_option maxRecDepth 20000 in
theorem v_X10_pose_14 {S : zS} {V : qV} {J : qJ} {K : Int → Int → Int → Prop} {Q : qV → qJ → Prop} {X : String → qV → qJ → Prop} {kc ks : Nat} (d : Nat) (hB : qB S V) (hK : ∀ (l3 : Int) (l4 : Int) (l5 : Int), zr l3 → zr l4 → zr l5 → K l3 l4 l5 → Z M_X10_pose (d + 6) kc ks 74 [some (.ref 0), none, none, some (.int (iI l3)), some (.int (iI l4)), some (.int (iI l5))] [] S (qi V) (qj J) (qP_uVJt S Q X)) : ∀ (f : Nat) (l3 : Int) (l4 : Int) (l5 : Int), zr l3 → zr l4 → zr l5 → lp_X10_pose_14 V J K f l3 l4 l5 → Z M_X10_pose (d + 6) kc ks 14 [some (.ref 0), none, none, some (.int (iI l3)), some (.int (iI l4)), some (.int (iI l5))] [] S (qi V) (qj J) (qP_uVJt S Q X) := by
  intro f
  induction f with
  | zero =>
    intro l3 l4 l5 z3 z4 z5 h
    exact h.elim
  | succ f ih =>
    intro l3 l4 l5 z3 z4 z5 h
    rw [lp_X10_pose_14] at h
    refine z_iload Q_X10_pose (k := 10) rfl rfl ?_
    refine y_bipush Q_X10_pose (k := 11) rfl (by decide) ?_
    refine y_icmp_ge 74 Q_X10_pose (k := 12) rfl (by decide) z5 ⟨by decide, by decide⟩ (fun c => ?_) (fun c => ?_)
    · replace h := h.1 c
      exact y_fg (zsb_c rfl (zsb_n (zsb_n (zsb_c rfl (zsb_c rfl (zsb_c rfl zsb_e)))))) (hK l3 l4 l5 z3 z4 z5 h)
    · replace h := h.2 c
      refine z_aload_n Q_X10_pose (k := 13) rfl rfl ?_
      refine z_getR (b := 12) Q_X10_pose (k := 14) rfl F_X10_25 rfl (n_ hB.1 rfl) (k_0 hB.1) (r_0_3 hB.1) ?_
      refine z_getR (b := 14) Q_X10_pose (k := 15) rfl F_X10_138 rfl (n_ hB.1 rfl) (k_12 hB.1) (r_12_2 hB.1) ?_
      refine z_iload Q_X10_pose (k := 16) rfl rfl ?_
      obtain ⟨q2, h⟩ := h
      refine q_iald (o := 14) (N := 10) Q_X10_pose (k := 17) rfl rfl (n_ hB.1 rfl) (k_14 hB.1) rfl q2 (by decide) ?_
      refine y_iconst Q_X10_pose (k := 18) rfl ?_
      refine y_icmp_ne 45 Q_X10_pose (k := 19) rfl (by decide) (hB.2.1 _ _) ⟨by decide, by decide⟩ (fun c => ?_) (fun c => ?_)
      · replace h := h.2 c
        refine z_aload_n Q_X10_pose (k := 27) rfl rfl ?_
        refine z_getR (b := 12) Q_X10_pose (k := 28) rfl F_X10_25 rfl (n_ hB.1 rfl) (k_0 hB.1) (r_0_3 hB.1) ?_
        refine z_getR (b := 14) Q_X10_pose (k := 29) rfl F_X10_138 rfl (n_ hB.1 rfl) (k_12 hB.1) (r_12_2 hB.1) ?_
        refine z_iload Q_X10_pose (k := 30) rfl rfl ?_
        obtain ⟨q3, h⟩ := h
        refine q_iald (o := 14) (N := 10) Q_X10_pose (k := 31) rfl rfl (n_ hB.1 rfl) (k_14 hB.1) rfl q3 (by decide) ?_
        refine y_iconst Q_X10_pose (k := 32) rfl ?_
        refine y_icmp_ne 68 Q_X10_pose (k := 33) rfl (by decide) (hB.2.1 _ _) ⟨by decide, by decide⟩ (fun c => ?_) (fun c => ?_)
        · replace h := h.2 c
          obtain ⟨q4, h⟩ := h
          refine y_iinc (L' := [some (.ref 0), none, none, some (.int (iI l3)), some (.int (iI l4)), some (.int (iI (l5 + 1)))]) Q_X10_pose (k := 40) rfl (by decide) rfl rfl ?_
          refine z_goto (tgt := 14) Q_X10_pose (k := 41) rfl (by decide) ?_
          exact y_fg (zsb_c rfl (zsb_n (zsb_n (zsb_c rfl (zsb_c rfl (zsb_c rfl zsb_e)))))) (ih l3 l4 (l5 + 1) z3 z4 q4 h)
        · replace h := h.1 c
          refine z_iload Q_X10_pose (k := 34) rfl rfl ?_
          refine y_iconst Q_X10_pose (k := 35) rfl ?_
          refine z_iload Q_X10_pose (k := 36) rfl rfl ?_
          refine y_ishl Q_X10_pose (k := 37) rfl ?_
          refine y_ior Q_X10_pose (k := 38) rfl ?_
          refine y_istore (L' := [some (.ref 0), none, none, some (.int (iI l3)), some (.int (iI (zor l4 (zshl 1 l5)))), some (.int (iI l5))]) Q_X10_pose (k := 39) rfl (by decide) rfl ?_
          obtain ⟨q5, h⟩ := h
          refine y_iinc (L' := [some (.ref 0), none, none, some (.int (iI l3)), some (.int (iI (zor l4 (zshl 1 l5)))), some (.int (iI (l5 + 1)))]) Q_X10_pose (k := 40) rfl (by decide) rfl rfl ?_
          refine z_goto (tgt := 14) Q_X10_pose (k := 41) rfl (by decide) ?_
          exact y_fg (zsb_c rfl (zsb_n (zsb_n (zsb_c rfl (zsb_c rfl (zsb_c rfl zsb_e)))))) (ih l3 (zor l4 (zshl 1 l5)) (l5 + 1) z3 (zor_r _ _) q5 h)
      · replace h := h.1 c
        refine z_iload_n Q_X10_pose (k := 20) rfl rfl ?_
        refine y_iconst Q_X10_pose (k := 21) rfl ?_
        refine z_iload Q_X10_pose (k := 22) rfl rfl ?_
        refine y_ishl Q_X10_pose (k := 23) rfl ?_
        refine y_ior Q_X10_pose (k := 24) rfl ?_
        refine y_istore_n (L' := [some (.ref 0), none, none, some (.int (iI (zor l3 (zshl 1 l5)))), some (.int (iI l4)), some (.int (iI l5))]) Q_X10_pose (k := 25) rfl (by decide) rfl ?_
        refine z_goto (tgt := 68) Q_X10_pose (k := 26) rfl (by decide) ?_
        obtain ⟨q6, h⟩ := h
        refine y_iinc (L' := [some (.ref 0), none, none, some (.int (iI (zor l3 (zshl 1 l5)))), some (.int (iI l4)), some (.int (iI (l5 + 1)))]) Q_X10_pose (k := 40) rfl (by decide) rfl rfl ?_
        refine z_goto (tgt := 14) Q_X10_pose (k := 41) rfl (by decide) ?_
        exact y_fg (zsb_c rfl (zsb_n (zsb_n (zsb_c rfl (zsb_c rfl (zsb_c rfl zsb_e)))))) (ih (zor l3 (zshl 1 l5)) l4 (l5 + 1) (zor_r _ _) z4 q6 h)
set_option maxHeartbeats 4000000 in
set_option maxRecDepth 20000 in
theorem w_X10_pose {S : zS} {V : qV} {J : qJ} {Q : qV → qJ → Prop} {X : String → qV → qJ → Prop} (d : Nat) (hB : qB S V) {a1 : Int} (z1 : zr a1) {a2 : Int} (z2 : zr a2) (h : W_X10_pose a1 a2 V J Q X) : Z M_X10_pose (d + 6) 2 12 0 [some (.ref 0), some (.int (iI a1)), some (.int (iI a2)), none, none, none] [] S (qi V) (qj J) (qP_uVJt S Q X) := by
  unfold W_X10_pose at h
  refine z_aload_n Q_X10_pose (k := 0) rfl rfl ?_
  refine z_iload_n Q_X10_pose (k := 1) rfl rfl ?_
  refine z_iload_n Q_X10_pose (k := 2) rfl rfl ?_
  refine q_callV2_uVJt Q_X10_pose (k := 3) rfl rfl K_X10_decideFind V_X10_decideFind L_X10_277 (n_ hB.1 rfl) (k_0 hB.1) (Nat.le_of_ble_eq_true rfl) (Nat.le_of_ble_eq_true rfl) rfl (by decide) (by decide) (w_X10_decideFind d hB z1 z2 h) (fun E V1 J1 hB1 h => qX_uVJt hB1 h) (fun V1 J1 hB1 h => ?_)
  refine y_iconst Q_X10_pose (k := 4) rfl ?_
  refine y_istore_n (L' := [some (.ref 0), some (.int (iI a1)), some (.int (iI a2)), some (.int (iI 0)), none, none]) Q_X10_pose (k := 5) rfl (by decide) rfl ?_
  refine y_iconst Q_X10_pose (k := 6) rfl ?_
  refine y_istore (L' := [some (.ref 0), some (.int (iI a1)), some (.int (iI a2)), some (.int (iI 0)), some (.int (iI 0)), none]) Q_X10_pose (k := 7) rfl (by decide) rfl ?_
  refine y_iconst Q_X10_pose (k := 8) rfl ?_
  refine y_istore (L' := [some (.ref 0), some (.int (iI a1)), some (.int (iI a2)), some (.int (iI 0)), some (.int (iI 0)), some (.int (iI 0))]) Q_X10_pose (k := 9) rfl (by decide) rfl ?_
  refine y_fg (zsb_c rfl (zsb_n (zsb_n (zsb_c rfl (zsb_c rfl (zsb_c rfl zsb_e)))))) (v_X10_pose_14 d hB1 (fun l3x7 l4x7 l5x7 zl3x7 zl4x7 zl5x7 h => ?_) 100000 0 0 0 ⟨by decide, by decide⟩ ⟨by decide, by decide⟩ ⟨by decide, by decide⟩ h)
  refine z_aload_n Q_X10_pose (k := 42) rfl rfl ?_
  refine z_getR (b := 159) Q_X10_pose (k := 43) rfl F_X10_53 rfl (n_ hB1.1 rfl) (k_0 hB1.1) (r_0_9 hB1.1) ?_
  refine z_aload_n Q_X10_pose (k := 44) rfl rfl ?_
  refine z_getR (b := 155) Q_X10_pose (k := 45) rfl F_X10_43 rfl (n_ hB1.1 rfl) (k_0 hB1.1) (r_0_7 hB1.1) ?_
  refine z_iload_n Q_X10_pose (k := 46) rfl rfl ?_
  refine z_iload Q_X10_pose (k := 47) rfl rfl ?_
  refine q_callV3_uV Q_X10_pose (k := 48) rfl rfl K_X7_pose V_X7_pose L_X10_301 (n_ hB1.1 rfl) (k_159 hB1.1) (Nat.le_of_ble_eq_true rfl) (Nat.le_of_ble_eq_true rfl) rfl (Nat.zero_le _) (Nat.zero_le _) (w_X7_pose (d + 3) hB1 zl3x7 zl4x7 h) (fun V8 hB8 h => ?_)
  exact z_vret Q_X10_pose (k := 49) rfl rfl (qI_uVJt hB8 h)
set_option maxHeartbeats 4000000 in
set_option maxRecDepth 20000 in
theorem w_X10_hangs {S : zS} {V : qV} {J : qJ} {Q : Int → qV → qJ → Prop} {X : String → qV → qJ → Prop} (d : Nat) (hB : qB S V) {a1 : Int} (z1 : zr a1) {a2 : Int} (z2 : zr a2) (h : W_X10_hangs a1 a2 V J Q X) : Z M_X10_hangs (d + 7) 2 12 0 [some (.ref 0), some (.int (iI a1)), some (.int (iI a2))] [] S (qi V) (qj J) (qP_iVJt S Q X) := by
  unfold W_X10_hangs at h
  refine z_aload_n Q_X10_hangs (k := 0) rfl rfl ?_
  refine z_iload_n Q_X10_hangs (k := 1) rfl rfl ?_
  refine z_iload_n Q_X10_hangs (k := 2) rfl rfl ?_
  refine q_callV2_uVJt Q_X10_hangs (k := 3) rfl rfl K_X10_pose V_X10_pose L_X10_286 (n_ hB.1 rfl) (k_0 hB.1) (Nat.le_of_ble_eq_true rfl) (Nat.le_of_ble_eq_true rfl) rfl (by decide) (by decide) (w_X10_pose d hB z1 z2 h) (fun E V1 J1 hB1 h => qX_iVJt hB1 h) (fun V1 J1 hB1 h => ?_)
  refine z_aload_n Q_X10_hangs (k := 4) rfl rfl ?_
  refine z_getR (b := 159) Q_X10_hangs (k := 5) rfl F_X10_53 rfl (n_ hB1.1 rfl) (k_0 hB1.1) (r_0_9 hB1.1) ?_
  refine q_callV0_i Q_X10_hangs (k := 6) rfl rfl K_X7_hanging V_X7_hanging L_X10_289 (n_ hB1.1 rfl) (k_159 hB1.1) (Nat.le_of_ble_eq_true rfl) (Nat.le_of_ble_eq_true rfl) rfl (Nat.zero_le _) (Nat.zero_le _) (w_X7_hanging (d + 5) hB1  h) (fun r2 hz2 h => ?_)
  exact y_iret Q_X10_hangs (k := 7) rfl rfl (qI_iVJt hB1 hz2 h)
set_option maxHeartbeats 4000000 in
set_option maxRecDepth 20000 in
theorem w_X10_settles {S : zS} {V : qV} {J : qJ} {Q : Int → qV → qJ → Prop} {X : String → qV → qJ → Prop} (d : Nat) (hB : qB S V) {a1 : Int} (z1 : zr a1) {a2 : Int} (z2 : zr a2) (h : W_X10_settles a1 a2 V J Q X) : Z M_X10_settles (d + 7) 2 12 0 [some (.ref 0), some (.int (iI a1)), some (.int (iI a2))] [] S (qi V) (qj J) (qP_iVJt S Q X) := by
  unfold W_X10_settles at h
  refine z_aload_n Q_X10_settles (k := 0) rfl rfl ?_
  refine z_iload_n Q_X10_settles (k := 1) rfl rfl ?_
  refine z_iload_n Q_X10_settles (k := 2) rfl rfl ?_
  refine q_callV2_uVJt Q_X10_settles (k := 3) rfl rfl K_X10_pose V_X10_pose L_X10_286 (n_ hB.1 rfl) (k_0 hB.1) (Nat.le_of_ble_eq_true rfl) (Nat.le_of_ble_eq_true rfl) rfl (by decide) (by decide) (w_X10_pose d hB z1 z2 h) (fun E V1 J1 hB1 h => qX_iVJt hB1 h) (fun V1 J1 hB1 h => ?_)
  refine z_aload_n Q_X10_settles (k := 4) rfl rfl ?_
  refine z_getR (b := 159) Q_X10_settles (k := 5) rfl F_X10_53 rfl (n_ hB1.1 rfl) (k_0 hB1.1) (r_0_9 hB1.1) ?_
  refine q_callV0_iV Q_X10_settles (k := 6) rfl rfl K_X7_leastSettling V_X7_leastSettling L_X10_292 (n_ hB1.1 rfl) (k_159 hB1.1) (Nat.le_of_ble_eq_true rfl) (Nat.le_of_ble_eq_true rfl) rfl (Nat.zero_le _) (Nat.zero_le _) (w_X7_leastSettling (d + 4) hB1  h) (fun r2 V2 hB2 hz2 h => ?_)
  exact y_iret Q_X10_settles (k := 7) rfl rfl (qI_iVJt hB2 hz2 h)
set_option maxHeartbeats 4000000 in
set_option maxRecDepth 20000 in
theorem w_X10_questions {S : zS} {V : qV} {J : qJ} {Q : Int → qV → qJ → Prop} {X : String → qV → qJ → Prop} {kz : Nat} (d : Nat) (hB : qB S V) {a1 : Int} (z1 : zr a1) {a2 : Int} (z2 : zr a2) (h : W_X10_questions a1 a2 V J kz Q X) : Z M_X10_questions (d + 7) 3 (12 + kz) 0 [some (.ref 0), some (.int (iI a1)), some (.int (iI a2))] [] S (qi V) (qj J) (qP_iCVJt S Q X) := by
  unfold W_X10_questions at h
  refine z_aload_n Q_X10_questions (k := 0) rfl rfl ?_
  refine z_iload_n Q_X10_questions (k := 1) rfl rfl ?_
  refine z_iload_n Q_X10_questions (k := 2) rfl rfl ?_
  refine q_callV2_uVJt Q_X10_questions (k := 3) rfl rfl K_X10_pose V_X10_pose L_X10_286 (n_ hB.1 rfl) (k_0 hB.1) (Nat.le_of_ble_eq_true rfl) (Nat.le_of_ble_eq_true rfl) rfl (by omega) (by omega) (w_X10_pose d hB z1 z2 h) (fun E V1 J1 hB1 h => qX_iCVJt hB1 (Nat.le_refl _) h) (fun V1 J1 hB1 h => ?_)
  refine z_aload_n Q_X10_questions (k := 4) rfl rfl ?_
  refine z_getR (b := 159) Q_X10_questions (k := 5) rfl F_X10_53 rfl (n_ hB1.1 rfl) (k_0 hB1.1) (r_0_9 hB1.1) ?_
  refine q_callV0_iCV Q_X10_questions (k := 6) rfl rfl K_X7_fewestQuestions V_X7_fewestQuestions L_X10_295 (n_ hB1.1 rfl) (k_159 hB1.1) (Nat.le_of_ble_eq_true rfl) (Nat.le_of_ble_eq_true rfl) rfl (by omega) (by omega) (zRbc rfl rfl hB1.1.1) (w_X7_fewestQuestions (d + 2) hB1  h) (fun r2 S2 V2 hB2 hn2 hz2 h => ?_)
  exact y_iret Q_X10_questions (k := 7) rfl rfl (qI_iCVJt hB2 (Nat.le_trans (Nat.le_refl _) hn2) hz2 h)
set_option maxHeartbeats 4000000 in
set_option maxRecDepth 20000 in
theorem w_X10_ask {S : zS} {V : qV} {J : qJ} {Q : Int → qV → qJ → Prop} {X : String → qV → qJ → Prop} {kz : Nat} (d : Nat) (hB : qB S V) {a1 : Int} (z1 : zr a1) {a2 : Int} (z2 : zr a2) (h : W_X10_ask a1 a2 V J kz Q X) : Z M_X10_ask (d + 7) 3 (12 + kz) 0 [some (.ref 0), some (.int (iI a1)), some (.int (iI a2))] [] S (qi V) (qj J) (qP_iCVJt S Q X) := by
  unfold W_X10_ask at h
  refine z_aload_n Q_X10_ask (k := 0) rfl rfl ?_
  refine z_iload_n Q_X10_ask (k := 1) rfl rfl ?_
  refine z_iload_n Q_X10_ask (k := 2) rfl rfl ?_
  refine q_callV2_uVJt Q_X10_ask (k := 3) rfl rfl K_X10_pose V_X10_pose L_X10_286 (n_ hB.1 rfl) (k_0 hB.1) (Nat.le_of_ble_eq_true rfl) (Nat.le_of_ble_eq_true rfl) rfl (by omega) (by omega) (w_X10_pose d hB z1 z2 h) (fun E V1 J1 hB1 h => qX_iCVJt hB1 (Nat.le_refl _) h) (fun V1 J1 hB1 h => ?_)
  refine z_aload_n Q_X10_ask (k := 4) rfl rfl ?_
  refine z_getR (b := 159) Q_X10_ask (k := 5) rfl F_X10_53 rfl (n_ hB1.1 rfl) (k_0 hB1.1) (r_0_9 hB1.1) ?_
  refine q_callV0_iCV Q_X10_ask (k := 6) rfl rfl K_X7_firstQuestion V_X7_firstQuestion L_X10_298 (n_ hB1.1 rfl) (k_159 hB1.1) (Nat.le_of_ble_eq_true rfl) (Nat.le_of_ble_eq_true rfl) rfl (by omega) (by omega) (zRbc rfl rfl hB1.1.1) (w_X7_firstQuestion (d + 1) hB1  h) (fun r2 S2 V2 hB2 hn2 hz2 h => ?_)
  exact y_iret Q_X10_ask (k := 7) rfl rfl (qI_iCVJt hB2 (Nat.le_trans (Nat.le_refl _) hn2) hz2 h)
set_option maxHeartbeats 4000000 in
set_option maxRecDepth 20000 in
theorem w_X10_claim {S : zS} {V : qV} {J : qJ} {Q : Int → qV → Prop} {X : String → qV → Prop} (d : Nat) (hB : qB S V) {a1 : Int} (z1 : zr a1) {a2 : Int} (z2 : zr a2) {a3 : Int} (z3 : zr a3) (h : W_X10_claim a1 a2 a3 V Q X) : Z M_X10_claim (d + 1) 3 18 0 [some (.ref 0), some (.int (iI a1)), some (.int (iI a2)), some (.int (iI a3))] [] S (qi V) (qj J) (qP_iVt S J Q X) := by
  unfold W_X10_claim at h
  refine z_aload_n Q_X10_claim (k := 0) rfl rfl ?_
  refine z_iload_n Q_X10_claim (k := 1) rfl rfl ?_
  refine q_callV1_rt Q_X10_claim (k := 2) rfl rfl K_X10_findOf V_X10_findOf L_X10_237 (n_ hB.1 rfl) (k_0 hB.1) (Nat.le_of_ble_eq_true rfl) (Nat.le_of_ble_eq_true rfl) rfl (by decide) (by decide) (w_X10_findOf d hB z1 h) (fun E h => qX_iVt hB h) (fun r1 ho1 h => ?_)
  refine z_pop Q_X10_claim (k := 3) rfl rfl ?_
  refine z_aload_n Q_X10_claim (k := 4) rfl rfl ?_
  refine z_iload_n Q_X10_claim (k := 5) rfl rfl ?_
  refine q_callV1_rt Q_X10_claim (k := 6) rfl rfl K_X10_personOf V_X10_personOf L_X10_193 (n_ hB.1 rfl) (k_0 hB.1) (Nat.le_of_ble_eq_true rfl) (Nat.le_of_ble_eq_true rfl) rfl (by decide) (by decide) (w_X10_personOf d hB z2 h) (fun E h => qX_iVt hB h) (fun r2 ho2 h => ?_)
  refine z_pop Q_X10_claim (k := 7) rfl rfl ?_
  refine z_iload_n Q_X10_claim (k := 8) rfl rfl ?_
  refine y_iconst Q_X10_claim (k := 9) rfl ?_
  refine y_sipush Q_X10_claim (k := 10) rfl (by decide) ?_
  refine q_callS3_ut Q_X10_claim (k := 11) rfl rfl K_X10_testRange S_X10_testRange L_X10_134 (Nat.le_of_ble_eq_true rfl) (Nat.le_of_ble_eq_true rfl) rfl (by decide) (by decide) (w_X10_testRange d hB z3 ⟨by decide, by decide⟩ ⟨by decide, by decide⟩ h) (fun E h => qX_iVt hB h) (fun h => ?_)
  refine z_aload_n Q_X10_claim (k := 12) rfl rfl ?_
  refine z_getR (b := 12) Q_X10_claim (k := 13) rfl F_X10_25 rfl (n_ hB.1 rfl) (k_0 hB.1) (r_0_3 hB.1) ?_
  refine q_getI (o := 12) (z := 12) Q_X10_claim (k := 14) rfl F_X10_304 rfl rfl rfl (n_ hB.1 rfl) (k_12 hB.1) ?_
  refine y_bipush Q_X10_claim (k := 15) rfl (by decide) ?_
  refine y_icmp_lt 34 Q_X10_claim (k := 16) rfl (by decide) (hB.2.1 _ _) ⟨by decide, by decide⟩ (fun c => ?_) (fun c => ?_)
  · replace h := h.1 c
    refine z_aload_n Q_X10_claim (k := 19) rfl rfl ?_
    refine z_getR (b := 12) Q_X10_claim (k := 20) rfl F_X10_25 rfl (n_ hB.1 rfl) (k_0 hB.1) (r_0_3 hB.1) ?_
    refine z_getR (b := 20) Q_X10_claim (k := 21) rfl F_X10_307 rfl (n_ hB.1 rfl) (k_12 hB.1) (r_12_11 hB.1) ?_
    refine z_aload_n Q_X10_claim (k := 22) rfl rfl ?_
    refine z_getR (b := 12) Q_X10_claim (k := 23) rfl F_X10_25 rfl (n_ hB.1 rfl) (k_0 hB.1) (r_0_3 hB.1) ?_
    refine q_getI (o := 12) (z := 12) Q_X10_claim (k := 24) rfl F_X10_304 rfl rfl rfl (n_ hB.1 rfl) (k_12 hB.1) ?_
    obtain ⟨q4, h⟩ := h
    have o5 := (qe_claim (i := V 12 12) hB.1 q4)
    refine y_aald (t := 8) (b := (86 + 1 * (V 12 12)).toNat) Q_X10_claim (k := 25) rfl (n_ hB.1 rfl) (k_20 hB.1) (by decide) rfl q4.1 q4.2 (by decide) o5.2 ?_
    refine z_iload_n Q_X10_claim (k := 26) rfl rfl ?_
    refine z_iload_n Q_X10_claim (k := 27) rfl rfl ?_
    refine z_iload_n Q_X10_claim (k := 28) rfl rfl ?_
    refine q_callV3_uV Q_X10_claim (k := 29) rfl rfl K_X0_begin V_X0_begin L_X10_311 o5.1.2.1 o5.1.2.2.1 (Nat.le_of_ble_eq_true rfl) (Nat.le_of_ble_eq_true rfl) rfl (Nat.zero_le _) (Nat.zero_le _) (w_X0_begin d hB o5.1 z1 z2 z3 h) (fun V6 hB6 h => ?_)
    refine z_aload_n Q_X10_claim (k := 30) rfl rfl ?_
    refine z_getR (b := 12) Q_X10_claim (k := 31) rfl F_X10_25 rfl (n_ hB6.1 rfl) (k_0 hB6.1) (r_0_3 hB6.1) ?_
    refine z_dup Q_X10_claim (k := 32) rfl rfl ?_
    refine q_getI (o := 12) (z := 12) Q_X10_claim (k := 33) rfl F_X10_304 rfl rfl rfl (n_ hB6.1 rfl) (k_12 hB6.1) ?_
    refine y_iconst Q_X10_claim (k := 34) rfl ?_
    obtain ⟨q7, h⟩ := h
    refine y_iadd Q_X10_claim (k := 35) rfl ?_
    refine q_putI (o := 12) (z := 12) Q_X10_claim (k := 36) rfl F_X10_304 rfl rfl rfl (n_ hB6.1 rfl) (k_12 hB6.1) ?_
    have hB8 := qB.u (a := 12) (j := 12) (x := (V6 12 12) + 1) hB6 q7 (Or.inl (by decide))
    refine z_aload_n Q_X10_claim (k := 37) rfl rfl ?_
    refine z_getR (b := 12) Q_X10_claim (k := 38) rfl F_X10_25 rfl (n_ hB8.1 rfl) (k_0 hB8.1) (r_0_3 hB8.1) ?_
    refine q_getI (o := 12) (z := 12) Q_X10_claim (k := 39) rfl F_X10_304 rfl rfl rfl (n_ hB8.1 rfl) (k_12 hB8.1) ?_
    refine y_iconst Q_X10_claim (k := 40) rfl ?_
    obtain ⟨q9, h⟩ := h
    refine y_isub Q_X10_claim (k := 41) rfl ?_
    exact y_iret Q_X10_claim (k := 42) rfl rfl (qI_iVt hB8 q9 h)
  · replace h := h.2 c
    refine y_iconst Q_X10_claim (k := 17) rfl ?_
    exact y_iret Q_X10_claim (k := 18) rfl rfl (qI_iVt hB ⟨by decide, by decide⟩ h)
set_option maxHeartbeats 4000000 in
set_option maxRecDepth 20000 in
theorem w_X10_claimed {S : zS} {V : qV} {J : qJ} {Q : Int → Prop} {X : String → Prop} (d : Nat) (hB : qB S V) {a1 : Int} (z1 : zr a1) {a2 : Int} (z2 : zr a2) (h : W_X10_claimed a1 a2 V Q X) : Z M_X10_claimed (d + 1) 1 6 0 [some (.ref 0), some (.int (iI a1)), some (.int (iI a2)), none] [] S (qi V) (qj J) (qP_it S V J Q X) := by
  unfold W_X10_claimed at h
  refine z_iload_n Q_X10_claimed (k := 0) rfl rfl ?_
  refine y_if_lt 21 Q_X10_claimed (k := 1) rfl (by decide) z1 (fun c => ?_) (fun c => ?_)
  · replace h := h.1 c
    exact z_throwW Q_X10_claimed (k := 10) rfl (zT.at Q_X10_claimed (k := 11) rfl).1 (zT.at Q_X10_claimed (k := 12) rfl).1 (zT.at Q_X10_claimed (k := 13) rfl).1 (zT.at Q_X10_claimed (k := 14) rfl).1 rfl (t_X10_144_315) (Nat.le_of_ble_eq_true rfl) (by decide) (by decide) (qX_it h)
  · replace h := h.2 c
    refine z_iload_n Q_X10_claimed (k := 2) rfl rfl ?_
    refine z_aload_n Q_X10_claimed (k := 3) rfl rfl ?_
    refine z_getR (b := 12) Q_X10_claimed (k := 4) rfl F_X10_25 rfl (n_ hB.1 rfl) (k_0 hB.1) (r_0_3 hB.1) ?_
    refine q_getI (o := 12) (z := 12) Q_X10_claimed (k := 5) rfl F_X10_304 rfl rfl rfl (n_ hB.1 rfl) (k_12 hB.1) ?_
    refine y_icmp_ge 21 Q_X10_claimed (k := 6) rfl (by decide) z1 (hB.2.1 _ _) (fun c => ?_) (fun c => ?_)
    · replace h := h.1 c
      exact z_throwW Q_X10_claimed (k := 10) rfl (zT.at Q_X10_claimed (k := 11) rfl).1 (zT.at Q_X10_claimed (k := 12) rfl).1 (zT.at Q_X10_claimed (k := 13) rfl).1 (zT.at Q_X10_claimed (k := 14) rfl).1 rfl (t_X10_144_315) (Nat.le_of_ble_eq_true rfl) (by decide) (by decide) (qX_it h)
    · replace h := h.2 c
      refine z_iload_n Q_X10_claimed (k := 7) rfl rfl ?_
      refine y_bipush Q_X10_claimed (k := 8) rfl (by decide) ?_
      refine y_icmp_lt 32 Q_X10_claimed (k := 9) rfl (by decide) z1 ⟨by decide, by decide⟩ (fun c => ?_) (fun c => ?_)
      · replace h := h.1 c
        refine z_aload_n Q_X10_claimed (k := 15) rfl rfl ?_
        refine z_getR (b := 12) Q_X10_claimed (k := 16) rfl F_X10_25 rfl (n_ hB.1 rfl) (k_0 hB.1) (r_0_3 hB.1) ?_
        refine z_getR (b := 20) Q_X10_claimed (k := 17) rfl F_X10_307 rfl (n_ hB.1 rfl) (k_12 hB.1) (r_12_11 hB.1) ?_
        refine z_iload_n Q_X10_claimed (k := 18) rfl rfl ?_
        obtain ⟨q1, h⟩ := h
        have o2 := (qe_claim (i := a1) hB.1 q1)
        refine y_aald (t := 8) (b := (86 + 1 * a1).toNat) Q_X10_claimed (k := 19) rfl (n_ hB.1 rfl) (k_20 hB.1) (by decide) rfl q1.1 q1.2 (by decide) o2.2 ?_
        refine y_astore_n (L' := [some (.ref 0), some (.int (iI a1)), some (.int (iI a2)), some (.ref (86 + 1 * a1).toNat)]) Q_X10_claimed (k := 20) rfl (by decide) rfl ?_
        refine z_iload_n Q_X10_claimed (k := 21) rfl rfl ?_
        by_cases c3_0 : a2 = 0
        · replace h := h.1 c3_0
          refine y_switchK (j := 0) (tgt := 80) Q_X10_claimed (k := 22) rfl (by rw [c3_0]; decide) (by decide) z2 rfl (by decide) ?_
          refine z_aload_n Q_X10_claimed (k := 23) rfl rfl ?_
          refine q_getI (o := 86 + 1 * a1) (z := 0) Q_X10_claimed (k := 24) rfl F_X10_317 rfl (Int.toNat_of_nonneg o2.1.1) rfl o2.1.2.1 o2.1.2.2.1 ?_
          exact y_iret Q_X10_claimed (k := 25) rfl rfl (qI_it (hB.2.1 _ _) h)
        replace h := h.2
        by_cases c3_1 : a2 = 1
        · replace h := h.1 c3_1
          refine y_switchK (j := 1) (tgt := 85) Q_X10_claimed (k := 22) rfl (by rw [c3_1]; decide) (by decide) z2 rfl (by decide) ?_
          refine z_aload_n Q_X10_claimed (k := 26) rfl rfl ?_
          refine q_getI (o := 86 + 1 * a1) (z := 1) Q_X10_claimed (k := 27) rfl F_X10_320 rfl (Int.toNat_of_nonneg o2.1.1) rfl o2.1.2.1 o2.1.2.2.1 ?_
          exact y_iret Q_X10_claimed (k := 28) rfl rfl (qI_it (hB.2.1 _ _) h)
        replace h := h.2
        by_cases c3_2 : a2 = 2
        · replace h := h.1 c3_2
          refine y_switchK (j := 2) (tgt := 90) Q_X10_claimed (k := 22) rfl (by rw [c3_2]; decide) (by decide) z2 rfl (by decide) ?_
          refine z_aload_n Q_X10_claimed (k := 29) rfl rfl ?_
          refine q_getI (o := 86 + 1 * a1) (z := 2) Q_X10_claimed (k := 30) rfl F_X10_323 rfl (Int.toNat_of_nonneg o2.1.1) rfl o2.1.2.1 o2.1.2.2.1 ?_
          exact y_iret Q_X10_claimed (k := 31) rfl rfl (qI_it (hB.2.1 _ _) h)
        replace h := h.2
        by_cases c3_3 : a2 = 3
        · replace h := h.1 c3_3
          refine y_switchK (j := 3) (tgt := 95) Q_X10_claimed (k := 22) rfl (by rw [c3_3]; decide) (by decide) z2 rfl (by decide) ?_
          refine z_aload_n Q_X10_claimed (k := 32) rfl rfl ?_
          refine z_getR (b := 12) Q_X10_claimed (k := 33) rfl F_X10_25 rfl (n_ hB.1 rfl) (k_0 hB.1) (r_0_3 hB.1) ?_
          refine z_aload_n Q_X10_claimed (k := 34) rfl rfl ?_
          refine q_callV1_z Q_X10_claimed (k := 35) rfl rfl K_X8_fits V_X8_fits L_X10_324 (n_ hB.1 rfl) (k_12 hB.1) (Nat.le_of_ble_eq_true rfl) (Nat.le_of_ble_eq_true rfl) rfl (Nat.zero_le _) (Nat.zero_le _) (w_X8_fits d hB o2.1 h) (fun r4 hz4 hb4 h => ?_)
          refine y_if_eq 110 Q_X10_claimed (k := 36) rfl (by decide) hz4 (fun c => ?_) (fun c => ?_)
          · replace h := h.1 c
            refine y_iconst Q_X10_claimed (k := 39) rfl ?_
            exact y_iret Q_X10_claimed (k := 40) rfl rfl (qI_it ⟨by decide, by decide⟩ h)
          · replace h := h.2 c
            refine y_iconst Q_X10_claimed (k := 37) rfl ?_
            refine z_goto (tgt := 111) Q_X10_claimed (k := 38) rfl (by decide) ?_
            exact y_iret Q_X10_claimed (k := 40) rfl rfl (qI_it ⟨by decide, by decide⟩ h)
        replace h := h.2
        by_cases c3_4 : a2 = 4
        · replace h := h.1 c3_4
          refine y_switchK (j := 4) (tgt := 112) Q_X10_claimed (k := 22) rfl (by rw [c3_4]; decide) (by decide) z2 rfl (by decide) ?_
          refine z_aload_n Q_X10_claimed (k := 41) rfl rfl ?_
          refine z_getR (b := 12) Q_X10_claimed (k := 42) rfl F_X10_25 rfl (n_ hB.1 rfl) (k_0 hB.1) (r_0_3 hB.1) ?_
          refine z_aload_n Q_X10_claimed (k := 43) rfl rfl ?_
          refine q_getI (o := 86 + 1 * a1) (z := 2) Q_X10_claimed (k := 44) rfl F_X10_323 rfl (Int.toNat_of_nonneg o2.1.1) rfl o2.1.2.1 o2.1.2.2.1 ?_
          refine q_callV1_i Q_X10_claimed (k := 45) rfl rfl K_X8_havers V_X8_havers L_X10_328 (n_ hB.1 rfl) (k_12 hB.1) (Nat.le_of_ble_eq_true rfl) (Nat.le_of_ble_eq_true rfl) rfl (Nat.zero_le _) (Nat.zero_le _) (w_X8_havers d hB (hB.2.1 _ _) h) (fun r5 hz5 h => ?_)
          exact y_iret Q_X10_claimed (k := 46) rfl rfl (qI_it hz5 h)
        replace h := h.2
        by_cases c3_5 : a2 = 5
        · replace h := h.1 c3_5
          refine y_switchK (j := 5) (tgt := 124) Q_X10_claimed (k := 22) rfl (by rw [c3_5]; decide) (by decide) z2 rfl (by decide) ?_
          refine z_aload_n Q_X10_claimed (k := 47) rfl rfl ?_
          refine z_getR (b := 12) Q_X10_claimed (k := 48) rfl F_X10_25 rfl (n_ hB.1 rfl) (k_0 hB.1) (r_0_3 hB.1) ?_
          refine z_aload_n Q_X10_claimed (k := 49) rfl rfl ?_
          refine q_callV1_z Q_X10_claimed (k := 50) rfl rfl K_X8_fits V_X8_fits L_X10_324 (n_ hB.1 rfl) (k_12 hB.1) (Nat.le_of_ble_eq_true rfl) (Nat.le_of_ble_eq_true rfl) rfl (Nat.zero_le _) (Nat.zero_le _) (w_X8_fits d hB o2.1 h) (fun r6 hz6 hb6 h => ?_)
          refine y_if_eq 154 Q_X10_claimed (k := 51) rfl (by decide) hz6 (fun c => ?_) (fun c => ?_)
          · replace h := h.1 c
            refine y_iconst Q_X10_claimed (k := 61) rfl ?_
            exact y_iret Q_X10_claimed (k := 62) rfl rfl (qI_it ⟨by decide, by decide⟩ h)
          · replace h := h.2 c
            refine z_aload_n Q_X10_claimed (k := 52) rfl rfl ?_
            refine z_getR (b := 12) Q_X10_claimed (k := 53) rfl F_X10_25 rfl (n_ hB.1 rfl) (k_0 hB.1) (r_0_3 hB.1) ?_
            refine z_aload_n Q_X10_claimed (k := 54) rfl rfl ?_
            refine q_getI (o := 86 + 1 * a1) (z := 2) Q_X10_claimed (k := 55) rfl F_X10_323 rfl (Int.toNat_of_nonneg o2.1.1) rfl o2.1.2.1 o2.1.2.2.1 ?_
            refine q_callV1_i Q_X10_claimed (k := 56) rfl rfl K_X8_havers V_X8_havers L_X10_328 (n_ hB.1 rfl) (k_12 hB.1) (Nat.le_of_ble_eq_true rfl) (Nat.le_of_ble_eq_true rfl) rfl (Nat.zero_le _) (Nat.zero_le _) (w_X8_havers d hB (hB.2.1 _ _) h) (fun r7 hz7 h => ?_)
            refine y_iconst Q_X10_claimed (k := 57) rfl ?_
            refine y_icmp_ne 154 Q_X10_claimed (k := 58) rfl (by decide) hz7 ⟨by decide, by decide⟩ (fun c => ?_) (fun c => ?_)
            · replace h := h.2 c
              refine y_iconst Q_X10_claimed (k := 61) rfl ?_
              exact y_iret Q_X10_claimed (k := 62) rfl rfl (qI_it ⟨by decide, by decide⟩ h)
            · replace h := h.1 c
              refine y_iconst Q_X10_claimed (k := 59) rfl ?_
              refine z_goto (tgt := 155) Q_X10_claimed (k := 60) rfl (by decide) ?_
              exact y_iret Q_X10_claimed (k := 62) rfl rfl (qI_it ⟨by decide, by decide⟩ h)
        replace h := h.2
        have cd3 : a2 < 0 ∨ 5 < a2 := by omega
        replace h := h cd3
        refine y_switchD (tgt := 156) Q_X10_claimed (k := 22) rfl cd3 z2 (by decide) ?_
        exact z_throwW Q_X10_claimed (k := 63) rfl (zT.at Q_X10_claimed (k := 64) rfl).1 (zT.at Q_X10_claimed (k := 65) rfl).1 (zT.at Q_X10_claimed (k := 66) rfl).1 (zT.at Q_X10_claimed (k := 67) rfl).1 rfl (t_X10_118_331) (Nat.le_of_ble_eq_true rfl) (by decide) (by decide) (qX_it h)
      · replace h := h.2 c
        exact z_throwW Q_X10_claimed (k := 10) rfl (zT.at Q_X10_claimed (k := 11) rfl).1 (zT.at Q_X10_claimed (k := 12) rfl).1 (zT.at Q_X10_claimed (k := 13) rfl).1 (zT.at Q_X10_claimed (k := 14) rfl).1 rfl (t_X10_144_315) (Nat.le_of_ble_eq_true rfl) (by decide) (by decide) (qX_it h)
set_option maxHeartbeats 4000000 in
set_option maxRecDepth 20000 in
theorem v_X10_best_14 {S : zS} {V : qV} {J : qJ} {K : Int → Int → Int → Prop} {Q : Int → Prop} {X : String → Prop} {kc ks : Nat} (d : Nat) (hB : qB S V) {l1 : Int} (z1 : zr l1) (hK : ∀ (l2 : Int) (l3 : Int) (l4 : Int), zr l2 → zr l3 → zr l4 → K l2 l3 l4 → Z M_X10_best (d + 1) kc ks 122 [some (.ref 0), some (.int (iI l1)), some (.int (iI l2)), some (.int (iI l3)), some (.int (iI l4)), none, none] [] S (qi V) (qj J) (qP_it S V J Q X)) : ∀ (f : Nat) (l2 : Int) (l3 : Int) (l4 : Int), zr l2 → zr l3 → zr l4 → lp_X10_best_14 l1 V K f l2 l3 l4 → Z M_X10_best (d + 1) kc ks 14 [some (.ref 0), some (.int (iI l1)), some (.int (iI l2)), some (.int (iI l3)), some (.int (iI l4)), none, none] [] S (qi V) (qj J) (qP_it S V J Q X) := by
  intro f
  induction f with
  | zero =>
    intro l2 l3 l4 z2 z3 z4 h
    exact h.elim
  | succ f ih =>
    intro l2 l3 l4 z2 z3 z4 h
    rw [lp_X10_best_14] at h
    refine z_iload Q_X10_best (k := 10) rfl rfl ?_
    refine z_aload_n Q_X10_best (k := 11) rfl rfl ?_
    refine z_getR (b := 12) Q_X10_best (k := 12) rfl F_X10_25 rfl (n_ hB.1 rfl) (k_0 hB.1) (r_0_3 hB.1) ?_
    refine q_getI (o := 12) (z := 12) Q_X10_best (k := 13) rfl F_X10_304 rfl rfl rfl (n_ hB.1 rfl) (k_12 hB.1) ?_
    refine y_icmp_ge 122 Q_X10_best (k := 14) rfl (by decide) z4 (hB.2.1 _ _) (fun c => ?_) (fun c => ?_)
    · replace h := h.1 c
      exact y_fg (zsb_c rfl (zsb_c rfl (zsb_c rfl (zsb_c rfl (zsb_c rfl (zsb_n (zsb_n zsb_e))))))) (hK l2 l3 l4 z2 z3 z4 h)
    · replace h := h.2 c
      refine z_iload Q_X10_best (k := 15) rfl rfl ?_
      refine y_bipush Q_X10_best (k := 16) rfl (by decide) ?_
      refine y_icmp_ge 122 Q_X10_best (k := 17) rfl (by decide) z4 ⟨by decide, by decide⟩ (fun c => ?_) (fun c => ?_)
      · replace h := h.1 c
        exact y_fg (zsb_c rfl (zsb_c rfl (zsb_c rfl (zsb_c rfl (zsb_c rfl (zsb_n (zsb_n zsb_e))))))) (hK l2 l3 l4 z2 z3 z4 h)
      · replace h := h.2 c
        refine z_aload_n Q_X10_best (k := 18) rfl rfl ?_
        refine z_getR (b := 12) Q_X10_best (k := 19) rfl F_X10_25 rfl (n_ hB.1 rfl) (k_0 hB.1) (r_0_3 hB.1) ?_
        refine z_getR (b := 20) Q_X10_best (k := 20) rfl F_X10_307 rfl (n_ hB.1 rfl) (k_12 hB.1) (r_12_11 hB.1) ?_
        refine z_iload Q_X10_best (k := 21) rfl rfl ?_
        obtain ⟨q2, h⟩ := h
        have o3 := (qe_claim (i := l4) hB.1 q2)
        refine y_aald (t := 8) (b := (86 + 1 * l4).toNat) Q_X10_best (k := 22) rfl (n_ hB.1 rfl) (k_20 hB.1) (by decide) rfl q2.1 q2.2 (by decide) o3.2 ?_
        refine y_astore (L' := [some (.ref 0), some (.int (iI l1)), some (.int (iI l2)), some (.int (iI l3)), some (.int (iI l4)), some (.ref (86 + 1 * l4).toNat), none]) Q_X10_best (k := 23) rfl (by decide) rfl ?_
        refine z_aload Q_X10_best (k := 24) rfl rfl ?_
        refine q_getI (o := 86 + 1 * l4) (z := 0) Q_X10_best (k := 25) rfl F_X10_317 rfl (Int.toNat_of_nonneg o3.1.1) rfl o3.1.2.1 o3.1.2.2.1 ?_
        refine z_iload_n Q_X10_best (k := 26) rfl rfl ?_
        refine y_icmp_ne 116 Q_X10_best (k := 27) rfl (by decide) (hB.2.1 _ _) z1 (fun c => ?_) (fun c => ?_)
        · replace h := h.2 c
          obtain ⟨q4, h⟩ := h
          refine y_iinc (L' := [some (.ref 0), some (.int (iI l1)), some (.int (iI l2)), some (.int (iI l3)), some (.int (iI (l4 + 1))), some (.ref (86 + 1 * l4).toNat), none]) Q_X10_best (k := 57) rfl (by decide) rfl rfl ?_
          refine z_goto (tgt := 14) Q_X10_best (k := 58) rfl (by decide) ?_
          exact y_fg (zsb_c rfl (zsb_c rfl (zsb_c rfl (zsb_c rfl (zsb_c rfl (zsb_n (zsb_n zsb_e))))))) (ih l2 l3 (l4 + 1) z2 z3 q4 h)
        · replace h := h.1 c
          refine z_aload_n Q_X10_best (k := 28) rfl rfl ?_
          refine z_getR (b := 12) Q_X10_best (k := 29) rfl F_X10_25 rfl (n_ hB.1 rfl) (k_0 hB.1) (r_0_3 hB.1) ?_
          refine z_aload Q_X10_best (k := 30) rfl rfl ?_
          refine q_callV1_z Q_X10_best (k := 31) rfl rfl K_X8_fits V_X8_fits L_X10_324 (n_ hB.1 rfl) (k_12 hB.1) (Nat.le_of_ble_eq_true rfl) (Nat.le_of_ble_eq_true rfl) rfl (Nat.zero_le _) (Nat.zero_le _) (w_X8_fits d hB o3.1 h) (fun r5 hz5 hb5 h => ?_)
          refine y_if_eq 116 Q_X10_best (k := 32) rfl (by decide) hz5 (fun c => ?_) (fun c => ?_)
          · replace h := h.1 c
            obtain ⟨q6, h⟩ := h
            refine y_iinc (L' := [some (.ref 0), some (.int (iI l1)), some (.int (iI l2)), some (.int (iI l3)), some (.int (iI (l4 + 1))), some (.ref (86 + 1 * l4).toNat), none]) Q_X10_best (k := 57) rfl (by decide) rfl rfl ?_
            refine z_goto (tgt := 14) Q_X10_best (k := 58) rfl (by decide) ?_
            exact y_fg (zsb_c rfl (zsb_c rfl (zsb_c rfl (zsb_c rfl (zsb_c rfl (zsb_n (zsb_n zsb_e))))))) (ih l2 l3 (l4 + 1) z2 z3 q6 h)
          · replace h := h.2 c
            refine z_aload_n Q_X10_best (k := 33) rfl rfl ?_
            refine z_getR (b := 12) Q_X10_best (k := 34) rfl F_X10_25 rfl (n_ hB.1 rfl) (k_0 hB.1) (r_0_3 hB.1) ?_
            refine z_aload Q_X10_best (k := 35) rfl rfl ?_
            refine q_getI (o := 86 + 1 * l4) (z := 2) Q_X10_best (k := 36) rfl F_X10_323 rfl (Int.toNat_of_nonneg o3.1.1) rfl o3.1.2.1 o3.1.2.2.1 ?_
            refine q_callV1_i Q_X10_best (k := 37) rfl rfl K_X8_havers V_X8_havers L_X10_328 (n_ hB.1 rfl) (k_12 hB.1) (Nat.le_of_ble_eq_true rfl) (Nat.le_of_ble_eq_true rfl) rfl (Nat.zero_le _) (Nat.zero_le _) (w_X8_havers d hB (hB.2.1 _ _) h) (fun r7 hz7 h => ?_)
            refine y_istore (L' := [some (.ref 0), some (.int (iI l1)), some (.int (iI l2)), some (.int (iI l3)), some (.int (iI l4)), some (.ref (86 + 1 * l4).toNat), some (.int (iI r7))]) Q_X10_best (k := 38) rfl (by decide) rfl ?_
            refine z_iload Q_X10_best (k := 39) rfl rfl ?_
            refine z_iload_n Q_X10_best (k := 40) rfl rfl ?_
            refine y_icmp_ge 98 Q_X10_best (k := 41) rfl (by decide) hz7 z2 (fun c => ?_) (fun c => ?_)
            · replace h := h.1 c
              refine z_iload Q_X10_best (k := 48) rfl rfl ?_
              refine z_iload_n Q_X10_best (k := 49) rfl rfl ?_
              refine y_icmp_ne 116 Q_X10_best (k := 50) rfl (by decide) hz7 z2 (fun c => ?_) (fun c => ?_)
              · replace h := h.2 c
                obtain ⟨q8, h⟩ := h
                refine y_iinc (L' := [some (.ref 0), some (.int (iI l1)), some (.int (iI l2)), some (.int (iI l3)), some (.int (iI (l4 + 1))), some (.ref (86 + 1 * l4).toNat), some (.int (iI r7))]) Q_X10_best (k := 57) rfl (by decide) rfl rfl ?_
                refine z_goto (tgt := 14) Q_X10_best (k := 58) rfl (by decide) ?_
                exact y_fg (zsb_c rfl (zsb_c rfl (zsb_c rfl (zsb_c rfl (zsb_c rfl (zsb_n (zsb_n zsb_e))))))) (ih l2 l3 (l4 + 1) z2 z3 q8 h)
              · replace h := h.1 c
                refine z_iload_n Q_X10_best (k := 51) rfl rfl ?_
                refine z_aload Q_X10_best (k := 52) rfl rfl ?_
                refine q_getI (o := 86 + 1 * l4) (z := 1) Q_X10_best (k := 53) rfl F_X10_320 rfl (Int.toNat_of_nonneg o3.1.1) rfl o3.1.2.1 o3.1.2.2.1 ?_
                refine y_icmp_eq 116 Q_X10_best (k := 54) rfl (by decide) z3 (hB.2.1 _ _) (fun c => ?_) (fun c => ?_)
                · replace h := h.1 c
                  obtain ⟨q9, h⟩ := h
                  refine y_iinc (L' := [some (.ref 0), some (.int (iI l1)), some (.int (iI l2)), some (.int (iI l3)), some (.int (iI (l4 + 1))), some (.ref (86 + 1 * l4).toNat), some (.int (iI r7))]) Q_X10_best (k := 57) rfl (by decide) rfl rfl ?_
                  refine z_goto (tgt := 14) Q_X10_best (k := 58) rfl (by decide) ?_
                  exact y_fg (zsb_c rfl (zsb_c rfl (zsb_c rfl (zsb_c rfl (zsb_c rfl (zsb_n (zsb_n zsb_e))))))) (ih l2 l3 (l4 + 1) z2 z3 q9 h)
                · replace h := h.2 c
                  refine y_bipush Q_X10_best (k := 55) rfl (by decide) ?_
                  refine y_istore_n (L' := [some (.ref 0), some (.int (iI l1)), some (.int (iI l2)), some (.int (iI (-2))), some (.int (iI l4)), some (.ref (86 + 1 * l4).toNat), some (.int (iI r7))]) Q_X10_best (k := 56) rfl (by decide) rfl ?_
                  obtain ⟨q10, h⟩ := h
                  refine y_iinc (L' := [some (.ref 0), some (.int (iI l1)), some (.int (iI l2)), some (.int (iI (-2))), some (.int (iI (l4 + 1))), some (.ref (86 + 1 * l4).toNat), some (.int (iI r7))]) Q_X10_best (k := 57) rfl (by decide) rfl rfl ?_
                  refine z_goto (tgt := 14) Q_X10_best (k := 58) rfl (by decide) ?_
                  exact y_fg (zsb_c rfl (zsb_c rfl (zsb_c rfl (zsb_c rfl (zsb_c rfl (zsb_n (zsb_n zsb_e))))))) (ih l2 (-2) (l4 + 1) z2 ⟨by decide, by decide⟩ q10 h)
            · replace h := h.2 c
              refine z_iload Q_X10_best (k := 42) rfl rfl ?_
              refine y_istore_n (L' := [some (.ref 0), some (.int (iI l1)), some (.int (iI r7)), some (.int (iI l3)), some (.int (iI l4)), some (.ref (86 + 1 * l4).toNat), some (.int (iI r7))]) Q_X10_best (k := 43) rfl (by decide) rfl ?_
              refine z_aload Q_X10_best (k := 44) rfl rfl ?_
              refine q_getI (o := 86 + 1 * l4) (z := 1) Q_X10_best (k := 45) rfl F_X10_320 rfl (Int.toNat_of_nonneg o3.1.1) rfl o3.1.2.1 o3.1.2.2.1 ?_
              refine y_istore_n (L' := [some (.ref 0), some (.int (iI l1)), some (.int (iI r7)), some (.int (iI (V (86 + 1 * l4) 1))), some (.int (iI l4)), some (.ref (86 + 1 * l4).toNat), some (.int (iI r7))]) Q_X10_best (k := 46) rfl (by decide) rfl ?_
              refine z_goto (tgt := 116) Q_X10_best (k := 47) rfl (by decide) ?_
              obtain ⟨q11, h⟩ := h
              refine y_iinc (L' := [some (.ref 0), some (.int (iI l1)), some (.int (iI r7)), some (.int (iI (V (86 + 1 * l4) 1))), some (.int (iI (l4 + 1))), some (.ref (86 + 1 * l4).toNat), some (.int (iI r7))]) Q_X10_best (k := 57) rfl (by decide) rfl rfl ?_
              refine z_goto (tgt := 14) Q_X10_best (k := 58) rfl (by decide) ?_
              exact y_fg (zsb_c rfl (zsb_c rfl (zsb_c rfl (zsb_c rfl (zsb_c rfl (zsb_n (zsb_n zsb_e))))))) (ih r7 (V (86 + 1 * l4) 1) (l4 + 1) hz7 (hB.2.1 _ _) q11 h)
set_option maxHeartbeats 4000000 in
set_option maxRecDepth 20000 in
theorem w_X10_best {S : zS} {V : qV} {J : qJ} {Q : Int → Prop} {X : String → Prop} (d : Nat) (hB : qB S V) {a1 : Int} (z1 : zr a1) (h : W_X10_best a1 V Q X) : Z M_X10_best (d + 1) 1 6 0 [some (.ref 0), some (.int (iI a1)), none, none, none, none, none] [] S (qi V) (qj J) (qP_it S V J Q X) := by
  unfold W_X10_best at h
  refine z_aload_n Q_X10_best (k := 0) rfl rfl ?_
  refine z_iload_n Q_X10_best (k := 1) rfl rfl ?_
  refine q_callV1_rt Q_X10_best (k := 2) rfl rfl K_X10_findOf V_X10_findOf L_X10_237 (n_ hB.1 rfl) (k_0 hB.1) (Nat.le_of_ble_eq_true rfl) (Nat.le_of_ble_eq_true rfl) rfl (by decide) (by decide) (w_X10_findOf d hB z1 h) (fun E h => qX_it h) (fun r1 ho1 h => ?_)
  refine z_pop Q_X10_best (k := 3) rfl rfl ?_
  refine y_bipush Q_X10_best (k := 4) rfl (by decide) ?_
  refine y_istore_n (L' := [some (.ref 0), some (.int (iI a1)), some (.int (iI 17)), none, none, none, none]) Q_X10_best (k := 5) rfl (by decide) rfl ?_
  refine y_iconst Q_X10_best (k := 6) rfl ?_
  refine y_istore_n (L' := [some (.ref 0), some (.int (iI a1)), some (.int (iI 17)), some (.int (iI (-1))), none, none, none]) Q_X10_best (k := 7) rfl (by decide) rfl ?_
  refine y_iconst Q_X10_best (k := 8) rfl ?_
  refine y_istore (L' := [some (.ref 0), some (.int (iI a1)), some (.int (iI 17)), some (.int (iI (-1))), some (.int (iI 0)), none, none]) Q_X10_best (k := 9) rfl (by decide) rfl ?_
  refine y_fg (zsb_c rfl (zsb_c rfl (zsb_c rfl (zsb_c rfl (zsb_c rfl (zsb_n (zsb_n zsb_e))))))) (v_X10_best_14 d hB z1 (fun l2x12 l3x12 l4x12 zl2x12 zl3x12 zl4x12 h => ?_) 100000 17 (-1) 0 ⟨by decide, by decide⟩ ⟨by decide, by decide⟩ ⟨by decide, by decide⟩ h)
  refine z_iload_n Q_X10_best (k := 59) rfl rfl ?_
  exact y_iret Q_X10_best (k := 60) rfl rfl (qI_it zl3x12 h)
set_option maxHeartbeats 4000000 in
set_option maxRecDepth 20000 in
theorem v_X10_added_24 {S : zS} {V : qV} {J : qJ} {K : Int → Int → Int → Prop} {Q : Int → Prop} {X : String → Prop} {kc ks : Nat} (d : Nat) (hB : qB S V) {l2 : Int} (z2 : zr l2) {l3 : Int} (o3_ : qFi S l3) (hK : ∀ (l4 : Int) (l5 : Int) (l6 : Int), zr l4 → zr l5 → zr l6 → K l4 l5 l6 → Z M_X10_added (d + 1) kc ks 90 [some (.ref 0), none, some (.int (iI l2)), some (.ref l3.toNat), some (.int (iI l4)), some (.int (iI l5)), some (.int (iI l6)), none] [] S (qi V) (qj J) (qP_it S V J Q X)) : ∀ (f : Nat) (l4 : Int) (l5 : Int) (l6 : Int), zr l4 → zr l5 → zr l6 → lp_X10_added_24 l2 l3 V K f l4 l5 l6 → Z M_X10_added (d + 1) kc ks 24 [some (.ref 0), none, some (.int (iI l2)), some (.ref l3.toNat), some (.int (iI l4)), some (.int (iI l5)), some (.int (iI l6)), none] [] S (qi V) (qj J) (qP_it S V J Q X) := by
  intro f
  induction f with
  | zero =>
    intro l4 l5 l6 z4 z5 z6 h
    exact h.elim
  | succ f ih =>
    intro l4 l5 l6 z4 z5 z6 h
    rw [lp_X10_added_24] at h
    refine z_iload Q_X10_added (k := 14) rfl rfl ?_
    refine y_bipush Q_X10_added (k := 15) rfl (by decide) ?_
    refine y_icmp_ge 90 Q_X10_added (k := 16) rfl (by decide) z6 ⟨by decide, by decide⟩ (fun c => ?_) (fun c => ?_)
    · replace h := h.1 c
      exact y_fg (zsb_c rfl (zsb_n (zsb_c rfl (zsb_c rfl (zsb_c rfl (zsb_c rfl (zsb_c rfl (zsb_n zsb_e)))))))) (hK l4 l5 l6 z4 z5 z6 h)
    · replace h := h.2 c
      refine y_iconst Q_X10_added (k := 17) rfl ?_
      refine z_iload Q_X10_added (k := 18) rfl rfl ?_
      refine y_ishl Q_X10_added (k := 19) rfl ?_
      refine y_istore (L' := [some (.ref 0), none, some (.int (iI l2)), some (.ref l3.toNat), some (.int (iI l4)), some (.int (iI l5)), some (.int (iI l6)), some (.int (iI (zshl 1 l6)))]) Q_X10_added (k := 20) rfl (by decide) rfl ?_
      refine z_aload_n Q_X10_added (k := 21) rfl rfl ?_
      refine q_getI (o := l3) (z := 3) Q_X10_added (k := 22) rfl F_X10_229 rfl (Int.toNat_of_nonneg o3_.1.1) rfl o3_.1.2.1 o3_.1.2.2.1 ?_
      refine z_iload_n Q_X10_added (k := 23) rfl rfl ?_
      refine y_iconst Q_X10_added (k := 24) rfl ?_
      refine y_ixor Q_X10_added (k := 25) rfl ?_
      refine y_iand Q_X10_added (k := 26) rfl ?_
      refine z_iload Q_X10_added (k := 27) rfl rfl ?_
      refine y_iand Q_X10_added (k := 28) rfl ?_
      refine y_if_eq 84 Q_X10_added (k := 29) rfl (by decide) (zand_r _ _) (fun c => ?_) (fun c => ?_)
      · replace h := h.1 c
        obtain ⟨q3, h⟩ := h
        refine y_iinc (L' := [some (.ref 0), none, some (.int (iI l2)), some (.ref l3.toNat), some (.int (iI l4)), some (.int (iI l5)), some (.int (iI (l6 + 1))), some (.int (iI (zshl 1 l6)))]) Q_X10_added (k := 47) rfl (by decide) rfl rfl ?_
        refine z_goto (tgt := 24) Q_X10_added (k := 48) rfl (by decide) ?_
        exact y_fg (zsb_c rfl (zsb_n (zsb_c rfl (zsb_c rfl (zsb_c rfl (zsb_c rfl (zsb_c rfl (zsb_n zsb_e)))))))) (ih l4 l5 (l6 + 1) z4 z5 q3 h)
      · replace h := h.2 c
        refine z_aload_n Q_X10_added (k := 30) rfl rfl ?_
        refine z_getR (b := 12) Q_X10_added (k := 31) rfl F_X10_25 rfl (n_ hB.1 rfl) (k_0 hB.1) (r_0_3 hB.1) ?_
        refine z_iload_n Q_X10_added (k := 32) rfl rfl ?_
        refine z_iload Q_X10_added (k := 33) rfl rfl ?_
        refine y_ior Q_X10_added (k := 34) rfl ?_
        refine q_callV1_i Q_X10_added (k := 35) rfl rfl K_X8_havers V_X8_havers L_X10_328 (n_ hB.1 rfl) (k_12 hB.1) (Nat.le_of_ble_eq_true rfl) (Nat.le_of_ble_eq_true rfl) rfl (Nat.zero_le _) (Nat.zero_le _) (w_X8_havers d hB (zor_r _ _) h) (fun r4 hz4 h => ?_)
        refine z_iload Q_X10_added (k := 36) rfl rfl ?_
        refine y_icmp_ge 84 Q_X10_added (k := 37) rfl (by decide) hz4 z4 (fun c => ?_) (fun c => ?_)
        · replace h := h.1 c
          obtain ⟨q5, h⟩ := h
          refine y_iinc (L' := [some (.ref 0), none, some (.int (iI l2)), some (.ref l3.toNat), some (.int (iI l4)), some (.int (iI l5)), some (.int (iI (l6 + 1))), some (.int (iI (zshl 1 l6)))]) Q_X10_added (k := 47) rfl (by decide) rfl rfl ?_
          refine z_goto (tgt := 24) Q_X10_added (k := 48) rfl (by decide) ?_
          exact y_fg (zsb_c rfl (zsb_n (zsb_c rfl (zsb_c rfl (zsb_c rfl (zsb_c rfl (zsb_c rfl (zsb_n zsb_e)))))))) (ih l4 l5 (l6 + 1) z4 z5 q5 h)
        · replace h := h.2 c
          refine z_aload_n Q_X10_added (k := 38) rfl rfl ?_
          refine z_getR (b := 12) Q_X10_added (k := 39) rfl F_X10_25 rfl (n_ hB.1 rfl) (k_0 hB.1) (r_0_3 hB.1) ?_
          refine z_iload_n Q_X10_added (k := 40) rfl rfl ?_
          refine z_iload Q_X10_added (k := 41) rfl rfl ?_
          refine y_ior Q_X10_added (k := 42) rfl ?_
          refine q_callV1_i Q_X10_added (k := 43) rfl rfl K_X8_havers V_X8_havers L_X10_328 (n_ hB.1 rfl) (k_12 hB.1) (Nat.le_of_ble_eq_true rfl) (Nat.le_of_ble_eq_true rfl) rfl (Nat.zero_le _) (Nat.zero_le _) (w_X8_havers d hB (zor_r _ _) h) (fun r6 hz6 h => ?_)
          refine y_istore (L' := [some (.ref 0), none, some (.int (iI l2)), some (.ref l3.toNat), some (.int (iI r6)), some (.int (iI l5)), some (.int (iI l6)), some (.int (iI (zshl 1 l6)))]) Q_X10_added (k := 44) rfl (by decide) rfl ?_
          refine z_iload Q_X10_added (k := 45) rfl rfl ?_
          refine y_istore (L' := [some (.ref 0), none, some (.int (iI l2)), some (.ref l3.toNat), some (.int (iI r6)), some (.int (iI l6)), some (.int (iI l6)), some (.int (iI (zshl 1 l6)))]) Q_X10_added (k := 46) rfl (by decide) rfl ?_
          obtain ⟨q7, h⟩ := h
          refine y_iinc (L' := [some (.ref 0), none, some (.int (iI l2)), some (.ref l3.toNat), some (.int (iI r6)), some (.int (iI l6)), some (.int (iI (l6 + 1))), some (.int (iI (zshl 1 l6)))]) Q_X10_added (k := 47) rfl (by decide) rfl rfl ?_
          refine z_goto (tgt := 24) Q_X10_added (k := 48) rfl (by decide) ?_
          exact y_fg (zsb_c rfl (zsb_n (zsb_c rfl (zsb_c rfl (zsb_c rfl (zsb_c rfl (zsb_c rfl (zsb_n zsb_e)))))))) (ih r6 l6 (l6 + 1) hz6 z6 q7 h)
set_option maxHeartbeats 4000000 in
set_option maxRecDepth 20000 in
theorem w_X10_added {S : zS} {V : qV} {J : qJ} {Q : Int → Prop} {X : String → Prop} (d : Nat) (hB : qB S V) {a1 : Int} (z1 : zr a1) {a2 : Int} (z2 : zr a2) (h : W_X10_added a1 a2 V Q X) : Z M_X10_added (d + 1) 2 12 0 [some (.ref 0), some (.int (iI a1)), some (.int (iI a2)), none, none, none, none, none] [] S (qi V) (qj J) (qP_it S V J Q X) := by
  unfold W_X10_added at h
  refine z_aload_n Q_X10_added (k := 0) rfl rfl ?_
  refine z_iload_n Q_X10_added (k := 1) rfl rfl ?_
  refine q_callV1_rt Q_X10_added (k := 2) rfl rfl K_X10_findOf V_X10_findOf L_X10_237 (n_ hB.1 rfl) (k_0 hB.1) (Nat.le_of_ble_eq_true rfl) (Nat.le_of_ble_eq_true rfl) rfl (by decide) (by decide) (w_X10_findOf d hB z1 h) (fun E h => qX_it h) (fun r1 ho1 h => ?_)
  refine y_astore_n (L' := [some (.ref 0), some (.int (iI a1)), some (.int (iI a2)), some (.ref r1.toNat), none, none, none, none]) Q_X10_added (k := 3) rfl (by decide) rfl ?_
  refine z_iload_n Q_X10_added (k := 4) rfl rfl ?_
  refine y_iconst Q_X10_added (k := 5) rfl ?_
  refine y_sipush Q_X10_added (k := 6) rfl (by decide) ?_
  refine q_callS3_ut Q_X10_added (k := 7) rfl rfl K_X10_testRange S_X10_testRange L_X10_134 (Nat.le_of_ble_eq_true rfl) (Nat.le_of_ble_eq_true rfl) rfl (by decide) (by decide) (w_X10_testRange d hB z2 ⟨by decide, by decide⟩ ⟨by decide, by decide⟩ h) (fun E h => qX_it h) (fun h => ?_)
  refine y_bipush Q_X10_added (k := 8) rfl (by decide) ?_
  refine y_istore (L' := [some (.ref 0), some (.int (iI a1)), some (.int (iI a2)), some (.ref r1.toNat), some (.int (iI 17)), none, none, none]) Q_X10_added (k := 9) rfl (by decide) rfl ?_
  refine y_iconst Q_X10_added (k := 10) rfl ?_
  refine y_istore (L' := [some (.ref 0), some (.int (iI a1)), some (.int (iI a2)), some (.ref r1.toNat), some (.int (iI 17)), some (.int (iI (-1))), none, none]) Q_X10_added (k := 11) rfl (by decide) rfl ?_
  refine y_iconst Q_X10_added (k := 12) rfl ?_
  refine y_istore (L' := [some (.ref 0), some (.int (iI a1)), some (.int (iI a2)), some (.ref r1.toNat), some (.int (iI 17)), some (.int (iI (-1))), some (.int (iI 0)), none]) Q_X10_added (k := 13) rfl (by decide) rfl ?_
  refine y_fg (zsb_c rfl (zsb_n (zsb_c rfl (zsb_c rfl (zsb_c rfl (zsb_c rfl (zsb_c rfl (zsb_n zsb_e)))))))) (v_X10_added_24 d hB z2 ho1 (fun l4x8 l5x8 l6x8 zl4x8 zl5x8 zl6x8 h => ?_) 100000 17 (-1) 0 ⟨by decide, by decide⟩ ⟨by decide, by decide⟩ ⟨by decide, by decide⟩ h)
  refine z_iload Q_X10_added (k := 49) rfl rfl ?_
  exact y_iret Q_X10_added (k := 50) rfl rfl (qI_it zl5x8 h)
set_option maxHeartbeats 4000000 in
set_option maxRecDepth 20000 in
theorem w_X10_cry {S : zS} {V : qV} {J : qJ} {Q : Int → qV → Prop} {X : String → qV → Prop} (d : Nat) (hB : qB S V) {a1 : Int} (z1 : zr a1) (h : W_X10_cry a1 V Q X) : Z M_X10_cry (d + 1) 1 6 0 [some (.ref 0), some (.int (iI a1)), none] [] S (qi V) (qj J) (qP_iVt S J Q X) := by
  unfold W_X10_cry at h
  refine z_aload_n Q_X10_cry (k := 0) rfl rfl ?_
  refine z_iload_n Q_X10_cry (k := 1) rfl rfl ?_
  refine q_callV1_rt Q_X10_cry (k := 2) rfl rfl K_X10_findOf V_X10_findOf L_X10_237 (n_ hB.1 rfl) (k_0 hB.1) (Nat.le_of_ble_eq_true rfl) (Nat.le_of_ble_eq_true rfl) rfl (by decide) (by decide) (w_X10_findOf d hB z1 h) (fun E h => qX_iVt hB h) (fun r1 ho1 h => ?_)
  refine y_astore_n (L' := [some (.ref 0), some (.int (iI a1)), some (.ref r1.toNat)]) Q_X10_cry (k := 3) rfl (by decide) rfl ?_
  refine z_aload_n Q_X10_cry (k := 4) rfl rfl ?_
  refine q_getI (o := r1) (z := 7) Q_X10_cry (k := 5) rfl F_X10_333 rfl (Int.toNat_of_nonneg ho1.1.1) rfl ho1.1.2.1 ho1.1.2.2.1 ?_
  refine z_aload_n Q_X10_cry (k := 6) rfl rfl ?_
  refine z_getR (b := 12) Q_X10_cry (k := 7) rfl F_X10_25 rfl (n_ hB.1 rfl) (k_0 hB.1) (r_0_3 hB.1) ?_
  refine q_getI (o := 12) (z := 4) Q_X10_cry (k := 8) rfl F_X10_211 rfl rfl rfl (n_ hB.1 rfl) (k_12 hB.1) ?_
  refine y_icmp_ne 22 Q_X10_cry (k := 9) rfl (by decide) (hB.2.1 _ _) (hB.2.1 _ _) (fun c => ?_) (fun c => ?_)
  · replace h := h.2 c
    refine z_aload_n Q_X10_cry (k := 12) rfl rfl ?_
    refine z_aload_n Q_X10_cry (k := 13) rfl rfl ?_
    refine z_getR (b := 12) Q_X10_cry (k := 14) rfl F_X10_25 rfl (n_ hB.1 rfl) (k_0 hB.1) (r_0_3 hB.1) ?_
    refine q_getI (o := 12) (z := 4) Q_X10_cry (k := 15) rfl F_X10_211 rfl rfl rfl (n_ hB.1 rfl) (k_12 hB.1) ?_
    refine q_putI (o := r1) (z := 7) Q_X10_cry (k := 16) rfl F_X10_333 rfl (Int.toNat_of_nonneg ho1.1.1) rfl ho1.1.2.1 ho1.1.2.2.1 ?_
    have hB2 := qB.u (a := r1) (j := 7) (x := V 12 4) hB (hB.2.1 _ _) (Or.inl ho1.1.2.2.2)
    refine z_aload_n Q_X10_cry (k := 17) rfl rfl ?_
    refine z_dup Q_X10_cry (k := 18) rfl rfl ?_
    refine q_getI (o := r1) (z := 6) Q_X10_cry (k := 19) rfl F_X10_336 rfl (Int.toNat_of_nonneg ho1.1.1) rfl ho1.1.2.1 ho1.1.2.2.1 ?_
    refine y_iconst Q_X10_cry (k := 20) rfl ?_
    obtain ⟨q3, h⟩ := h
    refine y_iadd Q_X10_cry (k := 21) rfl ?_
    refine q_putI (o := r1) (z := 6) Q_X10_cry (k := 22) rfl F_X10_336 rfl (Int.toNat_of_nonneg ho1.1.1) rfl ho1.1.2.1 ho1.1.2.2.1 ?_
    have hB4 := qB.u (a := r1) (j := 6) (x := ((qu V r1 7 (V 12 4)) r1 6) + 1) hB2 q3 (Or.inl ho1.1.2.2.2)
    refine y_iconst Q_X10_cry (k := 23) rfl ?_
    exact y_iret Q_X10_cry (k := 24) rfl rfl (qI_iVt hB4 ⟨by decide, by decide⟩ h)
  · replace h := h.1 c
    refine y_iconst Q_X10_cry (k := 10) rfl ?_
    exact y_iret Q_X10_cry (k := 11) rfl rfl (qI_iVt hB ⟨by decide, by decide⟩ h)
set_option maxHeartbeats 4000000 in
set_option maxRecDepth 20000 in
theorem w_X10_dueByVerdict {S : zS} {V : qV} {J : qJ} {Q : Int → Prop} {X : String → Prop} (d : Nat) (hB : qB S V) {a1 : Int} (z1 : zr a1) (h : W_X10_dueByVerdict a1 V Q X) : Z M_X10_dueByVerdict (d + 1) 1 6 0 [some (.ref 0), some (.int (iI a1))] [] S (qi V) (qj J) (qP_it S V J Q X) := by
  unfold W_X10_dueByVerdict at h
  refine y_iconst Q_X10_dueByVerdict (k := 0) rfl ?_
  refine z_aload_n Q_X10_dueByVerdict (k := 1) rfl rfl ?_
  refine z_getR (b := 155) Q_X10_dueByVerdict (k := 2) rfl F_X10_43 rfl (n_ hB.1 rfl) (k_0 hB.1) (r_0_7 hB.1) ?_
  refine q_getI (o := 155) (z := 2) Q_X10_dueByVerdict (k := 3) rfl F_X10_272 rfl rfl rfl (n_ hB.1 rfl) (k_155 hB.1) ?_
  refine z_aload_n Q_X10_dueByVerdict (k := 4) rfl rfl ?_
  refine z_iload_n Q_X10_dueByVerdict (k := 5) rfl rfl ?_
  refine q_callV1_rt Q_X10_dueByVerdict (k := 6) rfl rfl K_X10_findOf V_X10_findOf L_X10_237 (n_ hB.1 rfl) (k_0 hB.1) (Nat.le_of_ble_eq_true rfl) (Nat.le_of_ble_eq_true rfl) rfl (by decide) (by decide) (w_X10_findOf d hB z1 h) (fun E h => qX_it h) (fun r1 ho1 h => ?_)
  refine q_getI (o := r1) (z := 6) Q_X10_dueByVerdict (k := 7) rfl F_X10_336 rfl (Int.toNat_of_nonneg ho1.1.1) rfl ho1.1.2.1 ho1.1.2.2.1 ?_
  obtain ⟨q2, h⟩ := h
  refine y_isub Q_X10_dueByVerdict (k := 8) rfl ?_
  refine y_max Q_X10_dueByVerdict (k := 9) rfl L_X10_342 G_max (Nat.le_of_ble_eq_true rfl) ⟨by decide, by decide⟩ q2 ?_
  exact y_iret Q_X10_dueByVerdict (k := 10) rfl rfl (qI_it (q_mx ⟨by decide, by decide⟩ q2) h)
set_option maxHeartbeats 4000000 in
set_option maxRecDepth 20000 in
theorem w_X10_due {S : zS} {V : qV} {J : qJ} {Q : Int → qV → qJ → Prop} {X : String → qV → qJ → Prop} (d : Nat) (hB : qB S V) {a1 : Int} (z1 : zr a1) {a2 : Int} (z2 : zr a2) (h : W_X10_due a1 a2 V J Q X) : Z M_X10_due (d + 6) 3 18 0 [some (.ref 0), some (.int (iI a1)), some (.int (iI a2))] [] S (qi V) (qj J) (qP_iVJt S Q X) := by
  unfold W_X10_due at h
  refine z_aload_n Q_X10_due (k := 0) rfl rfl ?_
  refine z_iload_n Q_X10_due (k := 1) rfl rfl ?_
  refine z_iload_n Q_X10_due (k := 2) rfl rfl ?_
  refine q_callV2_uVJt Q_X10_due (k := 3) rfl rfl K_X10_decideFind V_X10_decideFind L_X10_277 (n_ hB.1 rfl) (k_0 hB.1) (Nat.le_of_ble_eq_true rfl) (Nat.le_of_ble_eq_true rfl) rfl (by decide) (by decide) (w_X10_decideFind d hB z1 z2 h) (fun E V1 J1 hB1 h => qX_iVJt hB1 h) (fun V1 J1 hB1 h => ?_)
  refine z_aload_n Q_X10_due (k := 4) rfl rfl ?_
  refine z_iload_n Q_X10_due (k := 5) rfl rfl ?_
  refine q_callV1_it Q_X10_due (k := 6) rfl rfl K_X10_dueByVerdict V_X10_dueByVerdict L_X10_339 (n_ hB1.1 rfl) (k_0 hB1.1) (Nat.le_of_ble_eq_true rfl) (Nat.le_of_ble_eq_true rfl) rfl (by decide) (by decide) (w_X10_dueByVerdict (d + 4) hB1 z1 h) (fun E h => qX_iVJt hB1 h) (fun r2 hz2 h => ?_)
  exact y_iret Q_X10_due (k := 7) rfl rfl (qI_iVJt hB1 hz2 h)
set_option maxHeartbeats 4000000 in
set_option maxRecDepth 20000 in
theorem w_X10_left {S : zS} {V : qV} {J : qJ} {Q : Int → Prop} {X : String → Prop} (d : Nat) (hB : qB S V) {a1 : Int} (z1 : zr a1) {a2 : Int} (z2 : zr a2) (h : W_X10_left a1 a2 V Q X) : Z M_X10_left (d + 1) 2 12 0 [some (.ref 0), some (.int (iI a1)), some (.int (iI a2)), none] [] S (qi V) (qj J) (qP_it S V J Q X) := by
  unfold W_X10_left at h
  refine z_aload_n Q_X10_left (k := 0) rfl rfl ?_
  refine z_iload_n Q_X10_left (k := 1) rfl rfl ?_
  refine q_callV1_rt Q_X10_left (k := 2) rfl rfl K_X10_findOf V_X10_findOf L_X10_237 (n_ hB.1 rfl) (k_0 hB.1) (Nat.le_of_ble_eq_true rfl) (Nat.le_of_ble_eq_true rfl) rfl (by decide) (by decide) (w_X10_findOf d hB z1 h) (fun E h => qX_it h) (fun r1 ho1 h => ?_)
  refine y_astore_n (L' := [some (.ref 0), some (.int (iI a1)), some (.int (iI a2)), some (.ref r1.toNat)]) Q_X10_left (k := 3) rfl (by decide) rfl ?_
  refine z_iload_n Q_X10_left (k := 4) rfl rfl ?_
  refine z_aload_n Q_X10_left (k := 5) rfl rfl ?_
  refine q_getI (o := r1) (z := 5) Q_X10_left (k := 6) rfl F_X10_348 rfl (Int.toNat_of_nonneg ho1.1.1) rfl ho1.1.2.1 ho1.1.2.2.1 ?_
  refine y_sipush Q_X10_left (k := 7) rfl (by decide) ?_
  refine q_callS3_ut Q_X10_left (k := 8) rfl rfl K_X10_testRange S_X10_testRange L_X10_134 (Nat.le_of_ble_eq_true rfl) (Nat.le_of_ble_eq_true rfl) rfl (by decide) (by decide) (w_X10_testRange d hB z2 (hB.2.1 _ _) ⟨by decide, by decide⟩ h) (fun E h => qX_it h) (fun h => ?_)
  refine z_aload_n Q_X10_left (k := 9) rfl rfl ?_
  refine z_iload_n Q_X10_left (k := 10) rfl rfl ?_
  refine q_callV1_i Q_X10_left (k := 11) rfl rfl K_X1_leftOn V_X1_leftOn L_X10_351 ho1.1.2.1 ho1.1.2.2.1 (Nat.le_of_ble_eq_true rfl) (Nat.le_of_ble_eq_true rfl) rfl (Nat.zero_le _) (Nat.zero_le _) (w_X1_leftOn d hB ho1 z2 h) (fun r3 hz3 h => ?_)
  exact y_iret Q_X10_left (k := 12) rfl rfl (qI_it hz3 h)
set_option maxHeartbeats 4000000 in
set_option maxRecDepth 20000 in
theorem w_X10_gone {S : zS} {V : qV} {J : qJ} {Q : Int → Prop} {X : String → Prop} (d : Nat) (hB : qB S V) {a1 : Int} (z1 : zr a1) (h : W_X10_gone a1 V Q X) : Z M_X10_gone (d + 1) 1 6 0 [some (.ref 0), some (.int (iI a1)), none, none] [] S (qi V) (qj J) (qP_it S V J Q X) := by
  unfold W_X10_gone at h
  refine z_aload_n Q_X10_gone (k := 0) rfl rfl ?_
  refine z_iload_n Q_X10_gone (k := 1) rfl rfl ?_
  refine q_callV1_rt Q_X10_gone (k := 2) rfl rfl K_X10_findOf V_X10_findOf L_X10_237 (n_ hB.1 rfl) (k_0 hB.1) (Nat.le_of_ble_eq_true rfl) (Nat.le_of_ble_eq_true rfl) rfl (by decide) (by decide) (w_X10_findOf d hB z1 h) (fun E h => qX_it h) (fun r1 ho1 h => ?_)
  refine y_astore_n (L' := [some (.ref 0), some (.int (iI a1)), some (.ref r1.toNat), none]) Q_X10_gone (k := 3) rfl (by decide) rfl ?_
  refine z_aload_n Q_X10_gone (k := 4) rfl rfl ?_
  refine q_getI (o := r1) (z := 4) Q_X10_gone (k := 5) rfl F_X10_232 rfl (Int.toNat_of_nonneg ho1.1.1) rfl ho1.1.2.1 ho1.1.2.2.1 ?_
  refine y_if_gt 15 Q_X10_gone (k := 6) rfl (by decide) (hB.2.1 _ _) (fun c => ?_) (fun c => ?_)
  · replace h := h.1 c
    refine z_aload_n Q_X10_gone (k := 9) rfl rfl ?_
    refine q_getI (o := r1) (z := 5) Q_X10_gone (k := 10) rfl F_X10_348 rfl (Int.toNat_of_nonneg ho1.1.1) rfl ho1.1.2.1 ho1.1.2.2.1 ?_
    refine z_aload_n Q_X10_gone (k := 11) rfl rfl ?_
    refine q_getI (o := r1) (z := 2) Q_X10_gone (k := 12) rfl F_X10_354 rfl (Int.toNat_of_nonneg ho1.1.1) rfl ho1.1.2.1 ho1.1.2.2.1 ?_
    refine z_aload_n Q_X10_gone (k := 13) rfl rfl ?_
    refine q_getI (o := r1) (z := 4) Q_X10_gone (k := 14) rfl F_X10_232 rfl (Int.toNat_of_nonneg ho1.1.1) rfl ho1.1.2.1 ho1.1.2.2.1 ?_
    obtain ⟨q2, h⟩ := h
    refine y_iadd Q_X10_gone (k := 15) rfl ?_
    refine y_iconst Q_X10_gone (k := 16) rfl ?_
    obtain ⟨q3, h⟩ := h
    refine y_isub Q_X10_gone (k := 17) rfl ?_
    refine z_aload_n Q_X10_gone (k := 18) rfl rfl ?_
    refine q_getI (o := r1) (z := 4) Q_X10_gone (k := 19) rfl F_X10_232 rfl (Int.toNat_of_nonneg ho1.1.1) rfl ho1.1.2.1 ho1.1.2.2.1 ?_
    obtain ⟨q4, h⟩ := h
    refine y_idiv Q_X10_gone (k := 20) rfl q3 q4 (hB.2.1 _ _) ?_
    obtain ⟨q5, h⟩ := h
    refine y_iadd Q_X10_gone (k := 21) rfl ?_
    refine y_istore_n (L' := [some (.ref 0), some (.int (iI a1)), some (.ref r1.toNat), some (.int (iI ((V r1 5) + ((((V r1 2) + (V r1 4)) - 1).tdiv (V r1 4)))))]) Q_X10_gone (k := 22) rfl (by decide) rfl ?_
    refine z_iload_n Q_X10_gone (k := 23) rfl rfl ?_
    refine y_sipush Q_X10_gone (k := 24) rfl (by decide) ?_
    refine y_icmp_gt 48 Q_X10_gone (k := 25) rfl (by decide) q5 ⟨by decide, by decide⟩ (fun c => ?_) (fun c => ?_)
    · replace h := h.1 c
      refine y_iconst Q_X10_gone (k := 28) rfl ?_
      exact y_iret Q_X10_gone (k := 29) rfl rfl (qI_it ⟨by decide, by decide⟩ h)
    · replace h := h.2 c
      refine z_iload_n Q_X10_gone (k := 26) rfl rfl ?_
      refine z_goto (tgt := 49) Q_X10_gone (k := 27) rfl (by decide) ?_
      exact y_iret Q_X10_gone (k := 29) rfl rfl (qI_it q5 h)
  · replace h := h.2 c
    refine y_iconst Q_X10_gone (k := 7) rfl ?_
    exact y_iret Q_X10_gone (k := 8) rfl rfl (qI_it ⟨by decide, by decide⟩ h)
set_option maxHeartbeats 4000000 in
set_option maxRecDepth 20000 in
theorem w_X10_late {S : zS} {V : qV} {J : qJ} {Q : Int → qV → qJ → Prop} {X : String → qV → qJ → Prop} (d : Nat) (hB : qB S V) {a1 : Int} (z1 : zr a1) {a2 : Int} (z2 : zr a2) (h : W_X10_late a1 a2 V J Q X) : Z M_X10_late (d + 6) 4 24 0 [some (.ref 0), some (.int (iI a1)), some (.int (iI a2)), none, none, none] [] S (qi V) (qj J) (qP_iVJt S Q X) := by
  unfold W_X10_late at h
  refine z_aload_n Q_X10_late (k := 0) rfl rfl ?_
  refine z_iload_n Q_X10_late (k := 1) rfl rfl ?_
  refine z_iload_n Q_X10_late (k := 2) rfl rfl ?_
  refine q_callV2_uVJt Q_X10_late (k := 3) rfl rfl K_X10_decideFind V_X10_decideFind L_X10_277 (n_ hB.1 rfl) (k_0 hB.1) (Nat.le_of_ble_eq_true rfl) (Nat.le_of_ble_eq_true rfl) rfl (by decide) (by decide) (w_X10_decideFind d hB z1 z2 h) (fun E V1 J1 hB1 h => qX_iVJt hB1 h) (fun V1 J1 hB1 h => ?_)
  refine z_aload_n Q_X10_late (k := 4) rfl rfl ?_
  refine z_getR (b := 155) Q_X10_late (k := 5) rfl F_X10_43 rfl (n_ hB1.1 rfl) (k_0 hB1.1) (r_0_7 hB1.1) ?_
  refine q_callV0_i Q_X10_late (k := 6) rfl rfl K_X9_whoBits V_X9_whoBits L_X10_280 (n_ hB1.1 rfl) (k_155 hB1.1) (Nat.le_of_ble_eq_true rfl) (Nat.le_of_ble_eq_true rfl) rfl (Nat.zero_le _) (Nat.zero_le _) (w_X9_whoBits (d + 5) hB1 (qVe_155 hB1.1) h) (fun r2 hz2 h => ?_)
  refine y_istore_n (L' := [some (.ref 0), some (.int (iI a1)), some (.int (iI a2)), some (.int (iI r2)), none, none]) Q_X10_late (k := 7) rfl (by decide) rfl ?_
  refine z_aload_n Q_X10_late (k := 8) rfl rfl ?_
  refine z_iload_n Q_X10_late (k := 9) rfl rfl ?_
  refine q_callV1_rt Q_X10_late (k := 10) rfl rfl K_X10_findOf V_X10_findOf L_X10_237 (n_ hB1.1 rfl) (k_0 hB1.1) (Nat.le_of_ble_eq_true rfl) (Nat.le_of_ble_eq_true rfl) rfl (by decide) (by decide) (w_X10_findOf (d + 5) hB1 z1 h) (fun E h => qX_iVJt hB1 h) (fun r3 ho3 h => ?_)
  refine z_aload_n Q_X10_late (k := 11) rfl rfl ?_
  refine z_getR (b := 12) Q_X10_late (k := 12) rfl F_X10_25 rfl (n_ hB1.1 rfl) (k_0 hB1.1) (r_0_3 hB1.1) ?_
  refine q_getI (o := 12) (z := 4) Q_X10_late (k := 13) rfl F_X10_211 rfl rfl rfl (n_ hB1.1 rfl) (k_12 hB1.1) ?_
  refine q_callV1_i Q_X10_late (k := 14) rfl rfl K_X1_leftOn V_X1_leftOn L_X10_351 ho3.1.2.1 ho3.1.2.2.1 (Nat.le_of_ble_eq_true rfl) (Nat.le_of_ble_eq_true rfl) rfl (Nat.zero_le _) (Nat.zero_le _) (w_X1_leftOn (d + 5) hB1 ho3 (hB1.2.1 _ _) h) (fun r4 hz4 h => ?_)
  refine y_istore (L' := [some (.ref 0), some (.int (iI a1)), some (.int (iI a2)), some (.int (iI r2)), some (.int (iI r4)), none]) Q_X10_late (k := 15) rfl (by decide) rfl ?_
  refine z_iload_n Q_X10_late (k := 16) rfl rfl ?_
  refine y_iconst Q_X10_late (k := 17) rfl ?_
  refine y_icmp_ne 39 Q_X10_late (k := 18) rfl (by decide) hz2 ⟨by decide, by decide⟩ (fun c => ?_) (fun c => ?_)
  · replace h := h.2 c
    refine z_iload_n Q_X10_late (k := 21) rfl rfl ?_
    refine y_iconst Q_X10_late (k := 22) rfl ?_
    refine y_iand Q_X10_late (k := 23) rfl ?_
    refine y_if_eq 49 Q_X10_late (k := 24) rfl (by decide) (zand_r _ _) (fun c => ?_) (fun c => ?_)
    · replace h := h.1 c
      refine y_iconst Q_X10_late (k := 27) rfl ?_
      refine y_istore (L' := [some (.ref 0), some (.int (iI a1)), some (.int (iI a2)), some (.int (iI r2)), some (.int (iI r4)), some (.int (iI 0))]) Q_X10_late (k := 28) rfl (by decide) rfl ?_
      refine z_iload Q_X10_late (k := 29) rfl rfl ?_
      refine y_if_ne 65 Q_X10_late (k := 30) rfl (by decide) ⟨by decide, by decide⟩ (fun q => absurd q (by decide)) (fun _ => ?_)
      refine z_aload_n Q_X10_late (k := 31) rfl rfl ?_
      refine z_iload_n Q_X10_late (k := 32) rfl rfl ?_
      refine q_callV1_it Q_X10_late (k := 33) rfl rfl K_X10_dueByVerdict V_X10_dueByVerdict L_X10_339 (n_ hB1.1 rfl) (k_0 hB1.1) (Nat.le_of_ble_eq_true rfl) (Nat.le_of_ble_eq_true rfl) rfl (by decide) (by decide) (w_X10_dueByVerdict (d + 4) hB1 z1 h) (fun E h => qX_iVJt hB1 h) (fun r5 hz5 h => ?_)
      refine y_if_le 72 Q_X10_late (k := 34) rfl (by decide) hz5 (fun c => ?_) (fun c => ?_)
      · replace h := h.1 c
        refine y_iconst Q_X10_late (k := 39) rfl ?_
        exact y_iret Q_X10_late (k := 40) rfl rfl (qI_iVJt hB1 ⟨by decide, by decide⟩ h)
      · replace h := h.2 c
        refine z_iload Q_X10_late (k := 35) rfl rfl ?_
        refine y_iconst Q_X10_late (k := 36) rfl ?_
        refine y_idiv Q_X10_late (k := 37) rfl hz4 (by decide) ⟨by decide, by decide⟩ ?_
        refine z_goto (tgt := 73) Q_X10_late (k := 38) rfl (by decide) ?_
        exact y_iret Q_X10_late (k := 40) rfl rfl (qI_iVJt hB1 (q_tdiv hz4 (by decide)) h)
    · replace h := h.2 c
      refine y_iconst Q_X10_late (k := 25) rfl ?_
      refine z_goto (tgt := 50) Q_X10_late (k := 26) rfl (by decide) ?_
      refine y_istore (L' := [some (.ref 0), some (.int (iI a1)), some (.int (iI a2)), some (.int (iI r2)), some (.int (iI r4)), some (.int (iI 1))]) Q_X10_late (k := 28) rfl (by decide) rfl ?_
      refine z_iload Q_X10_late (k := 29) rfl rfl ?_
      refine y_if_ne 65 Q_X10_late (k := 30) rfl (by decide) ⟨by decide, by decide⟩ (fun _ => ?_) (fun q => absurd q (by decide))
      refine z_iload Q_X10_late (k := 35) rfl rfl ?_
      refine y_iconst Q_X10_late (k := 36) rfl ?_
      refine y_idiv Q_X10_late (k := 37) rfl hz4 (by decide) ⟨by decide, by decide⟩ ?_
      refine z_goto (tgt := 73) Q_X10_late (k := 38) rfl (by decide) ?_
      exact y_iret Q_X10_late (k := 40) rfl rfl (qI_iVJt hB1 (q_tdiv hz4 (by decide)) h)
  · replace h := h.1 c
    refine z_iload Q_X10_late (k := 19) rfl rfl ?_
    exact y_iret Q_X10_late (k := 20) rfl rfl (qI_iVJt hB1 hz4 h)
set_option maxHeartbeats 4000000 in
set_option maxRecDepth 20000 in
theorem w_X10_pass {S : zS} {V : qV} {J : qJ} {Q : Int → qV → Prop} {X : String → qV → Prop} (d : Nat) (hB : qB S V) {a1 : Int} (z1 : zr a1) {a2 : Int} (z2 : zr a2) {a3 : Int} (z3 : zr a3) {a4 : Int} (z4 : zr a4) (h : W_X10_pass a1 a2 a3 a4 V Q X) : Z M_X10_pass (d + 2) 4 24 0 [some (.ref 0), some (.int (iI a1)), some (.int (iI a2)), some (.int (iI a3)), some (.int (iI a4)), none] [] S (qi V) (qj J) (qP_iVt S J Q X) := by
  unfold W_X10_pass at h
  refine z_aload_n Q_X10_pass (k := 0) rfl rfl ?_
  refine z_iload_n Q_X10_pass (k := 1) rfl rfl ?_
  refine q_callV1_rt Q_X10_pass (k := 2) rfl rfl K_X10_findOf V_X10_findOf L_X10_237 (n_ hB.1 rfl) (k_0 hB.1) (Nat.le_of_ble_eq_true rfl) (Nat.le_of_ble_eq_true rfl) rfl (by decide) (by decide) (w_X10_findOf (d + 1) hB z1 h) (fun E h => qX_iVt hB h) (fun r1 ho1 h => ?_)
  refine y_astore (L' := [some (.ref 0), some (.int (iI a1)), some (.int (iI a2)), some (.int (iI a3)), some (.int (iI a4)), some (.ref r1.toNat)]) Q_X10_pass (k := 3) rfl (by decide) rfl ?_
  refine z_aload_n Q_X10_pass (k := 4) rfl rfl ?_
  refine z_iload_n Q_X10_pass (k := 5) rfl rfl ?_
  refine q_callV1_rt Q_X10_pass (k := 6) rfl rfl K_X10_personOf V_X10_personOf L_X10_193 (n_ hB.1 rfl) (k_0 hB.1) (Nat.le_of_ble_eq_true rfl) (Nat.le_of_ble_eq_true rfl) rfl (by decide) (by decide) (w_X10_personOf (d + 1) hB z2 h) (fun E h => qX_iVt hB h) (fun r2 ho2 h => ?_)
  refine z_pop Q_X10_pass (k := 7) rfl rfl ?_
  refine z_aload_n Q_X10_pass (k := 8) rfl rfl ?_
  refine z_iload_n Q_X10_pass (k := 9) rfl rfl ?_
  refine q_callV1_rt Q_X10_pass (k := 10) rfl rfl K_X10_personOf V_X10_personOf L_X10_193 (n_ hB.1 rfl) (k_0 hB.1) (Nat.le_of_ble_eq_true rfl) (Nat.le_of_ble_eq_true rfl) rfl (by decide) (by decide) (w_X10_personOf (d + 1) hB z3 h) (fun E h => qX_iVt hB h) (fun r3 ho3 h => ?_)
  refine z_pop Q_X10_pass (k := 11) rfl rfl ?_
  refine z_iload Q_X10_pass (k := 12) rfl rfl ?_
  refine y_iconst Q_X10_pass (k := 13) rfl ?_
  refine y_sipush Q_X10_pass (k := 14) rfl (by decide) ?_
  refine q_callS3_ut Q_X10_pass (k := 15) rfl rfl K_X10_testRange S_X10_testRange L_X10_134 (Nat.le_of_ble_eq_true rfl) (Nat.le_of_ble_eq_true rfl) rfl (by decide) (by decide) (w_X10_testRange (d + 1) hB z4 ⟨by decide, by decide⟩ ⟨by decide, by decide⟩ h) (fun E h => qX_iVt hB h) (fun h => ?_)
  refine z_aload_n Q_X10_pass (k := 16) rfl rfl ?_
  refine z_getR (b := 12) Q_X10_pass (k := 17) rfl F_X10_25 rfl (n_ hB.1 rfl) (k_0 hB.1) (r_0_3 hB.1) ?_
  refine q_getI (o := 12) (z := 14) Q_X10_pass (k := 18) rfl F_X10_357 rfl rfl rfl (n_ hB.1 rfl) (k_12 hB.1) ?_
  refine y_bipush Q_X10_pass (k := 19) rfl (by decide) ?_
  refine y_icmp_lt 42 Q_X10_pass (k := 20) rfl (by decide) (hB.2.1 _ _) ⟨by decide, by decide⟩ (fun c => ?_) (fun c => ?_)
  · replace h := h.1 c
    refine z_iload_n Q_X10_pass (k := 23) rfl rfl ?_
    refine z_iload_n Q_X10_pass (k := 24) rfl rfl ?_
    refine y_icmp_eq 59 Q_X10_pass (k := 25) rfl (by decide) z2 z3 (fun c => ?_) (fun c => ?_)
    · replace h := h.1 c
      refine y_bipush Q_X10_pass (k := 33) rfl (by decide) ?_
      exact y_iret Q_X10_pass (k := 34) rfl rfl (qI_iVt hB ⟨by decide, by decide⟩ h)
    · replace h := h.2 c
      refine z_aload Q_X10_pass (k := 26) rfl rfl ?_
      refine q_callV0_i Q_X10_pass (k := 27) rfl rfl K_X1_hadBy V_X1_hadBy L_X10_360 ho1.1.2.1 ho1.1.2.2.1 (Nat.le_of_ble_eq_true rfl) (Nat.le_of_ble_eq_true rfl) rfl (Nat.zero_le _) (Nat.zero_le _) (w_X1_hadBy d hB ho1 h) (fun r5 hz5 h => ?_)
      refine y_iconst Q_X10_pass (k := 28) rfl ?_
      refine z_iload_n Q_X10_pass (k := 29) rfl rfl ?_
      refine y_ishl Q_X10_pass (k := 30) rfl ?_
      refine y_iand Q_X10_pass (k := 31) rfl ?_
      refine y_if_ne 62 Q_X10_pass (k := 32) rfl (by decide) (zand_r _ _) (fun c => ?_) (fun c => ?_)
      · replace h := h.2 c
        refine z_aload_n Q_X10_pass (k := 35) rfl rfl ?_
        refine z_getR (b := 12) Q_X10_pass (k := 36) rfl F_X10_25 rfl (n_ hB.1 rfl) (k_0 hB.1) (r_0_3 hB.1) ?_
        refine z_getR (b := 21) Q_X10_pass (k := 37) rfl F_X10_363 rfl (n_ hB.1 rfl) (k_12 hB.1) (r_12_13 hB.1) ?_
        refine z_aload_n Q_X10_pass (k := 38) rfl rfl ?_
        refine z_getR (b := 12) Q_X10_pass (k := 39) rfl F_X10_25 rfl (n_ hB.1 rfl) (k_0 hB.1) (r_0_3 hB.1) ?_
        refine q_getI (o := 12) (z := 14) Q_X10_pass (k := 40) rfl F_X10_357 rfl rfl rfl (n_ hB.1 rfl) (k_12 hB.1) ?_
        obtain ⟨q6, h⟩ := h
        have o7 := (qe_passing (i := V 12 14) hB.1 q6)
        refine y_aald (t := 9) (b := (110 + 1 * (V 12 14)).toNat) Q_X10_pass (k := 41) rfl (n_ hB.1 rfl) (k_21 hB.1) (by decide) rfl q6.1 q6.2 (by decide) o7.2 ?_
        refine z_iload_n Q_X10_pass (k := 42) rfl rfl ?_
        refine z_iload_n Q_X10_pass (k := 43) rfl rfl ?_
        refine z_iload_n Q_X10_pass (k := 44) rfl rfl ?_
        refine z_iload Q_X10_pass (k := 45) rfl rfl ?_
        refine q_callV4_uV Q_X10_pass (k := 46) rfl rfl K_X4_begin V_X4_begin L_X10_367 o7.1.2.1 o7.1.2.2.1 (Nat.le_of_ble_eq_true rfl) (Nat.le_of_ble_eq_true rfl) rfl (Nat.zero_le _) (Nat.zero_le _) (w_X4_begin (d + 1) hB o7.1 z1 z2 z3 z4 h) (fun V8 hB8 h => ?_)
        refine z_aload_n Q_X10_pass (k := 47) rfl rfl ?_
        refine z_getR (b := 12) Q_X10_pass (k := 48) rfl F_X10_25 rfl (n_ hB8.1 rfl) (k_0 hB8.1) (r_0_3 hB8.1) ?_
        refine z_dup Q_X10_pass (k := 49) rfl rfl ?_
        refine q_getI (o := 12) (z := 14) Q_X10_pass (k := 50) rfl F_X10_357 rfl rfl rfl (n_ hB8.1 rfl) (k_12 hB8.1) ?_
        refine y_iconst Q_X10_pass (k := 51) rfl ?_
        obtain ⟨q9, h⟩ := h
        refine y_iadd Q_X10_pass (k := 52) rfl ?_
        refine q_putI (o := 12) (z := 14) Q_X10_pass (k := 53) rfl F_X10_357 rfl rfl rfl (n_ hB8.1 rfl) (k_12 hB8.1) ?_
        have hB10 := qB.u (a := 12) (j := 14) (x := (V8 12 14) + 1) hB8 q9 (Or.inl (by decide))
        refine z_aload Q_X10_pass (k := 54) rfl rfl ?_
        refine z_iload_n Q_X10_pass (k := 55) rfl rfl ?_
        refine q_putI (o := r1) (z := 8) Q_X10_pass (k := 56) rfl F_X10_370 rfl (Int.toNat_of_nonneg ho1.1.1) rfl ho1.1.2.1 ho1.1.2.2.1 ?_
        have hB11 := qB.u (a := r1) (j := 8) (x := a3) hB10 z3 (Or.inl ho1.1.2.2.2)
        refine z_iload_n Q_X10_pass (k := 57) rfl rfl ?_
        exact y_iret Q_X10_pass (k := 58) rfl rfl (qI_iVt hB11 z3 h)
      · replace h := h.1 c
        refine y_bipush Q_X10_pass (k := 33) rfl (by decide) ?_
        exact y_iret Q_X10_pass (k := 34) rfl rfl (qI_iVt hB ⟨by decide, by decide⟩ h)
  · replace h := h.2 c
    refine y_iconst Q_X10_pass (k := 21) rfl ?_
    exact y_iret Q_X10_pass (k := 22) rfl rfl (qI_iVt hB ⟨by decide, by decide⟩ h)
set_option maxHeartbeats 4000000 in
set_option maxRecDepth 20000 in
theorem w_X10_has {S : zS} {V : qV} {J : qJ} {Q : Int → Prop} {X : String → Prop} (d : Nat) (hB : qB S V) {a1 : Int} (z1 : zr a1) (h : W_X10_has a1 V Q X) : Z M_X10_has (d + 2) 1 6 0 [some (.ref 0), some (.int (iI a1))] [] S (qi V) (qj J) (qP_it S V J Q X) := by
  unfold W_X10_has at h
  refine z_aload_n Q_X10_has (k := 0) rfl rfl ?_
  refine z_iload_n Q_X10_has (k := 1) rfl rfl ?_
  refine q_callV1_rt Q_X10_has (k := 2) rfl rfl K_X10_findOf V_X10_findOf L_X10_237 (n_ hB.1 rfl) (k_0 hB.1) (Nat.le_of_ble_eq_true rfl) (Nat.le_of_ble_eq_true rfl) rfl (by decide) (by decide) (w_X10_findOf (d + 1) hB z1 h) (fun E h => qX_it h) (fun r1 ho1 h => ?_)
  refine q_callV0_i Q_X10_has (k := 3) rfl rfl K_X1_hadBy V_X1_hadBy L_X10_360 ho1.1.2.1 ho1.1.2.2.1 (Nat.le_of_ble_eq_true rfl) (Nat.le_of_ble_eq_true rfl) rfl (Nat.zero_le _) (Nat.zero_le _) (w_X1_hadBy d hB ho1 h) (fun r2 hz2 h => ?_)
  exact y_iret Q_X10_has (k := 4) rfl rfl (qI_it hz2 h)
set_option maxHeartbeats 4000000 in
set_option maxRecDepth 20000 in
theorem w_X10_away {S : zS} {V : qV} {J : qJ} {Q : Int → qV → Prop} {X : String → qV → Prop} (d : Nat) (hB : qB S V) {a1 : Int} (z1 : zr a1) {a2 : Int} (z2 : zr a2) (b2 : a2 = 0 ∨ a2 = 1) (h : W_X10_away a1 a2 V Q X) : Z M_X10_away (d + 1) 1 6 0 [some (.ref 0), some (.int (iI a1)), some (.int (iI a2)), none, none] [] S (qi V) (qj J) (qP_zVt S J Q X) := by
  unfold W_X10_away at h
  refine z_aload_n Q_X10_away (k := 0) rfl rfl ?_
  refine z_iload_n Q_X10_away (k := 1) rfl rfl ?_
  refine q_callV1_rt Q_X10_away (k := 2) rfl rfl K_X10_personOf V_X10_personOf L_X10_193 (n_ hB.1 rfl) (k_0 hB.1) (Nat.le_of_ble_eq_true rfl) (Nat.le_of_ble_eq_true rfl) rfl (by decide) (by decide) (w_X10_personOf d hB z1 h) (fun E h => qX_zVt hB h) (fun r1 ho1 h => ?_)
  refine y_astore_n (L' := [some (.ref 0), some (.int (iI a1)), some (.int (iI a2)), some (.ref r1.toNat), none]) Q_X10_away (k := 3) rfl (by decide) rfl ?_
  refine z_aload_n Q_X10_away (k := 4) rfl rfl ?_
  refine q_getI (o := r1) (z := 3) Q_X10_away (k := 5) rfl F_X10_373 rfl (Int.toNat_of_nonneg ho1.1.1) rfl ho1.1.2.1 ho1.1.2.2.1 ?_
  refine y_istore (L' := [some (.ref 0), some (.int (iI a1)), some (.int (iI a2)), some (.ref r1.toNat), some (.int (iI (V r1 3)))]) Q_X10_away (k := 6) rfl (by decide) rfl ?_
  refine z_aload_n Q_X10_away (k := 7) rfl rfl ?_
  refine z_iload_n Q_X10_away (k := 8) rfl rfl ?_
  refine q_putZ (o := r1) (z := 3) Q_X10_away (k := 9) rfl F_X10_373 rfl b2 (Int.toNat_of_nonneg ho1.1.1) rfl ho1.1.2.1 ho1.1.2.2.1 ?_
  have hB2 := qB.u (a := r1) (j := 3) (x := a2) hB z2 (Or.inl ho1.1.2.2.2)
  refine z_iload Q_X10_away (k := 10) rfl rfl ?_
  obtain ⟨q3, h⟩ := h
  exact y_zret Q_X10_away (k := 11) rfl rfl q3 (qI_zVt hB2 (hB.2.1 _ _) q3 h)
set_option maxHeartbeats 4000000 in
set_option maxRecDepth 20000 in
theorem v_X10_loss_17 {S : zS} {V : qV} {J : qJ} {K : Int → Int → Prop} {Q : Int → Prop} {X : String → Prop} {kc ks : Nat} (d : Nat) (hB : qB S V) {l1 : Int} (z1 : zr l1) {l2 : Int} (z2 : zr l2) (hK : ∀ (l3 : Int) (l4 : Int), zr l3 → zr l4 → K l3 l4 → Z M_X10_loss (d + 1) kc ks 120 [some (.ref 0), some (.int (iI l1)), some (.int (iI l2)), some (.int (iI l3)), some (.int (iI l4)), none] [] S (qi V) (qj J) (qP_it S V J Q X)) : ∀ (f : Nat) (l3 : Int) (l4 : Int), zr l3 → zr l4 → lp_X10_loss_17 l1 l2 V K X f l3 l4 → Z M_X10_loss (d + 1) (kc + f) (ks + 6 * f) 17 [some (.ref 0), some (.int (iI l1)), some (.int (iI l2)), some (.int (iI l3)), some (.int (iI l4)), none] [] S (qi V) (qj J) (qP_it S V J Q X) := by
  intro f
  induction f with
  | zero =>
    intro l3 l4 z3 z4 h
    exact h.elim
  | succ f ih =>
    intro l3 l4 z3 z4 h
    rw [lp_X10_loss_17] at h
    refine z_iload Q_X10_loss (k := 12) rfl rfl ?_
    refine z_aload_n Q_X10_loss (k := 13) rfl rfl ?_
    refine z_getR (b := 12) Q_X10_loss (k := 14) rfl F_X10_25 rfl (n_ hB.1 rfl) (k_0 hB.1) (r_0_3 hB.1) ?_
    refine q_getI (o := 12) (z := 14) Q_X10_loss (k := 15) rfl F_X10_357 rfl rfl rfl (n_ hB.1 rfl) (k_12 hB.1) ?_
    refine y_icmp_ge 120 Q_X10_loss (k := 16) rfl (by decide) z4 (hB.2.1 _ _) (fun c => ?_) (fun c => ?_)
    · replace h := h.1 c
      exact y_fg (zsb_c rfl (zsb_c rfl (zsb_c rfl (zsb_c rfl (zsb_c rfl (zsb_n zsb_e)))))) (y_more (kc' := kc) (ks' := ks) (by omega) (by omega) (hK l3 l4 z3 z4 h))
    · replace h := h.2 c
      refine z_iload Q_X10_loss (k := 17) rfl rfl ?_
      refine y_bipush Q_X10_loss (k := 18) rfl (by decide) ?_
      refine y_icmp_ge 120 Q_X10_loss (k := 19) rfl (by decide) z4 ⟨by decide, by decide⟩ (fun c => ?_) (fun c => ?_)
      · replace h := h.1 c
        exact y_fg (zsb_c rfl (zsb_c rfl (zsb_c rfl (zsb_c rfl (zsb_c rfl (zsb_n zsb_e)))))) (y_more (kc' := kc) (ks' := ks) (by omega) (by omega) (hK l3 l4 z3 z4 h))
      · replace h := h.2 c
        refine z_aload_n Q_X10_loss (k := 20) rfl rfl ?_
        refine z_getR (b := 12) Q_X10_loss (k := 21) rfl F_X10_25 rfl (n_ hB.1 rfl) (k_0 hB.1) (r_0_3 hB.1) ?_
        refine z_getR (b := 21) Q_X10_loss (k := 22) rfl F_X10_363 rfl (n_ hB.1 rfl) (k_12 hB.1) (r_12_13 hB.1) ?_
        refine z_iload Q_X10_loss (k := 23) rfl rfl ?_
        obtain ⟨q3, h⟩ := h
        have o4 := (qe_passing (i := l4) hB.1 q3)
        refine y_aald (t := 9) (b := (110 + 1 * l4).toNat) Q_X10_loss (k := 24) rfl (n_ hB.1 rfl) (k_21 hB.1) (by decide) rfl q3.1 q3.2 (by decide) o4.2 ?_
        refine y_astore (L' := [some (.ref 0), some (.int (iI l1)), some (.int (iI l2)), some (.int (iI l3)), some (.int (iI l4)), some (.ref (110 + 1 * l4).toNat)]) Q_X10_loss (k := 25) rfl (by decide) rfl ?_
        refine z_aload Q_X10_loss (k := 26) rfl rfl ?_
        refine q_getI (o := 110 + 1 * l4) (z := 0) Q_X10_loss (k := 27) rfl F_X10_377 rfl (Int.toNat_of_nonneg o4.1.1) rfl o4.1.2.1 o4.1.2.2.1 ?_
        refine z_iload_n Q_X10_loss (k := 28) rfl rfl ?_
        refine y_icmp_ne 114 Q_X10_loss (k := 29) rfl (by decide) (hB.2.1 _ _) z1 (fun c => ?_) (fun c => ?_)
        · replace h := h.2 c
          obtain ⟨q5, h⟩ := h
          refine y_iinc (L' := [some (.ref 0), some (.int (iI l1)), some (.int (iI l2)), some (.int (iI l3)), some (.int (iI (l4 + 1))), some (.ref (110 + 1 * l4).toNat)]) Q_X10_loss (k := 58) rfl (by decide) rfl rfl ?_
          refine z_goto (tgt := 17) Q_X10_loss (k := 59) rfl (by decide) ?_
          exact y_fg (zsb_c rfl (zsb_c rfl (zsb_c rfl (zsb_c rfl (zsb_c rfl (zsb_n zsb_e)))))) (y_more (kc' := kc + f) (ks' := ks + 6 * f) (by omega) (by omega) (ih l3 (l4 + 1) z3 q5 h))
        · replace h := h.1 c
          refine z_aload_n Q_X10_loss (k := 30) rfl rfl ?_
          refine z_aload Q_X10_loss (k := 31) rfl rfl ?_
          refine q_getI (o := 110 + 1 * l4) (z := 1) Q_X10_loss (k := 32) rfl F_X10_378 rfl (Int.toNat_of_nonneg o4.1.1) rfl o4.1.2.1 o4.1.2.2.1 ?_
          refine q_callV1_rt Q_X10_loss (k := 33) rfl rfl K_X10_personOf V_X10_personOf L_X10_193 (n_ hB.1 rfl) (k_0 hB.1) (Nat.le_of_ble_eq_true rfl) (Nat.le_of_ble_eq_true rfl) rfl (by omega) (by omega) (w_X10_personOf d hB (hB.2.1 _ _) h) (fun E h => qX_it h) (fun r6 ho6 h => ?_)
          refine q_getI (o := r6) (z := 3) Q_X10_loss (k := 34) rfl F_X10_373 rfl (Int.toNat_of_nonneg ho6.1.1) rfl ho6.1.2.1 ho6.1.2.2.1 ?_
          refine y_if_eq 114 Q_X10_loss (k := 35) rfl (by decide) (hB.2.1 _ _) (fun c => ?_) (fun c => ?_)
          · replace h := h.1 c
            obtain ⟨q7, h⟩ := h
            refine y_iinc (L' := [some (.ref 0), some (.int (iI l1)), some (.int (iI l2)), some (.int (iI l3)), some (.int (iI (l4 + 1))), some (.ref (110 + 1 * l4).toNat)]) Q_X10_loss (k := 58) rfl (by decide) rfl rfl ?_
            refine z_goto (tgt := 17) Q_X10_loss (k := 59) rfl (by decide) ?_
            exact y_fg (zsb_c rfl (zsb_c rfl (zsb_c rfl (zsb_c rfl (zsb_c rfl (zsb_n zsb_e)))))) (y_more (kc' := kc + f) (ks' := ks + 6 * f) (by omega) (by omega) (ih l3 (l4 + 1) z3 q7 h))
          · replace h := h.2 c
            refine z_iload_n Q_X10_loss (k := 36) rfl rfl ?_
            refine z_aload Q_X10_loss (k := 37) rfl rfl ?_
            refine q_getI (o := 110 + 1 * l4) (z := 2) Q_X10_loss (k := 38) rfl F_X10_381 rfl (Int.toNat_of_nonneg o4.1.1) rfl o4.1.2.1 o4.1.2.2.1 ?_
            refine z_iload_n Q_X10_loss (k := 39) rfl rfl ?_
            refine y_icmp_ne 90 Q_X10_loss (k := 40) rfl (by decide) (hB.2.1 _ _) z2 (fun c => ?_) (fun c => ?_)
            · replace h := h.2 c
              refine y_iconst Q_X10_loss (k := 44) rfl ?_
              obtain ⟨q8, h⟩ := h
              refine y_iadd Q_X10_loss (k := 45) rfl ?_
              refine y_istore_n (L' := [some (.ref 0), some (.int (iI l1)), some (.int (iI l2)), some (.int (iI (l3 + 0))), some (.int (iI l4)), some (.ref (110 + 1 * l4).toNat)]) Q_X10_loss (k := 46) rfl (by decide) rfl ?_
              refine z_iload_n Q_X10_loss (k := 47) rfl rfl ?_
              refine z_aload Q_X10_loss (k := 48) rfl rfl ?_
              refine q_getI (o := 110 + 1 * l4) (z := 1) Q_X10_loss (k := 49) rfl F_X10_378 rfl (Int.toNat_of_nonneg o4.1.1) rfl o4.1.2.1 o4.1.2.2.1 ?_
              refine z_iload_n Q_X10_loss (k := 50) rfl rfl ?_
              refine y_icmp_ne 111 Q_X10_loss (k := 51) rfl (by decide) (hB.2.1 _ _) z2 (fun c => ?_) (fun c => ?_)
              · replace h := h.2 c
                refine y_iconst Q_X10_loss (k := 55) rfl ?_
                obtain ⟨q9, h⟩ := h
                refine y_isub Q_X10_loss (k := 56) rfl ?_
                refine y_istore_n (L' := [some (.ref 0), some (.int (iI l1)), some (.int (iI l2)), some (.int (iI ((l3 + 0) - 0))), some (.int (iI l4)), some (.ref (110 + 1 * l4).toNat)]) Q_X10_loss (k := 57) rfl (by decide) rfl ?_
                obtain ⟨q10, h⟩ := h
                refine y_iinc (L' := [some (.ref 0), some (.int (iI l1)), some (.int (iI l2)), some (.int (iI ((l3 + 0) - 0))), some (.int (iI (l4 + 1))), some (.ref (110 + 1 * l4).toNat)]) Q_X10_loss (k := 58) rfl (by decide) rfl rfl ?_
                refine z_goto (tgt := 17) Q_X10_loss (k := 59) rfl (by decide) ?_
                exact y_fg (zsb_c rfl (zsb_c rfl (zsb_c rfl (zsb_c rfl (zsb_c rfl (zsb_n zsb_e)))))) (y_more (kc' := kc + f) (ks' := ks + 6 * f) (by omega) (by omega) (ih ((l3 + 0) - 0) (l4 + 1) q9 q10 h))
              · replace h := h.1 c
                refine z_aload Q_X10_loss (k := 52) rfl rfl ?_
                refine q_getI (o := 110 + 1 * l4) (z := 3) Q_X10_loss (k := 53) rfl F_X10_384 rfl (Int.toNat_of_nonneg o4.1.1) rfl o4.1.2.1 o4.1.2.2.1 ?_
                refine z_goto (tgt := 112) Q_X10_loss (k := 54) rfl (by decide) ?_
                obtain ⟨q11, h⟩ := h
                refine y_isub Q_X10_loss (k := 56) rfl ?_
                refine y_istore_n (L' := [some (.ref 0), some (.int (iI l1)), some (.int (iI l2)), some (.int (iI ((l3 + 0) - (V (110 + 1 * l4) 3)))), some (.int (iI l4)), some (.ref (110 + 1 * l4).toNat)]) Q_X10_loss (k := 57) rfl (by decide) rfl ?_
                obtain ⟨q12, h⟩ := h
                refine y_iinc (L' := [some (.ref 0), some (.int (iI l1)), some (.int (iI l2)), some (.int (iI ((l3 + 0) - (V (110 + 1 * l4) 3)))), some (.int (iI (l4 + 1))), some (.ref (110 + 1 * l4).toNat)]) Q_X10_loss (k := 58) rfl (by decide) rfl rfl ?_
                refine z_goto (tgt := 17) Q_X10_loss (k := 59) rfl (by decide) ?_
                exact y_fg (zsb_c rfl (zsb_c rfl (zsb_c rfl (zsb_c rfl (zsb_c rfl (zsb_n zsb_e)))))) (y_more (kc' := kc + f) (ks' := ks + 6 * f) (by omega) (by omega) (ih ((l3 + 0) - (V (110 + 1 * l4) 3)) (l4 + 1) q11 q12 h))
            · replace h := h.1 c
              refine z_aload Q_X10_loss (k := 41) rfl rfl ?_
              refine q_getI (o := 110 + 1 * l4) (z := 3) Q_X10_loss (k := 42) rfl F_X10_384 rfl (Int.toNat_of_nonneg o4.1.1) rfl o4.1.2.1 o4.1.2.2.1 ?_
              refine z_goto (tgt := 91) Q_X10_loss (k := 43) rfl (by decide) ?_
              obtain ⟨q13, h⟩ := h
              refine y_iadd Q_X10_loss (k := 45) rfl ?_
              refine y_istore_n (L' := [some (.ref 0), some (.int (iI l1)), some (.int (iI l2)), some (.int (iI (l3 + (V (110 + 1 * l4) 3)))), some (.int (iI l4)), some (.ref (110 + 1 * l4).toNat)]) Q_X10_loss (k := 46) rfl (by decide) rfl ?_
              refine z_iload_n Q_X10_loss (k := 47) rfl rfl ?_
              refine z_aload Q_X10_loss (k := 48) rfl rfl ?_
              refine q_getI (o := 110 + 1 * l4) (z := 1) Q_X10_loss (k := 49) rfl F_X10_378 rfl (Int.toNat_of_nonneg o4.1.1) rfl o4.1.2.1 o4.1.2.2.1 ?_
              refine z_iload_n Q_X10_loss (k := 50) rfl rfl ?_
              refine y_icmp_ne 111 Q_X10_loss (k := 51) rfl (by decide) (hB.2.1 _ _) z2 (fun c => ?_) (fun c => ?_)
              · replace h := h.2 c
                refine y_iconst Q_X10_loss (k := 55) rfl ?_
                obtain ⟨q14, h⟩ := h
                refine y_isub Q_X10_loss (k := 56) rfl ?_
                refine y_istore_n (L' := [some (.ref 0), some (.int (iI l1)), some (.int (iI l2)), some (.int (iI ((l3 + (V (110 + 1 * l4) 3)) - 0))), some (.int (iI l4)), some (.ref (110 + 1 * l4).toNat)]) Q_X10_loss (k := 57) rfl (by decide) rfl ?_
                obtain ⟨q15, h⟩ := h
                refine y_iinc (L' := [some (.ref 0), some (.int (iI l1)), some (.int (iI l2)), some (.int (iI ((l3 + (V (110 + 1 * l4) 3)) - 0))), some (.int (iI (l4 + 1))), some (.ref (110 + 1 * l4).toNat)]) Q_X10_loss (k := 58) rfl (by decide) rfl rfl ?_
                refine z_goto (tgt := 17) Q_X10_loss (k := 59) rfl (by decide) ?_
                exact y_fg (zsb_c rfl (zsb_c rfl (zsb_c rfl (zsb_c rfl (zsb_c rfl (zsb_n zsb_e)))))) (y_more (kc' := kc + f) (ks' := ks + 6 * f) (by omega) (by omega) (ih ((l3 + (V (110 + 1 * l4) 3)) - 0) (l4 + 1) q14 q15 h))
              · replace h := h.1 c
                refine z_aload Q_X10_loss (k := 52) rfl rfl ?_
                refine q_getI (o := 110 + 1 * l4) (z := 3) Q_X10_loss (k := 53) rfl F_X10_384 rfl (Int.toNat_of_nonneg o4.1.1) rfl o4.1.2.1 o4.1.2.2.1 ?_
                refine z_goto (tgt := 112) Q_X10_loss (k := 54) rfl (by decide) ?_
                obtain ⟨q16, h⟩ := h
                refine y_isub Q_X10_loss (k := 56) rfl ?_
                refine y_istore_n (L' := [some (.ref 0), some (.int (iI l1)), some (.int (iI l2)), some (.int (iI ((l3 + (V (110 + 1 * l4) 3)) - (V (110 + 1 * l4) 3)))), some (.int (iI l4)), some (.ref (110 + 1 * l4).toNat)]) Q_X10_loss (k := 57) rfl (by decide) rfl ?_
                obtain ⟨q17, h⟩ := h
                refine y_iinc (L' := [some (.ref 0), some (.int (iI l1)), some (.int (iI l2)), some (.int (iI ((l3 + (V (110 + 1 * l4) 3)) - (V (110 + 1 * l4) 3)))), some (.int (iI (l4 + 1))), some (.ref (110 + 1 * l4).toNat)]) Q_X10_loss (k := 58) rfl (by decide) rfl rfl ?_
                refine z_goto (tgt := 17) Q_X10_loss (k := 59) rfl (by decide) ?_
                exact y_fg (zsb_c rfl (zsb_c rfl (zsb_c rfl (zsb_c rfl (zsb_c rfl (zsb_n zsb_e)))))) (y_more (kc' := kc + f) (ks' := ks + 6 * f) (by omega) (by omega) (ih ((l3 + (V (110 + 1 * l4) 3)) - (V (110 + 1 * l4) 3)) (l4 + 1) q16 q17 h))
set_option maxHeartbeats 4000000 in
set_option maxRecDepth 20000 in
theorem w_X10_loss {S : zS} {V : qV} {J : qJ} {Q : Int → Prop} {X : String → Prop} (d : Nat) (hB : qB S V) {a1 : Int} (z1 : zr a1) {a2 : Int} (z2 : zr a2) (h : W_X10_loss a1 a2 V Q X) : Z M_X10_loss (d + 1) 67 402 0 [some (.ref 0), some (.int (iI a1)), some (.int (iI a2)), none, none, none] [] S (qi V) (qj J) (qP_it S V J Q X) := by
  unfold W_X10_loss at h
  refine z_aload_n Q_X10_loss (k := 0) rfl rfl ?_
  refine z_iload_n Q_X10_loss (k := 1) rfl rfl ?_
  refine q_callV1_rt Q_X10_loss (k := 2) rfl rfl K_X10_findOf V_X10_findOf L_X10_237 (n_ hB.1 rfl) (k_0 hB.1) (Nat.le_of_ble_eq_true rfl) (Nat.le_of_ble_eq_true rfl) rfl (by decide) (by decide) (w_X10_findOf d hB z1 h) (fun E h => qX_it h) (fun r1 ho1 h => ?_)
  refine z_pop Q_X10_loss (k := 3) rfl rfl ?_
  refine z_aload_n Q_X10_loss (k := 4) rfl rfl ?_
  refine z_iload_n Q_X10_loss (k := 5) rfl rfl ?_
  refine q_callV1_rt Q_X10_loss (k := 6) rfl rfl K_X10_personOf V_X10_personOf L_X10_193 (n_ hB.1 rfl) (k_0 hB.1) (Nat.le_of_ble_eq_true rfl) (Nat.le_of_ble_eq_true rfl) rfl (by decide) (by decide) (w_X10_personOf d hB z2 h) (fun E h => qX_it h) (fun r2 ho2 h => ?_)
  refine z_pop Q_X10_loss (k := 7) rfl rfl ?_
  refine y_iconst Q_X10_loss (k := 8) rfl ?_
  refine y_istore_n (L' := [some (.ref 0), some (.int (iI a1)), some (.int (iI a2)), some (.int (iI 0)), none, none]) Q_X10_loss (k := 9) rfl (by decide) rfl ?_
  refine y_iconst Q_X10_loss (k := 10) rfl ?_
  refine y_istore (L' := [some (.ref 0), some (.int (iI a1)), some (.int (iI a2)), some (.int (iI 0)), some (.int (iI 0)), none]) Q_X10_loss (k := 11) rfl (by decide) rfl ?_
  refine y_fg (zsb_c rfl (zsb_c rfl (zsb_c rfl (zsb_c rfl (zsb_c rfl (zsb_n zsb_e)))))) (y_more (kc' := 0 + 64) (ks' := 0 + 6 * 64) (by decide) (by decide) (v_X10_loss_17 d hB z1 z2 (fun l3x18 l4x18 zl3x18 zl4x18 h => ?_) 64 0 0 ⟨by decide, by decide⟩ ⟨by decide, by decide⟩ h))
  refine z_iload_n Q_X10_loss (k := 60) rfl rfl ?_
  exact y_iret Q_X10_loss (k := 61) rfl rfl (qI_it zl3x18 h)
set_option maxHeartbeats 4000000 in
set_option maxRecDepth 20000 in
theorem w_X10_partAt {S : zS} {V : qV} {J : qJ} {Q : Int → qV → qJ → Prop} (d : Nat) (hB : qB S V) {a1 : Int} (p1 : qFi S a1) {a2 : Int} (z2 : zr a2) {a3 : Int} (p3 : qLa S a3) {a4 : Int} (p4 : qLa S a4) (h : W_X10_partAt a1 a2 a3 a4 V J Q) : Z M_X10_partAt (d + 5) 0 0 0 [some (.ref 0), some (.ref a1.toNat), some (.int (iI a2)), some (.ref a3.toNat), some (.ref a4.toNat)] [] S (qi V) (qj J) (qP_zVJ S Q) := by
  unfold W_X10_partAt at h
  refine z_aload_n Q_X10_partAt (k := 0) rfl rfl ?_
  refine z_aload_n Q_X10_partAt (k := 1) rfl rfl ?_
  refine z_iload_n Q_X10_partAt (k := 2) rfl rfl ?_
  refine q_callV2_uV Q_X10_partAt (k := 3) rfl rfl K_X10_fillNames V_X10_fillNames L_X10_257 (n_ hB.1 rfl) (k_0 hB.1) (Nat.le_of_ble_eq_true rfl) (Nat.le_of_ble_eq_true rfl) rfl (Nat.zero_le _) (Nat.zero_le _) (w_X10_fillNames (d + 1) hB p1 z2 h) (fun V1 hB1 h => ?_)
  refine z_aload_n Q_X10_partAt (k := 4) rfl rfl ?_
  refine z_getR (b := 151) Q_X10_partAt (k := 5) rfl F_X10_36 rfl (n_ hB1.1 rfl) (k_0 hB1.1) (r_0_6 hB1.1) ?_
  refine z_aload_n Q_X10_partAt (k := 6) rfl rfl ?_
  refine z_aload_n Q_X10_partAt (k := 7) rfl rfl ?_
  refine z_getR (b := 168) Q_X10_partAt (k := 8) rfl F_X10_64 rfl (n_ hB1.1 rfl) (k_0 hB1.1) (r_0_12 hB1.1) ?_
  refine z_aload_n Q_X10_partAt (k := 9) rfl rfl ?_
  refine z_getR (b := 166) Q_X10_partAt (k := 10) rfl F_X10_57 rfl (n_ hB1.1 rfl) (k_0 hB1.1) (r_0_10 hB1.1) ?_
  refine z_aload_n Q_X10_partAt (k := 11) rfl rfl ?_
  refine z_getR (b := 155) Q_X10_partAt (k := 12) rfl F_X10_43 rfl (n_ hB1.1 rfl) (k_0 hB1.1) (r_0_7 hB1.1) ?_
  refine q_callV4_uVJ Q_X10_partAt (k := 13) rfl rfl K_X2_decide V_X2_decide L_X10_261 (n_ hB1.1 rfl) (k_151 hB1.1) (Nat.le_of_ble_eq_true rfl) (Nat.le_of_ble_eq_true rfl) rfl (Nat.zero_le _) (Nat.zero_le _) (w_X2_decide d hB1 p3 (qVe_155 hB1.1) h) (fun V2 J2 hB2 h => ?_)
  refine z_aload_n Q_X10_partAt (k := 14) rfl rfl ?_
  refine z_getR (b := 151) Q_X10_partAt (k := 15) rfl F_X10_36 rfl (n_ hB2.1 rfl) (k_0 hB2.1) (r_0_6 hB2.1) ?_
  refine z_aload Q_X10_partAt (k := 16) rfl rfl ?_
  refine z_aload_n Q_X10_partAt (k := 17) rfl rfl ?_
  refine z_getR (b := 168) Q_X10_partAt (k := 18) rfl F_X10_64 rfl (n_ hB2.1 rfl) (k_0 hB2.1) (r_0_12 hB2.1) ?_
  refine z_aload_n Q_X10_partAt (k := 19) rfl rfl ?_
  refine z_getR (b := 166) Q_X10_partAt (k := 20) rfl F_X10_57 rfl (n_ hB2.1 rfl) (k_0 hB2.1) (r_0_10 hB2.1) ?_
  refine z_aload_n Q_X10_partAt (k := 21) rfl rfl ?_
  refine z_getR (b := 157) Q_X10_partAt (k := 22) rfl F_X10_47 rfl (n_ hB2.1 rfl) (k_0 hB2.1) (r_0_8 hB2.1) ?_
  refine q_callV4_uVJ Q_X10_partAt (k := 23) rfl rfl K_X2_decide V_X2_decide L_X10_261 (n_ hB2.1 rfl) (k_151 hB2.1) (Nat.le_of_ble_eq_true rfl) (Nat.le_of_ble_eq_true rfl) rfl (Nat.zero_le _) (Nat.zero_le _) (w_X2_decide d hB2 p4 (qVe_157 hB2.1) h) (fun V3 J3 hB3 h => ?_)
  refine z_aload_n Q_X10_partAt (k := 24) rfl rfl ?_
  refine z_getR (b := 155) Q_X10_partAt (k := 25) rfl F_X10_43 rfl (n_ hB3.1 rfl) (k_0 hB3.1) (r_0_7 hB3.1) ?_
  refine z_aload_n Q_X10_partAt (k := 26) rfl rfl ?_
  refine z_getR (b := 157) Q_X10_partAt (k := 27) rfl F_X10_47 rfl (n_ hB3.1 rfl) (k_0 hB3.1) (r_0_8 hB3.1) ?_
  refine q_callV1_z Q_X10_partAt (k := 28) rfl rfl K_X9_partsFrom V_X9_partsFrom L_X10_391 (n_ hB3.1 rfl) (k_155 hB3.1) (Nat.le_of_ble_eq_true rfl) (Nat.le_of_ble_eq_true rfl) rfl (Nat.zero_le _) (Nat.zero_le _) (w_X9_partsFrom (d + 4) hB3 (qVe_155 hB3.1) (qVe_157 hB3.1) h) (fun r4 hz4 hb4 h => ?_)
  exact y_zret Q_X10_partAt (k := 29) rfl rfl hb4 (qI_zVJ hB3 hz4 hb4 h)
set_option maxHeartbeats 4000000 in
set_option maxRecDepth 20000 in
theorem v_X10_beside_23 {S : zS} {K : Int → Int → qV → qJ → Prop} {Q : Int → qV → qJ → Prop} {X : String → qV → qJ → Prop} {kc ks : Nat} (d : Nat) {l3 : Int} (o3_ : qLa S l3) {l4 : Int} (o4_ : qLa S l4) (hK : ∀ (l5 : Int) (l6 : Int) (V : qV) (J : qJ), qB S V → zr l5 → zr l6 → K l5 l6 V J → Z M_X10_beside (d + 6) kc ks 73 [some (.ref 0), none, none, some (.ref l3.toNat), some (.ref l4.toNat), some (.int (iI l5)), some (.int (iI l6))] [] S (qi V) (qj J) (qP_iVJt S Q X)) : ∀ (f : Nat) (l5 : Int) (l6 : Int) (V : qV) (J : qJ), qB S V → zr l5 → zr l6 → lp_X10_beside_23 l3 l4 K f l5 l6 V J → Z M_X10_beside (d + 6) kc ks 23 [some (.ref 0), none, none, some (.ref l3.toNat), some (.ref l4.toNat), some (.int (iI l5)), some (.int (iI l6))] [] S (qi V) (qj J) (qP_iVJt S Q X) := by
  intro f
  induction f with
  | zero =>
    intro l5 l6 V J hB z5 z6 h
    exact h.elim
  | succ f ih =>
    intro l5 l6 V J hB z5 z6 h
    rw [lp_X10_beside_23] at h
    refine z_iload Q_X10_beside (k := 14) rfl rfl ?_
    refine z_aload_n Q_X10_beside (k := 15) rfl rfl ?_
    refine z_getR (b := 12) Q_X10_beside (k := 16) rfl F_X10_25 rfl (n_ hB.1 rfl) (k_0 hB.1) (r_0_3 hB.1) ?_
    refine q_getI (o := 12) (z := 10) Q_X10_beside (k := 17) rfl F_X10_219 rfl rfl rfl (n_ hB.1 rfl) (k_12 hB.1) ?_
    refine y_icmp_ge 73 Q_X10_beside (k := 18) rfl (by decide) z6 (hB.2.1 _ _) (fun c => ?_) (fun c => ?_)
    · replace h := h.1 c
      exact y_fg (zsb_c rfl (zsb_n (zsb_n (zsb_c rfl (zsb_c rfl (zsb_c rfl (zsb_c rfl zsb_e))))))) (hK l5 l6 V J hB z5 z6 h)
    · replace h := h.2 c
      refine z_iload Q_X10_beside (k := 19) rfl rfl ?_
      refine y_bipush Q_X10_beside (k := 20) rfl (by decide) ?_
      refine y_icmp_ge 73 Q_X10_beside (k := 21) rfl (by decide) z6 ⟨by decide, by decide⟩ (fun c => ?_) (fun c => ?_)
      · replace h := h.1 c
        exact y_fg (zsb_c rfl (zsb_n (zsb_n (zsb_c rfl (zsb_c rfl (zsb_c rfl (zsb_c rfl zsb_e))))))) (hK l5 l6 V J hB z5 z6 h)
      · replace h := h.2 c
        refine z_aload_n Q_X10_beside (k := 22) rfl rfl ?_
        refine z_aload_n Q_X10_beside (k := 23) rfl rfl ?_
        refine z_getR (b := 12) Q_X10_beside (k := 24) rfl F_X10_25 rfl (n_ hB.1 rfl) (k_0 hB.1) (r_0_3 hB.1) ?_
        refine z_getR (b := 19) Q_X10_beside (k := 25) rfl F_X10_222 rfl (n_ hB.1 rfl) (k_12 hB.1) (r_12_9 hB.1) ?_
        refine z_iload Q_X10_beside (k := 26) rfl rfl ?_
        obtain ⟨q4, h⟩ := h
        have o5 := (qe_find (i := l6) hB.1 q4)
        refine y_aald (t := 7) (b := (54 + 4 * l6).toNat) Q_X10_beside (k := 27) rfl (n_ hB.1 rfl) (k_19 hB.1) (by decide) rfl q4.1 q4.2 (by decide) o5.2 ?_
        refine z_iload Q_X10_beside (k := 28) rfl rfl ?_
        refine z_aload_n Q_X10_beside (k := 29) rfl rfl ?_
        refine z_aload Q_X10_beside (k := 30) rfl rfl ?_
        refine q_callV4_zVJ Q_X10_beside (k := 31) rfl rfl K_X10_partAt V_X10_partAt L_X10_387 (n_ hB.1 rfl) (k_0 hB.1) (Nat.le_of_ble_eq_true rfl) (Nat.le_of_ble_eq_true rfl) rfl (Nat.zero_le _) (Nat.zero_le _) (w_X10_partAt d hB o5.1 z6 o3_ o4_ h) (fun r6 V6 J6 hB6 hz6 hb6 h => ?_)
        refine y_if_eq 67 Q_X10_beside (k := 32) rfl (by decide) hz6 (fun c => ?_) (fun c => ?_)
        · replace h := h.1 c
          obtain ⟨q7, h⟩ := h
          refine y_iinc (L' := [some (.ref 0), none, none, some (.ref l3.toNat), some (.ref l4.toNat), some (.int (iI l5)), some (.int (iI (l6 + 1)))]) Q_X10_beside (k := 34) rfl (by decide) rfl rfl ?_
          refine z_goto (tgt := 23) Q_X10_beside (k := 35) rfl (by decide) ?_
          exact y_fg (zsb_c rfl (zsb_n (zsb_n (zsb_c rfl (zsb_c rfl (zsb_c rfl (zsb_c rfl zsb_e))))))) (ih l5 (l6 + 1) V6 J6 hB6 z5 q7 h)
        · replace h := h.2 c
          obtain ⟨q8, h⟩ := h
          refine y_iinc (L' := [some (.ref 0), none, none, some (.ref l3.toNat), some (.ref l4.toNat), some (.int (iI (l5 + 1))), some (.int (iI l6))]) Q_X10_beside (k := 33) rfl (by decide) rfl rfl ?_
          obtain ⟨q9, h⟩ := h
          refine y_iinc (L' := [some (.ref 0), none, none, some (.ref l3.toNat), some (.ref l4.toNat), some (.int (iI (l5 + 1))), some (.int (iI (l6 + 1)))]) Q_X10_beside (k := 34) rfl (by decide) rfl rfl ?_
          refine z_goto (tgt := 23) Q_X10_beside (k := 35) rfl (by decide) ?_
          exact y_fg (zsb_c rfl (zsb_n (zsb_n (zsb_c rfl (zsb_c rfl (zsb_c rfl (zsb_c rfl zsb_e))))))) (ih (l5 + 1) (l6 + 1) V6 J6 hB6 q8 q9 h)
set_option maxHeartbeats 4000000 in
set_option maxRecDepth 20000 in
theorem w_X10_beside {S : zS} {V : qV} {J : qJ} {Q : Int → qV → qJ → Prop} {X : String → qV → qJ → Prop} (d : Nat) (hB : qB S V) {a1 : Int} (z1 : zr a1) {a2 : Int} (z2 : zr a2) (h : W_X10_beside a1 a2 V J Q X) : Z M_X10_beside (d + 6) 2 12 0 [some (.ref 0), some (.int (iI a1)), some (.int (iI a2)), none, none, none, none] [] S (qi V) (qj J) (qP_iVJt S Q X) := by
  unfold W_X10_beside at h
  refine z_aload_n Q_X10_beside (k := 0) rfl rfl ?_
  refine z_iload_n Q_X10_beside (k := 1) rfl rfl ?_
  refine q_callV1_rt Q_X10_beside (k := 2) rfl rfl K_X10_lawOf V_X10_lawOf L_X10_253 (n_ hB.1 rfl) (k_0 hB.1) (Nat.le_of_ble_eq_true rfl) (Nat.le_of_ble_eq_true rfl) rfl (by decide) (by decide) (w_X10_lawOf (d + 5) hB z1 h) (fun E h => qX_iVJt hB h) (fun r1 ho1 h => ?_)
  refine y_astore_n (L' := [some (.ref 0), some (.int (iI a1)), some (.int (iI a2)), some (.ref r1.toNat), none, none, none]) Q_X10_beside (k := 3) rfl (by decide) rfl ?_
  refine z_aload_n Q_X10_beside (k := 4) rfl rfl ?_
  refine z_iload_n Q_X10_beside (k := 5) rfl rfl ?_
  refine q_callV1_rt Q_X10_beside (k := 6) rfl rfl K_X10_lawOf V_X10_lawOf L_X10_253 (n_ hB.1 rfl) (k_0 hB.1) (Nat.le_of_ble_eq_true rfl) (Nat.le_of_ble_eq_true rfl) rfl (by decide) (by decide) (w_X10_lawOf (d + 5) hB z2 h) (fun E h => qX_iVJt hB h) (fun r2 ho2 h => ?_)
  refine y_astore (L' := [some (.ref 0), some (.int (iI a1)), some (.int (iI a2)), some (.ref r1.toNat), some (.ref r2.toNat), none, none]) Q_X10_beside (k := 7) rfl (by decide) rfl ?_
  refine z_aload_n Q_X10_beside (k := 8) rfl rfl ?_
  refine q_callV0_uJ Q_X10_beside (k := 9) rfl rfl K_X10_fillWorldSet V_X10_fillWorldSet L_X10_151 (n_ hB.1 rfl) (k_0 hB.1) (Nat.le_of_ble_eq_true rfl) (Nat.le_of_ble_eq_true rfl) rfl (Nat.zero_le _) (Nat.zero_le _) (w_X10_fillWorldSet (d + 4) hB  h) (fun J3 h => ?_)
  refine y_iconst Q_X10_beside (k := 10) rfl ?_
  refine y_istore (L' := [some (.ref 0), some (.int (iI a1)), some (.int (iI a2)), some (.ref r1.toNat), some (.ref r2.toNat), some (.int (iI 0)), none]) Q_X10_beside (k := 11) rfl (by decide) rfl ?_
  refine y_iconst Q_X10_beside (k := 12) rfl ?_
  refine y_istore (L' := [some (.ref 0), some (.int (iI a1)), some (.int (iI a2)), some (.ref r1.toNat), some (.ref r2.toNat), some (.int (iI 0)), some (.int (iI 0))]) Q_X10_beside (k := 13) rfl (by decide) rfl ?_
  refine y_fg (zsb_c rfl (zsb_n (zsb_n (zsb_c rfl (zsb_c rfl (zsb_c rfl (zsb_c rfl zsb_e))))))) (v_X10_beside_23 d ho1 ho2 (fun l5x10 l6x10 V10 J10 hB10 zl5x10 zl6x10 h => ?_) 100000 0 0 V J3 hB ⟨by decide, by decide⟩ ⟨by decide, by decide⟩ h)
  refine z_iload Q_X10_beside (k := 36) rfl rfl ?_
  exact y_iret Q_X10_beside (k := 37) rfl rfl (qI_iVJt hB10 zl5x10 h)
set_option maxHeartbeats 4000000 in
set_option maxRecDepth 20000 in
theorem v_X10_least_104 {S : zS} {K : Int → qV → qJ → Prop} {Q : Int → qV → qJ → Prop} {X : String → qV → qJ → Prop} {kc ks : Nat} (d : Nat) {l3 : Int} (z3 : zr l3) {l4 : Int} (o4_ : qLa S l4) {l5 : Int} (o5_ : qLa S l5) {l7 : Int} (z7 : zr l7) {l8 : Int} (z8 : zr l8) {l9 : Int} (z9 : zr l9) {l10 : Int} (z10 : zr l10) {l11 : Int} (z11 : zr l11) (hK : ∀ (l12 : Int) (V : qV) (J : qJ), qB S V → zr l12 → K l12 V J → Z M_X10_least (d + 6) kc ks 175 [some (.ref 0), none, none, some (.int (iI l3)), some (.ref l4.toNat), some (.ref l5.toNat), none, some (.int (iI l7)), some (.int (iI l8)), some (.int (iI l9)), some (.int (iI l10)), some (.int (iI l11)), some (.int (iI l12))] [] S (qi V) (qj J) (qP_iVJt S Q X)) : ∀ (f : Nat) (l12 : Int) (V : qV) (J : qJ), qB S V → zr l12 → lp_X10_least_104 l3 l4 l5 l7 l8 l9 l10 l11 K Q f l12 V J → Z M_X10_least (d + 6) kc ks 104 [some (.ref 0), none, none, some (.int (iI l3)), some (.ref l4.toNat), some (.ref l5.toNat), none, some (.int (iI l7)), some (.int (iI l8)), some (.int (iI l9)), some (.int (iI l10)), some (.int (iI l11)), some (.int (iI l12))] [] S (qi V) (qj J) (qP_iVJt S Q X) := by
  intro f
  induction f with
  | zero =>
    intro l12 V J hB z12 h
    exact h.elim
  | succ f ih =>
    intro l12 V J hB z12 h
    rw [lp_X10_least_104] at h
    refine z_iload Q_X10_least (k := 56) rfl rfl ?_
    refine z_iload Q_X10_least (k := 57) rfl rfl ?_
    refine y_icmp_gt 175 Q_X10_least (k := 58) rfl (by decide) z12 z9 (fun c => ?_) (fun c => ?_)
    · replace h := h.1 c
      exact y_fg (zsb_c rfl (zsb_n (zsb_n (zsb_c rfl (zsb_c rfl (zsb_c rfl (zsb_n (zsb_c rfl (zsb_c rfl (zsb_c rfl (zsb_c rfl (zsb_c rfl (zsb_c rfl zsb_e))))))))))))) (hK l12 V J hB z12 h)
    · replace h := h.2 c
      refine z_aload_n Q_X10_least (k := 59) rfl rfl ?_
      refine z_getR (b := 169) Q_X10_least (k := 60) rfl F_X10_71 rfl (n_ hB.1 rfl) (k_0 hB.1) (r_0_13 hB.1) ?_
      refine z_iload Q_X10_least (k := 61) rfl rfl ?_
      refine z_iload Q_X10_least (k := 62) rfl rfl ?_
      refine z_iload Q_X10_least (k := 63) rfl rfl ?_
      refine z_aload_n Q_X10_least (k := 64) rfl rfl ?_
      refine z_getR (b := 12) Q_X10_least (k := 65) rfl F_X10_25 rfl (n_ hB.1 rfl) (k_0 hB.1) (r_0_3 hB.1) ?_
      refine q_getI (o := 12) (z := 4) Q_X10_least (k := 66) rfl F_X10_211 rfl rfl rfl (n_ hB.1 rfl) (k_12 hB.1) ?_
      refine q_callV4_uV Q_X10_least (k := 67) rfl rfl K_X1_begin V_X1_begin L_X10_226 (n_ hB.1 rfl) (k_169 hB.1) (Nat.le_of_ble_eq_true rfl) (Nat.le_of_ble_eq_true rfl) rfl (Nat.zero_le _) (Nat.zero_le _) (w_X1_begin (d + 5) hB (qFi_169 hB.1) z11 z12 z10 (hB.2.1 _ _) h) (fun V5 hB5 h => ?_)
      refine z_aload_n Q_X10_least (k := 68) rfl rfl ?_
      refine z_aload_n Q_X10_least (k := 69) rfl rfl ?_
      refine z_getR (b := 169) Q_X10_least (k := 70) rfl F_X10_71 rfl (n_ hB5.1 rfl) (k_0 hB5.1) (r_0_13 hB5.1) ?_
      refine y_iconst Q_X10_least (k := 71) rfl ?_
      refine z_aload Q_X10_least (k := 72) rfl rfl ?_
      refine z_aload Q_X10_least (k := 73) rfl rfl ?_
      refine q_callV4_zVJ Q_X10_least (k := 74) rfl rfl K_X10_partAt V_X10_partAt L_X10_387 (n_ hB5.1 rfl) (k_0 hB5.1) (Nat.le_of_ble_eq_true rfl) (Nat.le_of_ble_eq_true rfl) rfl (Nat.zero_le _) (Nat.zero_le _) (w_X10_partAt d hB5 (qFi_169 hB5.1) ⟨by decide, by decide⟩ o4_ o5_ h) (fun r6 V6 J6 hB6 hz6 hb6 h => ?_)
      refine y_if_eq 169 Q_X10_least (k := 75) rfl (by decide) hz6 (fun c => ?_) (fun c => ?_)
      · replace h := h.1 c
        obtain ⟨q7, h⟩ := h
        refine y_iinc (L' := [some (.ref 0), none, none, some (.int (iI l3)), some (.ref l4.toNat), some (.ref l5.toNat), none, some (.int (iI l7)), some (.int (iI l8)), some (.int (iI l9)), some (.int (iI l10)), some (.int (iI l11)), some (.int (iI (l12 + 1)))]) Q_X10_least (k := 87) rfl (by decide) rfl rfl ?_
        refine z_goto (tgt := 104) Q_X10_least (k := 88) rfl (by decide) ?_
        exact y_fg (zsb_c rfl (zsb_n (zsb_n (zsb_c rfl (zsb_c rfl (zsb_c rfl (zsb_n (zsb_c rfl (zsb_c rfl (zsb_c rfl (zsb_c rfl (zsb_c rfl (zsb_c rfl zsb_e))))))))))))) (ih (l12 + 1) V6 J6 hB6 q7 h)
      · replace h := h.2 c
        refine z_iload_n Q_X10_least (k := 76) rfl rfl ?_
        refine y_if_ne 156 Q_X10_least (k := 77) rfl (by decide) z3 (fun c => ?_) (fun c => ?_)
        · replace h := h.2 c
          refine z_iload_n Q_X10_least (k := 80) rfl rfl ?_
          refine y_iconst Q_X10_least (k := 81) rfl ?_
          refine y_icmp_ne 166 Q_X10_least (k := 82) rfl (by decide) z3 ⟨by decide, by decide⟩ (fun c => ?_) (fun c => ?_)
          · replace h := h.2 c
            refine z_iload Q_X10_least (k := 85) rfl rfl ?_
            exact y_iret Q_X10_least (k := 86) rfl rfl (qI_iVJt hB6 z12 h)
          · replace h := h.1 c
            refine z_iload Q_X10_least (k := 83) rfl rfl ?_
            refine z_goto (tgt := 168) Q_X10_least (k := 84) rfl (by decide) ?_
            exact y_iret Q_X10_least (k := 86) rfl rfl (qI_iVJt hB6 z11 h)
        · replace h := h.1 c
          refine z_iload Q_X10_least (k := 78) rfl rfl ?_
          refine z_goto (tgt := 168) Q_X10_least (k := 79) rfl (by decide) ?_
          exact y_iret Q_X10_least (k := 86) rfl rfl (qI_iVJt hB6 z10 h)
set_option maxHeartbeats 4000000 in
set_option maxRecDepth 20000 in
theorem v_X10_least_94 {S : zS} {K : Int → qV → qJ → Prop} {Q : Int → qV → qJ → Prop} {X : String → qV → qJ → Prop} {kc ks : Nat} (d : Nat) {l3 : Int} (z3 : zr l3) {l4 : Int} (o4_ : qLa S l4) {l5 : Int} (o5_ : qLa S l5) {l7 : Int} (z7 : zr l7) {l8 : Int} (z8 : zr l8) {l9 : Int} (z9 : zr l9) {l10 : Int} (z10 : zr l10) (hK : ∀ (l11 : Int) (V : qV) (J : qJ), qB S V → zr l11 → K l11 V J → Z M_X10_least (d + 6) kc ks 181 [some (.ref 0), none, none, some (.int (iI l3)), some (.ref l4.toNat), some (.ref l5.toNat), none, some (.int (iI l7)), some (.int (iI l8)), some (.int (iI l9)), some (.int (iI l10)), some (.int (iI l11)), none] [] S (qi V) (qj J) (qP_iVJt S Q X)) : ∀ (f : Nat) (l11 : Int) (V : qV) (J : qJ), qB S V → zr l11 → lp_X10_least_94 l3 l4 l5 l7 l8 l9 l10 K Q f l11 V J → Z M_X10_least (d + 6) kc ks 94 [some (.ref 0), none, none, some (.int (iI l3)), some (.ref l4.toNat), some (.ref l5.toNat), none, some (.int (iI l7)), some (.int (iI l8)), some (.int (iI l9)), some (.int (iI l10)), some (.int (iI l11)), none] [] S (qi V) (qj J) (qP_iVJt S Q X) := by
  intro f
  induction f with
  | zero =>
    intro l11 V J hB z11 h
    exact h.elim
  | succ f ih =>
    intro l11 V J hB z11 h
    rw [lp_X10_least_94] at h
    refine z_iload Q_X10_least (k := 51) rfl rfl ?_
    refine z_iload Q_X10_least (k := 52) rfl rfl ?_
    refine y_icmp_gt 181 Q_X10_least (k := 53) rfl (by decide) z11 z8 (fun c => ?_) (fun c => ?_)
    · replace h := h.1 c
      exact y_fg (zsb_c rfl (zsb_n (zsb_n (zsb_c rfl (zsb_c rfl (zsb_c rfl (zsb_n (zsb_c rfl (zsb_c rfl (zsb_c rfl (zsb_c rfl (zsb_c rfl (zsb_n zsb_e))))))))))))) (hK l11 V J hB z11 h)
    · replace h := h.2 c
      refine y_iconst Q_X10_least (k := 54) rfl ?_
      refine y_istore (L' := [some (.ref 0), none, none, some (.int (iI l3)), some (.ref l4.toNat), some (.ref l5.toNat), none, some (.int (iI l7)), some (.int (iI l8)), some (.int (iI l9)), some (.int (iI l10)), some (.int (iI l11)), some (.int (iI 0))]) Q_X10_least (k := 55) rfl (by decide) rfl ?_
      refine y_fg (zsb_c rfl (zsb_n (zsb_n (zsb_c rfl (zsb_c rfl (zsb_c rfl (zsb_n (zsb_c rfl (zsb_c rfl (zsb_c rfl (zsb_c rfl (zsb_c rfl (zsb_c rfl zsb_e))))))))))))) (v_X10_least_104 d z3 o4_ o5_ z7 z8 z9 z10 z11 (fun l12x8 V8 J8 hB8 zl12x8 h => ?_) 100000 0 V J hB ⟨by decide, by decide⟩ h)
      obtain ⟨q9, h⟩ := h
      refine y_iinc (L' := [some (.ref 0), none, none, some (.int (iI l3)), some (.ref l4.toNat), some (.ref l5.toNat), none, some (.int (iI l7)), some (.int (iI l8)), some (.int (iI l9)), some (.int (iI l10)), some (.int (iI (l11 + 1))), some (.int (iI l12x8))]) Q_X10_least (k := 89) rfl (by decide) rfl rfl ?_
      refine z_goto (tgt := 94) Q_X10_least (k := 90) rfl (by decide) ?_
      exact y_fg (zsb_c rfl (zsb_n (zsb_n (zsb_c rfl (zsb_c rfl (zsb_c rfl (zsb_n (zsb_c rfl (zsb_c rfl (zsb_c rfl (zsb_c rfl (zsb_c rfl (zsb_n zsb_e))))))))))))) (ih (l11 + 1) V8 J8 hB8 q9 h)
set_option maxHeartbeats 4000000 in
set_option maxRecDepth 20000 in
theorem v_X10_least_84 {S : zS} {K : Int → qV → qJ → Prop} {Q : Int → qV → qJ → Prop} {X : String → qV → qJ → Prop} {kc ks : Nat} (d : Nat) {l3 : Int} (z3 : zr l3) {l4 : Int} (o4_ : qLa S l4) {l5 : Int} (o5_ : qLa S l5) {l7 : Int} (z7 : zr l7) {l8 : Int} (z8 : zr l8) {l9 : Int} (z9 : zr l9) (hK : ∀ (l10 : Int) (V : qV) (J : qJ), qB S V → zr l10 → K l10 V J → Z M_X10_least (d + 6) kc ks 187 [some (.ref 0), none, none, some (.int (iI l3)), some (.ref l4.toNat), some (.ref l5.toNat), none, some (.int (iI l7)), some (.int (iI l8)), some (.int (iI l9)), some (.int (iI l10)), none, none] [] S (qi V) (qj J) (qP_iVJt S Q X)) : ∀ (f : Nat) (l10 : Int) (V : qV) (J : qJ), qB S V → zr l10 → lp_X10_least_84 l3 l4 l5 l7 l8 l9 K Q f l10 V J → Z M_X10_least (d + 6) kc ks 84 [some (.ref 0), none, none, some (.int (iI l3)), some (.ref l4.toNat), some (.ref l5.toNat), none, some (.int (iI l7)), some (.int (iI l8)), some (.int (iI l9)), some (.int (iI l10)), none, none] [] S (qi V) (qj J) (qP_iVJt S Q X) := by
  intro f
  induction f with
  | zero =>
    intro l10 V J hB z10 h
    exact h.elim
  | succ f ih =>
    intro l10 V J hB z10 h
    rw [lp_X10_least_84] at h
    refine z_iload Q_X10_least (k := 46) rfl rfl ?_
    refine z_iload Q_X10_least (k := 47) rfl rfl ?_
    refine y_icmp_gt 187 Q_X10_least (k := 48) rfl (by decide) z10 z7 (fun c => ?_) (fun c => ?_)
    · replace h := h.1 c
      exact y_fg (zsb_c rfl (zsb_n (zsb_n (zsb_c rfl (zsb_c rfl (zsb_c rfl (zsb_n (zsb_c rfl (zsb_c rfl (zsb_c rfl (zsb_c rfl (zsb_n (zsb_n zsb_e))))))))))))) (hK l10 V J hB z10 h)
    · replace h := h.2 c
      refine y_iconst Q_X10_least (k := 49) rfl ?_
      refine y_istore (L' := [some (.ref 0), none, none, some (.int (iI l3)), some (.ref l4.toNat), some (.ref l5.toNat), none, some (.int (iI l7)), some (.int (iI l8)), some (.int (iI l9)), some (.int (iI l10)), some (.int (iI 0)), none]) Q_X10_least (k := 50) rfl (by decide) rfl ?_
      refine y_fg (zsb_c rfl (zsb_n (zsb_n (zsb_c rfl (zsb_c rfl (zsb_c rfl (zsb_n (zsb_c rfl (zsb_c rfl (zsb_c rfl (zsb_c rfl (zsb_c rfl (zsb_n zsb_e))))))))))))) (v_X10_least_94 d z3 o4_ o5_ z7 z8 z9 z10 (fun l11x10 V10 J10 hB10 zl11x10 h => ?_) 100000 0 V J hB ⟨by decide, by decide⟩ h)
      obtain ⟨q11, h⟩ := h
      refine y_iinc (L' := [some (.ref 0), none, none, some (.int (iI l3)), some (.ref l4.toNat), some (.ref l5.toNat), none, some (.int (iI l7)), some (.int (iI l8)), some (.int (iI l9)), some (.int (iI (l10 + 1))), some (.int (iI l11x10)), none]) Q_X10_least (k := 91) rfl (by decide) rfl rfl ?_
      refine z_goto (tgt := 84) Q_X10_least (k := 92) rfl (by decide) ?_
      exact y_fg (zsb_c rfl (zsb_n (zsb_n (zsb_c rfl (zsb_c rfl (zsb_c rfl (zsb_n (zsb_c rfl (zsb_c rfl (zsb_c rfl (zsb_c rfl (zsb_n (zsb_n zsb_e))))))))))))) (ih (l10 + 1) V10 J10 hB10 q11 h)
set_option maxHeartbeats 4000000 in
set_option maxRecDepth 20000 in
theorem w_X10_least {S : zS} {V : qV} {J : qJ} {Q : Int → qV → qJ → Prop} {X : String → qV → qJ → Prop} (d : Nat) (hB : qB S V) {a1 : Int} (z1 : zr a1) {a2 : Int} (z2 : zr a2) {a3 : Int} (z3 : zr a3) (h : W_X10_least a1 a2 a3 V J Q X) : Z M_X10_least (d + 6) 3 18 0 [some (.ref 0), some (.int (iI a1)), some (.int (iI a2)), some (.int (iI a3)), none, none, none, none, none, none, none, none, none] [] S (qi V) (qj J) (qP_iVJt S Q X) := by
  unfold W_X10_least at h
  refine z_aload_n Q_X10_least (k := 0) rfl rfl ?_
  refine z_iload_n Q_X10_least (k := 1) rfl rfl ?_
  refine q_callV1_rt Q_X10_least (k := 2) rfl rfl K_X10_lawOf V_X10_lawOf L_X10_253 (n_ hB.1 rfl) (k_0 hB.1) (Nat.le_of_ble_eq_true rfl) (Nat.le_of_ble_eq_true rfl) rfl (by decide) (by decide) (w_X10_lawOf (d + 5) hB z1 h) (fun E h => qX_iVJt hB h) (fun r1 ho1 h => ?_)
  refine y_astore (L' := [some (.ref 0), some (.int (iI a1)), some (.int (iI a2)), some (.int (iI a3)), some (.ref r1.toNat), none, none, none, none, none, none, none, none]) Q_X10_least (k := 3) rfl (by decide) rfl ?_
  refine z_aload_n Q_X10_least (k := 4) rfl rfl ?_
  refine z_iload_n Q_X10_least (k := 5) rfl rfl ?_
  refine q_callV1_rt Q_X10_least (k := 6) rfl rfl K_X10_lawOf V_X10_lawOf L_X10_253 (n_ hB.1 rfl) (k_0 hB.1) (Nat.le_of_ble_eq_true rfl) (Nat.le_of_ble_eq_true rfl) rfl (by decide) (by decide) (w_X10_lawOf (d + 5) hB z2 h) (fun E h => qX_iVJt hB h) (fun r2 ho2 h => ?_)
  refine y_astore (L' := [some (.ref 0), some (.int (iI a1)), some (.int (iI a2)), some (.int (iI a3)), some (.ref r1.toNat), some (.ref r2.toNat), none, none, none, none, none, none, none]) Q_X10_least (k := 7) rfl (by decide) rfl ?_
  refine z_iload_n Q_X10_least (k := 8) rfl rfl ?_
  refine y_iconst Q_X10_least (k := 9) rfl ?_
  refine y_iconst Q_X10_least (k := 10) rfl ?_
  refine q_callS3_ut Q_X10_least (k := 11) rfl rfl K_X10_testRange S_X10_testRange L_X10_134 (Nat.le_of_ble_eq_true rfl) (Nat.le_of_ble_eq_true rfl) rfl (by decide) (by decide) (w_X10_testRange (d + 5) hB z3 ⟨by decide, by decide⟩ ⟨by decide, by decide⟩ h) (fun E h => qX_iVJt hB h) (fun h => ?_)
  refine z_aload_n Q_X10_least (k := 12) rfl rfl ?_
  refine q_callV0_uJ Q_X10_least (k := 13) rfl rfl K_X10_fillWorldSet V_X10_fillWorldSet L_X10_151 (n_ hB.1 rfl) (k_0 hB.1) (Nat.le_of_ble_eq_true rfl) (Nat.le_of_ble_eq_true rfl) rfl (Nat.zero_le _) (Nat.zero_le _) (w_X10_fillWorldSet (d + 4) hB  h) (fun J4 h => ?_)
  refine z_aload Q_X10_least (k := 14) rfl rfl ?_
  refine q_getI (o := r1) (z := 6) Q_X10_least (k := 15) rfl F_X10_395 rfl (Int.toNat_of_nonneg ho1.1.1) rfl ho1.1.2.1 ho1.1.2.2.1 ?_
  refine z_aload Q_X10_least (k := 16) rfl rfl ?_
  refine q_getI (o := r2) (z := 6) Q_X10_least (k := 17) rfl F_X10_395 rfl (Int.toNat_of_nonneg ho2.1.1) rfl ho2.1.2.1 ho2.1.2.2.1 ?_
  refine y_ior Q_X10_least (k := 18) rfl ?_
  refine y_istore (L' := [some (.ref 0), some (.int (iI a1)), some (.int (iI a2)), some (.int (iI a3)), some (.ref r1.toNat), some (.ref r2.toNat), some (.int (iI (zor (V r1 6) (V r2 6)))), none, none, none, none, none, none]) Q_X10_least (k := 19) rfl (by decide) rfl ?_
  refine z_iload Q_X10_least (k := 20) rfl rfl ?_
  refine y_iconst Q_X10_least (k := 21) rfl ?_
  refine y_iand Q_X10_least (k := 22) rfl ?_
  refine y_if_eq 49 Q_X10_least (k := 23) rfl (by decide) (zand_r _ _) (fun c => ?_) (fun c => ?_)
  · replace h := h.1 c
    refine y_iconst Q_X10_least (k := 26) rfl ?_
    refine y_istore (L' := [some (.ref 0), some (.int (iI a1)), some (.int (iI a2)), some (.int (iI a3)), some (.ref r1.toNat), some (.ref r2.toNat), some (.int (iI (zor (V r1 6) (V r2 6)))), some (.int (iI 1)), none, none, none, none, none]) Q_X10_least (k := 27) rfl (by decide) rfl ?_
    refine z_iload Q_X10_least (k := 28) rfl rfl ?_
    refine y_iconst Q_X10_least (k := 29) rfl ?_
    refine y_iand Q_X10_least (k := 30) rfl ?_
    refine y_if_eq 63 Q_X10_least (k := 31) rfl (by decide) (zand_r _ _) (fun c => ?_) (fun c => ?_)
    · replace h := h.1 c
      refine y_iconst Q_X10_least (k := 34) rfl ?_
      refine y_istore (L' := [some (.ref 0), some (.int (iI a1)), some (.int (iI a2)), some (.int (iI a3)), some (.ref r1.toNat), some (.ref r2.toNat), some (.int (iI (zor (V r1 6) (V r2 6)))), some (.int (iI 1)), some (.int (iI 0)), none, none, none, none]) Q_X10_least (k := 35) rfl (by decide) rfl ?_
      refine z_iload Q_X10_least (k := 36) rfl rfl ?_
      refine y_bipush Q_X10_least (k := 37) rfl (by decide) ?_
      refine y_iand Q_X10_least (k := 38) rfl ?_
      refine y_if_eq 78 Q_X10_least (k := 39) rfl (by decide) (zand_r _ _) (fun c => ?_) (fun c => ?_)
      · replace h := h.1 c
        refine y_iconst Q_X10_least (k := 42) rfl ?_
        refine y_istore (L' := [some (.ref 0), some (.int (iI a1)), some (.int (iI a2)), some (.int (iI a3)), some (.ref r1.toNat), some (.ref r2.toNat), some (.int (iI (zor (V r1 6) (V r2 6)))), some (.int (iI 1)), some (.int (iI 0)), some (.int (iI 0)), none, none, none]) Q_X10_least (k := 43) rfl (by decide) rfl ?_
        refine y_iconst Q_X10_least (k := 44) rfl ?_
        refine y_istore (L' := [some (.ref 0), some (.int (iI a1)), some (.int (iI a2)), some (.int (iI a3)), some (.ref r1.toNat), some (.ref r2.toNat), some (.int (iI (zor (V r1 6) (V r2 6)))), some (.int (iI 1)), some (.int (iI 0)), some (.int (iI 0)), some (.int (iI 1)), none, none]) Q_X10_least (k := 45) rfl (by decide) rfl ?_
        refine y_fg (zsb_c rfl (zsb_n (zsb_n (zsb_c rfl (zsb_c rfl (zsb_c rfl (zsb_n (zsb_c rfl (zsb_c rfl (zsb_c rfl (zsb_c rfl (zsb_n (zsb_n zsb_e))))))))))))) (v_X10_least_84 d z3 ho1 ho2 ⟨by decide, by decide⟩ ⟨by decide, by decide⟩ ⟨by decide, by decide⟩ (fun l10x12 V12 J12 hB12 zl10x12 h => ?_) 100000 1 V J4 hB ⟨by decide, by decide⟩ h)
        refine y_iconst Q_X10_least (k := 93) rfl ?_
        exact y_iret Q_X10_least (k := 94) rfl rfl (qI_iVJt hB12 ⟨by decide, by decide⟩ h)
      · replace h := h.2 c
        refine y_iconst Q_X10_least (k := 40) rfl ?_
        refine z_goto (tgt := 79) Q_X10_least (k := 41) rfl (by decide) ?_
        refine y_istore (L' := [some (.ref 0), some (.int (iI a1)), some (.int (iI a2)), some (.int (iI a3)), some (.ref r1.toNat), some (.ref r2.toNat), some (.int (iI (zor (V r1 6) (V r2 6)))), some (.int (iI 1)), some (.int (iI 0)), some (.int (iI 3)), none, none, none]) Q_X10_least (k := 43) rfl (by decide) rfl ?_
        refine y_iconst Q_X10_least (k := 44) rfl ?_
        refine y_istore (L' := [some (.ref 0), some (.int (iI a1)), some (.int (iI a2)), some (.int (iI a3)), some (.ref r1.toNat), some (.ref r2.toNat), some (.int (iI (zor (V r1 6) (V r2 6)))), some (.int (iI 1)), some (.int (iI 0)), some (.int (iI 3)), some (.int (iI 1)), none, none]) Q_X10_least (k := 45) rfl (by decide) rfl ?_
        refine y_fg (zsb_c rfl (zsb_n (zsb_n (zsb_c rfl (zsb_c rfl (zsb_c rfl (zsb_n (zsb_c rfl (zsb_c rfl (zsb_c rfl (zsb_c rfl (zsb_n (zsb_n zsb_e))))))))))))) (v_X10_least_84 d z3 ho1 ho2 ⟨by decide, by decide⟩ ⟨by decide, by decide⟩ ⟨by decide, by decide⟩ (fun l10x13 V13 J13 hB13 zl10x13 h => ?_) 100000 1 V J4 hB ⟨by decide, by decide⟩ h)
        refine y_iconst Q_X10_least (k := 93) rfl ?_
        exact y_iret Q_X10_least (k := 94) rfl rfl (qI_iVJt hB13 ⟨by decide, by decide⟩ h)
    · replace h := h.2 c
      refine y_iconst Q_X10_least (k := 32) rfl ?_
      refine z_goto (tgt := 64) Q_X10_least (k := 33) rfl (by decide) ?_
      refine y_istore (L' := [some (.ref 0), some (.int (iI a1)), some (.int (iI a2)), some (.int (iI a3)), some (.ref r1.toNat), some (.ref r2.toNat), some (.int (iI (zor (V r1 6) (V r2 6)))), some (.int (iI 1)), some (.int (iI 5)), none, none, none, none]) Q_X10_least (k := 35) rfl (by decide) rfl ?_
      refine z_iload Q_X10_least (k := 36) rfl rfl ?_
      refine y_bipush Q_X10_least (k := 37) rfl (by decide) ?_
      refine y_iand Q_X10_least (k := 38) rfl ?_
      refine y_if_eq 78 Q_X10_least (k := 39) rfl (by decide) (zand_r _ _) (fun c => ?_) (fun c => ?_)
      · replace h := h.1 c
        refine y_iconst Q_X10_least (k := 42) rfl ?_
        refine y_istore (L' := [some (.ref 0), some (.int (iI a1)), some (.int (iI a2)), some (.int (iI a3)), some (.ref r1.toNat), some (.ref r2.toNat), some (.int (iI (zor (V r1 6) (V r2 6)))), some (.int (iI 1)), some (.int (iI 5)), some (.int (iI 0)), none, none, none]) Q_X10_least (k := 43) rfl (by decide) rfl ?_
        refine y_iconst Q_X10_least (k := 44) rfl ?_
        refine y_istore (L' := [some (.ref 0), some (.int (iI a1)), some (.int (iI a2)), some (.int (iI a3)), some (.ref r1.toNat), some (.ref r2.toNat), some (.int (iI (zor (V r1 6) (V r2 6)))), some (.int (iI 1)), some (.int (iI 5)), some (.int (iI 0)), some (.int (iI 1)), none, none]) Q_X10_least (k := 45) rfl (by decide) rfl ?_
        refine y_fg (zsb_c rfl (zsb_n (zsb_n (zsb_c rfl (zsb_c rfl (zsb_c rfl (zsb_n (zsb_c rfl (zsb_c rfl (zsb_c rfl (zsb_c rfl (zsb_n (zsb_n zsb_e))))))))))))) (v_X10_least_84 d z3 ho1 ho2 ⟨by decide, by decide⟩ ⟨by decide, by decide⟩ ⟨by decide, by decide⟩ (fun l10x14 V14 J14 hB14 zl10x14 h => ?_) 100000 1 V J4 hB ⟨by decide, by decide⟩ h)
        refine y_iconst Q_X10_least (k := 93) rfl ?_
        exact y_iret Q_X10_least (k := 94) rfl rfl (qI_iVJt hB14 ⟨by decide, by decide⟩ h)
      · replace h := h.2 c
        refine y_iconst Q_X10_least (k := 40) rfl ?_
        refine z_goto (tgt := 79) Q_X10_least (k := 41) rfl (by decide) ?_
        refine y_istore (L' := [some (.ref 0), some (.int (iI a1)), some (.int (iI a2)), some (.int (iI a3)), some (.ref r1.toNat), some (.ref r2.toNat), some (.int (iI (zor (V r1 6) (V r2 6)))), some (.int (iI 1)), some (.int (iI 5)), some (.int (iI 3)), none, none, none]) Q_X10_least (k := 43) rfl (by decide) rfl ?_
        refine y_iconst Q_X10_least (k := 44) rfl ?_
        refine y_istore (L' := [some (.ref 0), some (.int (iI a1)), some (.int (iI a2)), some (.int (iI a3)), some (.ref r1.toNat), some (.ref r2.toNat), some (.int (iI (zor (V r1 6) (V r2 6)))), some (.int (iI 1)), some (.int (iI 5)), some (.int (iI 3)), some (.int (iI 1)), none, none]) Q_X10_least (k := 45) rfl (by decide) rfl ?_
        refine y_fg (zsb_c rfl (zsb_n (zsb_n (zsb_c rfl (zsb_c rfl (zsb_c rfl (zsb_n (zsb_c rfl (zsb_c rfl (zsb_c rfl (zsb_c rfl (zsb_n (zsb_n zsb_e))))))))))))) (v_X10_least_84 d z3 ho1 ho2 ⟨by decide, by decide⟩ ⟨by decide, by decide⟩ ⟨by decide, by decide⟩ (fun l10x15 V15 J15 hB15 zl10x15 h => ?_) 100000 1 V J4 hB ⟨by decide, by decide⟩ h)
        refine y_iconst Q_X10_least (k := 93) rfl ?_
        exact y_iret Q_X10_least (k := 94) rfl rfl (qI_iVJt hB15 ⟨by decide, by decide⟩ h)
  · replace h := h.2 c
    refine y_bipush Q_X10_least (k := 24) rfl (by decide) ?_
    refine z_goto (tgt := 50) Q_X10_least (k := 25) rfl (by decide) ?_
    refine y_istore (L' := [some (.ref 0), some (.int (iI a1)), some (.int (iI a2)), some (.int (iI a3)), some (.ref r1.toNat), some (.ref r2.toNat), some (.int (iI (zor (V r1 6) (V r2 6)))), some (.int (iI 60)), none, none, none, none, none]) Q_X10_least (k := 27) rfl (by decide) rfl ?_
    refine z_iload Q_X10_least (k := 28) rfl rfl ?_
    refine y_iconst Q_X10_least (k := 29) rfl ?_
    refine y_iand Q_X10_least (k := 30) rfl ?_
    refine y_if_eq 63 Q_X10_least (k := 31) rfl (by decide) (zand_r _ _) (fun c => ?_) (fun c => ?_)
    · replace h := h.1 c
      refine y_iconst Q_X10_least (k := 34) rfl ?_
      refine y_istore (L' := [some (.ref 0), some (.int (iI a1)), some (.int (iI a2)), some (.int (iI a3)), some (.ref r1.toNat), some (.ref r2.toNat), some (.int (iI (zor (V r1 6) (V r2 6)))), some (.int (iI 60)), some (.int (iI 0)), none, none, none, none]) Q_X10_least (k := 35) rfl (by decide) rfl ?_
      refine z_iload Q_X10_least (k := 36) rfl rfl ?_
      refine y_bipush Q_X10_least (k := 37) rfl (by decide) ?_
      refine y_iand Q_X10_least (k := 38) rfl ?_
      refine y_if_eq 78 Q_X10_least (k := 39) rfl (by decide) (zand_r _ _) (fun c => ?_) (fun c => ?_)
      · replace h := h.1 c
        refine y_iconst Q_X10_least (k := 42) rfl ?_
        refine y_istore (L' := [some (.ref 0), some (.int (iI a1)), some (.int (iI a2)), some (.int (iI a3)), some (.ref r1.toNat), some (.ref r2.toNat), some (.int (iI (zor (V r1 6) (V r2 6)))), some (.int (iI 60)), some (.int (iI 0)), some (.int (iI 0)), none, none, none]) Q_X10_least (k := 43) rfl (by decide) rfl ?_
        refine y_iconst Q_X10_least (k := 44) rfl ?_
        refine y_istore (L' := [some (.ref 0), some (.int (iI a1)), some (.int (iI a2)), some (.int (iI a3)), some (.ref r1.toNat), some (.ref r2.toNat), some (.int (iI (zor (V r1 6) (V r2 6)))), some (.int (iI 60)), some (.int (iI 0)), some (.int (iI 0)), some (.int (iI 1)), none, none]) Q_X10_least (k := 45) rfl (by decide) rfl ?_
        refine y_fg (zsb_c rfl (zsb_n (zsb_n (zsb_c rfl (zsb_c rfl (zsb_c rfl (zsb_n (zsb_c rfl (zsb_c rfl (zsb_c rfl (zsb_c rfl (zsb_n (zsb_n zsb_e))))))))))))) (v_X10_least_84 d z3 ho1 ho2 ⟨by decide, by decide⟩ ⟨by decide, by decide⟩ ⟨by decide, by decide⟩ (fun l10x16 V16 J16 hB16 zl10x16 h => ?_) 100000 1 V J4 hB ⟨by decide, by decide⟩ h)
        refine y_iconst Q_X10_least (k := 93) rfl ?_
        exact y_iret Q_X10_least (k := 94) rfl rfl (qI_iVJt hB16 ⟨by decide, by decide⟩ h)
      · replace h := h.2 c
        refine y_iconst Q_X10_least (k := 40) rfl ?_
        refine z_goto (tgt := 79) Q_X10_least (k := 41) rfl (by decide) ?_
        refine y_istore (L' := [some (.ref 0), some (.int (iI a1)), some (.int (iI a2)), some (.int (iI a3)), some (.ref r1.toNat), some (.ref r2.toNat), some (.int (iI (zor (V r1 6) (V r2 6)))), some (.int (iI 60)), some (.int (iI 0)), some (.int (iI 3)), none, none, none]) Q_X10_least (k := 43) rfl (by decide) rfl ?_
        refine y_iconst Q_X10_least (k := 44) rfl ?_
        refine y_istore (L' := [some (.ref 0), some (.int (iI a1)), some (.int (iI a2)), some (.int (iI a3)), some (.ref r1.toNat), some (.ref r2.toNat), some (.int (iI (zor (V r1 6) (V r2 6)))), some (.int (iI 60)), some (.int (iI 0)), some (.int (iI 3)), some (.int (iI 1)), none, none]) Q_X10_least (k := 45) rfl (by decide) rfl ?_
        refine y_fg (zsb_c rfl (zsb_n (zsb_n (zsb_c rfl (zsb_c rfl (zsb_c rfl (zsb_n (zsb_c rfl (zsb_c rfl (zsb_c rfl (zsb_c rfl (zsb_n (zsb_n zsb_e))))))))))))) (v_X10_least_84 d z3 ho1 ho2 ⟨by decide, by decide⟩ ⟨by decide, by decide⟩ ⟨by decide, by decide⟩ (fun l10x17 V17 J17 hB17 zl10x17 h => ?_) 100000 1 V J4 hB ⟨by decide, by decide⟩ h)
        refine y_iconst Q_X10_least (k := 93) rfl ?_
        exact y_iret Q_X10_least (k := 94) rfl rfl (qI_iVJt hB17 ⟨by decide, by decide⟩ h)
    · replace h := h.2 c
      refine y_iconst Q_X10_least (k := 32) rfl ?_
      refine z_goto (tgt := 64) Q_X10_least (k := 33) rfl (by decide) ?_
      refine y_istore (L' := [some (.ref 0), some (.int (iI a1)), some (.int (iI a2)), some (.int (iI a3)), some (.ref r1.toNat), some (.ref r2.toNat), some (.int (iI (zor (V r1 6) (V r2 6)))), some (.int (iI 60)), some (.int (iI 5)), none, none, none, none]) Q_X10_least (k := 35) rfl (by decide) rfl ?_
      refine z_iload Q_X10_least (k := 36) rfl rfl ?_
      refine y_bipush Q_X10_least (k := 37) rfl (by decide) ?_
      refine y_iand Q_X10_least (k := 38) rfl ?_
      refine y_if_eq 78 Q_X10_least (k := 39) rfl (by decide) (zand_r _ _) (fun c => ?_) (fun c => ?_)
      · replace h := h.1 c
        refine y_iconst Q_X10_least (k := 42) rfl ?_
        refine y_istore (L' := [some (.ref 0), some (.int (iI a1)), some (.int (iI a2)), some (.int (iI a3)), some (.ref r1.toNat), some (.ref r2.toNat), some (.int (iI (zor (V r1 6) (V r2 6)))), some (.int (iI 60)), some (.int (iI 5)), some (.int (iI 0)), none, none, none]) Q_X10_least (k := 43) rfl (by decide) rfl ?_
        refine y_iconst Q_X10_least (k := 44) rfl ?_
        refine y_istore (L' := [some (.ref 0), some (.int (iI a1)), some (.int (iI a2)), some (.int (iI a3)), some (.ref r1.toNat), some (.ref r2.toNat), some (.int (iI (zor (V r1 6) (V r2 6)))), some (.int (iI 60)), some (.int (iI 5)), some (.int (iI 0)), some (.int (iI 1)), none, none]) Q_X10_least (k := 45) rfl (by decide) rfl ?_
        refine y_fg (zsb_c rfl (zsb_n (zsb_n (zsb_c rfl (zsb_c rfl (zsb_c rfl (zsb_n (zsb_c rfl (zsb_c rfl (zsb_c rfl (zsb_c rfl (zsb_n (zsb_n zsb_e))))))))))))) (v_X10_least_84 d z3 ho1 ho2 ⟨by decide, by decide⟩ ⟨by decide, by decide⟩ ⟨by decide, by decide⟩ (fun l10x18 V18 J18 hB18 zl10x18 h => ?_) 100000 1 V J4 hB ⟨by decide, by decide⟩ h)
        refine y_iconst Q_X10_least (k := 93) rfl ?_
        exact y_iret Q_X10_least (k := 94) rfl rfl (qI_iVJt hB18 ⟨by decide, by decide⟩ h)
      · replace h := h.2 c
        refine y_iconst Q_X10_least (k := 40) rfl ?_
        refine z_goto (tgt := 79) Q_X10_least (k := 41) rfl (by decide) ?_
        refine y_istore (L' := [some (.ref 0), some (.int (iI a1)), some (.int (iI a2)), some (.int (iI a3)), some (.ref r1.toNat), some (.ref r2.toNat), some (.int (iI (zor (V r1 6) (V r2 6)))), some (.int (iI 60)), some (.int (iI 5)), some (.int (iI 3)), none, none, none]) Q_X10_least (k := 43) rfl (by decide) rfl ?_
        refine y_iconst Q_X10_least (k := 44) rfl ?_
        refine y_istore (L' := [some (.ref 0), some (.int (iI a1)), some (.int (iI a2)), some (.int (iI a3)), some (.ref r1.toNat), some (.ref r2.toNat), some (.int (iI (zor (V r1 6) (V r2 6)))), some (.int (iI 60)), some (.int (iI 5)), some (.int (iI 3)), some (.int (iI 1)), none, none]) Q_X10_least (k := 45) rfl (by decide) rfl ?_
        refine y_fg (zsb_c rfl (zsb_n (zsb_n (zsb_c rfl (zsb_c rfl (zsb_c rfl (zsb_n (zsb_c rfl (zsb_c rfl (zsb_c rfl (zsb_c rfl (zsb_n (zsb_n zsb_e))))))))))))) (v_X10_least_84 d z3 ho1 ho2 ⟨by decide, by decide⟩ ⟨by decide, by decide⟩ ⟨by decide, by decide⟩ (fun l10x19 V19 J19 hB19 zl10x19 h => ?_) 100000 1 V J4 hB ⟨by decide, by decide⟩ h)
        refine y_iconst Q_X10_least (k := 93) rfl ?_
        exact y_iret Q_X10_least (k := 94) rfl rfl (qI_iVJt hB19 ⟨by decide, by decide⟩ h)
set_option maxHeartbeats 4000000 in
set_option maxRecDepth 20000 in
theorem w_X10_image {S : zS} {V : qV} {J : qJ} {Q : Int → qV → qJ → Prop} (d : Nat) (hB : qB S V) (h : W_X10_image V J Q) : Z M_X10_image (d + 3) 0 0 0 [some (.ref 0)] [] S (qi V) (qj J) (qP_iVJ S Q) := by
  unfold W_X10_image at h
  refine z_aload_n Q_X10_image (k := 0) rfl rfl ?_
  refine q_getI (o := 0) (z := 5) Q_X10_image (k := 1) rfl F_X10_398 rfl rfl rfl (n_ hB.1 rfl) (k_0 hB.1) ?_
  refine y_iconst Q_X10_image (k := 2) rfl ?_
  refine y_icmp_lt 10 Q_X10_image (k := 3) rfl (by decide) (hB.2.1 _ _) ⟨by decide, by decide⟩ (fun c => ?_) (fun c => ?_)
  · replace h := h.1 c
    refine z_aload_n Q_X10_image (k := 6) rfl rfl ?_
    refine z_getR (b := 150) Q_X10_image (k := 7) rfl F_X10_29 rfl (n_ hB.1 rfl) (k_0 hB.1) (r_0_4 hB.1) ?_
    refine z_aload_n Q_X10_image (k := 8) rfl rfl ?_
    refine q_getI (o := 0) (z := 5) Q_X10_image (k := 9) rfl F_X10_398 rfl rfl rfl (n_ hB.1 rfl) (k_0 hB.1) ?_
    obtain ⟨q1, h⟩ := h
    have o2 := (qe_image (i := V 0 5) hB.1 q1)
    refine y_aald (t := 5) (b := (188 + 138 * (V 0 5)).toNat) Q_X10_image (k := 10) rfl (n_ hB.1 rfl) (k_150 hB.1) (by decide) rfl q1.1 q1.2 (by decide) o2.2 ?_
    refine z_aload_n Q_X10_image (k := 11) rfl rfl ?_
    refine z_getR (b := 12) Q_X10_image (k := 12) rfl F_X10_25 rfl (n_ hB.1 rfl) (k_0 hB.1) (r_0_3 hB.1) ?_
    refine q_callV1_uVJ Q_X10_image (k := 13) rfl rfl K_X8_copy V_X8_copy L_X10_401 (qTo_ob hB.1 o2.1).2.1 (qTo_ob hB.1 o2.1).2.2.1 (Nat.le_of_ble_eq_true rfl) (Nat.le_of_ble_eq_true rfl) rfl (Nat.zero_le _) (Nat.zero_le _) (w_X8_copy d hB o2.1 (Or.inl rfl) h) (fun V3 J3 hB3 h => ?_)
    refine z_aload_n Q_X10_image (k := 14) rfl rfl ?_
    refine z_dup Q_X10_image (k := 15) rfl rfl ?_
    refine q_getI (o := 0) (z := 5) Q_X10_image (k := 16) rfl F_X10_398 rfl rfl rfl (n_ hB3.1 rfl) (k_0 hB3.1) ?_
    refine y_iconst Q_X10_image (k := 17) rfl ?_
    obtain ⟨q4, h⟩ := h
    refine y_iadd Q_X10_image (k := 18) rfl ?_
    refine q_putI (o := 0) (z := 5) Q_X10_image (k := 19) rfl F_X10_398 rfl rfl rfl (n_ hB3.1 rfl) (k_0 hB3.1) ?_
    have hB5 := qB.u (a := 0) (j := 5) (x := (V3 0 5) + 1) hB3 q4 (Or.inl (by decide))
    refine z_aload_n Q_X10_image (k := 20) rfl rfl ?_
    refine q_getI (o := 0) (z := 5) Q_X10_image (k := 21) rfl F_X10_398 rfl rfl rfl (n_ hB5.1 rfl) (k_0 hB5.1) ?_
    exact y_iret Q_X10_image (k := 22) rfl rfl (qI_iVJ hB5 (hB5.2.1 _ _) h)
  · replace h := h.2 c
    refine y_iconst Q_X10_image (k := 4) rfl ?_
    exact y_iret Q_X10_image (k := 5) rfl rfl (qI_iVJ hB ⟨by decide, by decide⟩ h)
set_option maxHeartbeats 4000000 in
set_option maxRecDepth 20000 in
theorem w_X10_restore {S : zS} {V : qV} {J : qJ} {Q : Int → qV → qJ → Prop} (d : Nat) (hB : qB S V) (h : W_X10_restore V J Q) : Z M_X10_restore (d + 3) 0 0 0 [some (.ref 0)] [] S (qi V) (qj J) (qP_iVJ S Q) := by
  unfold W_X10_restore at h
  refine z_aload_n Q_X10_restore (k := 0) rfl rfl ?_
  refine q_getI (o := 0) (z := 5) Q_X10_restore (k := 1) rfl F_X10_398 rfl rfl rfl (n_ hB.1 rfl) (k_0 hB.1) ?_
  refine y_if_le 15 Q_X10_restore (k := 2) rfl (by decide) (hB.2.1 _ _) (fun c => ?_) (fun c => ?_)
  · replace h := h.1 c
    refine y_iconst Q_X10_restore (k := 7) rfl ?_
    exact y_iret Q_X10_restore (k := 8) rfl rfl (qI_iVJ hB ⟨by decide, by decide⟩ h)
  · replace h := h.2 c
    refine z_aload_n Q_X10_restore (k := 3) rfl rfl ?_
    refine q_getI (o := 0) (z := 5) Q_X10_restore (k := 4) rfl F_X10_398 rfl rfl rfl (n_ hB.1 rfl) (k_0 hB.1) ?_
    refine y_iconst Q_X10_restore (k := 5) rfl ?_
    refine y_icmp_le 17 Q_X10_restore (k := 6) rfl (by decide) (hB.2.1 _ _) ⟨by decide, by decide⟩ (fun c => ?_) (fun c => ?_)
    · replace h := h.1 c
      refine z_aload_n Q_X10_restore (k := 9) rfl rfl ?_
      refine z_dup Q_X10_restore (k := 10) rfl rfl ?_
      refine q_getI (o := 0) (z := 5) Q_X10_restore (k := 11) rfl F_X10_398 rfl rfl rfl (n_ hB.1 rfl) (k_0 hB.1) ?_
      refine y_iconst Q_X10_restore (k := 12) rfl ?_
      obtain ⟨q1, h⟩ := h
      refine y_isub Q_X10_restore (k := 13) rfl ?_
      refine q_putI (o := 0) (z := 5) Q_X10_restore (k := 14) rfl F_X10_398 rfl rfl rfl (n_ hB.1 rfl) (k_0 hB.1) ?_
      have hB2 := qB.u (a := 0) (j := 5) (x := (V 0 5) - 1) hB q1 (Or.inl (by decide))
      refine z_aload_n Q_X10_restore (k := 15) rfl rfl ?_
      refine z_getR (b := 12) Q_X10_restore (k := 16) rfl F_X10_25 rfl (n_ hB2.1 rfl) (k_0 hB2.1) (r_0_3 hB2.1) ?_
      refine z_aload_n Q_X10_restore (k := 17) rfl rfl ?_
      refine z_getR (b := 150) Q_X10_restore (k := 18) rfl F_X10_29 rfl (n_ hB2.1 rfl) (k_0 hB2.1) (r_0_4 hB2.1) ?_
      refine z_aload_n Q_X10_restore (k := 19) rfl rfl ?_
      refine q_getI (o := 0) (z := 5) Q_X10_restore (k := 20) rfl F_X10_398 rfl rfl rfl (n_ hB2.1 rfl) (k_0 hB2.1) ?_
      obtain ⟨q3, h⟩ := h
      have o4 := (qe_image (i := (qu V 0 5 ((V 0 5) - 1)) 0 5) hB2.1 q3)
      refine y_aald (t := 5) (b := (188 + 138 * ((qu V 0 5 ((V 0 5) - 1)) 0 5)).toNat) Q_X10_restore (k := 21) rfl (n_ hB2.1 rfl) (k_150 hB2.1) (by decide) rfl q3.1 q3.2 (by decide) o4.2 ?_
      refine q_callV1_uVJ Q_X10_restore (k := 22) rfl rfl K_X8_copy V_X8_copy L_X10_401 (n_ hB2.1 rfl) (k_12 hB2.1) (Nat.le_of_ble_eq_true rfl) (Nat.le_of_ble_eq_true rfl) rfl (Nat.zero_le _) (Nat.zero_le _) (w_X8_copy d hB2 (Or.inl rfl) o4.1 h) (fun V5 J5 hB5 h => ?_)
      refine z_aload_n Q_X10_restore (k := 23) rfl rfl ?_
      refine q_getI (o := 0) (z := 5) Q_X10_restore (k := 24) rfl F_X10_398 rfl rfl rfl (n_ hB5.1 rfl) (k_0 hB5.1) ?_
      exact y_iret Q_X10_restore (k := 25) rfl rfl (qI_iVJ hB5 (hB5.2.1 _ _) h)
    · replace h := h.2 c
      refine y_iconst Q_X10_restore (k := 7) rfl ?_
      exact y_iret Q_X10_restore (k := 8) rfl rfl (qI_iVJ hB ⟨by decide, by decide⟩ h)
set_option maxHeartbeats 4000000 in
set_option maxRecDepth 20000 in
theorem w_X10_count {S : zS} {V : qV} {J : qJ} {Q : Int → Prop} (d : Nat) (hB : qB S V) {a1 : Int} (z1 : zr a1) (h : W_X10_count a1 V Q) : Z M_X10_count (d + 1) 0 0 0 [some (.ref 0), some (.int (iI a1))] [] S (qi V) (qj J) (qP_i S V J Q) := by
  unfold W_X10_count at h
  refine z_iload_n Q_X10_count (k := 0) rfl rfl ?_
  by_cases c1_0 : a1 = 0
  · replace h := h.1 c1_0
    refine y_switchK (j := 0) (tgt := 56) Q_X10_count (k := 1) rfl (by rw [c1_0]; decide) (by decide) z1 rfl (by decide) ?_
    refine z_aload_n Q_X10_count (k := 2) rfl rfl ?_
    refine q_getI (o := 0) (z := 2) Q_X10_count (k := 3) rfl F_X10_87 rfl rfl rfl (n_ hB.1 rfl) (k_0 hB.1) ?_
    exact y_iret Q_X10_count (k := 4) rfl rfl (qI_i (hB.2.1 _ _) h)
  replace h := h.2
  by_cases c1_1 : a1 = 1
  · replace h := h.1 c1_1
    refine y_switchK (j := 1) (tgt := 61) Q_X10_count (k := 1) rfl (by rw [c1_1]; decide) (by decide) z1 rfl (by decide) ?_
    refine z_aload_n Q_X10_count (k := 5) rfl rfl ?_
    refine z_getR (b := 12) Q_X10_count (k := 6) rfl F_X10_25 rfl (n_ hB.1 rfl) (k_0 hB.1) (r_0_3 hB.1) ?_
    refine q_getI (o := 12) (z := 0) Q_X10_count (k := 7) rfl F_X10_97 rfl rfl rfl (n_ hB.1 rfl) (k_12 hB.1) ?_
    exact y_iret Q_X10_count (k := 8) rfl rfl (qI_i (hB.2.1 _ _) h)
  replace h := h.2
  by_cases c1_2 : a1 = 2
  · replace h := h.1 c1_2
    refine y_switchK (j := 2) (tgt := 69) Q_X10_count (k := 1) rfl (by rw [c1_2]; decide) (by decide) z1 rfl (by decide) ?_
    refine z_aload_n Q_X10_count (k := 9) rfl rfl ?_
    refine z_getR (b := 12) Q_X10_count (k := 10) rfl F_X10_25 rfl (n_ hB.1 rfl) (k_0 hB.1) (r_0_3 hB.1) ?_
    refine q_callV0_i Q_X10_count (k := 11) rfl rfl K_X8_openUnknowns V_X8_openUnknowns L_X10_405 (n_ hB.1 rfl) (k_12 hB.1) (Nat.le_of_ble_eq_true rfl) (Nat.le_of_ble_eq_true rfl) rfl (Nat.zero_le _) (Nat.zero_le _) (w_X8_openUnknowns d hB  h) (fun r2 hz2 h => ?_)
    exact y_iret Q_X10_count (k := 12) rfl rfl (qI_i hz2 h)
  replace h := h.2
  by_cases c1_3 : a1 = 3
  · replace h := h.1 c1_3
    refine y_switchK (j := 3) (tgt := 77) Q_X10_count (k := 1) rfl (by rw [c1_3]; decide) (by decide) z1 rfl (by decide) ?_
    refine z_aload_n Q_X10_count (k := 13) rfl rfl ?_
    refine z_getR (b := 12) Q_X10_count (k := 14) rfl F_X10_25 rfl (n_ hB.1 rfl) (k_0 hB.1) (r_0_3 hB.1) ?_
    refine q_getI (o := 12) (z := 8) Q_X10_count (k := 15) rfl F_X10_180 rfl rfl rfl (n_ hB.1 rfl) (k_12 hB.1) ?_
    exact y_iret Q_X10_count (k := 16) rfl rfl (qI_i (hB.2.1 _ _) h)
  replace h := h.2
  by_cases c1_4 : a1 = 4
  · replace h := h.1 c1_4
    refine y_switchK (j := 4) (tgt := 85) Q_X10_count (k := 1) rfl (by rw [c1_4]; decide) (by decide) z1 rfl (by decide) ?_
    refine z_aload_n Q_X10_count (k := 17) rfl rfl ?_
    refine z_getR (b := 12) Q_X10_count (k := 18) rfl F_X10_25 rfl (n_ hB.1 rfl) (k_0 hB.1) (r_0_3 hB.1) ?_
    refine q_getI (o := 12) (z := 4) Q_X10_count (k := 19) rfl F_X10_211 rfl rfl rfl (n_ hB.1 rfl) (k_12 hB.1) ?_
    exact y_iret Q_X10_count (k := 20) rfl rfl (qI_i (hB.2.1 _ _) h)
  replace h := h.2
  by_cases c1_5 : a1 = 5
  · replace h := h.1 c1_5
    refine y_switchK (j := 5) (tgt := 93) Q_X10_count (k := 1) rfl (by rw [c1_5]; decide) (by decide) z1 rfl (by decide) ?_
    refine z_aload_n Q_X10_count (k := 21) rfl rfl ?_
    refine z_getR (b := 12) Q_X10_count (k := 22) rfl F_X10_25 rfl (n_ hB.1 rfl) (k_0 hB.1) (r_0_3 hB.1) ?_
    refine q_getI (o := 12) (z := 10) Q_X10_count (k := 23) rfl F_X10_219 rfl rfl rfl (n_ hB.1 rfl) (k_12 hB.1) ?_
    exact y_iret Q_X10_count (k := 24) rfl rfl (qI_i (hB.2.1 _ _) h)
  replace h := h.2
  by_cases c1_6 : a1 = 6
  · replace h := h.1 c1_6
    refine y_switchK (j := 6) (tgt := 101) Q_X10_count (k := 1) rfl (by rw [c1_6]; decide) (by decide) z1 rfl (by decide) ?_
    refine z_aload_n Q_X10_count (k := 25) rfl rfl ?_
    refine z_getR (b := 12) Q_X10_count (k := 26) rfl F_X10_25 rfl (n_ hB.1 rfl) (k_0 hB.1) (r_0_3 hB.1) ?_
    refine q_getI (o := 12) (z := 12) Q_X10_count (k := 27) rfl F_X10_304 rfl rfl rfl (n_ hB.1 rfl) (k_12 hB.1) ?_
    exact y_iret Q_X10_count (k := 28) rfl rfl (qI_i (hB.2.1 _ _) h)
  replace h := h.2
  by_cases c1_7 : a1 = 7
  · replace h := h.1 c1_7
    refine y_switchK (j := 7) (tgt := 109) Q_X10_count (k := 1) rfl (by rw [c1_7]; decide) (by decide) z1 rfl (by decide) ?_
    refine z_aload_n Q_X10_count (k := 29) rfl rfl ?_
    refine z_getR (b := 12) Q_X10_count (k := 30) rfl F_X10_25 rfl (n_ hB.1 rfl) (k_0 hB.1) (r_0_3 hB.1) ?_
    refine q_getI (o := 12) (z := 14) Q_X10_count (k := 31) rfl F_X10_357 rfl rfl rfl (n_ hB.1 rfl) (k_12 hB.1) ?_
    exact y_iret Q_X10_count (k := 32) rfl rfl (qI_i (hB.2.1 _ _) h)
  replace h := h.2
  by_cases c1_8 : a1 = 8
  · replace h := h.1 c1_8
    refine y_switchK (j := 8) (tgt := 117) Q_X10_count (k := 1) rfl (by rw [c1_8]; decide) (by decide) z1 rfl (by decide) ?_
    refine z_aload_n Q_X10_count (k := 33) rfl rfl ?_
    refine q_getI (o := 0) (z := 5) Q_X10_count (k := 34) rfl F_X10_398 rfl rfl rfl (n_ hB.1 rfl) (k_0 hB.1) ?_
    exact y_iret Q_X10_count (k := 35) rfl rfl (qI_i (hB.2.1 _ _) h)
  replace h := h.2
  by_cases c1_9 : a1 = 9
  · replace h := h.1 c1_9
    refine y_switchK (j := 9) (tgt := 122) Q_X10_count (k := 1) rfl (by rw [c1_9]; decide) (by decide) z1 rfl (by decide) ?_
    refine z_aload_n Q_X10_count (k := 36) rfl rfl ?_
    refine z_getR (b := 1) Q_X10_count (k := 37) rfl F_X10_12 rfl (n_ hB.1 rfl) (k_0 hB.1) (r_0_0 hB.1) ?_
    refine q_getI (o := 1) (z := 1) Q_X10_count (k := 38) rfl F_X10_76 rfl rfl rfl (n_ hB.1 rfl) (k_1 hB.1) ?_
    exact y_iret Q_X10_count (k := 39) rfl rfl (qI_i (hB.2.1 _ _) h)
  replace h := h.2
  have cd1 : a1 < 0 ∨ 9 < a1 := by omega
  replace h := h cd1
  refine y_switchD (tgt := 130) Q_X10_count (k := 1) rfl cd1 z1 (by decide) ?_
  refine y_iconst Q_X10_count (k := 40) rfl ?_
  exact y_iret Q_X10_count (k := 41) rfl rfl (qI_i ⟨by decide, by decide⟩ h)
