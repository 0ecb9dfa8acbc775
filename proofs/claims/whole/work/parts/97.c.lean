/-! the law: part -/
def T_E_part : zTb := [(1462, .aload_n 1, 1, 1463), (1463, .aload_n 0, 1, 1464), (1464, .iload 4, 2, 1466), (1466, .iconst 1, 1, 1467), (1467, .iadd, 1, 1468), (1468, .iaload, 1, 1469), (1469, .aload_n 0, 1, 1470), (1470, .iload 4, 2, 1472), (1472, .iconst 2, 1, 1473), (1473, .iadd, 1, 1474), (1474, .iaload, 1, 1475), (1475, .aload_n 0, 1, 1476), (1476, .iload 4, 2, 1478), (1478, .iconst 3, 1, 1479), (1479, .iadd, 1, 1480), (1480, .iaload, 1, 1481), (1481, .aload_n 3, 1, 1482), (1482, .invokestatic 212, 3, 1485), (1485, .istore 5, 2, 1487), (1487, .aload_n 2, 1, 1488), (1488, .aload_n 0, 1, 1489), (1489, .iload 4, 2, 1491), (1491, .iconst 1, 1, 1492), (1492, .iadd, 1, 1493), (1493, .iaload, 1, 1494), (1494, .aload_n 0, 1, 1495), (1495, .iload 4, 2, 1497), (1497, .iconst 2, 1, 1498), (1498, .iadd, 1, 1499), (1499, .iaload, 1, 1500), (1500, .aload_n 0, 1, 1501), (1501, .iload 4, 2, 1503), (1503, .iconst 3, 1, 1504), (1504, .iadd, 1, 1505), (1505, .iaload, 1, 1506), (1506, .invokevirtual 214, 3, 1509), (1509, .lstore 6, 2, 1511), (1511, .aload_n 2, 1, 1512), (1512, .invokevirtual 144, 3, 1515), (1515, .iload 5, 2, 1517), (1517, .if_icmp .eq 5, 3, 1520), (1520, .iconst 0, 1, 1521), (1521, .ireturn, 1, 1522), (1522, .iload 5, 2, 1524), (1524, .ifCond .ne 14, 3, 1527), (1527, .aload_n 3, 1, 1528), (1528, .iconst 0, 1, 1529), (1529, .laload, 1, 1530), (1530, .lload 6, 2, 1532), (1532, .lcmp, 1, 1533), (1533, .ifCond .eq 5, 3, 1536), (1536, .iconst 0, 1, 1537), (1537, .ireturn, 1, 1538), (1538, .goto 1369, 3, 1541)]
set_option maxRecDepth 20000 in
theorem Q_E_part : zT M_E T_E_part := zT_of (by decide +kernel)
theorem e_part {S : zS} {V : qV} {J : qJ} {n i : Int} {kc ks : Nat} (hB : qB S V) (hR : Rel n V J) (hi : 0 ≤ i ∧ i + 5 < V 1000005 0) (h1 : 67 ≤ kc) (h2 : 402 ≤ ks) (kk : ∀ S' V' J', qB S' V' → Rel (n + 1) V' J' → scV V V' → Z M_E 200 (kc - 67) (ks - 402) 2907 (LE i none none none) [] S' (qi V') (qj J') QE) : Z M_E 200 kc ks 1462 (LE i none none none) [] S (qi V) (qj J) QE := by
  refine z_aload_n Q_E_part (k := 0) rfl rfl ?_
  refine q_arg (i := i) (j := 1) hB Q_E_part (k := 1) rfl rfl rfl rfl rfl rfl rfl (by omega) rfl ?_
  refine q_arg (i := i) (j := 2) hB Q_E_part (k := 6) rfl rfl rfl rfl rfl rfl rfl (by omega) rfl ?_
  refine q_arg (i := i) (j := 3) hB Q_E_part (k := 11) rfl rfl rfl rfl rfl rfl rfl (by omega) rfl ?_
  refine z_aload_n Q_E_part (k := 16) rfl rfl ?_
  refine z_callSH (as := [.ref 0, .int (iI (V 1000004 (i + 1))), .int (iI (V 1000004 (i + 2))), .int (iI (V 1000004 (i + 3))), .ref 624]) Q_E_part (k := 17) rfl rfl K_L_part L_L_212 rfl rfl (Nat.le_of_ble_eq_true rfl) rfl (by decide) (show 3 ≤ kc by omega) (show 18 ≤ ks by omega) (Or.inr (zRbE hB.1.1)) (Z.scr (w_L_part (Q := fun c V1 J1 => (c = 0 ∧ ∃ (r : Int64) (J0 : qJ), J1 = qu J0 624 0 r ∧ W_X11_part (V 1000004 (i + 1)) (V 1000004 (i + 2)) (V 1000004 (i + 3)) V1 (fun s V2 => V2 602 0 = 0 ∧ r = s ∧ Rel (n + 1) V2 J0)) ∨ (c ≠ 0 ∧ W_X11_part (V 1000004 (i + 1)) (V 1000004 (i + 2)) (V 1000004 (i + 3)) V1 (fun s V2 => V2 602 0 = c ∧ Rel (n + 1) V2 J1))) 192 hB (hB.2.1 _ _) (hB.2.1 _ _) (hB.2.1 _ _) (t_part (P := (fun V2 J2 => Rel (n + 1) V2 J2)) hR (fun _ _ h => h)) (fun r V1 J1 hw => Or.inl ⟨rfl, r, J1, rfl, hw⟩) (fun E V1 J1 h => by
    rcases h with ⟨e, w⟩ | ⟨e, w⟩
    · exact Or.inl ⟨e, Or.inr ⟨by decide, w⟩⟩
    · exact Or.inr ⟨e, Or.inr ⟨by decide, w⟩⟩))) (fun E S' I' J' hq => by obtain ⟨⟨_, _, _, e, _⟩, _⟩ := hq; cases e) (fun v S' I' J' hq => ?_)
  obtain ⟨⟨c, V1, J1, e, hn1, hI, hJ, hB1, hzc, hq⟩, hsc⟩ := hq
  cases e; subst hI; subst hJ
  have sc := scV.of hB hB1 hsc
  have sl := sc.1
  refine y_istore (L' := LE i (some (.int (iI c))) none none) Q_E_part (k := 18) rfl (by decide) rfl ?_
  refine z_aload_n Q_E_part (k := 19) rfl rfl ?_
  refine q_arg (i := i) (j := 1) hB1 Q_E_part (k := 20) rfl rfl rfl rfl rfl rfl rfl (by omega) (sc.2 _ (by omega)) ?_
  refine q_arg (i := i) (j := 2) hB1 Q_E_part (k := 25) rfl rfl rfl rfl rfl rfl rfl (by omega) (sc.2 _ (by omega)) ?_
  refine q_arg (i := i) (j := 3) hB1 Q_E_part (k := 30) rfl rfl rfl rfl rfl rfl rfl (by omega) (sc.2 _ (by omega)) ?_
  rcases hq with ⟨rfl, r, J0, rfl, hw⟩ | ⟨c0, hw⟩
  · refine z_callV (o := 602) (as := [.int (iI (V 1000004 (i + 1))), .int (iI (V 1000004 (i + 2))), .int (iI (V 1000004 (i + 3)))]) Q_E_part (k := 35) rfl rfl K_X11_part V_X11_part L_L_214 (n_ hB1.1 rfl) (k_602 hB1.1) rfl rfl (Nat.le_of_ble_eq_true rfl) rfl (by decide) (Nat.zero_le _) (Nat.zero_le _) (Or.inl (fun o S' I' J' hq => by obtain ⟨_, _, _, e, _⟩ := hq; rw [e])) (w_X11_part 196 hB1 (hB.2.1 _ _) (hB.2.1 _ _) (hB.2.1 _ _) hw) (fun E S' I' J' hq => by obtain ⟨_, _, e, _⟩ := hq; cases e) (fun v S' I' J' hq => ?_)
    obtain ⟨s, V2, e, hS, hI, hJ, hB2, hq⟩ := hq
    cases e; subst hS; subst hI; subst hJ
    have sc2 := scV.of hB1 hB2 ⟨rfl, fun _ => rfl⟩
    refine z_lstore Q_E_part (k := 36) rfl (by decide) (fun y => LE i (some (.int (iI 0))) (some (.long y)) none) (fun _ => rfl) (fun y hy => ?_)
    subst hy
    refine z_aload_n Q_E_part (k := 37) rfl rfl ?_
    refine q_callV0_i Q_E_part (k := 38) rfl rfl K_X11_thrown V_X11_thrown L_L_144 (n_ hB2.1 rfl) (k_602 hB2.1) (Nat.le_of_ble_eq_true rfl) (Nat.le_of_ble_eq_true rfl) rfl (Nat.zero_le _) (Nat.zero_le _) (w_X11_thrown 199 hB2 (Q := fun r => r = V2 602 0) rfl) (fun t hzt ht => ?_)
    refine z_iload Q_E_part (k := 39) rfl rfl ?_
    refine y_icmp_eq 1522 Q_E_part (k := 40) rfl (by decide) hzt ⟨by decide, by decide⟩ (fun _ => ?_) (fun h => absurd (ht.trans hq.1) h)
    refine z_iload Q_E_part (k := 43) rfl rfl ?_
    refine y_if_ne 1538 Q_E_part (k := 44) rfl (by decide) ⟨by decide, by decide⟩ (fun h => absurd rfl h) (fun _ => ?_)
    refine z_aload_n Q_E_part (k := 45) rfl rfl ?_
    refine y_iconst Q_E_part (k := 46) rfl ?_
    refine q_lald (z := 0) (N := 1) (o := 624) Q_E_part (k := 47) rfl rfl (n_ hB2.1 rfl) (k_624 hB2.1) rfl ⟨by decide, by decide⟩ (by decide) ?_
    refine z_lload Q_E_part (k := 48) rfl rfl ?_
    refine y_lcmp Q_E_part (k := 49) rfl ?_
    refine y_if_eq 1538 Q_E_part (k := 50) rfl (by decide) (zlc_r _ _) (fun _ => ?_) (fun h => absurd (zlc_0.mpr (by rw [qu_s, hq.2.1])) h)
    exact z_goto Q_E_part (k := 53) (tgt := 2907) rfl (by decide) (((kk _ V2 _ hB2 (hq.2.2.out _) (sc.tr sc2)).wid (by omega) (by omega)).sub LE_f)
  · refine z_callV (o := 602) (as := [.int (iI (V 1000004 (i + 1))), .int (iI (V 1000004 (i + 2))), .int (iI (V 1000004 (i + 3)))]) Q_E_part (k := 35) rfl rfl K_X11_part V_X11_part L_L_214 (n_ hB1.1 rfl) (k_602 hB1.1) rfl rfl (Nat.le_of_ble_eq_true rfl) rfl (by decide) (Nat.zero_le _) (Nat.zero_le _) (Or.inl (fun o S' I' J' hq => by obtain ⟨_, _, _, e, _⟩ := hq; rw [e])) (w_X11_part 196 hB1 (hB.2.1 _ _) (hB.2.1 _ _) (hB.2.1 _ _) hw) (fun E S' I' J' hq => by obtain ⟨_, _, e, _⟩ := hq; cases e) (fun v S' I' J' hq => ?_)
    obtain ⟨s, V2, e, hS, hI, hJ, hB2, hq⟩ := hq
    cases e; subst hS; subst hI; subst hJ
    have sc2 := scV.of hB1 hB2 ⟨rfl, fun _ => rfl⟩
    refine z_lstore Q_E_part (k := 36) rfl (by decide) (fun y => LE i (some (.int (iI c))) (some (.long y)) none) (fun _ => rfl) (fun y hy => ?_)
    subst hy
    refine z_aload_n Q_E_part (k := 37) rfl rfl ?_
    refine q_callV0_i Q_E_part (k := 38) rfl rfl K_X11_thrown V_X11_thrown L_L_144 (n_ hB2.1 rfl) (k_602 hB2.1) (Nat.le_of_ble_eq_true rfl) (Nat.le_of_ble_eq_true rfl) rfl (Nat.zero_le _) (Nat.zero_le _) (w_X11_thrown 199 hB2 (Q := fun r => r = V2 602 0) rfl) (fun t hzt ht => ?_)
    refine z_iload Q_E_part (k := 39) rfl rfl ?_
    refine y_icmp_eq 1522 Q_E_part (k := 40) rfl (by decide) hzt hzc (fun _ => ?_) (fun h => absurd (ht.trans hq.1) h)
    refine z_iload Q_E_part (k := 43) rfl rfl ?_
    refine y_if_ne 1538 Q_E_part (k := 44) rfl (by decide) hzc (fun _ => ?_) (fun h => absurd h c0)
    exact z_goto Q_E_part (k := 53) (tgt := 2907) rfl (by decide) (((kk _ V2 J1 hB2 hq.2 (sc.tr sc2)).wid (by omega) (by omega)).sub LE_f)
