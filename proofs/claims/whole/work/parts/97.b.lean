/-! the law: questions, ask -/
def T_E_questions : zTb := [(1677, .aload_n 1, 1, 1678), (1678, .aload_n 0, 1, 1679), (1679, .iload 4, 2, 1681), (1681, .iconst 1, 1, 1682), (1682, .iadd, 1, 1683), (1683, .iaload, 1, 1684), (1684, .aload_n 0, 1, 1685), (1685, .iload 4, 2, 1687), (1687, .iconst 2, 1, 1688), (1688, .iadd, 1, 1689), (1689, .iaload, 1, 1690), (1690, .aload_n 3, 1, 1691), (1691, .invokestatic 221, 3, 1694), (1694, .istore 5, 2, 1696), (1696, .aload_n 2, 1, 1697), (1697, .aload_n 0, 1, 1698), (1698, .iload 4, 2, 1700), (1700, .iconst 1, 1, 1701), (1701, .iadd, 1, 1702), (1702, .iaload, 1, 1703), (1703, .aload_n 0, 1, 1704), (1704, .iload 4, 2, 1706), (1706, .iconst 2, 1, 1707), (1707, .iadd, 1, 1708), (1708, .iaload, 1, 1709), (1709, .invokevirtual 223, 3, 1712), (1712, .istore 6, 2, 1714), (1714, .aload_n 2, 1, 1715), (1715, .invokevirtual 144, 3, 1718), (1718, .iload 5, 2, 1720), (1720, .if_icmp .eq 5, 3, 1723), (1723, .iconst 0, 1, 1724), (1724, .ireturn, 1, 1725), (1725, .iload 5, 2, 1727), (1727, .ifCond .ne 15, 3, 1730), (1730, .aload_n 3, 1, 1731), (1731, .iconst 0, 1, 1732), (1732, .laload, 1, 1733), (1733, .iload 6, 2, 1735), (1735, .i2l, 1, 1736), (1736, .lcmp, 1, 1737), (1737, .ifCond .eq 5, 3, 1740), (1740, .iconst 0, 1, 1741), (1741, .ireturn, 1, 1742), (1742, .goto 1165, 3, 1745)]
set_option maxRecDepth 20000 in
theorem Q_E_questions : zT M_E T_E_questions := zT_of (by decide +kernel)
theorem e_questions {S : zS} {V : qV} {J : qJ} {n i : Int} {kc ks : Nat} {kz : Nat} (hk : ¬ gw V (V 1000004 (i + 1)) (V 1000004 (i + 2)) ∨ 59049 ≤ kz) (hB : qB S V) (hR : Rel n V J) (hi : 0 ≤ i ∧ i + 5 < V 1000005 0) (h1 : 67 ≤ kc) (h2 : 402 + kz ≤ ks) (kk : ∀ S' V' J', qB S' V' → Rel (n + 1) V' J' → (gw V (V 1000004 (i + 1)) (V 1000004 (i + 2)) → Rel (n + 1 - 8192) V' J') → scV V V' → Z M_E 200 (kc - 67) (ks - 402 - kz) 2907 (LE i none none none) [] S' (qi V') (qj J') QE) : Z M_E 200 kc ks 1677 (LE i none none none) [] S (qi V) (qj J) QE := by
  refine z_aload_n Q_E_questions (k := 0) rfl rfl ?_
  refine q_arg (i := i) (j := 1) hB Q_E_questions (k := 1) rfl rfl rfl rfl rfl rfl rfl (by omega) rfl ?_
  refine q_arg (i := i) (j := 2) hB Q_E_questions (k := 6) rfl rfl rfl rfl rfl rfl rfl (by omega) rfl ?_
  refine z_aload_n Q_E_questions (k := 11) rfl rfl ?_
  refine z_callSH (as := [.ref 0, .int (iI (V 1000004 (i + 1))), .int (iI (V 1000004 (i + 2))), .ref 624]) Q_E_questions (k := 12) rfl rfl K_L_questions L_L_221 rfl rfl (Nat.le_of_ble_eq_true rfl) rfl (by decide) (show 3 ≤ kc by omega) (show 12 + kz ≤ ks by omega) (Or.inr (zRbE hB.1.1)) (Z.scr (w_L_questions (Q := fun c V1 J1 => (c = 0 ∧ ∃ (r : Int) (J0 : qJ), zr r ∧ J1 = qu J0 624 0 (iI r).toInt64 ∧ W_X11_questions (V 1000004 (i + 1)) (V 1000004 (i + 2)) V1 (fun s V2 => V2 602 0 = 0 ∧ r = s ∧ Rel (n + 1) V2 J0 ∧ (gw V (V 1000004 (i + 1)) (V 1000004 (i + 2)) → Rel (n + 1 - 8192) V2 J0))) ∨ (c ≠ 0 ∧ W_X11_questions (V 1000004 (i + 1)) (V 1000004 (i + 2)) V1 (fun s V2 => V2 602 0 = c ∧ Rel (n + 1) V2 J1 ∧ (gw V (V 1000004 (i + 1)) (V 1000004 (i + 2)) → Rel (n + 1 - 8192) V2 J1)))) 191 hB (hB.2.1 _ _) (hB.2.1 _ _) (t_questions (P := (fun V2 J2 => Rel (n + 1) V2 J2 ∧ (gw V (V 1000004 (i + 1)) (V 1000004 (i + 2)) → Rel (n + 1 - 8192) V2 J2))) hk hR (fun _ _ h g => ⟨h, g⟩)) (fun r V1 J1 hz hw => Or.inl ⟨rfl, r, J1, hz, rfl, hw⟩) (fun E V1 J1 h => by
    rcases h with ⟨e, w⟩ | ⟨e, w⟩
    · exact Or.inl ⟨e, Or.inr ⟨by decide, w⟩⟩
    · exact Or.inr ⟨e, Or.inr ⟨by decide, w⟩⟩))) (fun E S' I' J' hq => by obtain ⟨⟨_, _, _, e, _⟩, _⟩ := hq; cases e) (fun v S' I' J' hq => ?_)
  obtain ⟨⟨c, V1, J1, e, hn1, hI, hJ, hB1, hzc, hq⟩, hsc⟩ := hq
  cases e; subst hI; subst hJ
  have sc := scV.of hB hB1 hsc
  have sl := sc.1
  refine y_istore (L' := LE i (some (.int (iI c))) none none) Q_E_questions (k := 13) rfl (by decide) rfl ?_
  refine z_aload_n Q_E_questions (k := 14) rfl rfl ?_
  refine q_arg (i := i) (j := 1) hB1 Q_E_questions (k := 15) rfl rfl rfl rfl rfl rfl rfl (by omega) (sc.2 _ (by omega)) ?_
  refine q_arg (i := i) (j := 2) hB1 Q_E_questions (k := 20) rfl rfl rfl rfl rfl rfl rfl (by omega) (sc.2 _ (by omega)) ?_
  rcases hq with ⟨rfl, r, J0, hzr, rfl, hw⟩ | ⟨c0, hw⟩
  · refine z_callV (o := 602) (as := [.int (iI (V 1000004 (i + 1))), .int (iI (V 1000004 (i + 2)))]) Q_E_questions (k := 25) rfl rfl K_X11_questions V_X11_questions L_L_223 (n_ hB1.1 rfl) (k_602 hB1.1) rfl rfl (Nat.le_of_ble_eq_true rfl) rfl (by decide) (Nat.zero_le _) (Nat.zero_le _) (Or.inl (fun o S' I' J' hq => by obtain ⟨_, _, _, e, _⟩ := hq; rw [e])) (w_X11_questions 196 hB1 (hB.2.1 _ _) (hB.2.1 _ _) hw) (fun E S' I' J' hq => by obtain ⟨_, _, e, _⟩ := hq; cases e) (fun v S' I' J' hq => ?_)
    obtain ⟨s, V2, e, hS, hI, hJ, hB2, hzs, hq⟩ := hq
    cases e; subst hS; subst hI; subst hJ
    have sc2 := scV.of hB1 hB2 ⟨rfl, fun _ => rfl⟩
    refine y_istore (L' := LE i (some (.int (iI 0))) (some (.int (iI s))) none) Q_E_questions (k := 26) rfl (by decide) rfl ?_
    refine z_aload_n Q_E_questions (k := 27) rfl rfl ?_
    refine q_callV0_i Q_E_questions (k := 28) rfl rfl K_X11_thrown V_X11_thrown L_L_144 (n_ hB2.1 rfl) (k_602 hB2.1) (Nat.le_of_ble_eq_true rfl) (Nat.le_of_ble_eq_true rfl) rfl (Nat.zero_le _) (Nat.zero_le _) (w_X11_thrown 199 hB2 (Q := fun r => r = V2 602 0) rfl) (fun t hzt ht => ?_)
    refine z_iload Q_E_questions (k := 29) rfl rfl ?_
    refine y_icmp_eq 1725 Q_E_questions (k := 30) rfl (by decide) hzt ⟨by decide, by decide⟩ (fun _ => ?_) (fun h => absurd (ht.trans hq.1) h)
    refine z_iload Q_E_questions (k := 33) rfl rfl ?_
    refine y_if_ne 1742 Q_E_questions (k := 34) rfl (by decide) ⟨by decide, by decide⟩ (fun h => absurd rfl h) (fun _ => ?_)
    refine z_aload_n Q_E_questions (k := 35) rfl rfl ?_
    refine y_iconst Q_E_questions (k := 36) rfl ?_
    refine q_lald (z := 0) (N := 1) (o := 624) Q_E_questions (k := 37) rfl rfl (n_ hB2.1 rfl) (k_624 hB2.1) rfl ⟨by decide, by decide⟩ (by decide) ?_
    refine z_iload Q_E_questions (k := 38) rfl rfl ?_
    refine z_i2l Q_E_questions (k := 39) rfl ?_
    refine y_lcmp Q_E_questions (k := 40) rfl ?_
    refine y_if_eq 1742 Q_E_questions (k := 41) rfl (by decide) (zlc_r _ _) (fun _ => ?_) (fun h => absurd (zlc_0.mpr (by rw [qu_s, hq.2.1])) h)
    exact z_goto Q_E_questions (k := 44) (tgt := 2907) rfl (by decide) (((kk _ V2 _ hB2 (hq.2.2.1.out _) (fun g => (hq.2.2.2 g).out _) (sc.tr sc2)).wid (by omega) (by omega)).sub LE_f)
  · refine z_callV (o := 602) (as := [.int (iI (V 1000004 (i + 1))), .int (iI (V 1000004 (i + 2)))]) Q_E_questions (k := 25) rfl rfl K_X11_questions V_X11_questions L_L_223 (n_ hB1.1 rfl) (k_602 hB1.1) rfl rfl (Nat.le_of_ble_eq_true rfl) rfl (by decide) (Nat.zero_le _) (Nat.zero_le _) (Or.inl (fun o S' I' J' hq => by obtain ⟨_, _, _, e, _⟩ := hq; rw [e])) (w_X11_questions 196 hB1 (hB.2.1 _ _) (hB.2.1 _ _) hw) (fun E S' I' J' hq => by obtain ⟨_, _, e, _⟩ := hq; cases e) (fun v S' I' J' hq => ?_)
    obtain ⟨s, V2, e, hS, hI, hJ, hB2, hzs, hq⟩ := hq
    cases e; subst hS; subst hI; subst hJ
    have sc2 := scV.of hB1 hB2 ⟨rfl, fun _ => rfl⟩
    refine y_istore (L' := LE i (some (.int (iI c))) (some (.int (iI s))) none) Q_E_questions (k := 26) rfl (by decide) rfl ?_
    refine z_aload_n Q_E_questions (k := 27) rfl rfl ?_
    refine q_callV0_i Q_E_questions (k := 28) rfl rfl K_X11_thrown V_X11_thrown L_L_144 (n_ hB2.1 rfl) (k_602 hB2.1) (Nat.le_of_ble_eq_true rfl) (Nat.le_of_ble_eq_true rfl) rfl (Nat.zero_le _) (Nat.zero_le _) (w_X11_thrown 199 hB2 (Q := fun r => r = V2 602 0) rfl) (fun t hzt ht => ?_)
    refine z_iload Q_E_questions (k := 29) rfl rfl ?_
    refine y_icmp_eq 1725 Q_E_questions (k := 30) rfl (by decide) hzt hzc (fun _ => ?_) (fun h => absurd (ht.trans hq.1) h)
    refine z_iload Q_E_questions (k := 33) rfl rfl ?_
    refine y_if_ne 1742 Q_E_questions (k := 34) rfl (by decide) hzc (fun _ => ?_) (fun h => absurd h c0)
    exact z_goto Q_E_questions (k := 44) (tgt := 2907) rfl (by decide) (((kk _ V2 J1 hB2 hq.2.1 hq.2.2 (sc.tr sc2)).wid (by omega) (by omega)).sub LE_f)
def T_E_ask : zTb := [(1745, .aload_n 1, 1, 1746), (1746, .aload_n 0, 1, 1747), (1747, .iload 4, 2, 1749), (1749, .iconst 1, 1, 1750), (1750, .iadd, 1, 1751), (1751, .iaload, 1, 1752), (1752, .aload_n 0, 1, 1753), (1753, .iload 4, 2, 1755), (1755, .iconst 2, 1, 1756), (1756, .iadd, 1, 1757), (1757, .iaload, 1, 1758), (1758, .aload_n 3, 1, 1759), (1759, .invokestatic 224, 3, 1762), (1762, .istore 5, 2, 1764), (1764, .aload_n 2, 1, 1765), (1765, .aload_n 0, 1, 1766), (1766, .iload 4, 2, 1768), (1768, .iconst 1, 1, 1769), (1769, .iadd, 1, 1770), (1770, .iaload, 1, 1771), (1771, .aload_n 0, 1, 1772), (1772, .iload 4, 2, 1774), (1774, .iconst 2, 1, 1775), (1775, .iadd, 1, 1776), (1776, .iaload, 1, 1777), (1777, .invokevirtual 226, 3, 1780), (1780, .istore 6, 2, 1782), (1782, .aload_n 2, 1, 1783), (1783, .invokevirtual 144, 3, 1786), (1786, .iload 5, 2, 1788), (1788, .if_icmp .eq 5, 3, 1791), (1791, .iconst 0, 1, 1792), (1792, .ireturn, 1, 1793), (1793, .iload 5, 2, 1795), (1795, .ifCond .ne 15, 3, 1798), (1798, .aload_n 3, 1, 1799), (1799, .iconst 0, 1, 1800), (1800, .laload, 1, 1801), (1801, .iload 6, 2, 1803), (1803, .i2l, 1, 1804), (1804, .lcmp, 1, 1805), (1805, .ifCond .eq 5, 3, 1808), (1808, .iconst 0, 1, 1809), (1809, .ireturn, 1, 1810), (1810, .goto 1097, 3, 1813)]
set_option maxRecDepth 20000 in
theorem Q_E_ask : zT M_E T_E_ask := zT_of (by decide +kernel)
theorem e_ask {S : zS} {V : qV} {J : qJ} {n i : Int} {kc ks : Nat} {kz : Nat} (hk : ¬ gw V (V 1000004 (i + 1)) (V 1000004 (i + 2)) ∨ 59049 ≤ kz) (hB : qB S V) (hR : Rel n V J) (hi : 0 ≤ i ∧ i + 5 < V 1000005 0) (h1 : 67 ≤ kc) (h2 : 402 + kz ≤ ks) (kk : ∀ S' V' J', qB S' V' → Rel (n + 1) V' J' → (gw V (V 1000004 (i + 1)) (V 1000004 (i + 2)) → Rel (n + 1 - 8192) V' J') → scV V V' → Z M_E 200 (kc - 67) (ks - 402 - kz) 2907 (LE i none none none) [] S' (qi V') (qj J') QE) : Z M_E 200 kc ks 1745 (LE i none none none) [] S (qi V) (qj J) QE := by
  refine z_aload_n Q_E_ask (k := 0) rfl rfl ?_
  refine q_arg (i := i) (j := 1) hB Q_E_ask (k := 1) rfl rfl rfl rfl rfl rfl rfl (by omega) rfl ?_
  refine q_arg (i := i) (j := 2) hB Q_E_ask (k := 6) rfl rfl rfl rfl rfl rfl rfl (by omega) rfl ?_
  refine z_aload_n Q_E_ask (k := 11) rfl rfl ?_
  refine z_callSH (as := [.ref 0, .int (iI (V 1000004 (i + 1))), .int (iI (V 1000004 (i + 2))), .ref 624]) Q_E_ask (k := 12) rfl rfl K_L_ask L_L_224 rfl rfl (Nat.le_of_ble_eq_true rfl) rfl (by decide) (show 3 ≤ kc by omega) (show 12 + kz ≤ ks by omega) (Or.inr (zRbE hB.1.1)) (Z.scr (w_L_ask (Q := fun c V1 J1 => (c = 0 ∧ ∃ (r : Int) (J0 : qJ), zr r ∧ J1 = qu J0 624 0 (iI r).toInt64 ∧ W_X11_ask (V 1000004 (i + 1)) (V 1000004 (i + 2)) V1 (fun s V2 => V2 602 0 = 0 ∧ r = s ∧ Rel (n + 1) V2 J0 ∧ (gw V (V 1000004 (i + 1)) (V 1000004 (i + 2)) → Rel (n + 1 - 8192) V2 J0))) ∨ (c ≠ 0 ∧ W_X11_ask (V 1000004 (i + 1)) (V 1000004 (i + 2)) V1 (fun s V2 => V2 602 0 = c ∧ Rel (n + 1) V2 J1 ∧ (gw V (V 1000004 (i + 1)) (V 1000004 (i + 2)) → Rel (n + 1 - 8192) V2 J1)))) 191 hB (hB.2.1 _ _) (hB.2.1 _ _) (t_ask (P := (fun V2 J2 => Rel (n + 1) V2 J2 ∧ (gw V (V 1000004 (i + 1)) (V 1000004 (i + 2)) → Rel (n + 1 - 8192) V2 J2))) hk hR (fun _ _ h g => ⟨h, g⟩)) (fun r V1 J1 hz hw => Or.inl ⟨rfl, r, J1, hz, rfl, hw⟩) (fun E V1 J1 h => by
    rcases h with ⟨e, w⟩ | ⟨e, w⟩
    · exact Or.inl ⟨e, Or.inr ⟨by decide, w⟩⟩
    · exact Or.inr ⟨e, Or.inr ⟨by decide, w⟩⟩))) (fun E S' I' J' hq => by obtain ⟨⟨_, _, _, e, _⟩, _⟩ := hq; cases e) (fun v S' I' J' hq => ?_)
  obtain ⟨⟨c, V1, J1, e, hn1, hI, hJ, hB1, hzc, hq⟩, hsc⟩ := hq
  cases e; subst hI; subst hJ
  have sc := scV.of hB hB1 hsc
  have sl := sc.1
  refine y_istore (L' := LE i (some (.int (iI c))) none none) Q_E_ask (k := 13) rfl (by decide) rfl ?_
  refine z_aload_n Q_E_ask (k := 14) rfl rfl ?_
  refine q_arg (i := i) (j := 1) hB1 Q_E_ask (k := 15) rfl rfl rfl rfl rfl rfl rfl (by omega) (sc.2 _ (by omega)) ?_
  refine q_arg (i := i) (j := 2) hB1 Q_E_ask (k := 20) rfl rfl rfl rfl rfl rfl rfl (by omega) (sc.2 _ (by omega)) ?_
  rcases hq with ⟨rfl, r, J0, hzr, rfl, hw⟩ | ⟨c0, hw⟩
  · refine z_callV (o := 602) (as := [.int (iI (V 1000004 (i + 1))), .int (iI (V 1000004 (i + 2)))]) Q_E_ask (k := 25) rfl rfl K_X11_ask V_X11_ask L_L_226 (n_ hB1.1 rfl) (k_602 hB1.1) rfl rfl (Nat.le_of_ble_eq_true rfl) rfl (by decide) (Nat.zero_le _) (Nat.zero_le _) (Or.inl (fun o S' I' J' hq => by obtain ⟨_, _, _, e, _⟩ := hq; rw [e])) (w_X11_ask 196 hB1 (hB.2.1 _ _) (hB.2.1 _ _) hw) (fun E S' I' J' hq => by obtain ⟨_, _, e, _⟩ := hq; cases e) (fun v S' I' J' hq => ?_)
    obtain ⟨s, V2, e, hS, hI, hJ, hB2, hzs, hq⟩ := hq
    cases e; subst hS; subst hI; subst hJ
    have sc2 := scV.of hB1 hB2 ⟨rfl, fun _ => rfl⟩
    refine y_istore (L' := LE i (some (.int (iI 0))) (some (.int (iI s))) none) Q_E_ask (k := 26) rfl (by decide) rfl ?_
    refine z_aload_n Q_E_ask (k := 27) rfl rfl ?_
    refine q_callV0_i Q_E_ask (k := 28) rfl rfl K_X11_thrown V_X11_thrown L_L_144 (n_ hB2.1 rfl) (k_602 hB2.1) (Nat.le_of_ble_eq_true rfl) (Nat.le_of_ble_eq_true rfl) rfl (Nat.zero_le _) (Nat.zero_le _) (w_X11_thrown 199 hB2 (Q := fun r => r = V2 602 0) rfl) (fun t hzt ht => ?_)
    refine z_iload Q_E_ask (k := 29) rfl rfl ?_
    refine y_icmp_eq 1793 Q_E_ask (k := 30) rfl (by decide) hzt ⟨by decide, by decide⟩ (fun _ => ?_) (fun h => absurd (ht.trans hq.1) h)
    refine z_iload Q_E_ask (k := 33) rfl rfl ?_
    refine y_if_ne 1810 Q_E_ask (k := 34) rfl (by decide) ⟨by decide, by decide⟩ (fun h => absurd rfl h) (fun _ => ?_)
    refine z_aload_n Q_E_ask (k := 35) rfl rfl ?_
    refine y_iconst Q_E_ask (k := 36) rfl ?_
    refine q_lald (z := 0) (N := 1) (o := 624) Q_E_ask (k := 37) rfl rfl (n_ hB2.1 rfl) (k_624 hB2.1) rfl ⟨by decide, by decide⟩ (by decide) ?_
    refine z_iload Q_E_ask (k := 38) rfl rfl ?_
    refine z_i2l Q_E_ask (k := 39) rfl ?_
    refine y_lcmp Q_E_ask (k := 40) rfl ?_
    refine y_if_eq 1810 Q_E_ask (k := 41) rfl (by decide) (zlc_r _ _) (fun _ => ?_) (fun h => absurd (zlc_0.mpr (by rw [qu_s, hq.2.1])) h)
    exact z_goto Q_E_ask (k := 44) (tgt := 2907) rfl (by decide) (((kk _ V2 _ hB2 (hq.2.2.1.out _) (fun g => (hq.2.2.2 g).out _) (sc.tr sc2)).wid (by omega) (by omega)).sub LE_f)
  · refine z_callV (o := 602) (as := [.int (iI (V 1000004 (i + 1))), .int (iI (V 1000004 (i + 2)))]) Q_E_ask (k := 25) rfl rfl K_X11_ask V_X11_ask L_L_226 (n_ hB1.1 rfl) (k_602 hB1.1) rfl rfl (Nat.le_of_ble_eq_true rfl) rfl (by decide) (Nat.zero_le _) (Nat.zero_le _) (Or.inl (fun o S' I' J' hq => by obtain ⟨_, _, _, e, _⟩ := hq; rw [e])) (w_X11_ask 196 hB1 (hB.2.1 _ _) (hB.2.1 _ _) hw) (fun E S' I' J' hq => by obtain ⟨_, _, e, _⟩ := hq; cases e) (fun v S' I' J' hq => ?_)
    obtain ⟨s, V2, e, hS, hI, hJ, hB2, hzs, hq⟩ := hq
    cases e; subst hS; subst hI; subst hJ
    have sc2 := scV.of hB1 hB2 ⟨rfl, fun _ => rfl⟩
    refine y_istore (L' := LE i (some (.int (iI c))) (some (.int (iI s))) none) Q_E_ask (k := 26) rfl (by decide) rfl ?_
    refine z_aload_n Q_E_ask (k := 27) rfl rfl ?_
    refine q_callV0_i Q_E_ask (k := 28) rfl rfl K_X11_thrown V_X11_thrown L_L_144 (n_ hB2.1 rfl) (k_602 hB2.1) (Nat.le_of_ble_eq_true rfl) (Nat.le_of_ble_eq_true rfl) rfl (Nat.zero_le _) (Nat.zero_le _) (w_X11_thrown 199 hB2 (Q := fun r => r = V2 602 0) rfl) (fun t hzt ht => ?_)
    refine z_iload Q_E_ask (k := 29) rfl rfl ?_
    refine y_icmp_eq 1793 Q_E_ask (k := 30) rfl (by decide) hzt hzc (fun _ => ?_) (fun h => absurd (ht.trans hq.1) h)
    refine z_iload Q_E_ask (k := 33) rfl rfl ?_
    refine y_if_ne 1810 Q_E_ask (k := 34) rfl (by decide) hzc (fun _ => ?_) (fun h => absurd h c0)
    exact z_goto Q_E_ask (k := 44) (tgt := 2907) rfl (by decide) (((kk _ V2 J1 hB2 hq.2.1 hq.2.2 (sc.tr sc2)).wid (by omega) (by omega)).sub LE_f)
