/-! the law: its calls that catch -/
def T_E_know : zTb := [(426, .aload_n 1, 1, 427), (427, .aload_n 0, 1, 428), (428, .iload 4, 2, 430), (430, .iconst 1, 1, 431), (431, .iadd, 1, 432), (432, .iaload, 1, 433), (433, .aload_n 0, 1, 434), (434, .iload 4, 2, 436), (436, .iconst 2, 1, 437), (437, .iadd, 1, 438), (438, .iaload, 1, 439), (439, .aload_n 3, 1, 440), (440, .invokestatic 155, 3, 443), (443, .istore 5, 2, 445), (445, .aload_n 2, 1, 446), (446, .aload_n 0, 1, 447), (447, .iload 4, 2, 449), (449, .iconst 1, 1, 450), (450, .iadd, 1, 451), (451, .iaload, 1, 452), (452, .aload_n 0, 1, 453), (453, .iload 4, 2, 455), (455, .iconst 2, 1, 456), (456, .iadd, 1, 457), (457, .iaload, 1, 458), (458, .invokevirtual 158, 3, 461), (461, .istore 6, 2, 463), (463, .aload_n 2, 1, 464), (464, .invokevirtual 144, 3, 467), (467, .iload 5, 2, 469), (469, .if_icmp .eq 5, 3, 472), (472, .iconst 0, 1, 473), (473, .ireturn, 1, 474), (474, .iload 5, 2, 476), (476, .ifCond .ne 15, 3, 479), (479, .aload_n 3, 1, 480), (480, .iconst 0, 1, 481), (481, .laload, 1, 482), (482, .iload 6, 2, 484), (484, .i2l, 1, 485), (485, .lcmp, 1, 486), (486, .ifCond .eq 5, 3, 489), (489, .iconst 0, 1, 490), (490, .ireturn, 1, 491), (491, .goto 2416, 3, 494)]
set_option maxRecDepth 20000 in
theorem Q_E_know : zT M_E T_E_know := zT_of (by decide +kernel)
theorem e_know {S : zS} {V : qV} {J : qJ} {n i : Int} {kc ks : Nat} (hB : qB S V) (hR : Rel n V J) (hi : 0 ≤ i ∧ i + 5 < V 1000005 0) (h1 : 67 ≤ kc) (h2 : 402 ≤ ks) (kk : ∀ S' V' J', qB S' V' → Rel (n + 1) V' J' → scV V V' → Z M_E 200 (kc - 67) (ks - 402) 2907 (LE i none none none) [] S' (qi V') (qj J') QE) : Z M_E 200 kc ks 426 (LE i none none none) [] S (qi V) (qj J) QE := by
  refine z_aload_n Q_E_know (k := 0) rfl rfl ?_
  refine q_arg (i := i) (j := 1) hB Q_E_know (k := 1) rfl rfl rfl rfl rfl rfl rfl (by omega) rfl ?_
  refine q_arg (i := i) (j := 2) hB Q_E_know (k := 6) rfl rfl rfl rfl rfl rfl rfl (by omega) rfl ?_
  refine z_aload_n Q_E_know (k := 11) rfl rfl ?_
  refine z_callSH (as := [.ref 0, .int (iI (V 1000004 (i + 1))), .int (iI (V 1000004 (i + 2))), .ref 624]) Q_E_know (k := 12) rfl rfl K_L_know L_L_155 rfl rfl (Nat.le_of_ble_eq_true rfl) rfl (by decide) (show 2 ≤ kc by omega) (show 12 ≤ ks by omega) (Or.inr (zRbE hB.1.1)) (Z.scr (w_L_know (Q := fun c V1 J1 => (c = 0 ∧ ∃ (r : Int) (J0 : qJ), zr r ∧ J1 = qu J0 624 0 (iI r).toInt64 ∧ W_X11_know (V 1000004 (i + 1)) (V 1000004 (i + 2)) V1 (fun s V2 => V2 602 0 = 0 ∧ r = s ∧ Rel (n + 1) V2 J0)) ∨ (c ≠ 0 ∧ W_X11_know (V 1000004 (i + 1)) (V 1000004 (i + 2)) V1 (fun s V2 => V2 602 0 = c ∧ Rel (n + 1) V2 J1))) 197 hB (hB.2.1 _ _) (hB.2.1 _ _) (t_know (P := (fun V2 => Rel (n + 1) V2 J)) hR (fun _ h => h)) (fun r V1 hz hw => Or.inl ⟨rfl, r, J, hz, rfl, hw⟩) (fun E V1 h => by
    rcases h with ⟨e, w⟩ | ⟨e, w⟩
    · exact Or.inl ⟨e, Or.inr ⟨by decide, w⟩⟩
    · exact Or.inr ⟨e, Or.inr ⟨by decide, w⟩⟩))) (fun E S' I' J' hq => by obtain ⟨⟨_, _, _, e, _⟩, _⟩ := hq; cases e) (fun v S' I' J' hq => ?_)
  obtain ⟨⟨c, V1, J1, e, hn1, hI, hJ, hB1, hzc, hq⟩, hsc⟩ := hq
  cases e; subst hI; subst hJ
  have sc := scV.of hB hB1 hsc
  have sl := sc.1
  refine y_istore (L' := LE i (some (.int (iI c))) none none) Q_E_know (k := 13) rfl (by decide) rfl ?_
  refine z_aload_n Q_E_know (k := 14) rfl rfl ?_
  refine q_arg (i := i) (j := 1) hB1 Q_E_know (k := 15) rfl rfl rfl rfl rfl rfl rfl (by omega) (sc.2 _ (by omega)) ?_
  refine q_arg (i := i) (j := 2) hB1 Q_E_know (k := 20) rfl rfl rfl rfl rfl rfl rfl (by omega) (sc.2 _ (by omega)) ?_
  rcases hq with ⟨rfl, r, J0, hzr, rfl, hw⟩ | ⟨c0, hw⟩
  · refine z_callV (o := 602) (as := [.int (iI (V 1000004 (i + 1))), .int (iI (V 1000004 (i + 2)))]) Q_E_know (k := 25) rfl rfl K_X11_know V_X11_know L_L_158 (n_ hB1.1 rfl) (k_602 hB1.1) rfl rfl (Nat.le_of_ble_eq_true rfl) rfl (by decide) (Nat.zero_le _) (Nat.zero_le _) (Or.inl (fun o S' I' J' hq => by obtain ⟨_, _, _, e, _⟩ := hq; rw [e])) (w_X11_know 197 hB1 (hB.2.1 _ _) (hB.2.1 _ _) hw) (fun E S' I' J' hq => by obtain ⟨_, _, e, _⟩ := hq; cases e) (fun v S' I' J' hq => ?_)
    obtain ⟨s, V2, e, hS, hI, hJ, hB2, hzs, hq⟩ := hq
    cases e; subst hS; subst hI; subst hJ
    have sc2 := scV.of hB1 hB2 ⟨rfl, fun _ => rfl⟩
    refine y_istore (L' := LE i (some (.int (iI 0))) (some (.int (iI s))) none) Q_E_know (k := 26) rfl (by decide) rfl ?_
    refine z_aload_n Q_E_know (k := 27) rfl rfl ?_
    refine q_callV0_i Q_E_know (k := 28) rfl rfl K_X11_thrown V_X11_thrown L_L_144 (n_ hB2.1 rfl) (k_602 hB2.1) (Nat.le_of_ble_eq_true rfl) (Nat.le_of_ble_eq_true rfl) rfl (Nat.zero_le _) (Nat.zero_le _) (w_X11_thrown 199 hB2 (Q := fun r => r = V2 602 0) rfl) (fun t hzt ht => ?_)
    refine z_iload Q_E_know (k := 29) rfl rfl ?_
    refine y_icmp_eq 474 Q_E_know (k := 30) rfl (by decide) hzt ⟨by decide, by decide⟩ (fun _ => ?_) (fun h => absurd (ht.trans hq.1) h)
    refine z_iload Q_E_know (k := 33) rfl rfl ?_
    refine y_if_ne 491 Q_E_know (k := 34) rfl (by decide) ⟨by decide, by decide⟩ (fun h => absurd rfl h) (fun _ => ?_)
    refine z_aload_n Q_E_know (k := 35) rfl rfl ?_
    refine y_iconst Q_E_know (k := 36) rfl ?_
    refine q_lald (z := 0) (N := 1) (o := 624) Q_E_know (k := 37) rfl rfl (n_ hB2.1 rfl) (k_624 hB2.1) rfl ⟨by decide, by decide⟩ (by decide) ?_
    refine z_iload Q_E_know (k := 38) rfl rfl ?_
    refine z_i2l Q_E_know (k := 39) rfl ?_
    refine y_lcmp Q_E_know (k := 40) rfl ?_
    refine y_if_eq 491 Q_E_know (k := 41) rfl (by decide) (zlc_r _ _) (fun _ => ?_) (fun h => absurd (zlc_0.mpr (by rw [qu_s, hq.2.1])) h)
    exact z_goto Q_E_know (k := 44) (tgt := 2907) rfl (by decide) (((kk _ V2 _ hB2 (hq.2.2.out _) (sc.tr sc2)).wid (by omega) (by omega)).sub LE_f)
  · refine z_callV (o := 602) (as := [.int (iI (V 1000004 (i + 1))), .int (iI (V 1000004 (i + 2)))]) Q_E_know (k := 25) rfl rfl K_X11_know V_X11_know L_L_158 (n_ hB1.1 rfl) (k_602 hB1.1) rfl rfl (Nat.le_of_ble_eq_true rfl) rfl (by decide) (Nat.zero_le _) (Nat.zero_le _) (Or.inl (fun o S' I' J' hq => by obtain ⟨_, _, _, e, _⟩ := hq; rw [e])) (w_X11_know 197 hB1 (hB.2.1 _ _) (hB.2.1 _ _) hw) (fun E S' I' J' hq => by obtain ⟨_, _, e, _⟩ := hq; cases e) (fun v S' I' J' hq => ?_)
    obtain ⟨s, V2, e, hS, hI, hJ, hB2, hzs, hq⟩ := hq
    cases e; subst hS; subst hI; subst hJ
    have sc2 := scV.of hB1 hB2 ⟨rfl, fun _ => rfl⟩
    refine y_istore (L' := LE i (some (.int (iI c))) (some (.int (iI s))) none) Q_E_know (k := 26) rfl (by decide) rfl ?_
    refine z_aload_n Q_E_know (k := 27) rfl rfl ?_
    refine q_callV0_i Q_E_know (k := 28) rfl rfl K_X11_thrown V_X11_thrown L_L_144 (n_ hB2.1 rfl) (k_602 hB2.1) (Nat.le_of_ble_eq_true rfl) (Nat.le_of_ble_eq_true rfl) rfl (Nat.zero_le _) (Nat.zero_le _) (w_X11_thrown 199 hB2 (Q := fun r => r = V2 602 0) rfl) (fun t hzt ht => ?_)
    refine z_iload Q_E_know (k := 29) rfl rfl ?_
    refine y_icmp_eq 474 Q_E_know (k := 30) rfl (by decide) hzt hzc (fun _ => ?_) (fun h => absurd (ht.trans hq.1) h)
    refine z_iload Q_E_know (k := 33) rfl rfl ?_
    refine y_if_ne 491 Q_E_know (k := 34) rfl (by decide) hzc (fun _ => ?_) (fun h => absurd h c0)
    exact z_goto Q_E_know (k := 44) (tgt := 2907) rfl (by decide) (((kk _ V2 J1 hB2 hq.2 (sc.tr sc2)).wid (by omega) (by omega)).sub LE_f)
def T_E_days : zTb := [(858, .aload_n 1, 1, 859), (859, .aload_n 0, 1, 860), (860, .iload 4, 2, 862), (862, .iconst 1, 1, 863), (863, .iadd, 1, 864), (864, .iaload, 1, 865), (865, .aload_n 3, 1, 866), (866, .invokestatic 186, 3, 869), (869, .istore 5, 2, 871), (871, .aload_n 2, 1, 872), (872, .aload_n 0, 1, 873), (873, .iload 4, 2, 875), (875, .iconst 1, 1, 876), (876, .iadd, 1, 877), (877, .iaload, 1, 878), (878, .invokevirtual 188, 3, 881), (881, .istore 6, 2, 883), (883, .aload_n 2, 1, 884), (884, .invokevirtual 144, 3, 887), (887, .iload 5, 2, 889), (889, .if_icmp .eq 5, 3, 892), (892, .iconst 0, 1, 893), (893, .ireturn, 1, 894), (894, .iload 5, 2, 896), (896, .ifCond .ne 15, 3, 899), (899, .aload_n 3, 1, 900), (900, .iconst 0, 1, 901), (901, .laload, 1, 902), (902, .iload 6, 2, 904), (904, .i2l, 1, 905), (905, .lcmp, 1, 906), (906, .ifCond .eq 5, 3, 909), (909, .iconst 0, 1, 910), (910, .ireturn, 1, 911), (911, .goto 1996, 3, 914)]
set_option maxRecDepth 20000 in
theorem Q_E_days : zT M_E T_E_days := zT_of (by decide +kernel)
theorem e_days {S : zS} {V : qV} {J : qJ} {n i : Int} {kc ks : Nat} (hB : qB S V) (hR : Rel n V J) (hi : 0 ≤ i ∧ i + 5 < V 1000005 0) (h1 : 67 ≤ kc) (h2 : 402 ≤ ks) (kk : ∀ S' V' J', qB S' V' → Rel (n + 1) V' J' → scV V V' → Z M_E 200 (kc - 67) (ks - 402) 2907 (LE i none none none) [] S' (qi V') (qj J') QE) : Z M_E 200 kc ks 858 (LE i none none none) [] S (qi V) (qj J) QE := by
  refine z_aload_n Q_E_days (k := 0) rfl rfl ?_
  refine q_arg (i := i) (j := 1) hB Q_E_days (k := 1) rfl rfl rfl rfl rfl rfl rfl (by omega) rfl ?_
  refine z_aload_n Q_E_days (k := 6) rfl rfl ?_
  refine z_callSH (as := [.ref 0, .int (iI (V 1000004 (i + 1))), .ref 624]) Q_E_days (k := 7) rfl rfl K_L_days L_L_186 rfl rfl (Nat.le_of_ble_eq_true rfl) rfl (by decide) (show 2 ≤ kc by omega) (show 12 ≤ ks by omega) (Or.inr (zRbE hB.1.1)) (Z.scr (w_L_days (Q := fun c V1 J1 => (c = 0 ∧ ∃ (r : Int) (J0 : qJ), zr r ∧ J1 = qu J0 624 0 (iI r).toInt64 ∧ W_X11_days (V 1000004 (i + 1)) V1 (fun s V2 => V2 602 0 = 0 ∧ r = s ∧ Rel (n + 1) V2 J0)) ∨ (c ≠ 0 ∧ W_X11_days (V 1000004 (i + 1)) V1 (fun s V2 => V2 602 0 = c ∧ Rel (n + 1) V2 J1))) 197 hB (hB.2.1 _ _) (t_days (P := (fun V2 => Rel (n + 1) V2 J)) hR (fun _ h => h)) (fun r V1 hz hw => Or.inl ⟨rfl, r, J, hz, rfl, hw⟩) (fun E V1 h => by
    rcases h with ⟨e, w⟩ | ⟨e, w⟩
    · exact Or.inl ⟨e, Or.inr ⟨by decide, w⟩⟩
    · exact Or.inr ⟨e, Or.inr ⟨by decide, w⟩⟩))) (fun E S' I' J' hq => by obtain ⟨⟨_, _, _, e, _⟩, _⟩ := hq; cases e) (fun v S' I' J' hq => ?_)
  obtain ⟨⟨c, V1, J1, e, hn1, hI, hJ, hB1, hzc, hq⟩, hsc⟩ := hq
  cases e; subst hI; subst hJ
  have sc := scV.of hB hB1 hsc
  have sl := sc.1
  refine y_istore (L' := LE i (some (.int (iI c))) none none) Q_E_days (k := 8) rfl (by decide) rfl ?_
  refine z_aload_n Q_E_days (k := 9) rfl rfl ?_
  refine q_arg (i := i) (j := 1) hB1 Q_E_days (k := 10) rfl rfl rfl rfl rfl rfl rfl (by omega) (sc.2 _ (by omega)) ?_
  rcases hq with ⟨rfl, r, J0, hzr, rfl, hw⟩ | ⟨c0, hw⟩
  · refine z_callV (o := 602) (as := [.int (iI (V 1000004 (i + 1)))]) Q_E_days (k := 15) rfl rfl K_X11_days V_X11_days L_L_188 (n_ hB1.1 rfl) (k_602 hB1.1) rfl rfl (Nat.le_of_ble_eq_true rfl) rfl (by decide) (Nat.zero_le _) (Nat.zero_le _) (Or.inl (fun o S' I' J' hq => by obtain ⟨_, _, _, e, _⟩ := hq; rw [e])) (w_X11_days 198 hB1 (hB.2.1 _ _) hw) (fun E S' I' J' hq => by obtain ⟨_, _, e, _⟩ := hq; cases e) (fun v S' I' J' hq => ?_)
    obtain ⟨s, V2, e, hS, hI, hJ, hB2, hzs, hq⟩ := hq
    cases e; subst hS; subst hI; subst hJ
    have sc2 := scV.of hB1 hB2 ⟨rfl, fun _ => rfl⟩
    refine y_istore (L' := LE i (some (.int (iI 0))) (some (.int (iI s))) none) Q_E_days (k := 16) rfl (by decide) rfl ?_
    refine z_aload_n Q_E_days (k := 17) rfl rfl ?_
    refine q_callV0_i Q_E_days (k := 18) rfl rfl K_X11_thrown V_X11_thrown L_L_144 (n_ hB2.1 rfl) (k_602 hB2.1) (Nat.le_of_ble_eq_true rfl) (Nat.le_of_ble_eq_true rfl) rfl (Nat.zero_le _) (Nat.zero_le _) (w_X11_thrown 199 hB2 (Q := fun r => r = V2 602 0) rfl) (fun t hzt ht => ?_)
    refine z_iload Q_E_days (k := 19) rfl rfl ?_
    refine y_icmp_eq 894 Q_E_days (k := 20) rfl (by decide) hzt ⟨by decide, by decide⟩ (fun _ => ?_) (fun h => absurd (ht.trans hq.1) h)
    refine z_iload Q_E_days (k := 23) rfl rfl ?_
    refine y_if_ne 911 Q_E_days (k := 24) rfl (by decide) ⟨by decide, by decide⟩ (fun h => absurd rfl h) (fun _ => ?_)
    refine z_aload_n Q_E_days (k := 25) rfl rfl ?_
    refine y_iconst Q_E_days (k := 26) rfl ?_
    refine q_lald (z := 0) (N := 1) (o := 624) Q_E_days (k := 27) rfl rfl (n_ hB2.1 rfl) (k_624 hB2.1) rfl ⟨by decide, by decide⟩ (by decide) ?_
    refine z_iload Q_E_days (k := 28) rfl rfl ?_
    refine z_i2l Q_E_days (k := 29) rfl ?_
    refine y_lcmp Q_E_days (k := 30) rfl ?_
    refine y_if_eq 911 Q_E_days (k := 31) rfl (by decide) (zlc_r _ _) (fun _ => ?_) (fun h => absurd (zlc_0.mpr (by rw [qu_s, hq.2.1])) h)
    exact z_goto Q_E_days (k := 34) (tgt := 2907) rfl (by decide) (((kk _ V2 _ hB2 (hq.2.2.out _) (sc.tr sc2)).wid (by omega) (by omega)).sub LE_f)
  · refine z_callV (o := 602) (as := [.int (iI (V 1000004 (i + 1)))]) Q_E_days (k := 15) rfl rfl K_X11_days V_X11_days L_L_188 (n_ hB1.1 rfl) (k_602 hB1.1) rfl rfl (Nat.le_of_ble_eq_true rfl) rfl (by decide) (Nat.zero_le _) (Nat.zero_le _) (Or.inl (fun o S' I' J' hq => by obtain ⟨_, _, _, e, _⟩ := hq; rw [e])) (w_X11_days 198 hB1 (hB.2.1 _ _) hw) (fun E S' I' J' hq => by obtain ⟨_, _, e, _⟩ := hq; cases e) (fun v S' I' J' hq => ?_)
    obtain ⟨s, V2, e, hS, hI, hJ, hB2, hzs, hq⟩ := hq
    cases e; subst hS; subst hI; subst hJ
    have sc2 := scV.of hB1 hB2 ⟨rfl, fun _ => rfl⟩
    refine y_istore (L' := LE i (some (.int (iI c))) (some (.int (iI s))) none) Q_E_days (k := 16) rfl (by decide) rfl ?_
    refine z_aload_n Q_E_days (k := 17) rfl rfl ?_
    refine q_callV0_i Q_E_days (k := 18) rfl rfl K_X11_thrown V_X11_thrown L_L_144 (n_ hB2.1 rfl) (k_602 hB2.1) (Nat.le_of_ble_eq_true rfl) (Nat.le_of_ble_eq_true rfl) rfl (Nat.zero_le _) (Nat.zero_le _) (w_X11_thrown 199 hB2 (Q := fun r => r = V2 602 0) rfl) (fun t hzt ht => ?_)
    refine z_iload Q_E_days (k := 19) rfl rfl ?_
    refine y_icmp_eq 894 Q_E_days (k := 20) rfl (by decide) hzt hzc (fun _ => ?_) (fun h => absurd (ht.trans hq.1) h)
    refine z_iload Q_E_days (k := 23) rfl rfl ?_
    refine y_if_ne 911 Q_E_days (k := 24) rfl (by decide) hzc (fun _ => ?_) (fun h => absurd h c0)
    exact z_goto Q_E_days (k := 34) (tgt := 2907) rfl (by decide) (((kk _ V2 J1 hB2 hq.2 (sc.tr sc2)).wid (by omega) (by omega)).sub LE_f)
