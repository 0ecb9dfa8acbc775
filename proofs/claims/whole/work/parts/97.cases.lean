/-! the law: its calls that catch -/
def T_E_law : zTb := [(301, .aload_n 1, 1, 302), (302, .aload_n 0, 1, 303), (303, .iload 4, 2, 305), (305, .iconst 1, 1, 306), (306, .iadd, 1, 307), (307, .iaload, 1, 308), (308, .aload_n 3, 1, 309), (309, .invokestatic 138, 3, 312), (312, .istore 5, 2, 314), (314, .aload_n 2, 1, 315), (315, .aload_n 0, 1, 316), (316, .iload 4, 2, 318), (318, .iconst 1, 1, 319), (319, .iadd, 1, 320), (320, .iaload, 1, 321), (321, .invokevirtual 143, 3, 324), (324, .istore 6, 2, 326), (326, .aload_n 2, 1, 327), (327, .invokevirtual 144, 3, 330), (330, .iload 5, 2, 332), (332, .if_icmp .eq 5, 3, 335), (335, .iconst 0, 1, 336), (336, .ireturn, 1, 337), (337, .iload 5, 2, 339), (339, .ifCond .ne 15, 3, 342), (342, .aload_n 3, 1, 343), (343, .iconst 0, 1, 344), (344, .laload, 1, 345), (345, .iload 6, 2, 347), (347, .i2l, 1, 348), (348, .lcmp, 1, 349), (349, .ifCond .eq 5, 3, 352), (352, .iconst 0, 1, 353), (353, .ireturn, 1, 354), (354, .goto 2553, 3, 357)]
set_option maxRecDepth 20000 in
theorem Q_E_law : zT M_E T_E_law := zT_of (by decide +kernel)
theorem e_law {S : zS} {V : qV} {J : qJ} {n i : Int} {kc ks : Nat} (hB : qB S V) (hR : Rel n V J) (hi : 0 ≤ i ∧ i + 5 < V 1000005 0) (h1 : 67 ≤ kc) (h2 : 402 ≤ ks) (kk : ∀ S' V' J', qB S' V' → Rel (n + 1) V' J' → scV V V' → Z M_E 200 (kc - 67) (ks - 402) 2907 (LE i none none none) [] S' (qi V') (qj J') QE) : Z M_E 200 kc ks 301 (LE i none none none) [] S (qi V) (qj J) QE := by
  refine z_aload_n Q_E_law (k := 0) rfl rfl ?_
  refine q_arg (i := i) (j := 1) hB Q_E_law (k := 1) rfl rfl rfl rfl rfl rfl rfl (by omega) rfl ?_
  refine z_aload_n Q_E_law (k := 6) rfl rfl ?_
  refine z_callSH (as := [.ref 0, .int (iI (V 1000004 (i + 1))), .ref 624]) Q_E_law (k := 7) rfl rfl K_L_law L_L_138 rfl rfl (Nat.le_of_ble_eq_true rfl) rfl (by decide) (show 1 ≤ kc by omega) (show 6 ≤ ks by omega) (Or.inr (zRbE hB.1.1)) (Z.scr (w_L_law (Q := fun c V1 J1 => (c = 0 ∧ ∃ (r : Int) (J0 : qJ), zr r ∧ J1 = qu J0 624 0 (iI r).toInt64 ∧ W_X11_law (V 1000004 (i + 1)) V1 (fun s V2 => V2 602 0 = 0 ∧ r = s ∧ Rel (n + 1) V2 J0)) ∨ (c ≠ 0 ∧ W_X11_law (V 1000004 (i + 1)) V1 (fun s V2 => V2 602 0 = c ∧ Rel (n + 1) V2 J1))) 71 hB (hB.2.1 _ _) (t_law (P := (fun V2 => Rel (n + 1) V2 J)) hR (fun _ h => h)) (fun r V1 hz hw => Or.inl ⟨rfl, r, J, hz, rfl, hw⟩) (fun E V1 h => ⟨h.1, Or.inr ⟨by decide, h.2⟩⟩))) (fun E S' I' J' hq => by obtain ⟨⟨_, _, _, e, _⟩, _⟩ := hq; cases e) (fun v S' I' J' hq => ?_)
  obtain ⟨⟨c, V1, J1, e, hn1, hI, hJ, hB1, hzc, hq⟩, hsc⟩ := hq
  cases e; subst hI; subst hJ
  have sc := scV.of hB hB1 hsc
  have sl := sc.1
  refine y_istore (L' := LE i (some (.int (iI c))) none none) Q_E_law (k := 8) rfl (by decide) rfl ?_
  refine z_aload_n Q_E_law (k := 9) rfl rfl ?_
  refine q_arg (i := i) (j := 1) hB1 Q_E_law (k := 10) rfl rfl rfl rfl rfl rfl rfl (by omega) (sc.2 _ (by omega)) ?_
  rcases hq with ⟨rfl, r, J0, hzr, rfl, hw⟩ | ⟨c0, hw⟩
  · refine z_callV (o := 602) (as := [.int (iI (V 1000004 (i + 1)))]) Q_E_law (k := 15) rfl rfl K_X11_law V_X11_law L_L_143 (n_ hB1.1 rfl) (k_602 hB1.1) rfl rfl (Nat.le_of_ble_eq_true rfl) rfl (by decide) (Nat.zero_le _) (Nat.zero_le _) (Or.inl (fun o S' I' J' hq => by obtain ⟨_, _, _, e, _⟩ := hq; rw [e])) (w_X11_law 73 hB1 (hB.2.1 _ _) hw) (fun E S' I' J' hq => by obtain ⟨_, _, e, _⟩ := hq; cases e) (fun v S' I' J' hq => ?_)
    obtain ⟨s, V2, e, hS, hI, hJ, hB2, hzs, hq⟩ := hq
    cases e; subst hS; subst hI; subst hJ
    have sc2 := scV.of hB1 hB2 ⟨rfl, fun _ => rfl⟩
    refine y_istore (L' := LE i (some (.int (iI 0))) (some (.int (iI s))) none) Q_E_law (k := 16) rfl (by decide) rfl ?_
    refine z_aload_n Q_E_law (k := 17) rfl rfl ?_
    refine q_callV0_i Q_E_law (k := 18) rfl rfl K_X11_thrown V_X11_thrown L_L_144 (n_ hB2.1 rfl) (k_602 hB2.1) (Nat.le_of_ble_eq_true rfl) (Nat.le_of_ble_eq_true rfl) rfl (Nat.zero_le _) (Nat.zero_le _) (w_X11_thrown 199 hB2 (Q := fun r => r = V2 602 0) rfl) (fun t hzt ht => ?_)
    refine z_iload Q_E_law (k := 19) rfl rfl ?_
    refine y_icmp_eq 337 Q_E_law (k := 20) rfl (by decide) hzt ⟨by decide, by decide⟩ (fun _ => ?_) (fun h => absurd (ht.trans hq.1) h)
    refine z_iload Q_E_law (k := 23) rfl rfl ?_
    refine y_if_ne 354 Q_E_law (k := 24) rfl (by decide) ⟨by decide, by decide⟩ (fun h => absurd rfl h) (fun _ => ?_)
    refine z_aload_n Q_E_law (k := 25) rfl rfl ?_
    refine y_iconst Q_E_law (k := 26) rfl ?_
    refine q_lald (z := 0) (N := 1) (o := 624) Q_E_law (k := 27) rfl rfl (n_ hB2.1 rfl) (k_624 hB2.1) rfl ⟨by decide, by decide⟩ (by decide) ?_
    refine z_iload Q_E_law (k := 28) rfl rfl ?_
    refine z_i2l Q_E_law (k := 29) rfl ?_
    refine y_lcmp Q_E_law (k := 30) rfl ?_
    refine y_if_eq 354 Q_E_law (k := 31) rfl (by decide) (zlc_r _ _) (fun _ => ?_) (fun h => absurd (zlc_0.mpr (by rw [qu_s, hq.2.1])) h)
    exact z_goto Q_E_law (k := 34) (tgt := 2907) rfl (by decide) (((kk _ V2 _ hB2 (hq.2.2.out _) (sc.tr sc2)).wid (by omega) (by omega)).sub LE_f)
  · refine z_callV (o := 602) (as := [.int (iI (V 1000004 (i + 1)))]) Q_E_law (k := 15) rfl rfl K_X11_law V_X11_law L_L_143 (n_ hB1.1 rfl) (k_602 hB1.1) rfl rfl (Nat.le_of_ble_eq_true rfl) rfl (by decide) (Nat.zero_le _) (Nat.zero_le _) (Or.inl (fun o S' I' J' hq => by obtain ⟨_, _, _, e, _⟩ := hq; rw [e])) (w_X11_law 73 hB1 (hB.2.1 _ _) hw) (fun E S' I' J' hq => by obtain ⟨_, _, e, _⟩ := hq; cases e) (fun v S' I' J' hq => ?_)
    obtain ⟨s, V2, e, hS, hI, hJ, hB2, hzs, hq⟩ := hq
    cases e; subst hS; subst hI; subst hJ
    have sc2 := scV.of hB1 hB2 ⟨rfl, fun _ => rfl⟩
    refine y_istore (L' := LE i (some (.int (iI c))) (some (.int (iI s))) none) Q_E_law (k := 16) rfl (by decide) rfl ?_
    refine z_aload_n Q_E_law (k := 17) rfl rfl ?_
    refine q_callV0_i Q_E_law (k := 18) rfl rfl K_X11_thrown V_X11_thrown L_L_144 (n_ hB2.1 rfl) (k_602 hB2.1) (Nat.le_of_ble_eq_true rfl) (Nat.le_of_ble_eq_true rfl) rfl (Nat.zero_le _) (Nat.zero_le _) (w_X11_thrown 199 hB2 (Q := fun r => r = V2 602 0) rfl) (fun t hzt ht => ?_)
    refine z_iload Q_E_law (k := 19) rfl rfl ?_
    refine y_icmp_eq 337 Q_E_law (k := 20) rfl (by decide) hzt hzc (fun _ => ?_) (fun h => absurd (ht.trans hq.1) h)
    refine z_iload Q_E_law (k := 23) rfl rfl ?_
    refine y_if_ne 354 Q_E_law (k := 24) rfl (by decide) hzc (fun _ => ?_) (fun h => absurd h c0)
    exact z_goto Q_E_law (k := 34) (tgt := 2907) rfl (by decide) (((kk _ V2 J1 hB2 hq.2 (sc.tr sc2)).wid (by omega) (by omega)).sub LE_f)
def T_E_holds : zTb := [(357, .aload_n 1, 1, 358), (358, .aload_n 0, 1, 359), (359, .iload 4, 2, 361), (361, .iconst 1, 1, 362), (362, .iadd, 1, 363), (363, .iaload, 1, 364), (364, .aload_n 3, 1, 365), (365, .invokestatic 148, 3, 368), (368, .istore 5, 2, 370), (370, .aload_n 2, 1, 371), (371, .aload_n 0, 1, 372), (372, .iload 4, 2, 374), (374, .iconst 1, 1, 375), (375, .iadd, 1, 376), (376, .iaload, 1, 377), (377, .invokevirtual 150, 3, 380), (380, .istore 6, 2, 382), (382, .aload_n 2, 1, 383), (383, .invokevirtual 144, 3, 386), (386, .iload 5, 2, 388), (388, .if_icmp .eq 5, 3, 391), (391, .iconst 0, 1, 392), (392, .ireturn, 1, 393), (393, .iload 5, 2, 395), (395, .ifCond .ne 15, 3, 398), (398, .aload_n 3, 1, 399), (399, .iconst 0, 1, 400), (400, .laload, 1, 401), (401, .iload 6, 2, 403), (403, .i2l, 1, 404), (404, .lcmp, 1, 405), (405, .ifCond .eq 5, 3, 408), (408, .iconst 0, 1, 409), (409, .ireturn, 1, 410), (410, .goto 2497, 3, 413)]
set_option maxRecDepth 20000 in
theorem Q_E_holds : zT M_E T_E_holds := zT_of (by decide +kernel)
theorem e_holds {S : zS} {V : qV} {J : qJ} {n i : Int} {kc ks : Nat} (hB : qB S V) (hR : Rel n V J) (hi : 0 ≤ i ∧ i + 5 < V 1000005 0) (h1 : 67 ≤ kc) (h2 : 402 ≤ ks) (kk : ∀ S' V' J', qB S' V' → Rel (n + 1) V' J' → scV V V' → Z M_E 200 (kc - 67) (ks - 402) 2907 (LE i none none none) [] S' (qi V') (qj J') QE) : Z M_E 200 kc ks 357 (LE i none none none) [] S (qi V) (qj J) QE := by
  refine z_aload_n Q_E_holds (k := 0) rfl rfl ?_
  refine q_arg (i := i) (j := 1) hB Q_E_holds (k := 1) rfl rfl rfl rfl rfl rfl rfl (by omega) rfl ?_
  refine z_aload_n Q_E_holds (k := 6) rfl rfl ?_
  refine z_callSH (as := [.ref 0, .int (iI (V 1000004 (i + 1))), .ref 624]) Q_E_holds (k := 7) rfl rfl K_L_holds L_L_148 rfl rfl (Nat.le_of_ble_eq_true rfl) rfl (by decide) (show 1 ≤ kc by omega) (show 6 ≤ ks by omega) (Or.inr (zRbE hB.1.1)) (Z.scr (w_L_holds (Q := fun c V1 J1 => (c = 0 ∧ ∃ (r : Int) (J0 : qJ), zr r ∧ J1 = qu J0 624 0 (iI r).toInt64 ∧ W_X11_holds (V 1000004 (i + 1)) V1 (fun s V2 => V2 602 0 = 0 ∧ r = s ∧ Rel (n + 1) V2 J0)) ∨ (c ≠ 0 ∧ W_X11_holds (V 1000004 (i + 1)) V1 (fun s V2 => V2 602 0 = c ∧ Rel (n + 1) V2 J1))) 72 hB (hB.2.1 _ _) (t_holds (P := (fun V2 J2 => Rel (n + 1) V2 J2)) hB.2.2.2.2.2.1 hR (fun _ _ h => h)) (fun r V1 J1 hz hw => Or.inl ⟨rfl, r, J1, hz, rfl, hw⟩) (fun E V1 J1 h => ⟨h.1, Or.inr ⟨by decide, h.2⟩⟩))) (fun E S' I' J' hq => by obtain ⟨⟨_, _, _, e, _⟩, _⟩ := hq; cases e) (fun v S' I' J' hq => ?_)
  obtain ⟨⟨c, V1, J1, e, hn1, hI, hJ, hB1, hzc, hq⟩, hsc⟩ := hq
  cases e; subst hI; subst hJ
  have sc := scV.of hB hB1 hsc
  have sl := sc.1
  refine y_istore (L' := LE i (some (.int (iI c))) none none) Q_E_holds (k := 8) rfl (by decide) rfl ?_
  refine z_aload_n Q_E_holds (k := 9) rfl rfl ?_
  refine q_arg (i := i) (j := 1) hB1 Q_E_holds (k := 10) rfl rfl rfl rfl rfl rfl rfl (by omega) (sc.2 _ (by omega)) ?_
  rcases hq with ⟨rfl, r, J0, hzr, rfl, hw⟩ | ⟨c0, hw⟩
  · refine z_callV (o := 602) (as := [.int (iI (V 1000004 (i + 1)))]) Q_E_holds (k := 15) rfl rfl K_X11_holds V_X11_holds L_L_150 (n_ hB1.1 rfl) (k_602 hB1.1) rfl rfl (Nat.le_of_ble_eq_true rfl) rfl (by decide) (Nat.zero_le _) (Nat.zero_le _) (Or.inl (fun o S' I' J' hq => by obtain ⟨_, _, _, e, _⟩ := hq; rw [e])) (w_X11_holds 74 hB1 (hB.2.1 _ _) hw) (fun E S' I' J' hq => by obtain ⟨_, _, e, _⟩ := hq; cases e) (fun v S' I' J' hq => ?_)
    obtain ⟨s, V2, e, hS, hI, hJ, hB2, hzs, hq⟩ := hq
    cases e; subst hS; subst hI; subst hJ
    have sc2 := scV.of hB1 hB2 ⟨rfl, fun _ => rfl⟩
    refine y_istore (L' := LE i (some (.int (iI 0))) (some (.int (iI s))) none) Q_E_holds (k := 16) rfl (by decide) rfl ?_
    refine z_aload_n Q_E_holds (k := 17) rfl rfl ?_
    refine q_callV0_i Q_E_holds (k := 18) rfl rfl K_X11_thrown V_X11_thrown L_L_144 (n_ hB2.1 rfl) (k_602 hB2.1) (Nat.le_of_ble_eq_true rfl) (Nat.le_of_ble_eq_true rfl) rfl (Nat.zero_le _) (Nat.zero_le _) (w_X11_thrown 199 hB2 (Q := fun r => r = V2 602 0) rfl) (fun t hzt ht => ?_)
    refine z_iload Q_E_holds (k := 19) rfl rfl ?_
    refine y_icmp_eq 393 Q_E_holds (k := 20) rfl (by decide) hzt ⟨by decide, by decide⟩ (fun _ => ?_) (fun h => absurd (ht.trans hq.1) h)
    refine z_iload Q_E_holds (k := 23) rfl rfl ?_
    refine y_if_ne 410 Q_E_holds (k := 24) rfl (by decide) ⟨by decide, by decide⟩ (fun h => absurd rfl h) (fun _ => ?_)
    refine z_aload_n Q_E_holds (k := 25) rfl rfl ?_
    refine y_iconst Q_E_holds (k := 26) rfl ?_
    refine q_lald (z := 0) (N := 1) (o := 624) Q_E_holds (k := 27) rfl rfl (n_ hB2.1 rfl) (k_624 hB2.1) rfl ⟨by decide, by decide⟩ (by decide) ?_
    refine z_iload Q_E_holds (k := 28) rfl rfl ?_
    refine z_i2l Q_E_holds (k := 29) rfl ?_
    refine y_lcmp Q_E_holds (k := 30) rfl ?_
    refine y_if_eq 410 Q_E_holds (k := 31) rfl (by decide) (zlc_r _ _) (fun _ => ?_) (fun h => absurd (zlc_0.mpr (by rw [qu_s, hq.2.1])) h)
    exact z_goto Q_E_holds (k := 34) (tgt := 2907) rfl (by decide) (((kk _ V2 _ hB2 (hq.2.2.out _) (sc.tr sc2)).wid (by omega) (by omega)).sub LE_f)
  · refine z_callV (o := 602) (as := [.int (iI (V 1000004 (i + 1)))]) Q_E_holds (k := 15) rfl rfl K_X11_holds V_X11_holds L_L_150 (n_ hB1.1 rfl) (k_602 hB1.1) rfl rfl (Nat.le_of_ble_eq_true rfl) rfl (by decide) (Nat.zero_le _) (Nat.zero_le _) (Or.inl (fun o S' I' J' hq => by obtain ⟨_, _, _, e, _⟩ := hq; rw [e])) (w_X11_holds 74 hB1 (hB.2.1 _ _) hw) (fun E S' I' J' hq => by obtain ⟨_, _, e, _⟩ := hq; cases e) (fun v S' I' J' hq => ?_)
    obtain ⟨s, V2, e, hS, hI, hJ, hB2, hzs, hq⟩ := hq
    cases e; subst hS; subst hI; subst hJ
    have sc2 := scV.of hB1 hB2 ⟨rfl, fun _ => rfl⟩
    refine y_istore (L' := LE i (some (.int (iI c))) (some (.int (iI s))) none) Q_E_holds (k := 16) rfl (by decide) rfl ?_
    refine z_aload_n Q_E_holds (k := 17) rfl rfl ?_
    refine q_callV0_i Q_E_holds (k := 18) rfl rfl K_X11_thrown V_X11_thrown L_L_144 (n_ hB2.1 rfl) (k_602 hB2.1) (Nat.le_of_ble_eq_true rfl) (Nat.le_of_ble_eq_true rfl) rfl (Nat.zero_le _) (Nat.zero_le _) (w_X11_thrown 199 hB2 (Q := fun r => r = V2 602 0) rfl) (fun t hzt ht => ?_)
    refine z_iload Q_E_holds (k := 19) rfl rfl ?_
    refine y_icmp_eq 393 Q_E_holds (k := 20) rfl (by decide) hzt hzc (fun _ => ?_) (fun h => absurd (ht.trans hq.1) h)
    refine z_iload Q_E_holds (k := 23) rfl rfl ?_
    refine y_if_ne 410 Q_E_holds (k := 24) rfl (by decide) hzc (fun _ => ?_) (fun h => absurd h c0)
    exact z_goto Q_E_holds (k := 34) (tgt := 2907) rfl (by decide) (((kk _ V2 J1 hB2 hq.2 (sc.tr sc2)).wid (by omega) (by omega)).sub LE_f)
def T_E_know : zTb := [(426, .aload_n 1, 1, 427), (427, .aload_n 0, 1, 428), (428, .iload 4, 2, 430), (430, .iconst 1, 1, 431), (431, .iadd, 1, 432), (432, .iaload, 1, 433), (433, .aload_n 0, 1, 434), (434, .iload 4, 2, 436), (436, .iconst 2, 1, 437), (437, .iadd, 1, 438), (438, .iaload, 1, 439), (439, .aload_n 3, 1, 440), (440, .invokestatic 155, 3, 443), (443, .istore 5, 2, 445), (445, .aload_n 2, 1, 446), (446, .aload_n 0, 1, 447), (447, .iload 4, 2, 449), (449, .iconst 1, 1, 450), (450, .iadd, 1, 451), (451, .iaload, 1, 452), (452, .aload_n 0, 1, 453), (453, .iload 4, 2, 455), (455, .iconst 2, 1, 456), (456, .iadd, 1, 457), (457, .iaload, 1, 458), (458, .invokevirtual 158, 3, 461), (461, .istore 6, 2, 463), (463, .aload_n 2, 1, 464), (464, .invokevirtual 144, 3, 467), (467, .iload 5, 2, 469), (469, .if_icmp .eq 5, 3, 472), (472, .iconst 0, 1, 473), (473, .ireturn, 1, 474), (474, .iload 5, 2, 476), (476, .ifCond .ne 15, 3, 479), (479, .aload_n 3, 1, 480), (480, .iconst 0, 1, 481), (481, .laload, 1, 482), (482, .iload 6, 2, 484), (484, .i2l, 1, 485), (485, .lcmp, 1, 486), (486, .ifCond .eq 5, 3, 489), (489, .iconst 0, 1, 490), (490, .ireturn, 1, 491), (491, .goto 2416, 3, 494)]
set_option maxRecDepth 20000 in
theorem Q_E_know : zT M_E T_E_know := zT_of (by decide +kernel)
theorem e_know {S : zS} {V : qV} {J : qJ} {n i : Int} {kc ks : Nat} (hB : qB S V) (hR : Rel n V J) (hi : 0 ≤ i ∧ i + 5 < V 1000005 0) (h1 : 67 ≤ kc) (h2 : 402 ≤ ks) (kk : ∀ S' V' J', qB S' V' → Rel (n + 1) V' J' → scV V V' → Z M_E 200 (kc - 67) (ks - 402) 2907 (LE i none none none) [] S' (qi V') (qj J') QE) : Z M_E 200 kc ks 426 (LE i none none none) [] S (qi V) (qj J) QE := by
  refine z_aload_n Q_E_know (k := 0) rfl rfl ?_
  refine q_arg (i := i) (j := 1) hB Q_E_know (k := 1) rfl rfl rfl rfl rfl rfl rfl (by omega) rfl ?_
  refine q_arg (i := i) (j := 2) hB Q_E_know (k := 6) rfl rfl rfl rfl rfl rfl rfl (by omega) rfl ?_
  refine z_aload_n Q_E_know (k := 11) rfl rfl ?_
  refine z_callSH (as := [.ref 0, .int (iI (V 1000004 (i + 1))), .int (iI (V 1000004 (i + 2))), .ref 624]) Q_E_know (k := 12) rfl rfl K_L_know L_L_155 rfl rfl (Nat.le_of_ble_eq_true rfl) rfl (by decide) (show 2 ≤ kc by omega) (show 12 ≤ ks by omega) (Or.inr (zRbE hB.1.1)) (Z.scr (w_L_know (Q := fun c V1 J1 => (c = 0 ∧ ∃ (r : Int) (J0 : qJ), zr r ∧ J1 = qu J0 624 0 (iI r).toInt64 ∧ W_X11_know (V 1000004 (i + 1)) (V 1000004 (i + 2)) V1 (fun s V2 => V2 602 0 = 0 ∧ r = s ∧ Rel (n + 1) V2 J0)) ∨ (c ≠ 0 ∧ W_X11_know (V 1000004 (i + 1)) (V 1000004 (i + 2)) V1 (fun s V2 => V2 602 0 = c ∧ Rel (n + 1) V2 J1))) 197 hB (hB.2.1 _ _) (hB.2.1 _ _) (t_know (P := (fun V2 => Rel (n + 1) V2 J)) hR (fun _ h => h)) (fun r V1 hz hw => Or.inl ⟨rfl, r, J, hz, rfl, hw⟩) (fun E V1 h => by
    rcases h with ⟨e, w⟩ | ⟨e, w⟩
    · exact Or.inl ⟨e, Or.inr ⟨by decide, w⟩⟩
    · exact Or.inr ⟨e, Or.inr ⟨by decide, w⟩⟩))) (fun E S' I' J' hq => by obtain ⟨⟨_, _, _, e, _⟩, _⟩ := hq; cases e) (fun v S' I' J' hq => ?_)
  obtain ⟨⟨c, V1, J1, e, hn1, hI, hJ, hB1, hzc, hq⟩, hsc⟩ := hq
  cases e; subst hI; subst hJ
  have sc := scV.of hB hB1 hsc
  have sl := sc.1
  refine y_istore (L' := LE i (some (.int (iI c))) none none) Q_E_know (k := 13) rfl (by decide) rfl ?_
  refine z_aload_n Q_E_know (k := 14) rfl rfl ?_
  refine q_arg (i := i) (j := 1) hB1 Q_E_know (k := 15) rfl rfl rfl rfl rfl rfl rfl (by omega) (sc.2 _ (by omega)) ?_
  refine q_arg (i := i) (j := 2) hB1 Q_E_know (k := 20) rfl rfl rfl rfl rfl rfl rfl (by omega) (sc.2 _ (by omega)) ?_
  rcases hq with ⟨rfl, r, J0, hzr, rfl, hw⟩ | ⟨c0, hw⟩
  · refine z_callV (o := 602) (as := [.int (iI (V 1000004 (i + 1))), .int (iI (V 1000004 (i + 2)))]) Q_E_know (k := 25) rfl rfl K_X11_know V_X11_know L_L_158 (n_ hB1.1 rfl) (k_602 hB1.1) rfl rfl (Nat.le_of_ble_eq_true rfl) rfl (by decide) (Nat.zero_le _) (Nat.zero_le _) (Or.inl (fun o S' I' J' hq => by obtain ⟨_, _, _, e, _⟩ := hq; rw [e])) (w_X11_know 197 hB1 (hB.2.1 _ _) (hB.2.1 _ _) hw) (fun E S' I' J' hq => by obtain ⟨_, _, e, _⟩ := hq; cases e) (fun v S' I' J' hq => ?_)
    obtain ⟨s, V2, e, hS, hI, hJ, hB2, hzs, hq⟩ := hq
    cases e; subst hS; subst hI; subst hJ
    have sc2 := scV.of hB1 hB2 ⟨rfl, fun _ => rfl⟩
    refine y_istore (L' := LE i (some (.int (iI 0))) (some (.int (iI s))) none) Q_E_know (k := 26) rfl (by decide) rfl ?_
    refine z_aload_n Q_E_know (k := 27) rfl rfl ?_
    refine q_callV0_i Q_E_know (k := 28) rfl rfl K_X11_thrown V_X11_thrown L_L_144 (n_ hB2.1 rfl) (k_602 hB2.1) (Nat.le_of_ble_eq_true rfl) (Nat.le_of_ble_eq_true rfl) rfl (Nat.zero_le _) (Nat.zero_le _) (w_X11_thrown 199 hB2 (Q := fun r => r = V2 602 0) rfl) (fun t hzt ht => ?_)
    refine z_iload Q_E_know (k := 29) rfl rfl ?_
    refine y_icmp_eq 474 Q_E_know (k := 30) rfl (by decide) hzt ⟨by decide, by decide⟩ (fun _ => ?_) (fun h => absurd (ht.trans hq.1) h)
    refine z_iload Q_E_know (k := 33) rfl rfl ?_
    refine y_if_ne 491 Q_E_know (k := 34) rfl (by decide) ⟨by decide, by decide⟩ (fun h => absurd rfl h) (fun _ => ?_)
    refine z_aload_n Q_E_know (k := 35) rfl rfl ?_
    refine y_iconst Q_E_know (k := 36) rfl ?_
    refine q_lald (z := 0) (N := 1) (o := 624) Q_E_know (k := 37) rfl rfl (n_ hB2.1 rfl) (k_624 hB2.1) rfl ⟨by decide, by decide⟩ (by decide) ?_
    refine z_iload Q_E_know (k := 38) rfl rfl ?_
    refine z_i2l Q_E_know (k := 39) rfl ?_
    refine y_lcmp Q_E_know (k := 40) rfl ?_
    refine y_if_eq 491 Q_E_know (k := 41) rfl (by decide) (zlc_r _ _) (fun _ => ?_) (fun h => absurd (zlc_0.mpr (by rw [qu_s, hq.2.1])) h)
    exact z_goto Q_E_know (k := 44) (tgt := 2907) rfl (by decide) (((kk _ V2 _ hB2 (hq.2.2.out _) (sc.tr sc2)).wid (by omega) (by omega)).sub LE_f)
  · refine z_callV (o := 602) (as := [.int (iI (V 1000004 (i + 1))), .int (iI (V 1000004 (i + 2)))]) Q_E_know (k := 25) rfl rfl K_X11_know V_X11_know L_L_158 (n_ hB1.1 rfl) (k_602 hB1.1) rfl rfl (Nat.le_of_ble_eq_true rfl) rfl (by decide) (Nat.zero_le _) (Nat.zero_le _) (Or.inl (fun o S' I' J' hq => by obtain ⟨_, _, _, e, _⟩ := hq; rw [e])) (w_X11_know 197 hB1 (hB.2.1 _ _) (hB.2.1 _ _) hw) (fun E S' I' J' hq => by obtain ⟨_, _, e, _⟩ := hq; cases e) (fun v S' I' J' hq => ?_)
    obtain ⟨s, V2, e, hS, hI, hJ, hB2, hzs, hq⟩ := hq
    cases e; subst hS; subst hI; subst hJ
    have sc2 := scV.of hB1 hB2 ⟨rfl, fun _ => rfl⟩
    refine y_istore (L' := LE i (some (.int (iI c))) (some (.int (iI s))) none) Q_E_know (k := 26) rfl (by decide) rfl ?_
    refine z_aload_n Q_E_know (k := 27) rfl rfl ?_
    refine q_callV0_i Q_E_know (k := 28) rfl rfl K_X11_thrown V_X11_thrown L_L_144 (n_ hB2.1 rfl) (k_602 hB2.1) (Nat.le_of_ble_eq_true rfl) (Nat.le_of_ble_eq_true rfl) rfl (Nat.zero_le _) (Nat.zero_le _) (w_X11_thrown 199 hB2 (Q := fun r => r = V2 602 0) rfl) (fun t hzt ht => ?_)
    refine z_iload Q_E_know (k := 29) rfl rfl ?_
    refine y_icmp_eq 474 Q_E_know (k := 30) rfl (by decide) hzt hzc (fun _ => ?_) (fun h => absurd (ht.trans hq.1) h)
    refine z_iload Q_E_know (k := 33) rfl rfl ?_
    refine y_if_ne 491 Q_E_know (k := 34) rfl (by decide) hzc (fun _ => ?_) (fun h => absurd h c0)
    exact z_goto Q_E_know (k := 44) (tgt := 2907) rfl (by decide) (((kk _ V2 J1 hB2 hq.2 (sc.tr sc2)).wid (by omega) (by omega)).sub LE_f)
def T_E_weigh : zTb := [(494, .aload_n 1, 1, 495), (495, .aload_n 0, 1, 496), (496, .iload 4, 2, 498), (498, .iconst 1, 1, 499), (499, .iadd, 1, 500), (500, .iaload, 1, 501), (501, .aload_n 0, 1, 502), (502, .iload 4, 2, 504), (504, .iconst 2, 1, 505), (505, .iadd, 1, 506), (506, .iaload, 1, 507), (507, .aload_n 3, 1, 508), (508, .invokestatic 159, 3, 511), (511, .istore 5, 2, 513), (513, .aload_n 2, 1, 514), (514, .aload_n 0, 1, 515), (515, .iload 4, 2, 517), (517, .iconst 1, 1, 518), (518, .iadd, 1, 519), (519, .iaload, 1, 520), (520, .aload_n 0, 1, 521), (521, .iload 4, 2, 523), (523, .iconst 2, 1, 524), (524, .iadd, 1, 525), (525, .iaload, 1, 526), (526, .invokevirtual 161, 3, 529), (529, .istore 6, 2, 531), (531, .aload_n 2, 1, 532), (532, .invokevirtual 144, 3, 535), (535, .iload 5, 2, 537), (537, .if_icmp .eq 5, 3, 540), (540, .iconst 0, 1, 541), (541, .ireturn, 1, 542), (542, .iload 5, 2, 544), (544, .ifCond .ne 15, 3, 547), (547, .aload_n 3, 1, 548), (548, .iconst 0, 1, 549), (549, .laload, 1, 550), (550, .iload 6, 2, 552), (552, .i2l, 1, 553), (553, .lcmp, 1, 554), (554, .ifCond .eq 5, 3, 557), (557, .iconst 0, 1, 558), (558, .ireturn, 1, 559), (559, .goto 2348, 3, 562)]
set_option maxRecDepth 20000 in
theorem Q_E_weigh : zT M_E T_E_weigh := zT_of (by decide +kernel)
theorem e_weigh {S : zS} {V : qV} {J : qJ} {n i : Int} {kc ks : Nat} (hB : qB S V) (hR : Rel n V J) (hi : 0 ≤ i ∧ i + 5 < V 1000005 0) (h1 : 67 ≤ kc) (h2 : 402 ≤ ks) (kk : ∀ S' V' J', qB S' V' → Rel (n + 1) V' J' → scV V V' → Z M_E 200 (kc - 67) (ks - 402) 2907 (LE i none none none) [] S' (qi V') (qj J') QE) : Z M_E 200 kc ks 494 (LE i none none none) [] S (qi V) (qj J) QE := by
  refine z_aload_n Q_E_weigh (k := 0) rfl rfl ?_
  refine q_arg (i := i) (j := 1) hB Q_E_weigh (k := 1) rfl rfl rfl rfl rfl rfl rfl (by omega) rfl ?_
  refine q_arg (i := i) (j := 2) hB Q_E_weigh (k := 6) rfl rfl rfl rfl rfl rfl rfl (by omega) rfl ?_
  refine z_aload_n Q_E_weigh (k := 11) rfl rfl ?_
  refine z_callSH (as := [.ref 0, .int (iI (V 1000004 (i + 1))), .int (iI (V 1000004 (i + 2))), .ref 624]) Q_E_weigh (k := 12) rfl rfl K_L_weigh L_L_159 rfl rfl (Nat.le_of_ble_eq_true rfl) rfl (by decide) (show 2 ≤ kc by omega) (show 12 ≤ ks by omega) (Or.inr (zRbE hB.1.1)) (Z.scr (w_L_weigh (Q := fun c V1 J1 => (c = 0 ∧ ∃ (r : Int) (J0 : qJ), zr r ∧ J1 = qu J0 624 0 (iI r).toInt64 ∧ W_X11_weigh (V 1000004 (i + 1)) (V 1000004 (i + 2)) V1 (fun s V2 => V2 602 0 = 0 ∧ r = s ∧ Rel (n + 1) V2 J0)) ∨ (c ≠ 0 ∧ W_X11_weigh (V 1000004 (i + 1)) (V 1000004 (i + 2)) V1 (fun s V2 => V2 602 0 = c ∧ Rel (n + 1) V2 J1))) 197 hB (hB.2.1 _ _) (hB.2.1 _ _) (t_weigh (P := (fun V2 => Rel (n + 1) V2 J)) hR (fun _ h => h)) (fun r V1 hz hw => Or.inl ⟨rfl, r, J, hz, rfl, hw⟩) (fun E V1 h => by
    rcases h with ⟨e, w⟩ | ⟨e, w⟩
    · exact Or.inl ⟨e, Or.inr ⟨by decide, w⟩⟩
    · exact Or.inr ⟨e, Or.inr ⟨by decide, w⟩⟩))) (fun E S' I' J' hq => by obtain ⟨⟨_, _, _, e, _⟩, _⟩ := hq; cases e) (fun v S' I' J' hq => ?_)
  obtain ⟨⟨c, V1, J1, e, hn1, hI, hJ, hB1, hzc, hq⟩, hsc⟩ := hq
  cases e; subst hI; subst hJ
  have sc := scV.of hB hB1 hsc
  have sl := sc.1
  refine y_istore (L' := LE i (some (.int (iI c))) none none) Q_E_weigh (k := 13) rfl (by decide) rfl ?_
  refine z_aload_n Q_E_weigh (k := 14) rfl rfl ?_
  refine q_arg (i := i) (j := 1) hB1 Q_E_weigh (k := 15) rfl rfl rfl rfl rfl rfl rfl (by omega) (sc.2 _ (by omega)) ?_
  refine q_arg (i := i) (j := 2) hB1 Q_E_weigh (k := 20) rfl rfl rfl rfl rfl rfl rfl (by omega) (sc.2 _ (by omega)) ?_
  rcases hq with ⟨rfl, r, J0, hzr, rfl, hw⟩ | ⟨c0, hw⟩
  · refine z_callV (o := 602) (as := [.int (iI (V 1000004 (i + 1))), .int (iI (V 1000004 (i + 2)))]) Q_E_weigh (k := 25) rfl rfl K_X11_weigh V_X11_weigh L_L_161 (n_ hB1.1 rfl) (k_602 hB1.1) rfl rfl (Nat.le_of_ble_eq_true rfl) rfl (by decide) (Nat.zero_le _) (Nat.zero_le _) (Or.inl (fun o S' I' J' hq => by obtain ⟨_, _, _, e, _⟩ := hq; rw [e])) (w_X11_weigh 197 hB1 (hB.2.1 _ _) (hB.2.1 _ _) hw) (fun E S' I' J' hq => by obtain ⟨_, _, e, _⟩ := hq; cases e) (fun v S' I' J' hq => ?_)
    obtain ⟨s, V2, e, hS, hI, hJ, hB2, hzs, hq⟩ := hq
    cases e; subst hS; subst hI; subst hJ
    have sc2 := scV.of hB1 hB2 ⟨rfl, fun _ => rfl⟩
    refine y_istore (L' := LE i (some (.int (iI 0))) (some (.int (iI s))) none) Q_E_weigh (k := 26) rfl (by decide) rfl ?_
    refine z_aload_n Q_E_weigh (k := 27) rfl rfl ?_
    refine q_callV0_i Q_E_weigh (k := 28) rfl rfl K_X11_thrown V_X11_thrown L_L_144 (n_ hB2.1 rfl) (k_602 hB2.1) (Nat.le_of_ble_eq_true rfl) (Nat.le_of_ble_eq_true rfl) rfl (Nat.zero_le _) (Nat.zero_le _) (w_X11_thrown 199 hB2 (Q := fun r => r = V2 602 0) rfl) (fun t hzt ht => ?_)
    refine z_iload Q_E_weigh (k := 29) rfl rfl ?_
    refine y_icmp_eq 542 Q_E_weigh (k := 30) rfl (by decide) hzt ⟨by decide, by decide⟩ (fun _ => ?_) (fun h => absurd (ht.trans hq.1) h)
    refine z_iload Q_E_weigh (k := 33) rfl rfl ?_
    refine y_if_ne 559 Q_E_weigh (k := 34) rfl (by decide) ⟨by decide, by decide⟩ (fun h => absurd rfl h) (fun _ => ?_)
    refine z_aload_n Q_E_weigh (k := 35) rfl rfl ?_
    refine y_iconst Q_E_weigh (k := 36) rfl ?_
    refine q_lald (z := 0) (N := 1) (o := 624) Q_E_weigh (k := 37) rfl rfl (n_ hB2.1 rfl) (k_624 hB2.1) rfl ⟨by decide, by decide⟩ (by decide) ?_
    refine z_iload Q_E_weigh (k := 38) rfl rfl ?_
    refine z_i2l Q_E_weigh (k := 39) rfl ?_
    refine y_lcmp Q_E_weigh (k := 40) rfl ?_
    refine y_if_eq 559 Q_E_weigh (k := 41) rfl (by decide) (zlc_r _ _) (fun _ => ?_) (fun h => absurd (zlc_0.mpr (by rw [qu_s, hq.2.1])) h)
    exact z_goto Q_E_weigh (k := 44) (tgt := 2907) rfl (by decide) (((kk _ V2 _ hB2 (hq.2.2.out _) (sc.tr sc2)).wid (by omega) (by omega)).sub LE_f)
  · refine z_callV (o := 602) (as := [.int (iI (V 1000004 (i + 1))), .int (iI (V 1000004 (i + 2)))]) Q_E_weigh (k := 25) rfl rfl K_X11_weigh V_X11_weigh L_L_161 (n_ hB1.1 rfl) (k_602 hB1.1) rfl rfl (Nat.le_of_ble_eq_true rfl) rfl (by decide) (Nat.zero_le _) (Nat.zero_le _) (Or.inl (fun o S' I' J' hq => by obtain ⟨_, _, _, e, _⟩ := hq; rw [e])) (w_X11_weigh 197 hB1 (hB.2.1 _ _) (hB.2.1 _ _) hw) (fun E S' I' J' hq => by obtain ⟨_, _, e, _⟩ := hq; cases e) (fun v S' I' J' hq => ?_)
    obtain ⟨s, V2, e, hS, hI, hJ, hB2, hzs, hq⟩ := hq
    cases e; subst hS; subst hI; subst hJ
    have sc2 := scV.of hB1 hB2 ⟨rfl, fun _ => rfl⟩
    refine y_istore (L' := LE i (some (.int (iI c))) (some (.int (iI s))) none) Q_E_weigh (k := 26) rfl (by decide) rfl ?_
    refine z_aload_n Q_E_weigh (k := 27) rfl rfl ?_
    refine q_callV0_i Q_E_weigh (k := 28) rfl rfl K_X11_thrown V_X11_thrown L_L_144 (n_ hB2.1 rfl) (k_602 hB2.1) (Nat.le_of_ble_eq_true rfl) (Nat.le_of_ble_eq_true rfl) rfl (Nat.zero_le _) (Nat.zero_le _) (w_X11_thrown 199 hB2 (Q := fun r => r = V2 602 0) rfl) (fun t hzt ht => ?_)
    refine z_iload Q_E_weigh (k := 29) rfl rfl ?_
    refine y_icmp_eq 542 Q_E_weigh (k := 30) rfl (by decide) hzt hzc (fun _ => ?_) (fun h => absurd (ht.trans hq.1) h)
    refine z_iload Q_E_weigh (k := 33) rfl rfl ?_
    refine y_if_ne 559 Q_E_weigh (k := 34) rfl (by decide) hzc (fun _ => ?_) (fun h => absurd h c0)
    exact z_goto Q_E_weigh (k := 44) (tgt := 2907) rfl (by decide) (((kk _ V2 J1 hB2 hq.2 (sc.tr sc2)).wid (by omega) (by omega)).sub LE_f)
def T_E_person : zTb := [(614, .aload_n 1, 1, 615), (615, .aload_n 0, 1, 616), (616, .iload 4, 2, 618), (618, .iconst 1, 1, 619), (619, .iadd, 1, 620), (620, .iaload, 1, 621), (621, .aload_n 0, 1, 622), (622, .iload 4, 2, 624), (624, .iconst 2, 1, 625), (625, .iadd, 1, 626), (626, .iaload, 1, 627), (627, .aload_n 3, 1, 628), (628, .invokestatic 175, 3, 631), (631, .istore 5, 2, 633), (633, .aload_n 2, 1, 634), (634, .aload_n 0, 1, 635), (635, .iload 4, 2, 637), (637, .iconst 1, 1, 638), (638, .iadd, 1, 639), (639, .iaload, 1, 640), (640, .aload_n 0, 1, 641), (641, .iload 4, 2, 643), (643, .iconst 2, 1, 644), (644, .iadd, 1, 645), (645, .iaload, 1, 646), (646, .invokevirtual 177, 3, 649), (649, .istore 6, 2, 651), (651, .aload_n 2, 1, 652), (652, .invokevirtual 144, 3, 655), (655, .iload 5, 2, 657), (657, .if_icmp .eq 5, 3, 660), (660, .iconst 0, 1, 661), (661, .ireturn, 1, 662), (662, .iload 5, 2, 664), (664, .ifCond .ne 15, 3, 667), (667, .aload_n 3, 1, 668), (668, .iconst 0, 1, 669), (669, .laload, 1, 670), (670, .iload 6, 2, 672), (672, .i2l, 1, 673), (673, .lcmp, 1, 674), (674, .ifCond .eq 5, 3, 677), (677, .iconst 0, 1, 678), (678, .ireturn, 1, 679), (679, .goto 2228, 3, 682)]
set_option maxRecDepth 20000 in
theorem Q_E_person : zT M_E T_E_person := zT_of (by decide +kernel)
theorem e_person {S : zS} {V : qV} {J : qJ} {n i : Int} {kc ks : Nat} (hB : qB S V) (hR : Rel n V J) (hi : 0 ≤ i ∧ i + 5 < V 1000005 0) (h1 : 67 ≤ kc) (h2 : 402 ≤ ks) (kk : ∀ S' V' J', qB S' V' → Rel (n + 1) V' J' → scV V V' → Z M_E 200 (kc - 67) (ks - 402) 2907 (LE i none none none) [] S' (qi V') (qj J') QE) : Z M_E 200 kc ks 614 (LE i none none none) [] S (qi V) (qj J) QE := by
  refine z_aload_n Q_E_person (k := 0) rfl rfl ?_
  refine q_arg (i := i) (j := 1) hB Q_E_person (k := 1) rfl rfl rfl rfl rfl rfl rfl (by omega) rfl ?_
  refine q_arg (i := i) (j := 2) hB Q_E_person (k := 6) rfl rfl rfl rfl rfl rfl rfl (by omega) rfl ?_
  refine z_aload_n Q_E_person (k := 11) rfl rfl ?_
  refine z_callSH (as := [.ref 0, .int (iI (V 1000004 (i + 1))), .int (iI (V 1000004 (i + 2))), .ref 624]) Q_E_person (k := 12) rfl rfl K_L_person L_L_175 rfl rfl (Nat.le_of_ble_eq_true rfl) rfl (by decide) (show 2 ≤ kc by omega) (show 12 ≤ ks by omega) (Or.inr (zRbE hB.1.1)) (Z.scr (w_L_person (Q := fun c V1 J1 => (c = 0 ∧ ∃ (r : Int) (J0 : qJ), zr r ∧ J1 = qu J0 624 0 (iI r).toInt64 ∧ W_X11_person (V 1000004 (i + 1)) (V 1000004 (i + 2)) V1 (fun s V2 => V2 602 0 = 0 ∧ r = s ∧ Rel (n + 1) V2 J0)) ∨ (c ≠ 0 ∧ W_X11_person (V 1000004 (i + 1)) (V 1000004 (i + 2)) V1 (fun s V2 => V2 602 0 = c ∧ Rel (n + 1) V2 J1))) 197 hB (hB.2.1 _ _) (hB.2.1 _ _) (t_person (P := (fun V2 => Rel (n + 1) V2 J)) hR (fun _ h => h)) (fun r V1 hz hw => Or.inl ⟨rfl, r, J, hz, rfl, hw⟩) (fun E V1 h => ⟨h.1, Or.inr ⟨by decide, h.2⟩⟩))) (fun E S' I' J' hq => by obtain ⟨⟨_, _, _, e, _⟩, _⟩ := hq; cases e) (fun v S' I' J' hq => ?_)
  obtain ⟨⟨c, V1, J1, e, hn1, hI, hJ, hB1, hzc, hq⟩, hsc⟩ := hq
  cases e; subst hI; subst hJ
  have sc := scV.of hB hB1 hsc
  have sl := sc.1
  refine y_istore (L' := LE i (some (.int (iI c))) none none) Q_E_person (k := 13) rfl (by decide) rfl ?_
  refine z_aload_n Q_E_person (k := 14) rfl rfl ?_
  refine q_arg (i := i) (j := 1) hB1 Q_E_person (k := 15) rfl rfl rfl rfl rfl rfl rfl (by omega) (sc.2 _ (by omega)) ?_
  refine q_arg (i := i) (j := 2) hB1 Q_E_person (k := 20) rfl rfl rfl rfl rfl rfl rfl (by omega) (sc.2 _ (by omega)) ?_
  rcases hq with ⟨rfl, r, J0, hzr, rfl, hw⟩ | ⟨c0, hw⟩
  · refine z_callV (o := 602) (as := [.int (iI (V 1000004 (i + 1))), .int (iI (V 1000004 (i + 2)))]) Q_E_person (k := 25) rfl rfl K_X11_person V_X11_person L_L_177 (n_ hB1.1 rfl) (k_602 hB1.1) rfl rfl (Nat.le_of_ble_eq_true rfl) rfl (by decide) (Nat.zero_le _) (Nat.zero_le _) (Or.inl (fun o S' I' J' hq => by obtain ⟨_, _, _, e, _⟩ := hq; rw [e])) (w_X11_person 197 hB1 (hB.2.1 _ _) (hB.2.1 _ _) hw) (fun E S' I' J' hq => by obtain ⟨_, _, e, _⟩ := hq; cases e) (fun v S' I' J' hq => ?_)
    obtain ⟨s, V2, e, hS, hI, hJ, hB2, hzs, hq⟩ := hq
    cases e; subst hS; subst hI; subst hJ
    have sc2 := scV.of hB1 hB2 ⟨rfl, fun _ => rfl⟩
    refine y_istore (L' := LE i (some (.int (iI 0))) (some (.int (iI s))) none) Q_E_person (k := 26) rfl (by decide) rfl ?_
    refine z_aload_n Q_E_person (k := 27) rfl rfl ?_
    refine q_callV0_i Q_E_person (k := 28) rfl rfl K_X11_thrown V_X11_thrown L_L_144 (n_ hB2.1 rfl) (k_602 hB2.1) (Nat.le_of_ble_eq_true rfl) (Nat.le_of_ble_eq_true rfl) rfl (Nat.zero_le _) (Nat.zero_le _) (w_X11_thrown 199 hB2 (Q := fun r => r = V2 602 0) rfl) (fun t hzt ht => ?_)
    refine z_iload Q_E_person (k := 29) rfl rfl ?_
    refine y_icmp_eq 662 Q_E_person (k := 30) rfl (by decide) hzt ⟨by decide, by decide⟩ (fun _ => ?_) (fun h => absurd (ht.trans hq.1) h)
    refine z_iload Q_E_person (k := 33) rfl rfl ?_
    refine y_if_ne 679 Q_E_person (k := 34) rfl (by decide) ⟨by decide, by decide⟩ (fun h => absurd rfl h) (fun _ => ?_)
    refine z_aload_n Q_E_person (k := 35) rfl rfl ?_
    refine y_iconst Q_E_person (k := 36) rfl ?_
    refine q_lald (z := 0) (N := 1) (o := 624) Q_E_person (k := 37) rfl rfl (n_ hB2.1 rfl) (k_624 hB2.1) rfl ⟨by decide, by decide⟩ (by decide) ?_
    refine z_iload Q_E_person (k := 38) rfl rfl ?_
    refine z_i2l Q_E_person (k := 39) rfl ?_
    refine y_lcmp Q_E_person (k := 40) rfl ?_
    refine y_if_eq 679 Q_E_person (k := 41) rfl (by decide) (zlc_r _ _) (fun _ => ?_) (fun h => absurd (zlc_0.mpr (by rw [qu_s, hq.2.1])) h)
    exact z_goto Q_E_person (k := 44) (tgt := 2907) rfl (by decide) (((kk _ V2 _ hB2 (hq.2.2.out _) (sc.tr sc2)).wid (by omega) (by omega)).sub LE_f)
  · refine z_callV (o := 602) (as := [.int (iI (V 1000004 (i + 1))), .int (iI (V 1000004 (i + 2)))]) Q_E_person (k := 25) rfl rfl K_X11_person V_X11_person L_L_177 (n_ hB1.1 rfl) (k_602 hB1.1) rfl rfl (Nat.le_of_ble_eq_true rfl) rfl (by decide) (Nat.zero_le _) (Nat.zero_le _) (Or.inl (fun o S' I' J' hq => by obtain ⟨_, _, _, e, _⟩ := hq; rw [e])) (w_X11_person 197 hB1 (hB.2.1 _ _) (hB.2.1 _ _) hw) (fun E S' I' J' hq => by obtain ⟨_, _, e, _⟩ := hq; cases e) (fun v S' I' J' hq => ?_)
    obtain ⟨s, V2, e, hS, hI, hJ, hB2, hzs, hq⟩ := hq
    cases e; subst hS; subst hI; subst hJ
    have sc2 := scV.of hB1 hB2 ⟨rfl, fun _ => rfl⟩
    refine y_istore (L' := LE i (some (.int (iI c))) (some (.int (iI s))) none) Q_E_person (k := 26) rfl (by decide) rfl ?_
    refine z_aload_n Q_E_person (k := 27) rfl rfl ?_
    refine q_callV0_i Q_E_person (k := 28) rfl rfl K_X11_thrown V_X11_thrown L_L_144 (n_ hB2.1 rfl) (k_602 hB2.1) (Nat.le_of_ble_eq_true rfl) (Nat.le_of_ble_eq_true rfl) rfl (Nat.zero_le _) (Nat.zero_le _) (w_X11_thrown 199 hB2 (Q := fun r => r = V2 602 0) rfl) (fun t hzt ht => ?_)
    refine z_iload Q_E_person (k := 29) rfl rfl ?_
    refine y_icmp_eq 662 Q_E_person (k := 30) rfl (by decide) hzt hzc (fun _ => ?_) (fun h => absurd (ht.trans hq.1) h)
    refine z_iload Q_E_person (k := 33) rfl rfl ?_
    refine y_if_ne 679 Q_E_person (k := 34) rfl (by decide) hzc (fun _ => ?_) (fun h => absurd h c0)
    exact z_goto Q_E_person (k := 44) (tgt := 2907) rfl (by decide) (((kk _ V2 J1 hB2 hq.2 (sc.tr sc2)).wid (by omega) (by omega)).sub LE_f)
def T_E_passes : zTb := [(682, .aload_n 1, 1, 683), (683, .aload_n 0, 1, 684), (684, .iload 4, 2, 686), (686, .iconst 1, 1, 687), (687, .iadd, 1, 688), (688, .iaload, 1, 689), (689, .aload_n 0, 1, 690), (690, .iload 4, 2, 692), (692, .iconst 2, 1, 693), (693, .iadd, 1, 694), (694, .iaload, 1, 695), (695, .aload_n 0, 1, 696), (696, .iload 4, 2, 698), (698, .iconst 3, 1, 699), (699, .iadd, 1, 700), (700, .iaload, 1, 701), (701, .aload_n 3, 1, 702), (702, .invokestatic 178, 3, 705), (705, .istore 5, 2, 707), (707, .aload_n 2, 1, 708), (708, .aload_n 0, 1, 709), (709, .iload 4, 2, 711), (711, .iconst 1, 1, 712), (712, .iadd, 1, 713), (713, .iaload, 1, 714), (714, .aload_n 0, 1, 715), (715, .iload 4, 2, 717), (717, .iconst 2, 1, 718), (718, .iadd, 1, 719), (719, .iaload, 1, 720), (720, .aload_n 0, 1, 721), (721, .iload 4, 2, 723), (723, .iconst 3, 1, 724), (724, .iadd, 1, 725), (725, .iaload, 1, 726), (726, .invokevirtual 181, 3, 729), (729, .istore 6, 2, 731), (731, .aload_n 2, 1, 732), (732, .invokevirtual 144, 3, 735), (735, .iload 5, 2, 737), (737, .if_icmp .eq 5, 3, 740), (740, .iconst 0, 1, 741), (741, .ireturn, 1, 742), (742, .iload 5, 2, 744), (744, .ifCond .ne 15, 3, 747), (747, .aload_n 3, 1, 748), (748, .iconst 0, 1, 749), (749, .laload, 1, 750), (750, .iload 6, 2, 752), (752, .i2l, 1, 753), (753, .lcmp, 1, 754), (754, .ifCond .eq 5, 3, 757), (757, .iconst 0, 1, 758), (758, .ireturn, 1, 759), (759, .goto 2148, 3, 762)]
set_option maxRecDepth 20000 in
theorem Q_E_passes : zT M_E T_E_passes := zT_of (by decide +kernel)
theorem e_passes {S : zS} {V : qV} {J : qJ} {n i : Int} {kc ks : Nat} (hB : qB S V) (hR : Rel n V J) (hi : 0 ≤ i ∧ i + 5 < V 1000005 0) (h1 : 67 ≤ kc) (h2 : 402 ≤ ks) (kk : ∀ S' V' J', qB S' V' → Rel (n + 1) V' J' → scV V V' → Z M_E 200 (kc - 67) (ks - 402) 2907 (LE i none none none) [] S' (qi V') (qj J') QE) : Z M_E 200 kc ks 682 (LE i none none none) [] S (qi V) (qj J) QE := by
  refine z_aload_n Q_E_passes (k := 0) rfl rfl ?_
  refine q_arg (i := i) (j := 1) hB Q_E_passes (k := 1) rfl rfl rfl rfl rfl rfl rfl (by omega) rfl ?_
  refine q_arg (i := i) (j := 2) hB Q_E_passes (k := 6) rfl rfl rfl rfl rfl rfl rfl (by omega) rfl ?_
  refine q_arg (i := i) (j := 3) hB Q_E_passes (k := 11) rfl rfl rfl rfl rfl rfl rfl (by omega) rfl ?_
  refine z_aload_n Q_E_passes (k := 16) rfl rfl ?_
  refine z_callSH (as := [.ref 0, .int (iI (V 1000004 (i + 1))), .int (iI (V 1000004 (i + 2))), .int (iI (V 1000004 (i + 3))), .ref 624]) Q_E_passes (k := 17) rfl rfl K_L_passes L_L_178 rfl rfl (Nat.le_of_ble_eq_true rfl) rfl (by decide) (show 3 ≤ kc by omega) (show 18 ≤ ks by omega) (Or.inr (zRbE hB.1.1)) (Z.scr (w_L_passes (Q := fun c V1 J1 => (c = 0 ∧ ∃ (r : Int) (J0 : qJ), zr r ∧ J1 = qu J0 624 0 (iI r).toInt64 ∧ W_X11_passes (V 1000004 (i + 1)) (V 1000004 (i + 2)) (V 1000004 (i + 3)) V1 (fun s V2 => V2 602 0 = 0 ∧ r = s ∧ Rel (n + 1) V2 J0)) ∨ (c ≠ 0 ∧ W_X11_passes (V 1000004 (i + 1)) (V 1000004 (i + 2)) (V 1000004 (i + 3)) V1 (fun s V2 => V2 602 0 = c ∧ Rel (n + 1) V2 J1))) 197 hB (hB.2.1 _ _) (hB.2.1 _ _) (hB.2.1 _ _) (t_passes (P := (fun V2 => Rel (n + 1) V2 J)) hR (fun _ h => h)) (fun r V1 hz hw => Or.inl ⟨rfl, r, J, hz, rfl, hw⟩) (fun E V1 h => by
    rcases h with ⟨e, w⟩ | ⟨e, w⟩
    · exact Or.inl ⟨e, Or.inr ⟨by decide, w⟩⟩
    · exact Or.inr ⟨e, Or.inr ⟨by decide, w⟩⟩))) (fun E S' I' J' hq => by obtain ⟨⟨_, _, _, e, _⟩, _⟩ := hq; cases e) (fun v S' I' J' hq => ?_)
  obtain ⟨⟨c, V1, J1, e, hn1, hI, hJ, hB1, hzc, hq⟩, hsc⟩ := hq
  cases e; subst hI; subst hJ
  have sc := scV.of hB hB1 hsc
  have sl := sc.1
  refine y_istore (L' := LE i (some (.int (iI c))) none none) Q_E_passes (k := 18) rfl (by decide) rfl ?_
  refine z_aload_n Q_E_passes (k := 19) rfl rfl ?_
  refine q_arg (i := i) (j := 1) hB1 Q_E_passes (k := 20) rfl rfl rfl rfl rfl rfl rfl (by omega) (sc.2 _ (by omega)) ?_
  refine q_arg (i := i) (j := 2) hB1 Q_E_passes (k := 25) rfl rfl rfl rfl rfl rfl rfl (by omega) (sc.2 _ (by omega)) ?_
  refine q_arg (i := i) (j := 3) hB1 Q_E_passes (k := 30) rfl rfl rfl rfl rfl rfl rfl (by omega) (sc.2 _ (by omega)) ?_
  rcases hq with ⟨rfl, r, J0, hzr, rfl, hw⟩ | ⟨c0, hw⟩
  · refine z_callV (o := 602) (as := [.int (iI (V 1000004 (i + 1))), .int (iI (V 1000004 (i + 2))), .int (iI (V 1000004 (i + 3)))]) Q_E_passes (k := 35) rfl rfl K_X11_passes V_X11_passes L_L_181 (n_ hB1.1 rfl) (k_602 hB1.1) rfl rfl (Nat.le_of_ble_eq_true rfl) rfl (by decide) (Nat.zero_le _) (Nat.zero_le _) (Or.inl (fun o S' I' J' hq => by obtain ⟨_, _, _, e, _⟩ := hq; rw [e])) (w_X11_passes 197 hB1 (hB.2.1 _ _) (hB.2.1 _ _) (hB.2.1 _ _) hw) (fun E S' I' J' hq => by obtain ⟨_, _, e, _⟩ := hq; cases e) (fun v S' I' J' hq => ?_)
    obtain ⟨s, V2, e, hS, hI, hJ, hB2, hzs, hq⟩ := hq
    cases e; subst hS; subst hI; subst hJ
    have sc2 := scV.of hB1 hB2 ⟨rfl, fun _ => rfl⟩
    refine y_istore (L' := LE i (some (.int (iI 0))) (some (.int (iI s))) none) Q_E_passes (k := 36) rfl (by decide) rfl ?_
    refine z_aload_n Q_E_passes (k := 37) rfl rfl ?_
    refine q_callV0_i Q_E_passes (k := 38) rfl rfl K_X11_thrown V_X11_thrown L_L_144 (n_ hB2.1 rfl) (k_602 hB2.1) (Nat.le_of_ble_eq_true rfl) (Nat.le_of_ble_eq_true rfl) rfl (Nat.zero_le _) (Nat.zero_le _) (w_X11_thrown 199 hB2 (Q := fun r => r = V2 602 0) rfl) (fun t hzt ht => ?_)
    refine z_iload Q_E_passes (k := 39) rfl rfl ?_
    refine y_icmp_eq 742 Q_E_passes (k := 40) rfl (by decide) hzt ⟨by decide, by decide⟩ (fun _ => ?_) (fun h => absurd (ht.trans hq.1) h)
    refine z_iload Q_E_passes (k := 43) rfl rfl ?_
    refine y_if_ne 759 Q_E_passes (k := 44) rfl (by decide) ⟨by decide, by decide⟩ (fun h => absurd rfl h) (fun _ => ?_)
    refine z_aload_n Q_E_passes (k := 45) rfl rfl ?_
    refine y_iconst Q_E_passes (k := 46) rfl ?_
    refine q_lald (z := 0) (N := 1) (o := 624) Q_E_passes (k := 47) rfl rfl (n_ hB2.1 rfl) (k_624 hB2.1) rfl ⟨by decide, by decide⟩ (by decide) ?_
    refine z_iload Q_E_passes (k := 48) rfl rfl ?_
    refine z_i2l Q_E_passes (k := 49) rfl ?_
    refine y_lcmp Q_E_passes (k := 50) rfl ?_
    refine y_if_eq 759 Q_E_passes (k := 51) rfl (by decide) (zlc_r _ _) (fun _ => ?_) (fun h => absurd (zlc_0.mpr (by rw [qu_s, hq.2.1])) h)
    exact z_goto Q_E_passes (k := 54) (tgt := 2907) rfl (by decide) (((kk _ V2 _ hB2 (hq.2.2.out _) (sc.tr sc2)).wid (by omega) (by omega)).sub LE_f)
  · refine z_callV (o := 602) (as := [.int (iI (V 1000004 (i + 1))), .int (iI (V 1000004 (i + 2))), .int (iI (V 1000004 (i + 3)))]) Q_E_passes (k := 35) rfl rfl K_X11_passes V_X11_passes L_L_181 (n_ hB1.1 rfl) (k_602 hB1.1) rfl rfl (Nat.le_of_ble_eq_true rfl) rfl (by decide) (Nat.zero_le _) (Nat.zero_le _) (Or.inl (fun o S' I' J' hq => by obtain ⟨_, _, _, e, _⟩ := hq; rw [e])) (w_X11_passes 197 hB1 (hB.2.1 _ _) (hB.2.1 _ _) (hB.2.1 _ _) hw) (fun E S' I' J' hq => by obtain ⟨_, _, e, _⟩ := hq; cases e) (fun v S' I' J' hq => ?_)
    obtain ⟨s, V2, e, hS, hI, hJ, hB2, hzs, hq⟩ := hq
    cases e; subst hS; subst hI; subst hJ
    have sc2 := scV.of hB1 hB2 ⟨rfl, fun _ => rfl⟩
    refine y_istore (L' := LE i (some (.int (iI c))) (some (.int (iI s))) none) Q_E_passes (k := 36) rfl (by decide) rfl ?_
    refine z_aload_n Q_E_passes (k := 37) rfl rfl ?_
    refine q_callV0_i Q_E_passes (k := 38) rfl rfl K_X11_thrown V_X11_thrown L_L_144 (n_ hB2.1 rfl) (k_602 hB2.1) (Nat.le_of_ble_eq_true rfl) (Nat.le_of_ble_eq_true rfl) rfl (Nat.zero_le _) (Nat.zero_le _) (w_X11_thrown 199 hB2 (Q := fun r => r = V2 602 0) rfl) (fun t hzt ht => ?_)
    refine z_iload Q_E_passes (k := 39) rfl rfl ?_
    refine y_icmp_eq 742 Q_E_passes (k := 40) rfl (by decide) hzt hzc (fun _ => ?_) (fun h => absurd (ht.trans hq.1) h)
    refine z_iload Q_E_passes (k := 43) rfl rfl ?_
    refine y_if_ne 759 Q_E_passes (k := 44) rfl (by decide) hzc (fun _ => ?_) (fun h => absurd h c0)
    exact z_goto Q_E_passes (k := 54) (tgt := 2907) rfl (by decide) (((kk _ V2 J1 hB2 hq.2 (sc.tr sc2)).wid (by omega) (by omega)).sub LE_f)
def T_E_days : zTb := [(858, .aload_n 1, 1, 859), (859, .aload_n 0, 1, 860), (860, .iload 4, 2, 862), (862, .iconst 1, 1, 863), (863, .iadd, 1, 864), (864, .iaload, 1, 865), (865, .aload_n 3, 1, 866), (866, .invokestatic 186, 3, 869), (869, .istore 5, 2, 871), (871, .aload_n 2, 1, 872), (872, .aload_n 0, 1, 873), (873, .iload 4, 2, 875), (875, .iconst 1, 1, 876), (876, .iadd, 1, 877), (877, .iaload, 1, 878), (878, .invokevirtual 188, 3, 881), (881, .istore 6, 2, 883), (883, .aload_n 2, 1, 884), (884, .invokevirtual 144, 3, 887), (887, .iload 5, 2, 889), (889, .if_icmp .eq 5, 3, 892), (892, .iconst 0, 1, 893), (893, .ireturn, 1, 894), (894, .iload 5, 2, 896), (896, .ifCond .ne 15, 3, 899), (899, .aload_n 3, 1, 900), (900, .iconst 0, 1, 901), (901, .laload, 1, 902), (902, .iload 6, 2, 904), (904, .i2l, 1, 905), (905, .lcmp, 1, 906), (906, .ifCond .eq 5, 3, 909), (909, .iconst 0, 1, 910), (910, .ireturn, 1, 911), (911, .goto 1996, 3, 914)]
set_option maxRecDepth 20000 in
theorem Q_E_days : zT M_E T_E_days := zT_of (by decide +kernel)
theorem e_days {S : zS} {V : qV} {J : qJ} {n i : Int} {kc ks : Nat} (hB : qB S V) (hR : Rel n V J) (hi : 0 ≤ i ∧ i + 5 < V 1000005 0) (h1 : 67 ≤ kc) (h2 : 402 ≤ ks) (kk : ∀ S' V' J', qB S' V' → Rel (n + 1) V' J' → scV V V' → Z M_E 200 (kc - 67) (ks - 402) 2907 (LE i none none none) [] S' (qi V') (qj J') QE) : Z M_E 200 kc ks 858 (LE i none none none) [] S (qi V) (qj J) QE := by
  refine z_aload_n Q_E_days (k := 0) rfl rfl ?_
  refine q_arg (i := i) (j := 1) hB Q_E_days (k := 1) rfl rfl rfl rfl rfl rfl rfl (by omega) rfl ?_
  refine z_aload_n Q_E_days (k := 6) rfl rfl ?_
  refine z_callSH (as := [.ref 0, .int (iI (V 1000004 (i + 1))), .ref 624]) Q_E_days (k := 7) rfl rfl K_L_days L_L_186 rfl rfl (Nat.le_of_ble_eq_true rfl) rfl (by decide) (show 2 ≤ kc by omega) (show 12 ≤ ks by omega) (Or.inr (zRbE hB.1.1)) (Z.scr (w_L_days (Q := fun c V1 J1 => (c = 0 ∧ ∃ (r : Int) (J0 : qJ), zr r ∧ J1 = qu J0 624 0 (iI r).toInt64 ∧ W_X11_days (V 1000004 (i + 1)) V1 (fun s V2 => V2 602 0 = 0 ∧ r = s ∧ Rel (n + 1) V2 J0)) ∨ (c ≠ 0 ∧ W_X11_days (V 1000004 (i + 1)) V1 (fun s V2 => V2 602 0 = c ∧ Rel (n + 1) V2 J1))) 197 hB (hB.2.1 _ _) (t_days (P := (fun V2 => Rel (n + 1) V2 J)) hR (fun _ h => h)) (fun r V1 hz hw => Or.inl ⟨rfl, r, J, hz, rfl, hw⟩) (fun E V1 h => by
    rcases h with ⟨e, w⟩ | ⟨e, w⟩
    · exact Or.inl ⟨e, Or.inr ⟨by decide, w⟩⟩
    · exact Or.inr ⟨e, Or.inr ⟨by decide, w⟩⟩))) (fun E S' I' J' hq => by obtain ⟨⟨_, _, _, e, _⟩, _⟩ := hq; cases e) (fun v S' I' J' hq => ?_)
  obtain ⟨⟨c, V1, J1, e, hn1, hI, hJ, hB1, hzc, hq⟩, hsc⟩ := hq
  cases e; subst hI; subst hJ
  have sc := scV.of hB hB1 hsc
  have sl := sc.1
  refine y_istore (L' := LE i (some (.int (iI c))) none none) Q_E_days (k := 8) rfl (by decide) rfl ?_
  refine z_aload_n Q_E_days (k := 9) rfl rfl ?_
  refine q_arg (i := i) (j := 1) hB1 Q_E_days (k := 10) rfl rfl rfl rfl rfl rfl rfl (by omega) (sc.2 _ (by omega)) ?_
  rcases hq with ⟨rfl, r, J0, hzr, rfl, hw⟩ | ⟨c0, hw⟩
  · refine z_callV (o := 602) (as := [.int (iI (V 1000004 (i + 1)))]) Q_E_days (k := 15) rfl rfl K_X11_days V_X11_days L_L_188 (n_ hB1.1 rfl) (k_602 hB1.1) rfl rfl (Nat.le_of_ble_eq_true rfl) rfl (by decide) (Nat.zero_le _) (Nat.zero_le _) (Or.inl (fun o S' I' J' hq => by obtain ⟨_, _, _, e, _⟩ := hq; rw [e])) (w_X11_days 198 hB1 (hB.2.1 _ _) hw) (fun E S' I' J' hq => by obtain ⟨_, _, e, _⟩ := hq; cases e) (fun v S' I' J' hq => ?_)
    obtain ⟨s, V2, e, hS, hI, hJ, hB2, hzs, hq⟩ := hq
    cases e; subst hS; subst hI; subst hJ
    have sc2 := scV.of hB1 hB2 ⟨rfl, fun _ => rfl⟩
    refine y_istore (L' := LE i (some (.int (iI 0))) (some (.int (iI s))) none) Q_E_days (k := 16) rfl (by decide) rfl ?_
    refine z_aload_n Q_E_days (k := 17) rfl rfl ?_
    refine q_callV0_i Q_E_days (k := 18) rfl rfl K_X11_thrown V_X11_thrown L_L_144 (n_ hB2.1 rfl) (k_602 hB2.1) (Nat.le_of_ble_eq_true rfl) (Nat.le_of_ble_eq_true rfl) rfl (Nat.zero_le _) (Nat.zero_le _) (w_X11_thrown 199 hB2 (Q := fun r => r = V2 602 0) rfl) (fun t hzt ht => ?_)
    refine z_iload Q_E_days (k := 19) rfl rfl ?_
    refine y_icmp_eq 894 Q_E_days (k := 20) rfl (by decide) hzt ⟨by decide, by decide⟩ (fun _ => ?_) (fun h => absurd (ht.trans hq.1) h)
    refine z_iload Q_E_days (k := 23) rfl rfl ?_
    refine y_if_ne 911 Q_E_days (k := 24) rfl (by decide) ⟨by decide, by decide⟩ (fun h => absurd rfl h) (fun _ => ?_)
    refine z_aload_n Q_E_days (k := 25) rfl rfl ?_
    refine y_iconst Q_E_days (k := 26) rfl ?_
    refine q_lald (z := 0) (N := 1) (o := 624) Q_E_days (k := 27) rfl rfl (n_ hB2.1 rfl) (k_624 hB2.1) rfl ⟨by decide, by decide⟩ (by decide) ?_
    refine z_iload Q_E_days (k := 28) rfl rfl ?_
    refine z_i2l Q_E_days (k := 29) rfl ?_
    refine y_lcmp Q_E_days (k := 30) rfl ?_
    refine y_if_eq 911 Q_E_days (k := 31) rfl (by decide) (zlc_r _ _) (fun _ => ?_) (fun h => absurd (zlc_0.mpr (by rw [qu_s, hq.2.1])) h)
    exact z_goto Q_E_days (k := 34) (tgt := 2907) rfl (by decide) (((kk _ V2 _ hB2 (hq.2.2.out _) (sc.tr sc2)).wid (by omega) (by omega)).sub LE_f)
  · refine z_callV (o := 602) (as := [.int (iI (V 1000004 (i + 1)))]) Q_E_days (k := 15) rfl rfl K_X11_days V_X11_days L_L_188 (n_ hB1.1 rfl) (k_602 hB1.1) rfl rfl (Nat.le_of_ble_eq_true rfl) rfl (by decide) (Nat.zero_le _) (Nat.zero_le _) (Or.inl (fun o S' I' J' hq => by obtain ⟨_, _, _, e, _⟩ := hq; rw [e])) (w_X11_days 198 hB1 (hB.2.1 _ _) hw) (fun E S' I' J' hq => by obtain ⟨_, _, e, _⟩ := hq; cases e) (fun v S' I' J' hq => ?_)
    obtain ⟨s, V2, e, hS, hI, hJ, hB2, hzs, hq⟩ := hq
    cases e; subst hS; subst hI; subst hJ
    have sc2 := scV.of hB1 hB2 ⟨rfl, fun _ => rfl⟩
    refine y_istore (L' := LE i (some (.int (iI c))) (some (.int (iI s))) none) Q_E_days (k := 16) rfl (by decide) rfl ?_
    refine z_aload_n Q_E_days (k := 17) rfl rfl ?_
    refine q_callV0_i Q_E_days (k := 18) rfl rfl K_X11_thrown V_X11_thrown L_L_144 (n_ hB2.1 rfl) (k_602 hB2.1) (Nat.le_of_ble_eq_true rfl) (Nat.le_of_ble_eq_true rfl) rfl (Nat.zero_le _) (Nat.zero_le _) (w_X11_thrown 199 hB2 (Q := fun r => r = V2 602 0) rfl) (fun t hzt ht => ?_)
    refine z_iload Q_E_days (k := 19) rfl rfl ?_
    refine y_icmp_eq 894 Q_E_days (k := 20) rfl (by decide) hzt hzc (fun _ => ?_) (fun h => absurd (ht.trans hq.1) h)
    refine z_iload Q_E_days (k := 23) rfl rfl ?_
    refine y_if_ne 911 Q_E_days (k := 24) rfl (by decide) hzc (fun _ => ?_) (fun h => absurd h c0)
    exact z_goto Q_E_days (k := 34) (tgt := 2907) rfl (by decide) (((kk _ V2 J1 hB2 hq.2 (sc.tr sc2)).wid (by omega) (by omega)).sub LE_f)
def T_E_find : zTb := [(914, .aload_n 1, 1, 915), (915, .aload_n 0, 1, 916), (916, .iload 4, 2, 918), (918, .iconst 1, 1, 919), (919, .iadd, 1, 920), (920, .iaload, 1, 921), (921, .aload_n 0, 1, 922), (922, .iload 4, 2, 924), (924, .iconst 2, 1, 925), (925, .iadd, 1, 926), (926, .iaload, 1, 927), (927, .aload_n 0, 1, 928), (928, .iload 4, 2, 930), (930, .iconst 3, 1, 931), (931, .iadd, 1, 932), (932, .iaload, 1, 933), (933, .aload_n 0, 1, 934), (934, .iload 4, 2, 936), (936, .iconst 4, 1, 937), (937, .iadd, 1, 938), (938, .iaload, 1, 939), (939, .aload_n 0, 1, 940), (940, .iload 4, 2, 942), (942, .iconst 5, 1, 943), (943, .iadd, 1, 944), (944, .iaload, 1, 945), (945, .aload_n 3, 1, 946), (946, .invokestatic 189, 3, 949), (949, .istore 5, 2, 951), (951, .aload_n 2, 1, 952), (952, .aload_n 0, 1, 953), (953, .iload 4, 2, 955), (955, .iconst 1, 1, 956), (956, .iadd, 1, 957), (957, .iaload, 1, 958), (958, .aload_n 0, 1, 959), (959, .iload 4, 2, 961), (961, .iconst 2, 1, 962), (962, .iadd, 1, 963), (963, .iaload, 1, 964), (964, .aload_n 0, 1, 965), (965, .iload 4, 2, 967), (967, .iconst 3, 1, 968), (968, .iadd, 1, 969), (969, .iaload, 1, 970), (970, .aload_n 0, 1, 971), (971, .iload 4, 2, 973), (973, .iconst 4, 1, 974), (974, .iadd, 1, 975), (975, .iaload, 1, 976), (976, .aload_n 0, 1, 977), (977, .iload 4, 2, 979), (979, .iconst 5, 1, 980), (980, .iadd, 1, 981), (981, .iaload, 1, 982), (982, .invokevirtual 192, 3, 985), (985, .istore 6, 2, 987), (987, .aload_n 2, 1, 988), (988, .invokevirtual 144, 3, 991), (991, .iload 5, 2, 993), (993, .if_icmp .eq 5, 3, 996), (996, .iconst 0, 1, 997), (997, .ireturn, 1, 998), (998, .iload 5, 2, 1000), (1000, .ifCond .ne 15, 3, 1003), (1003, .aload_n 3, 1, 1004), (1004, .iconst 0, 1, 1005), (1005, .laload, 1, 1006), (1006, .iload 6, 2, 1008), (1008, .i2l, 1, 1009), (1009, .lcmp, 1, 1010), (1010, .ifCond .eq 5, 3, 1013), (1013, .iconst 0, 1, 1014), (1014, .ireturn, 1, 1015), (1015, .goto 1892, 3, 1018)]
set_option maxRecDepth 20000 in
theorem Q_E_find : zT M_E T_E_find := zT_of (by decide +kernel)
theorem e_find {S : zS} {V : qV} {J : qJ} {n i : Int} {kc ks : Nat} (hB : qB S V) (hR : Rel n V J) (hi : 0 ≤ i ∧ i + 5 < V 1000005 0) (h1 : 67 ≤ kc) (h2 : 402 ≤ ks) (kk : ∀ S' V' J', qB S' V' → Rel (n + 1) V' J' → scV V V' → Z M_E 200 (kc - 67) (ks - 402) 2907 (LE i none none none) [] S' (qi V') (qj J') QE) : Z M_E 200 kc ks 914 (LE i none none none) [] S (qi V) (qj J) QE := by
  refine z_aload_n Q_E_find (k := 0) rfl rfl ?_
  refine q_arg (i := i) (j := 1) hB Q_E_find (k := 1) rfl rfl rfl rfl rfl rfl rfl (by omega) rfl ?_
  refine q_arg (i := i) (j := 2) hB Q_E_find (k := 6) rfl rfl rfl rfl rfl rfl rfl (by omega) rfl ?_
  refine q_arg (i := i) (j := 3) hB Q_E_find (k := 11) rfl rfl rfl rfl rfl rfl rfl (by omega) rfl ?_
  refine q_arg (i := i) (j := 4) hB Q_E_find (k := 16) rfl rfl rfl rfl rfl rfl rfl (by omega) rfl ?_
  refine q_arg (i := i) (j := 5) hB Q_E_find (k := 21) rfl rfl rfl rfl rfl rfl rfl (by omega) rfl ?_
  refine z_aload_n Q_E_find (k := 26) rfl rfl ?_
  refine z_callSH (as := [.ref 0, .int (iI (V 1000004 (i + 1))), .int (iI (V 1000004 (i + 2))), .int (iI (V 1000004 (i + 3))), .int (iI (V 1000004 (i + 4))), .int (iI (V 1000004 (i + 5))), .ref 624]) Q_E_find (k := 27) rfl rfl K_L_find L_L_189 rfl rfl (Nat.le_of_ble_eq_true rfl) rfl (by decide) (show 5 ≤ kc by omega) (show 30 ≤ ks by omega) (Or.inr (zRbE hB.1.1)) (Z.scr (w_L_find (Q := fun c V1 J1 => (c = 0 ∧ ∃ (r : Int) (J0 : qJ), zr r ∧ J1 = qu J0 624 0 (iI r).toInt64 ∧ W_X11_find (V 1000004 (i + 1)) (V 1000004 (i + 2)) (V 1000004 (i + 3)) (V 1000004 (i + 4)) (V 1000004 (i + 5)) V1 (fun s V2 => V2 602 0 = 0 ∧ r = s ∧ Rel (n + 1) V2 J0)) ∨ (c ≠ 0 ∧ W_X11_find (V 1000004 (i + 1)) (V 1000004 (i + 2)) (V 1000004 (i + 3)) (V 1000004 (i + 4)) (V 1000004 (i + 5)) V1 (fun s V2 => V2 602 0 = c ∧ Rel (n + 1) V2 J1))) 197 hB (hB.2.1 _ _) (hB.2.1 _ _) (hB.2.1 _ _) (hB.2.1 _ _) (hB.2.1 _ _) (t_find (P := (fun V2 => Rel (n + 1) V2 J)) hR (fun _ h => h)) (fun r V1 hz hw => Or.inl ⟨rfl, r, J, hz, rfl, hw⟩) (fun E V1 h => ⟨h.1, Or.inr ⟨by decide, h.2⟩⟩))) (fun E S' I' J' hq => by obtain ⟨⟨_, _, _, e, _⟩, _⟩ := hq; cases e) (fun v S' I' J' hq => ?_)
  obtain ⟨⟨c, V1, J1, e, hn1, hI, hJ, hB1, hzc, hq⟩, hsc⟩ := hq
  cases e; subst hI; subst hJ
  have sc := scV.of hB hB1 hsc
  have sl := sc.1
  refine y_istore (L' := LE i (some (.int (iI c))) none none) Q_E_find (k := 28) rfl (by decide) rfl ?_
  refine z_aload_n Q_E_find (k := 29) rfl rfl ?_
  refine q_arg (i := i) (j := 1) hB1 Q_E_find (k := 30) rfl rfl rfl rfl rfl rfl rfl (by omega) (sc.2 _ (by omega)) ?_
  refine q_arg (i := i) (j := 2) hB1 Q_E_find (k := 35) rfl rfl rfl rfl rfl rfl rfl (by omega) (sc.2 _ (by omega)) ?_
  refine q_arg (i := i) (j := 3) hB1 Q_E_find (k := 40) rfl rfl rfl rfl rfl rfl rfl (by omega) (sc.2 _ (by omega)) ?_
  refine q_arg (i := i) (j := 4) hB1 Q_E_find (k := 45) rfl rfl rfl rfl rfl rfl rfl (by omega) (sc.2 _ (by omega)) ?_
  refine q_arg (i := i) (j := 5) hB1 Q_E_find (k := 50) rfl rfl rfl rfl rfl rfl rfl (by omega) (sc.2 _ (by omega)) ?_
  rcases hq with ⟨rfl, r, J0, hzr, rfl, hw⟩ | ⟨c0, hw⟩
  · refine z_callV (o := 602) (as := [.int (iI (V 1000004 (i + 1))), .int (iI (V 1000004 (i + 2))), .int (iI (V 1000004 (i + 3))), .int (iI (V 1000004 (i + 4))), .int (iI (V 1000004 (i + 5)))]) Q_E_find (k := 55) rfl rfl K_X11_find V_X11_find L_L_192 (n_ hB1.1 rfl) (k_602 hB1.1) rfl rfl (Nat.le_of_ble_eq_true rfl) rfl (by decide) (Nat.zero_le _) (Nat.zero_le _) (Or.inl (fun o S' I' J' hq => by obtain ⟨_, _, _, e, _⟩ := hq; rw [e])) (w_X11_find 197 hB1 (hB.2.1 _ _) (hB.2.1 _ _) (hB.2.1 _ _) (hB.2.1 _ _) (hB.2.1 _ _) hw) (fun E S' I' J' hq => by obtain ⟨_, _, e, _⟩ := hq; cases e) (fun v S' I' J' hq => ?_)
    obtain ⟨s, V2, e, hS, hI, hJ, hB2, hzs, hq⟩ := hq
    cases e; subst hS; subst hI; subst hJ
    have sc2 := scV.of hB1 hB2 ⟨rfl, fun _ => rfl⟩
    refine y_istore (L' := LE i (some (.int (iI 0))) (some (.int (iI s))) none) Q_E_find (k := 56) rfl (by decide) rfl ?_
    refine z_aload_n Q_E_find (k := 57) rfl rfl ?_
    refine q_callV0_i Q_E_find (k := 58) rfl rfl K_X11_thrown V_X11_thrown L_L_144 (n_ hB2.1 rfl) (k_602 hB2.1) (Nat.le_of_ble_eq_true rfl) (Nat.le_of_ble_eq_true rfl) rfl (Nat.zero_le _) (Nat.zero_le _) (w_X11_thrown 199 hB2 (Q := fun r => r = V2 602 0) rfl) (fun t hzt ht => ?_)
    refine z_iload Q_E_find (k := 59) rfl rfl ?_
    refine y_icmp_eq 998 Q_E_find (k := 60) rfl (by decide) hzt ⟨by decide, by decide⟩ (fun _ => ?_) (fun h => absurd (ht.trans hq.1) h)
    refine z_iload Q_E_find (k := 63) rfl rfl ?_
    refine y_if_ne 1015 Q_E_find (k := 64) rfl (by decide) ⟨by decide, by decide⟩ (fun h => absurd rfl h) (fun _ => ?_)
    refine z_aload_n Q_E_find (k := 65) rfl rfl ?_
    refine y_iconst Q_E_find (k := 66) rfl ?_
    refine q_lald (z := 0) (N := 1) (o := 624) Q_E_find (k := 67) rfl rfl (n_ hB2.1 rfl) (k_624 hB2.1) rfl ⟨by decide, by decide⟩ (by decide) ?_
    refine z_iload Q_E_find (k := 68) rfl rfl ?_
    refine z_i2l Q_E_find (k := 69) rfl ?_
    refine y_lcmp Q_E_find (k := 70) rfl ?_
    refine y_if_eq 1015 Q_E_find (k := 71) rfl (by decide) (zlc_r _ _) (fun _ => ?_) (fun h => absurd (zlc_0.mpr (by rw [qu_s, hq.2.1])) h)
    exact z_goto Q_E_find (k := 74) (tgt := 2907) rfl (by decide) (((kk _ V2 _ hB2 (hq.2.2.out _) (sc.tr sc2)).wid (by omega) (by omega)).sub LE_f)
  · refine z_callV (o := 602) (as := [.int (iI (V 1000004 (i + 1))), .int (iI (V 1000004 (i + 2))), .int (iI (V 1000004 (i + 3))), .int (iI (V 1000004 (i + 4))), .int (iI (V 1000004 (i + 5)))]) Q_E_find (k := 55) rfl rfl K_X11_find V_X11_find L_L_192 (n_ hB1.1 rfl) (k_602 hB1.1) rfl rfl (Nat.le_of_ble_eq_true rfl) rfl (by decide) (Nat.zero_le _) (Nat.zero_le _) (Or.inl (fun o S' I' J' hq => by obtain ⟨_, _, _, e, _⟩ := hq; rw [e])) (w_X11_find 197 hB1 (hB.2.1 _ _) (hB.2.1 _ _) (hB.2.1 _ _) (hB.2.1 _ _) (hB.2.1 _ _) hw) (fun E S' I' J' hq => by obtain ⟨_, _, e, _⟩ := hq; cases e) (fun v S' I' J' hq => ?_)
    obtain ⟨s, V2, e, hS, hI, hJ, hB2, hzs, hq⟩ := hq
    cases e; subst hS; subst hI; subst hJ
    have sc2 := scV.of hB1 hB2 ⟨rfl, fun _ => rfl⟩
    refine y_istore (L' := LE i (some (.int (iI c))) (some (.int (iI s))) none) Q_E_find (k := 56) rfl (by decide) rfl ?_
    refine z_aload_n Q_E_find (k := 57) rfl rfl ?_
    refine q_callV0_i Q_E_find (k := 58) rfl rfl K_X11_thrown V_X11_thrown L_L_144 (n_ hB2.1 rfl) (k_602 hB2.1) (Nat.le_of_ble_eq_true rfl) (Nat.le_of_ble_eq_true rfl) rfl (Nat.zero_le _) (Nat.zero_le _) (w_X11_thrown 199 hB2 (Q := fun r => r = V2 602 0) rfl) (fun t hzt ht => ?_)
    refine z_iload Q_E_find (k := 59) rfl rfl ?_
    refine y_icmp_eq 998 Q_E_find (k := 60) rfl (by decide) hzt hzc (fun _ => ?_) (fun h => absurd (ht.trans hq.1) h)
    refine z_iload Q_E_find (k := 63) rfl rfl ?_
    refine y_if_ne 1015 Q_E_find (k := 64) rfl (by decide) hzc (fun _ => ?_) (fun h => absurd h c0)
    exact z_goto Q_E_find (k := 74) (tgt := 2907) rfl (by decide) (((kk _ V2 J1 hB2 hq.2 (sc.tr sc2)).wid (by omega) (by omega)).sub LE_f)
def T_E_name : zTb := [(1018, .aload_n 1, 1, 1019), (1019, .aload_n 0, 1, 1020), (1020, .iload 4, 2, 1022), (1022, .iconst 1, 1, 1023), (1023, .iadd, 1, 1024), (1024, .iaload, 1, 1025), (1025, .aload_n 0, 1, 1026), (1026, .iload 4, 2, 1028), (1028, .iconst 2, 1, 1029), (1029, .iadd, 1, 1030), (1030, .iaload, 1, 1031), (1031, .aload_n 3, 1, 1032), (1032, .invokestatic 193, 3, 1035), (1035, .istore 5, 2, 1037), (1037, .aload_n 2, 1, 1038), (1038, .aload_n 0, 1, 1039), (1039, .iload 4, 2, 1041), (1041, .iconst 1, 1, 1042), (1042, .iadd, 1, 1043), (1043, .iaload, 1, 1044), (1044, .aload_n 0, 1, 1045), (1045, .iload 4, 2, 1047), (1047, .iconst 2, 1, 1048), (1048, .iadd, 1, 1049), (1049, .iaload, 1, 1050), (1050, .invokevirtual 195, 3, 1053), (1053, .istore 6, 2, 1055), (1055, .aload_n 2, 1, 1056), (1056, .invokevirtual 144, 3, 1059), (1059, .iload 5, 2, 1061), (1061, .if_icmp .eq 5, 3, 1064), (1064, .iconst 0, 1, 1065), (1065, .ireturn, 1, 1066), (1066, .iload 5, 2, 1068), (1068, .ifCond .ne 15, 3, 1071), (1071, .aload_n 3, 1, 1072), (1072, .iconst 0, 1, 1073), (1073, .laload, 1, 1074), (1074, .iload 6, 2, 1076), (1076, .i2l, 1, 1077), (1077, .lcmp, 1, 1078), (1078, .ifCond .eq 5, 3, 1081), (1081, .iconst 0, 1, 1082), (1082, .ireturn, 1, 1083), (1083, .goto 1824, 3, 1086)]
set_option maxRecDepth 20000 in
theorem Q_E_name : zT M_E T_E_name := zT_of (by decide +kernel)
theorem e_name {S : zS} {V : qV} {J : qJ} {n i : Int} {kc ks : Nat} (hB : qB S V) (hR : Rel n V J) (hi : 0 ≤ i ∧ i + 5 < V 1000005 0) (h1 : 67 ≤ kc) (h2 : 402 ≤ ks) (kk : ∀ S' V' J', qB S' V' → Rel (n + 1) V' J' → scV V V' → Z M_E 200 (kc - 67) (ks - 402) 2907 (LE i none none none) [] S' (qi V') (qj J') QE) : Z M_E 200 kc ks 1018 (LE i none none none) [] S (qi V) (qj J) QE := by
  refine z_aload_n Q_E_name (k := 0) rfl rfl ?_
  refine q_arg (i := i) (j := 1) hB Q_E_name (k := 1) rfl rfl rfl rfl rfl rfl rfl (by omega) rfl ?_
  refine q_arg (i := i) (j := 2) hB Q_E_name (k := 6) rfl rfl rfl rfl rfl rfl rfl (by omega) rfl ?_
  refine z_aload_n Q_E_name (k := 11) rfl rfl ?_
  refine z_callSH (as := [.ref 0, .int (iI (V 1000004 (i + 1))), .int (iI (V 1000004 (i + 2))), .ref 624]) Q_E_name (k := 12) rfl rfl K_L_name L_L_193 rfl rfl (Nat.le_of_ble_eq_true rfl) rfl (by decide) (show 2 ≤ kc by omega) (show 12 ≤ ks by omega) (Or.inr (zRbE hB.1.1)) (Z.scr (w_L_name (Q := fun c V1 J1 => (c = 0 ∧ ∃ (r : Int) (J0 : qJ), zr r ∧ J1 = qu J0 624 0 (iI r).toInt64 ∧ W_X11_name (V 1000004 (i + 1)) (V 1000004 (i + 2)) V1 (fun s V2 => V2 602 0 = 0 ∧ r = s ∧ Rel (n + 1) V2 J0)) ∨ (c ≠ 0 ∧ W_X11_name (V 1000004 (i + 1)) (V 1000004 (i + 2)) V1 (fun s V2 => V2 602 0 = c ∧ Rel (n + 1) V2 J1))) 195 hB (hB.2.1 _ _) (hB.2.1 _ _) (t_name (P := (fun V2 => Rel (n + 1) V2 J)) hR (fun _ h => h)) (fun r hz hw => Or.inl ⟨rfl, r, J, hz, rfl, hw⟩) (fun E h => by
    rcases h with ⟨e, w⟩ | ⟨e, w⟩
    · exact Or.inl ⟨e, Or.inr ⟨by decide, w⟩⟩
    · exact Or.inr ⟨e, Or.inr ⟨by decide, w⟩⟩))) (fun E S' I' J' hq => by obtain ⟨⟨_, _, _, e, _⟩, _⟩ := hq; cases e) (fun v S' I' J' hq => ?_)
  obtain ⟨⟨c, V1, J1, e, hn1, hI, hJ, hB1, hzc, hq⟩, hsc⟩ := hq
  cases e; subst hI; subst hJ
  have sc := scV.of hB hB1 hsc
  have sl := sc.1
  refine y_istore (L' := LE i (some (.int (iI c))) none none) Q_E_name (k := 13) rfl (by decide) rfl ?_
  refine z_aload_n Q_E_name (k := 14) rfl rfl ?_
  refine q_arg (i := i) (j := 1) hB1 Q_E_name (k := 15) rfl rfl rfl rfl rfl rfl rfl (by omega) (sc.2 _ (by omega)) ?_
  refine q_arg (i := i) (j := 2) hB1 Q_E_name (k := 20) rfl rfl rfl rfl rfl rfl rfl (by omega) (sc.2 _ (by omega)) ?_
  rcases hq with ⟨rfl, r, J0, hzr, rfl, hw⟩ | ⟨c0, hw⟩
  · refine z_callV (o := 602) (as := [.int (iI (V 1000004 (i + 1))), .int (iI (V 1000004 (i + 2)))]) Q_E_name (k := 25) rfl rfl K_X11_name V_X11_name L_L_195 (n_ hB1.1 rfl) (k_602 hB1.1) rfl rfl (Nat.le_of_ble_eq_true rfl) rfl (by decide) (Nat.zero_le _) (Nat.zero_le _) (Or.inl (fun o S' I' J' hq => by obtain ⟨_, _, _, e, _⟩ := hq; rw [e])) (w_X11_name 197 hB1 (hB.2.1 _ _) (hB.2.1 _ _) hw) (fun E S' I' J' hq => by obtain ⟨_, _, e, _⟩ := hq; cases e) (fun v S' I' J' hq => ?_)
    obtain ⟨s, V2, e, hS, hI, hJ, hB2, hzs, hq⟩ := hq
    cases e; subst hS; subst hI; subst hJ
    have sc2 := scV.of hB1 hB2 ⟨rfl, fun _ => rfl⟩
    refine y_istore (L' := LE i (some (.int (iI 0))) (some (.int (iI s))) none) Q_E_name (k := 26) rfl (by decide) rfl ?_
    refine z_aload_n Q_E_name (k := 27) rfl rfl ?_
    refine q_callV0_i Q_E_name (k := 28) rfl rfl K_X11_thrown V_X11_thrown L_L_144 (n_ hB2.1 rfl) (k_602 hB2.1) (Nat.le_of_ble_eq_true rfl) (Nat.le_of_ble_eq_true rfl) rfl (Nat.zero_le _) (Nat.zero_le _) (w_X11_thrown 199 hB2 (Q := fun r => r = V2 602 0) rfl) (fun t hzt ht => ?_)
    refine z_iload Q_E_name (k := 29) rfl rfl ?_
    refine y_icmp_eq 1066 Q_E_name (k := 30) rfl (by decide) hzt ⟨by decide, by decide⟩ (fun _ => ?_) (fun h => absurd (ht.trans hq.1) h)
    refine z_iload Q_E_name (k := 33) rfl rfl ?_
    refine y_if_ne 1083 Q_E_name (k := 34) rfl (by decide) ⟨by decide, by decide⟩ (fun h => absurd rfl h) (fun _ => ?_)
    refine z_aload_n Q_E_name (k := 35) rfl rfl ?_
    refine y_iconst Q_E_name (k := 36) rfl ?_
    refine q_lald (z := 0) (N := 1) (o := 624) Q_E_name (k := 37) rfl rfl (n_ hB2.1 rfl) (k_624 hB2.1) rfl ⟨by decide, by decide⟩ (by decide) ?_
    refine z_iload Q_E_name (k := 38) rfl rfl ?_
    refine z_i2l Q_E_name (k := 39) rfl ?_
    refine y_lcmp Q_E_name (k := 40) rfl ?_
    refine y_if_eq 1083 Q_E_name (k := 41) rfl (by decide) (zlc_r _ _) (fun _ => ?_) (fun h => absurd (zlc_0.mpr (by rw [qu_s, hq.2.1])) h)
    exact z_goto Q_E_name (k := 44) (tgt := 2907) rfl (by decide) (((kk _ V2 _ hB2 (hq.2.2.out _) (sc.tr sc2)).wid (by omega) (by omega)).sub LE_f)
  · refine z_callV (o := 602) (as := [.int (iI (V 1000004 (i + 1))), .int (iI (V 1000004 (i + 2)))]) Q_E_name (k := 25) rfl rfl K_X11_name V_X11_name L_L_195 (n_ hB1.1 rfl) (k_602 hB1.1) rfl rfl (Nat.le_of_ble_eq_true rfl) rfl (by decide) (Nat.zero_le _) (Nat.zero_le _) (Or.inl (fun o S' I' J' hq => by obtain ⟨_, _, _, e, _⟩ := hq; rw [e])) (w_X11_name 197 hB1 (hB.2.1 _ _) (hB.2.1 _ _) hw) (fun E S' I' J' hq => by obtain ⟨_, _, e, _⟩ := hq; cases e) (fun v S' I' J' hq => ?_)
    obtain ⟨s, V2, e, hS, hI, hJ, hB2, hzs, hq⟩ := hq
    cases e; subst hS; subst hI; subst hJ
    have sc2 := scV.of hB1 hB2 ⟨rfl, fun _ => rfl⟩
    refine y_istore (L' := LE i (some (.int (iI c))) (some (.int (iI s))) none) Q_E_name (k := 26) rfl (by decide) rfl ?_
    refine z_aload_n Q_E_name (k := 27) rfl rfl ?_
    refine q_callV0_i Q_E_name (k := 28) rfl rfl K_X11_thrown V_X11_thrown L_L_144 (n_ hB2.1 rfl) (k_602 hB2.1) (Nat.le_of_ble_eq_true rfl) (Nat.le_of_ble_eq_true rfl) rfl (Nat.zero_le _) (Nat.zero_le _) (w_X11_thrown 199 hB2 (Q := fun r => r = V2 602 0) rfl) (fun t hzt ht => ?_)
    refine z_iload Q_E_name (k := 29) rfl rfl ?_
    refine y_icmp_eq 1066 Q_E_name (k := 30) rfl (by decide) hzt hzc (fun _ => ?_) (fun h => absurd (ht.trans hq.1) h)
    refine z_iload Q_E_name (k := 33) rfl rfl ?_
    refine y_if_ne 1083 Q_E_name (k := 34) rfl (by decide) hzc (fun _ => ?_) (fun h => absurd h c0)
    exact z_goto Q_E_name (k := 44) (tgt := 2907) rfl (by decide) (((kk _ V2 J1 hB2 hq.2 (sc.tr sc2)).wid (by omega) (by omega)).sub LE_f)
def T_E_hold : zTb := [(1086, .aload_n 1, 1, 1087), (1087, .aload_n 0, 1, 1088), (1088, .iload 4, 2, 1090), (1090, .iconst 1, 1, 1091), (1091, .iadd, 1, 1092), (1092, .iaload, 1, 1093), (1093, .aload_n 0, 1, 1094), (1094, .iload 4, 2, 1096), (1096, .iconst 2, 1, 1097), (1097, .iadd, 1, 1098), (1098, .iaload, 1, 1099), (1099, .aload_n 0, 1, 1100), (1100, .iload 4, 2, 1102), (1102, .iconst 3, 1, 1103), (1103, .iadd, 1, 1104), (1104, .iaload, 1, 1105), (1105, .aload_n 0, 1, 1106), (1106, .iload 4, 2, 1108), (1108, .iconst 4, 1, 1109), (1109, .iadd, 1, 1110), (1110, .iaload, 1, 1111), (1111, .aload_n 3, 1, 1112), (1112, .invokestatic 196, 3, 1115), (1115, .istore 5, 2, 1117), (1117, .aload_n 2, 1, 1118), (1118, .aload_n 0, 1, 1119), (1119, .iload 4, 2, 1121), (1121, .iconst 1, 1, 1122), (1122, .iadd, 1, 1123), (1123, .iaload, 1, 1124), (1124, .aload_n 0, 1, 1125), (1125, .iload 4, 2, 1127), (1127, .iconst 2, 1, 1128), (1128, .iadd, 1, 1129), (1129, .iaload, 1, 1130), (1130, .aload_n 0, 1, 1131), (1131, .iload 4, 2, 1133), (1133, .iconst 3, 1, 1134), (1134, .iadd, 1, 1135), (1135, .iaload, 1, 1136), (1136, .aload_n 0, 1, 1137), (1137, .iload 4, 2, 1139), (1139, .iconst 4, 1, 1140), (1140, .iadd, 1, 1141), (1141, .iaload, 1, 1142), (1142, .invokevirtual 199, 3, 1145), (1145, .istore 6, 2, 1147), (1147, .aload_n 2, 1, 1148), (1148, .invokevirtual 144, 3, 1151), (1151, .iload 5, 2, 1153), (1153, .if_icmp .eq 5, 3, 1156), (1156, .iconst 0, 1, 1157), (1157, .ireturn, 1, 1158), (1158, .iload 5, 2, 1160), (1160, .ifCond .ne 15, 3, 1163), (1163, .aload_n 3, 1, 1164), (1164, .iconst 0, 1, 1165), (1165, .laload, 1, 1166), (1166, .iload 6, 2, 1168), (1168, .i2l, 1, 1169), (1169, .lcmp, 1, 1170), (1170, .ifCond .eq 5, 3, 1173), (1173, .iconst 0, 1, 1174), (1174, .ireturn, 1, 1175), (1175, .goto 1732, 3, 1178)]
set_option maxRecDepth 20000 in
theorem Q_E_hold : zT M_E T_E_hold := zT_of (by decide +kernel)
theorem e_hold {S : zS} {V : qV} {J : qJ} {n i : Int} {kc ks : Nat} (hB : qB S V) (hR : Rel n V J) (hi : 0 ≤ i ∧ i + 5 < V 1000005 0) (h1 : 67 ≤ kc) (h2 : 402 ≤ ks) (kk : ∀ S' V' J', qB S' V' → Rel (n + 1) V' J' → scV V V' → Z M_E 200 (kc - 67) (ks - 402) 2907 (LE i none none none) [] S' (qi V') (qj J') QE) : Z M_E 200 kc ks 1086 (LE i none none none) [] S (qi V) (qj J) QE := by
  refine z_aload_n Q_E_hold (k := 0) rfl rfl ?_
  refine q_arg (i := i) (j := 1) hB Q_E_hold (k := 1) rfl rfl rfl rfl rfl rfl rfl (by omega) rfl ?_
  refine q_arg (i := i) (j := 2) hB Q_E_hold (k := 6) rfl rfl rfl rfl rfl rfl rfl (by omega) rfl ?_
  refine q_arg (i := i) (j := 3) hB Q_E_hold (k := 11) rfl rfl rfl rfl rfl rfl rfl (by omega) rfl ?_
  refine q_arg (i := i) (j := 4) hB Q_E_hold (k := 16) rfl rfl rfl rfl rfl rfl rfl (by omega) rfl ?_
  refine z_aload_n Q_E_hold (k := 21) rfl rfl ?_
  refine z_callSH (as := [.ref 0, .int (iI (V 1000004 (i + 1))), .int (iI (V 1000004 (i + 2))), .int (iI (V 1000004 (i + 3))), .int (iI (V 1000004 (i + 4))), .ref 624]) Q_E_hold (k := 22) rfl rfl K_L_hold L_L_196 rfl rfl (Nat.le_of_ble_eq_true rfl) rfl (by decide) (show 4 ≤ kc by omega) (show 24 ≤ ks by omega) (Or.inr (zRbE hB.1.1)) (Z.scr (w_L_hold (Q := fun c V1 J1 => (c = 0 ∧ ∃ (r : Int) (J0 : qJ), zr r ∧ J1 = qu J0 624 0 (iI r).toInt64 ∧ W_X11_hold (V 1000004 (i + 1)) (V 1000004 (i + 2)) (V 1000004 (i + 3)) (V 1000004 (i + 4)) V1 (fun s V2 => V2 602 0 = 0 ∧ r = s ∧ Rel (n + 1) V2 J0)) ∨ (c ≠ 0 ∧ W_X11_hold (V 1000004 (i + 1)) (V 1000004 (i + 2)) (V 1000004 (i + 3)) (V 1000004 (i + 4)) V1 (fun s V2 => V2 602 0 = c ∧ Rel (n + 1) V2 J1))) 197 hB (hB.2.1 _ _) (hB.2.1 _ _) (hB.2.1 _ _) (hB.2.1 _ _) (t_hold (P := (fun V2 => Rel (n + 1) V2 J)) hR (fun _ h => h)) (fun r V1 hz hw => Or.inl ⟨rfl, r, J, hz, rfl, hw⟩) (fun E V1 h => by
    rcases h with ⟨e, w⟩ | ⟨e, w⟩ | ⟨e, w⟩
    · exact Or.inl ⟨e, Or.inr ⟨by decide, w⟩⟩
    · exact Or.inr (Or.inl ⟨e, Or.inr ⟨by decide, w⟩⟩)
    · exact Or.inr (Or.inr ⟨e, Or.inr ⟨by decide, w⟩⟩)))) (fun E S' I' J' hq => by obtain ⟨⟨_, _, _, e, _⟩, _⟩ := hq; cases e) (fun v S' I' J' hq => ?_)
  obtain ⟨⟨c, V1, J1, e, hn1, hI, hJ, hB1, hzc, hq⟩, hsc⟩ := hq
  cases e; subst hI; subst hJ
  have sc := scV.of hB hB1 hsc
  have sl := sc.1
  refine y_istore (L' := LE i (some (.int (iI c))) none none) Q_E_hold (k := 23) rfl (by decide) rfl ?_
  refine z_aload_n Q_E_hold (k := 24) rfl rfl ?_
  refine q_arg (i := i) (j := 1) hB1 Q_E_hold (k := 25) rfl rfl rfl rfl rfl rfl rfl (by omega) (sc.2 _ (by omega)) ?_
  refine q_arg (i := i) (j := 2) hB1 Q_E_hold (k := 30) rfl rfl rfl rfl rfl rfl rfl (by omega) (sc.2 _ (by omega)) ?_
  refine q_arg (i := i) (j := 3) hB1 Q_E_hold (k := 35) rfl rfl rfl rfl rfl rfl rfl (by omega) (sc.2 _ (by omega)) ?_
  refine q_arg (i := i) (j := 4) hB1 Q_E_hold (k := 40) rfl rfl rfl rfl rfl rfl rfl (by omega) (sc.2 _ (by omega)) ?_
  rcases hq with ⟨rfl, r, J0, hzr, rfl, hw⟩ | ⟨c0, hw⟩
  · refine z_callV (o := 602) (as := [.int (iI (V 1000004 (i + 1))), .int (iI (V 1000004 (i + 2))), .int (iI (V 1000004 (i + 3))), .int (iI (V 1000004 (i + 4)))]) Q_E_hold (k := 45) rfl rfl K_X11_hold V_X11_hold L_L_199 (n_ hB1.1 rfl) (k_602 hB1.1) rfl rfl (Nat.le_of_ble_eq_true rfl) rfl (by decide) (Nat.zero_le _) (Nat.zero_le _) (Or.inl (fun o S' I' J' hq => by obtain ⟨_, _, _, e, _⟩ := hq; rw [e])) (w_X11_hold 197 hB1 (hB.2.1 _ _) (hB.2.1 _ _) (hB.2.1 _ _) (hB.2.1 _ _) hw) (fun E S' I' J' hq => by obtain ⟨_, _, e, _⟩ := hq; cases e) (fun v S' I' J' hq => ?_)
    obtain ⟨s, V2, e, hS, hI, hJ, hB2, hzs, hq⟩ := hq
    cases e; subst hS; subst hI; subst hJ
    have sc2 := scV.of hB1 hB2 ⟨rfl, fun _ => rfl⟩
    refine y_istore (L' := LE i (some (.int (iI 0))) (some (.int (iI s))) none) Q_E_hold (k := 46) rfl (by decide) rfl ?_
    refine z_aload_n Q_E_hold (k := 47) rfl rfl ?_
    refine q_callV0_i Q_E_hold (k := 48) rfl rfl K_X11_thrown V_X11_thrown L_L_144 (n_ hB2.1 rfl) (k_602 hB2.1) (Nat.le_of_ble_eq_true rfl) (Nat.le_of_ble_eq_true rfl) rfl (Nat.zero_le _) (Nat.zero_le _) (w_X11_thrown 199 hB2 (Q := fun r => r = V2 602 0) rfl) (fun t hzt ht => ?_)
    refine z_iload Q_E_hold (k := 49) rfl rfl ?_
    refine y_icmp_eq 1158 Q_E_hold (k := 50) rfl (by decide) hzt ⟨by decide, by decide⟩ (fun _ => ?_) (fun h => absurd (ht.trans hq.1) h)
    refine z_iload Q_E_hold (k := 53) rfl rfl ?_
    refine y_if_ne 1175 Q_E_hold (k := 54) rfl (by decide) ⟨by decide, by decide⟩ (fun h => absurd rfl h) (fun _ => ?_)
    refine z_aload_n Q_E_hold (k := 55) rfl rfl ?_
    refine y_iconst Q_E_hold (k := 56) rfl ?_
    refine q_lald (z := 0) (N := 1) (o := 624) Q_E_hold (k := 57) rfl rfl (n_ hB2.1 rfl) (k_624 hB2.1) rfl ⟨by decide, by decide⟩ (by decide) ?_
    refine z_iload Q_E_hold (k := 58) rfl rfl ?_
    refine z_i2l Q_E_hold (k := 59) rfl ?_
    refine y_lcmp Q_E_hold (k := 60) rfl ?_
    refine y_if_eq 1175 Q_E_hold (k := 61) rfl (by decide) (zlc_r _ _) (fun _ => ?_) (fun h => absurd (zlc_0.mpr (by rw [qu_s, hq.2.1])) h)
    exact z_goto Q_E_hold (k := 64) (tgt := 2907) rfl (by decide) (((kk _ V2 _ hB2 (hq.2.2.out _) (sc.tr sc2)).wid (by omega) (by omega)).sub LE_f)
  · refine z_callV (o := 602) (as := [.int (iI (V 1000004 (i + 1))), .int (iI (V 1000004 (i + 2))), .int (iI (V 1000004 (i + 3))), .int (iI (V 1000004 (i + 4)))]) Q_E_hold (k := 45) rfl rfl K_X11_hold V_X11_hold L_L_199 (n_ hB1.1 rfl) (k_602 hB1.1) rfl rfl (Nat.le_of_ble_eq_true rfl) rfl (by decide) (Nat.zero_le _) (Nat.zero_le _) (Or.inl (fun o S' I' J' hq => by obtain ⟨_, _, _, e, _⟩ := hq; rw [e])) (w_X11_hold 197 hB1 (hB.2.1 _ _) (hB.2.1 _ _) (hB.2.1 _ _) (hB.2.1 _ _) hw) (fun E S' I' J' hq => by obtain ⟨_, _, e, _⟩ := hq; cases e) (fun v S' I' J' hq => ?_)
    obtain ⟨s, V2, e, hS, hI, hJ, hB2, hzs, hq⟩ := hq
    cases e; subst hS; subst hI; subst hJ
    have sc2 := scV.of hB1 hB2 ⟨rfl, fun _ => rfl⟩
    refine y_istore (L' := LE i (some (.int (iI c))) (some (.int (iI s))) none) Q_E_hold (k := 46) rfl (by decide) rfl ?_
    refine z_aload_n Q_E_hold (k := 47) rfl rfl ?_
    refine q_callV0_i Q_E_hold (k := 48) rfl rfl K_X11_thrown V_X11_thrown L_L_144 (n_ hB2.1 rfl) (k_602 hB2.1) (Nat.le_of_ble_eq_true rfl) (Nat.le_of_ble_eq_true rfl) rfl (Nat.zero_le _) (Nat.zero_le _) (w_X11_thrown 199 hB2 (Q := fun r => r = V2 602 0) rfl) (fun t hzt ht => ?_)
    refine z_iload Q_E_hold (k := 49) rfl rfl ?_
    refine y_icmp_eq 1158 Q_E_hold (k := 50) rfl (by decide) hzt hzc (fun _ => ?_) (fun h => absurd (ht.trans hq.1) h)
    refine z_iload Q_E_hold (k := 53) rfl rfl ?_
    refine y_if_ne 1175 Q_E_hold (k := 54) rfl (by decide) hzc (fun _ => ?_) (fun h => absurd h c0)
    exact z_goto Q_E_hold (k := 64) (tgt := 2907) rfl (by decide) (((kk _ V2 J1 hB2 hq.2 (sc.tr sc2)).wid (by omega) (by omega)).sub LE_f)
def T_E_finders : zTb := [(1178, .aload_n 1, 1, 1179), (1179, .aload_n 0, 1, 1180), (1180, .iload 4, 2, 1182), (1182, .iconst 1, 1, 1183), (1183, .iadd, 1, 1184), (1184, .iaload, 1, 1185), (1185, .aload_n 3, 1, 1186), (1186, .invokestatic 200, 3, 1189), (1189, .istore 5, 2, 1191), (1191, .aload_n 2, 1, 1192), (1192, .aload_n 0, 1, 1193), (1193, .iload 4, 2, 1195), (1195, .iconst 1, 1, 1196), (1196, .iadd, 1, 1197), (1197, .iaload, 1, 1198), (1198, .invokevirtual 202, 3, 1201), (1201, .istore 6, 2, 1203), (1203, .aload_n 2, 1, 1204), (1204, .invokevirtual 144, 3, 1207), (1207, .iload 5, 2, 1209), (1209, .if_icmp .eq 5, 3, 1212), (1212, .iconst 0, 1, 1213), (1213, .ireturn, 1, 1214), (1214, .iload 5, 2, 1216), (1216, .ifCond .ne 15, 3, 1219), (1219, .aload_n 3, 1, 1220), (1220, .iconst 0, 1, 1221), (1221, .laload, 1, 1222), (1222, .iload 6, 2, 1224), (1224, .i2l, 1, 1225), (1225, .lcmp, 1, 1226), (1226, .ifCond .eq 5, 3, 1229), (1229, .iconst 0, 1, 1230), (1230, .ireturn, 1, 1231), (1231, .goto 1676, 3, 1234)]
set_option maxRecDepth 20000 in
theorem Q_E_finders : zT M_E T_E_finders := zT_of (by decide +kernel)
theorem e_finders {S : zS} {V : qV} {J : qJ} {n i : Int} {kc ks : Nat} (hB : qB S V) (hR : Rel n V J) (hi : 0 ≤ i ∧ i + 5 < V 1000005 0) (h1 : 67 ≤ kc) (h2 : 402 ≤ ks) (kk : ∀ S' V' J', qB S' V' → Rel (n + 1) V' J' → scV V V' → Z M_E 200 (kc - 67) (ks - 402) 2907 (LE i none none none) [] S' (qi V') (qj J') QE) : Z M_E 200 kc ks 1178 (LE i none none none) [] S (qi V) (qj J) QE := by
  refine z_aload_n Q_E_finders (k := 0) rfl rfl ?_
  refine q_arg (i := i) (j := 1) hB Q_E_finders (k := 1) rfl rfl rfl rfl rfl rfl rfl (by omega) rfl ?_
  refine z_aload_n Q_E_finders (k := 6) rfl rfl ?_
  refine z_callSH (as := [.ref 0, .int (iI (V 1000004 (i + 1))), .ref 624]) Q_E_finders (k := 7) rfl rfl K_L_finders L_L_200 rfl rfl (Nat.le_of_ble_eq_true rfl) rfl (by decide) (show 1 ≤ kc by omega) (show 6 ≤ ks by omega) (Or.inr (zRbE hB.1.1)) (Z.scr (w_L_finders (Q := fun c V1 J1 => (c = 0 ∧ ∃ (r : Int) (J0 : qJ), zr r ∧ J1 = qu J0 624 0 (iI r).toInt64 ∧ W_X11_finders (V 1000004 (i + 1)) V1 (fun s V2 => V2 602 0 = 0 ∧ r = s ∧ Rel (n + 1) V2 J0)) ∨ (c ≠ 0 ∧ W_X11_finders (V 1000004 (i + 1)) V1 (fun s V2 => V2 602 0 = c ∧ Rel (n + 1) V2 J1))) 197 hB (hB.2.1 _ _) (t_finders (P := (fun V2 => Rel (n + 1) V2 J)) hR (fun _ h => h)) (fun r hz hw => Or.inl ⟨rfl, r, J, hz, rfl, hw⟩) (fun E h => ⟨h.1, Or.inr ⟨by decide, h.2⟩⟩))) (fun E S' I' J' hq => by obtain ⟨⟨_, _, _, e, _⟩, _⟩ := hq; cases e) (fun v S' I' J' hq => ?_)
  obtain ⟨⟨c, V1, J1, e, hn1, hI, hJ, hB1, hzc, hq⟩, hsc⟩ := hq
  cases e; subst hI; subst hJ
  have sc := scV.of hB hB1 hsc
  have sl := sc.1
  refine y_istore (L' := LE i (some (.int (iI c))) none none) Q_E_finders (k := 8) rfl (by decide) rfl ?_
  refine z_aload_n Q_E_finders (k := 9) rfl rfl ?_
  refine q_arg (i := i) (j := 1) hB1 Q_E_finders (k := 10) rfl rfl rfl rfl rfl rfl rfl (by omega) (sc.2 _ (by omega)) ?_
  rcases hq with ⟨rfl, r, J0, hzr, rfl, hw⟩ | ⟨c0, hw⟩
  · refine z_callV (o := 602) (as := [.int (iI (V 1000004 (i + 1)))]) Q_E_finders (k := 15) rfl rfl K_X11_finders V_X11_finders L_L_202 (n_ hB1.1 rfl) (k_602 hB1.1) rfl rfl (Nat.le_of_ble_eq_true rfl) rfl (by decide) (Nat.zero_le _) (Nat.zero_le _) (Or.inl (fun o S' I' J' hq => by obtain ⟨_, _, _, e, _⟩ := hq; rw [e])) (w_X11_finders 197 hB1 (hB.2.1 _ _) hw) (fun E S' I' J' hq => by obtain ⟨_, _, e, _⟩ := hq; cases e) (fun v S' I' J' hq => ?_)
    obtain ⟨s, V2, e, hS, hI, hJ, hB2, hzs, hq⟩ := hq
    cases e; subst hS; subst hI; subst hJ
    have sc2 := scV.of hB1 hB2 ⟨rfl, fun _ => rfl⟩
    refine y_istore (L' := LE i (some (.int (iI 0))) (some (.int (iI s))) none) Q_E_finders (k := 16) rfl (by decide) rfl ?_
    refine z_aload_n Q_E_finders (k := 17) rfl rfl ?_
    refine q_callV0_i Q_E_finders (k := 18) rfl rfl K_X11_thrown V_X11_thrown L_L_144 (n_ hB2.1 rfl) (k_602 hB2.1) (Nat.le_of_ble_eq_true rfl) (Nat.le_of_ble_eq_true rfl) rfl (Nat.zero_le _) (Nat.zero_le _) (w_X11_thrown 199 hB2 (Q := fun r => r = V2 602 0) rfl) (fun t hzt ht => ?_)
    refine z_iload Q_E_finders (k := 19) rfl rfl ?_
    refine y_icmp_eq 1214 Q_E_finders (k := 20) rfl (by decide) hzt ⟨by decide, by decide⟩ (fun _ => ?_) (fun h => absurd (ht.trans hq.1) h)
    refine z_iload Q_E_finders (k := 23) rfl rfl ?_
    refine y_if_ne 1231 Q_E_finders (k := 24) rfl (by decide) ⟨by decide, by decide⟩ (fun h => absurd rfl h) (fun _ => ?_)
    refine z_aload_n Q_E_finders (k := 25) rfl rfl ?_
    refine y_iconst Q_E_finders (k := 26) rfl ?_
    refine q_lald (z := 0) (N := 1) (o := 624) Q_E_finders (k := 27) rfl rfl (n_ hB2.1 rfl) (k_624 hB2.1) rfl ⟨by decide, by decide⟩ (by decide) ?_
    refine z_iload Q_E_finders (k := 28) rfl rfl ?_
    refine z_i2l Q_E_finders (k := 29) rfl ?_
    refine y_lcmp Q_E_finders (k := 30) rfl ?_
    refine y_if_eq 1231 Q_E_finders (k := 31) rfl (by decide) (zlc_r _ _) (fun _ => ?_) (fun h => absurd (zlc_0.mpr (by rw [qu_s, hq.2.1])) h)
    exact z_goto Q_E_finders (k := 34) (tgt := 2907) rfl (by decide) (((kk _ V2 _ hB2 (hq.2.2.out _) (sc.tr sc2)).wid (by omega) (by omega)).sub LE_f)
  · refine z_callV (o := 602) (as := [.int (iI (V 1000004 (i + 1)))]) Q_E_finders (k := 15) rfl rfl K_X11_finders V_X11_finders L_L_202 (n_ hB1.1 rfl) (k_602 hB1.1) rfl rfl (Nat.le_of_ble_eq_true rfl) rfl (by decide) (Nat.zero_le _) (Nat.zero_le _) (Or.inl (fun o S' I' J' hq => by obtain ⟨_, _, _, e, _⟩ := hq; rw [e])) (w_X11_finders 197 hB1 (hB.2.1 _ _) hw) (fun E S' I' J' hq => by obtain ⟨_, _, e, _⟩ := hq; cases e) (fun v S' I' J' hq => ?_)
    obtain ⟨s, V2, e, hS, hI, hJ, hB2, hzs, hq⟩ := hq
    cases e; subst hS; subst hI; subst hJ
    have sc2 := scV.of hB1 hB2 ⟨rfl, fun _ => rfl⟩
    refine y_istore (L' := LE i (some (.int (iI c))) (some (.int (iI s))) none) Q_E_finders (k := 16) rfl (by decide) rfl ?_
    refine z_aload_n Q_E_finders (k := 17) rfl rfl ?_
    refine q_callV0_i Q_E_finders (k := 18) rfl rfl K_X11_thrown V_X11_thrown L_L_144 (n_ hB2.1 rfl) (k_602 hB2.1) (Nat.le_of_ble_eq_true rfl) (Nat.le_of_ble_eq_true rfl) rfl (Nat.zero_le _) (Nat.zero_le _) (w_X11_thrown 199 hB2 (Q := fun r => r = V2 602 0) rfl) (fun t hzt ht => ?_)
    refine z_iload Q_E_finders (k := 19) rfl rfl ?_
    refine y_icmp_eq 1214 Q_E_finders (k := 20) rfl (by decide) hzt hzc (fun _ => ?_) (fun h => absurd (ht.trans hq.1) h)
    refine z_iload Q_E_finders (k := 23) rfl rfl ?_
    refine y_if_ne 1231 Q_E_finders (k := 24) rfl (by decide) hzc (fun _ => ?_) (fun h => absurd h c0)
    exact z_goto Q_E_finders (k := 34) (tgt := 2907) rfl (by decide) (((kk _ V2 J1 hB2 hq.2 (sc.tr sc2)).wid (by omega) (by omega)).sub LE_f)
def T_E_whose : zTb := [(1234, .aload_n 1, 1, 1235), (1235, .aload_n 0, 1, 1236), (1236, .iload 4, 2, 1238), (1238, .iconst 1, 1, 1239), (1239, .iadd, 1, 1240), (1240, .iaload, 1, 1241), (1241, .aload_n 0, 1, 1242), (1242, .iload 4, 2, 1244), (1244, .iconst 2, 1, 1245), (1245, .iadd, 1, 1246), (1246, .iaload, 1, 1247), (1247, .aload_n 0, 1, 1248), (1248, .iload 4, 2, 1250), (1250, .iconst 3, 1, 1251), (1251, .iadd, 1, 1252), (1252, .iaload, 1, 1253), (1253, .aload_n 0, 1, 1254), (1254, .iload 4, 2, 1256), (1256, .iconst 4, 1, 1257), (1257, .iadd, 1, 1258), (1258, .iaload, 1, 1259), (1259, .aload_n 3, 1, 1260), (1260, .invokestatic 203, 3, 1263), (1263, .istore 5, 2, 1265), (1265, .aload_n 2, 1, 1266), (1266, .aload_n 0, 1, 1267), (1267, .iload 4, 2, 1269), (1269, .iconst 1, 1, 1270), (1270, .iadd, 1, 1271), (1271, .iaload, 1, 1272), (1272, .aload_n 0, 1, 1273), (1273, .iload 4, 2, 1275), (1275, .iconst 2, 1, 1276), (1276, .iadd, 1, 1277), (1277, .iaload, 1, 1278), (1278, .aload_n 0, 1, 1279), (1279, .iload 4, 2, 1281), (1281, .iconst 3, 1, 1282), (1282, .iadd, 1, 1283), (1283, .iaload, 1, 1284), (1284, .aload_n 0, 1, 1285), (1285, .iload 4, 2, 1287), (1287, .iconst 4, 1, 1288), (1288, .iadd, 1, 1289), (1289, .iaload, 1, 1290), (1290, .invokevirtual 205, 3, 1293), (1293, .istore 6, 2, 1295), (1295, .aload_n 2, 1, 1296), (1296, .invokevirtual 144, 3, 1299), (1299, .iload 5, 2, 1301), (1301, .if_icmp .eq 5, 3, 1304), (1304, .iconst 0, 1, 1305), (1305, .ireturn, 1, 1306), (1306, .iload 5, 2, 1308), (1308, .ifCond .ne 15, 3, 1311), (1311, .aload_n 3, 1, 1312), (1312, .iconst 0, 1, 1313), (1313, .laload, 1, 1314), (1314, .iload 6, 2, 1316), (1316, .i2l, 1, 1317), (1317, .lcmp, 1, 1318), (1318, .ifCond .eq 5, 3, 1321), (1321, .iconst 0, 1, 1322), (1322, .ireturn, 1, 1323), (1323, .goto 1584, 3, 1326)]
set_option maxRecDepth 20000 in
theorem Q_E_whose : zT M_E T_E_whose := zT_of (by decide +kernel)
theorem e_whose {S : zS} {V : qV} {J : qJ} {n i : Int} {kc ks : Nat} (hB : qB S V) (hR : Rel n V J) (hi : 0 ≤ i ∧ i + 5 < V 1000005 0) (h1 : 67 ≤ kc) (h2 : 402 ≤ ks) (kk : ∀ S' V' J', qB S' V' → Rel (n + 1) V' J' → scV V V' → Z M_E 200 (kc - 67) (ks - 402) 2907 (LE i none none none) [] S' (qi V') (qj J') QE) : Z M_E 200 kc ks 1234 (LE i none none none) [] S (qi V) (qj J) QE := by
  refine z_aload_n Q_E_whose (k := 0) rfl rfl ?_
  refine q_arg (i := i) (j := 1) hB Q_E_whose (k := 1) rfl rfl rfl rfl rfl rfl rfl (by omega) rfl ?_
  refine q_arg (i := i) (j := 2) hB Q_E_whose (k := 6) rfl rfl rfl rfl rfl rfl rfl (by omega) rfl ?_
  refine q_arg (i := i) (j := 3) hB Q_E_whose (k := 11) rfl rfl rfl rfl rfl rfl rfl (by omega) rfl ?_
  refine q_arg (i := i) (j := 4) hB Q_E_whose (k := 16) rfl rfl rfl rfl rfl rfl rfl (by omega) rfl ?_
  refine z_aload_n Q_E_whose (k := 21) rfl rfl ?_
  refine z_callSH (as := [.ref 0, .int (iI (V 1000004 (i + 1))), .int (iI (V 1000004 (i + 2))), .int (iI (V 1000004 (i + 3))), .int (iI (V 1000004 (i + 4))), .ref 624]) Q_E_whose (k := 22) rfl rfl K_L_whose L_L_203 rfl rfl (Nat.le_of_ble_eq_true rfl) rfl (by decide) (show 4 ≤ kc by omega) (show 24 ≤ ks by omega) (Or.inr (zRbE hB.1.1)) (Z.scr (w_L_whose (Q := fun c V1 J1 => (c = 0 ∧ ∃ (r : Int) (J0 : qJ), zr r ∧ J1 = qu J0 624 0 (iI r).toInt64 ∧ W_X11_whose (V 1000004 (i + 1)) (V 1000004 (i + 2)) (V 1000004 (i + 3)) (V 1000004 (i + 4)) V1 (fun s V2 => V2 602 0 = 0 ∧ r = s ∧ Rel (n + 1) V2 J0)) ∨ (c ≠ 0 ∧ W_X11_whose (V 1000004 (i + 1)) (V 1000004 (i + 2)) (V 1000004 (i + 3)) (V 1000004 (i + 4)) V1 (fun s V2 => V2 602 0 = c ∧ Rel (n + 1) V2 J1))) 193 hB (hB.2.1 _ _) (hB.2.1 _ _) (hB.2.1 _ _) (hB.2.1 _ _) (t_whose (P := (fun V2 J2 => Rel (n + 1) V2 J2)) hR (fun _ _ h => h)) (fun r V1 J1 hz hw => Or.inl ⟨rfl, r, J1, hz, rfl, hw⟩) (fun E V1 J1 h => by
    rcases h with ⟨e, w⟩ | ⟨e, w⟩
    · exact Or.inl ⟨e, Or.inr ⟨by decide, w⟩⟩
    · exact Or.inr ⟨e, Or.inr ⟨by decide, w⟩⟩))) (fun E S' I' J' hq => by obtain ⟨⟨_, _, _, e, _⟩, _⟩ := hq; cases e) (fun v S' I' J' hq => ?_)
  obtain ⟨⟨c, V1, J1, e, hn1, hI, hJ, hB1, hzc, hq⟩, hsc⟩ := hq
  cases e; subst hI; subst hJ
  have sc := scV.of hB hB1 hsc
  have sl := sc.1
  refine y_istore (L' := LE i (some (.int (iI c))) none none) Q_E_whose (k := 23) rfl (by decide) rfl ?_
  refine z_aload_n Q_E_whose (k := 24) rfl rfl ?_
  refine q_arg (i := i) (j := 1) hB1 Q_E_whose (k := 25) rfl rfl rfl rfl rfl rfl rfl (by omega) (sc.2 _ (by omega)) ?_
  refine q_arg (i := i) (j := 2) hB1 Q_E_whose (k := 30) rfl rfl rfl rfl rfl rfl rfl (by omega) (sc.2 _ (by omega)) ?_
  refine q_arg (i := i) (j := 3) hB1 Q_E_whose (k := 35) rfl rfl rfl rfl rfl rfl rfl (by omega) (sc.2 _ (by omega)) ?_
  refine q_arg (i := i) (j := 4) hB1 Q_E_whose (k := 40) rfl rfl rfl rfl rfl rfl rfl (by omega) (sc.2 _ (by omega)) ?_
  rcases hq with ⟨rfl, r, J0, hzr, rfl, hw⟩ | ⟨c0, hw⟩
  · refine z_callV (o := 602) (as := [.int (iI (V 1000004 (i + 1))), .int (iI (V 1000004 (i + 2))), .int (iI (V 1000004 (i + 3))), .int (iI (V 1000004 (i + 4)))]) Q_E_whose (k := 45) rfl rfl K_X11_whose V_X11_whose L_L_205 (n_ hB1.1 rfl) (k_602 hB1.1) rfl rfl (Nat.le_of_ble_eq_true rfl) rfl (by decide) (Nat.zero_le _) (Nat.zero_le _) (Or.inl (fun o S' I' J' hq => by obtain ⟨_, _, _, e, _⟩ := hq; rw [e])) (w_X11_whose 196 hB1 (hB.2.1 _ _) (hB.2.1 _ _) (hB.2.1 _ _) (hB.2.1 _ _) hw) (fun E S' I' J' hq => by obtain ⟨_, _, e, _⟩ := hq; cases e) (fun v S' I' J' hq => ?_)
    obtain ⟨s, V2, e, hS, hI, hJ, hB2, hzs, hq⟩ := hq
    cases e; subst hS; subst hI; subst hJ
    have sc2 := scV.of hB1 hB2 ⟨rfl, fun _ => rfl⟩
    refine y_istore (L' := LE i (some (.int (iI 0))) (some (.int (iI s))) none) Q_E_whose (k := 46) rfl (by decide) rfl ?_
    refine z_aload_n Q_E_whose (k := 47) rfl rfl ?_
    refine q_callV0_i Q_E_whose (k := 48) rfl rfl K_X11_thrown V_X11_thrown L_L_144 (n_ hB2.1 rfl) (k_602 hB2.1) (Nat.le_of_ble_eq_true rfl) (Nat.le_of_ble_eq_true rfl) rfl (Nat.zero_le _) (Nat.zero_le _) (w_X11_thrown 199 hB2 (Q := fun r => r = V2 602 0) rfl) (fun t hzt ht => ?_)
    refine z_iload Q_E_whose (k := 49) rfl rfl ?_
    refine y_icmp_eq 1306 Q_E_whose (k := 50) rfl (by decide) hzt ⟨by decide, by decide⟩ (fun _ => ?_) (fun h => absurd (ht.trans hq.1) h)
    refine z_iload Q_E_whose (k := 53) rfl rfl ?_
    refine y_if_ne 1323 Q_E_whose (k := 54) rfl (by decide) ⟨by decide, by decide⟩ (fun h => absurd rfl h) (fun _ => ?_)
    refine z_aload_n Q_E_whose (k := 55) rfl rfl ?_
    refine y_iconst Q_E_whose (k := 56) rfl ?_
    refine q_lald (z := 0) (N := 1) (o := 624) Q_E_whose (k := 57) rfl rfl (n_ hB2.1 rfl) (k_624 hB2.1) rfl ⟨by decide, by decide⟩ (by decide) ?_
    refine z_iload Q_E_whose (k := 58) rfl rfl ?_
    refine z_i2l Q_E_whose (k := 59) rfl ?_
    refine y_lcmp Q_E_whose (k := 60) rfl ?_
    refine y_if_eq 1323 Q_E_whose (k := 61) rfl (by decide) (zlc_r _ _) (fun _ => ?_) (fun h => absurd (zlc_0.mpr (by rw [qu_s, hq.2.1])) h)
    exact z_goto Q_E_whose (k := 64) (tgt := 2907) rfl (by decide) (((kk _ V2 _ hB2 (hq.2.2.out _) (sc.tr sc2)).wid (by omega) (by omega)).sub LE_f)
  · refine z_callV (o := 602) (as := [.int (iI (V 1000004 (i + 1))), .int (iI (V 1000004 (i + 2))), .int (iI (V 1000004 (i + 3))), .int (iI (V 1000004 (i + 4)))]) Q_E_whose (k := 45) rfl rfl K_X11_whose V_X11_whose L_L_205 (n_ hB1.1 rfl) (k_602 hB1.1) rfl rfl (Nat.le_of_ble_eq_true rfl) rfl (by decide) (Nat.zero_le _) (Nat.zero_le _) (Or.inl (fun o S' I' J' hq => by obtain ⟨_, _, _, e, _⟩ := hq; rw [e])) (w_X11_whose 196 hB1 (hB.2.1 _ _) (hB.2.1 _ _) (hB.2.1 _ _) (hB.2.1 _ _) hw) (fun E S' I' J' hq => by obtain ⟨_, _, e, _⟩ := hq; cases e) (fun v S' I' J' hq => ?_)
    obtain ⟨s, V2, e, hS, hI, hJ, hB2, hzs, hq⟩ := hq
    cases e; subst hS; subst hI; subst hJ
    have sc2 := scV.of hB1 hB2 ⟨rfl, fun _ => rfl⟩
    refine y_istore (L' := LE i (some (.int (iI c))) (some (.int (iI s))) none) Q_E_whose (k := 46) rfl (by decide) rfl ?_
    refine z_aload_n Q_E_whose (k := 47) rfl rfl ?_
    refine q_callV0_i Q_E_whose (k := 48) rfl rfl K_X11_thrown V_X11_thrown L_L_144 (n_ hB2.1 rfl) (k_602 hB2.1) (Nat.le_of_ble_eq_true rfl) (Nat.le_of_ble_eq_true rfl) rfl (Nat.zero_le _) (Nat.zero_le _) (w_X11_thrown 199 hB2 (Q := fun r => r = V2 602 0) rfl) (fun t hzt ht => ?_)
    refine z_iload Q_E_whose (k := 49) rfl rfl ?_
    refine y_icmp_eq 1306 Q_E_whose (k := 50) rfl (by decide) hzt hzc (fun _ => ?_) (fun h => absurd (ht.trans hq.1) h)
    refine z_iload Q_E_whose (k := 53) rfl rfl ?_
    refine y_if_ne 1323 Q_E_whose (k := 54) rfl (by decide) hzc (fun _ => ?_) (fun h => absurd h c0)
    exact z_goto Q_E_whose (k := 64) (tgt := 2907) rfl (by decide) (((kk _ V2 J1 hB2 hq.2 (sc.tr sc2)).wid (by omega) (by omega)).sub LE_f)
def T_E_sure : zTb := [(1326, .aload_n 1, 1, 1327), (1327, .aload_n 0, 1, 1328), (1328, .iload 4, 2, 1330), (1330, .iconst 1, 1, 1331), (1331, .iadd, 1, 1332), (1332, .iaload, 1, 1333), (1333, .aload_n 0, 1, 1334), (1334, .iload 4, 2, 1336), (1336, .iconst 2, 1, 1337), (1337, .iadd, 1, 1338), (1338, .iaload, 1, 1339), (1339, .aload_n 3, 1, 1340), (1340, .invokestatic 206, 3, 1343), (1343, .istore 5, 2, 1345), (1345, .aload_n 2, 1, 1346), (1346, .aload_n 0, 1, 1347), (1347, .iload 4, 2, 1349), (1349, .iconst 1, 1, 1350), (1350, .iadd, 1, 1351), (1351, .iaload, 1, 1352), (1352, .aload_n 0, 1, 1353), (1353, .iload 4, 2, 1355), (1355, .iconst 2, 1, 1356), (1356, .iadd, 1, 1357), (1357, .iaload, 1, 1358), (1358, .invokevirtual 208, 3, 1361), (1361, .istore 6, 2, 1363), (1363, .aload_n 2, 1, 1364), (1364, .invokevirtual 144, 3, 1367), (1367, .iload 5, 2, 1369), (1369, .if_icmp .eq 5, 3, 1372), (1372, .iconst 0, 1, 1373), (1373, .ireturn, 1, 1374), (1374, .iload 5, 2, 1376), (1376, .ifCond .ne 15, 3, 1379), (1379, .aload_n 3, 1, 1380), (1380, .iconst 0, 1, 1381), (1381, .laload, 1, 1382), (1382, .iload 6, 2, 1384), (1384, .i2l, 1, 1385), (1385, .lcmp, 1, 1386), (1386, .ifCond .eq 5, 3, 1389), (1389, .iconst 0, 1, 1390), (1390, .ireturn, 1, 1391), (1391, .goto 1516, 3, 1394)]
set_option maxRecDepth 20000 in
theorem Q_E_sure : zT M_E T_E_sure := zT_of (by decide +kernel)
theorem e_sure {S : zS} {V : qV} {J : qJ} {n i : Int} {kc ks : Nat} (hB : qB S V) (hR : Rel n V J) (hi : 0 ≤ i ∧ i + 5 < V 1000005 0) (h1 : 67 ≤ kc) (h2 : 402 ≤ ks) (kk : ∀ S' V' J', qB S' V' → Rel (n + 1) V' J' → scV V V' → Z M_E 200 (kc - 67) (ks - 402) 2907 (LE i none none none) [] S' (qi V') (qj J') QE) : Z M_E 200 kc ks 1326 (LE i none none none) [] S (qi V) (qj J) QE := by
  refine z_aload_n Q_E_sure (k := 0) rfl rfl ?_
  refine q_arg (i := i) (j := 1) hB Q_E_sure (k := 1) rfl rfl rfl rfl rfl rfl rfl (by omega) rfl ?_
  refine q_arg (i := i) (j := 2) hB Q_E_sure (k := 6) rfl rfl rfl rfl rfl rfl rfl (by omega) rfl ?_
  refine z_aload_n Q_E_sure (k := 11) rfl rfl ?_
  refine z_callSH (as := [.ref 0, .int (iI (V 1000004 (i + 1))), .int (iI (V 1000004 (i + 2))), .ref 624]) Q_E_sure (k := 12) rfl rfl K_L_sure L_L_206 rfl rfl (Nat.le_of_ble_eq_true rfl) rfl (by decide) (show 2 ≤ kc by omega) (show 12 ≤ ks by omega) (Or.inr (zRbE hB.1.1)) (Z.scr (w_L_sure (Q := fun c V1 J1 => (c = 0 ∧ ∃ (r : Int) (J0 : qJ), zr r ∧ J1 = qu J0 624 0 (iI r).toInt64 ∧ W_X11_sure (V 1000004 (i + 1)) (V 1000004 (i + 2)) V1 (fun s V2 => V2 602 0 = 0 ∧ r = s ∧ Rel (n + 1) V2 J0)) ∨ (c ≠ 0 ∧ W_X11_sure (V 1000004 (i + 1)) (V 1000004 (i + 2)) V1 (fun s V2 => V2 602 0 = c ∧ Rel (n + 1) V2 J1))) 192 hB (hB.2.1 _ _) (hB.2.1 _ _) (t_sure (P := (fun V2 J2 => Rel (n + 1) V2 J2)) hR (fun _ _ h => h)) (fun r V1 J1 hz hw => Or.inl ⟨rfl, r, J1, hz, rfl, hw⟩) (fun E V1 J1 h => by
    rcases h with ⟨e, w⟩ | ⟨e, w⟩
    · exact Or.inl ⟨e, Or.inr ⟨by decide, w⟩⟩
    · exact Or.inr ⟨e, Or.inr ⟨by decide, w⟩⟩))) (fun E S' I' J' hq => by obtain ⟨⟨_, _, _, e, _⟩, _⟩ := hq; cases e) (fun v S' I' J' hq => ?_)
  obtain ⟨⟨c, V1, J1, e, hn1, hI, hJ, hB1, hzc, hq⟩, hsc⟩ := hq
  cases e; subst hI; subst hJ
  have sc := scV.of hB hB1 hsc
  have sl := sc.1
  refine y_istore (L' := LE i (some (.int (iI c))) none none) Q_E_sure (k := 13) rfl (by decide) rfl ?_
  refine z_aload_n Q_E_sure (k := 14) rfl rfl ?_
  refine q_arg (i := i) (j := 1) hB1 Q_E_sure (k := 15) rfl rfl rfl rfl rfl rfl rfl (by omega) (sc.2 _ (by omega)) ?_
  refine q_arg (i := i) (j := 2) hB1 Q_E_sure (k := 20) rfl rfl rfl rfl rfl rfl rfl (by omega) (sc.2 _ (by omega)) ?_
  rcases hq with ⟨rfl, r, J0, hzr, rfl, hw⟩ | ⟨c0, hw⟩
  · refine z_callV (o := 602) (as := [.int (iI (V 1000004 (i + 1))), .int (iI (V 1000004 (i + 2)))]) Q_E_sure (k := 25) rfl rfl K_X11_sure V_X11_sure L_L_208 (n_ hB1.1 rfl) (k_602 hB1.1) rfl rfl (Nat.le_of_ble_eq_true rfl) rfl (by decide) (Nat.zero_le _) (Nat.zero_le _) (Or.inl (fun o S' I' J' hq => by obtain ⟨_, _, _, e, _⟩ := hq; rw [e])) (w_X11_sure 196 hB1 (hB.2.1 _ _) (hB.2.1 _ _) hw) (fun E S' I' J' hq => by obtain ⟨_, _, e, _⟩ := hq; cases e) (fun v S' I' J' hq => ?_)
    obtain ⟨s, V2, e, hS, hI, hJ, hB2, hzs, hq⟩ := hq
    cases e; subst hS; subst hI; subst hJ
    have sc2 := scV.of hB1 hB2 ⟨rfl, fun _ => rfl⟩
    refine y_istore (L' := LE i (some (.int (iI 0))) (some (.int (iI s))) none) Q_E_sure (k := 26) rfl (by decide) rfl ?_
    refine z_aload_n Q_E_sure (k := 27) rfl rfl ?_
    refine q_callV0_i Q_E_sure (k := 28) rfl rfl K_X11_thrown V_X11_thrown L_L_144 (n_ hB2.1 rfl) (k_602 hB2.1) (Nat.le_of_ble_eq_true rfl) (Nat.le_of_ble_eq_true rfl) rfl (Nat.zero_le _) (Nat.zero_le _) (w_X11_thrown 199 hB2 (Q := fun r => r = V2 602 0) rfl) (fun t hzt ht => ?_)
    refine z_iload Q_E_sure (k := 29) rfl rfl ?_
    refine y_icmp_eq 1374 Q_E_sure (k := 30) rfl (by decide) hzt ⟨by decide, by decide⟩ (fun _ => ?_) (fun h => absurd (ht.trans hq.1) h)
    refine z_iload Q_E_sure (k := 33) rfl rfl ?_
    refine y_if_ne 1391 Q_E_sure (k := 34) rfl (by decide) ⟨by decide, by decide⟩ (fun h => absurd rfl h) (fun _ => ?_)
    refine z_aload_n Q_E_sure (k := 35) rfl rfl ?_
    refine y_iconst Q_E_sure (k := 36) rfl ?_
    refine q_lald (z := 0) (N := 1) (o := 624) Q_E_sure (k := 37) rfl rfl (n_ hB2.1 rfl) (k_624 hB2.1) rfl ⟨by decide, by decide⟩ (by decide) ?_
    refine z_iload Q_E_sure (k := 38) rfl rfl ?_
    refine z_i2l Q_E_sure (k := 39) rfl ?_
    refine y_lcmp Q_E_sure (k := 40) rfl ?_
    refine y_if_eq 1391 Q_E_sure (k := 41) rfl (by decide) (zlc_r _ _) (fun _ => ?_) (fun h => absurd (zlc_0.mpr (by rw [qu_s, hq.2.1])) h)
    exact z_goto Q_E_sure (k := 44) (tgt := 2907) rfl (by decide) (((kk _ V2 _ hB2 (hq.2.2.out _) (sc.tr sc2)).wid (by omega) (by omega)).sub LE_f)
  · refine z_callV (o := 602) (as := [.int (iI (V 1000004 (i + 1))), .int (iI (V 1000004 (i + 2)))]) Q_E_sure (k := 25) rfl rfl K_X11_sure V_X11_sure L_L_208 (n_ hB1.1 rfl) (k_602 hB1.1) rfl rfl (Nat.le_of_ble_eq_true rfl) rfl (by decide) (Nat.zero_le _) (Nat.zero_le _) (Or.inl (fun o S' I' J' hq => by obtain ⟨_, _, _, e, _⟩ := hq; rw [e])) (w_X11_sure 196 hB1 (hB.2.1 _ _) (hB.2.1 _ _) hw) (fun E S' I' J' hq => by obtain ⟨_, _, e, _⟩ := hq; cases e) (fun v S' I' J' hq => ?_)
    obtain ⟨s, V2, e, hS, hI, hJ, hB2, hzs, hq⟩ := hq
    cases e; subst hS; subst hI; subst hJ
    have sc2 := scV.of hB1 hB2 ⟨rfl, fun _ => rfl⟩
    refine y_istore (L' := LE i (some (.int (iI c))) (some (.int (iI s))) none) Q_E_sure (k := 26) rfl (by decide) rfl ?_
    refine z_aload_n Q_E_sure (k := 27) rfl rfl ?_
    refine q_callV0_i Q_E_sure (k := 28) rfl rfl K_X11_thrown V_X11_thrown L_L_144 (n_ hB2.1 rfl) (k_602 hB2.1) (Nat.le_of_ble_eq_true rfl) (Nat.le_of_ble_eq_true rfl) rfl (Nat.zero_le _) (Nat.zero_le _) (w_X11_thrown 199 hB2 (Q := fun r => r = V2 602 0) rfl) (fun t hzt ht => ?_)
    refine z_iload Q_E_sure (k := 29) rfl rfl ?_
    refine y_icmp_eq 1374 Q_E_sure (k := 30) rfl (by decide) hzt hzc (fun _ => ?_) (fun h => absurd (ht.trans hq.1) h)
    refine z_iload Q_E_sure (k := 33) rfl rfl ?_
    refine y_if_ne 1391 Q_E_sure (k := 34) rfl (by decide) hzc (fun _ => ?_) (fun h => absurd h c0)
    exact z_goto Q_E_sure (k := 44) (tgt := 2907) rfl (by decide) (((kk _ V2 J1 hB2 hq.2 (sc.tr sc2)).wid (by omega) (by omega)).sub LE_f)
def T_E_may : zTb := [(1394, .aload_n 1, 1, 1395), (1395, .aload_n 0, 1, 1396), (1396, .iload 4, 2, 1398), (1398, .iconst 1, 1, 1399), (1399, .iadd, 1, 1400), (1400, .iaload, 1, 1401), (1401, .aload_n 0, 1, 1402), (1402, .iload 4, 2, 1404), (1404, .iconst 2, 1, 1405), (1405, .iadd, 1, 1406), (1406, .iaload, 1, 1407), (1407, .aload_n 3, 1, 1408), (1408, .invokestatic 209, 3, 1411), (1411, .istore 5, 2, 1413), (1413, .aload_n 2, 1, 1414), (1414, .aload_n 0, 1, 1415), (1415, .iload 4, 2, 1417), (1417, .iconst 1, 1, 1418), (1418, .iadd, 1, 1419), (1419, .iaload, 1, 1420), (1420, .aload_n 0, 1, 1421), (1421, .iload 4, 2, 1423), (1423, .iconst 2, 1, 1424), (1424, .iadd, 1, 1425), (1425, .iaload, 1, 1426), (1426, .invokevirtual 211, 3, 1429), (1429, .istore 6, 2, 1431), (1431, .aload_n 2, 1, 1432), (1432, .invokevirtual 144, 3, 1435), (1435, .iload 5, 2, 1437), (1437, .if_icmp .eq 5, 3, 1440), (1440, .iconst 0, 1, 1441), (1441, .ireturn, 1, 1442), (1442, .iload 5, 2, 1444), (1444, .ifCond .ne 15, 3, 1447), (1447, .aload_n 3, 1, 1448), (1448, .iconst 0, 1, 1449), (1449, .laload, 1, 1450), (1450, .iload 6, 2, 1452), (1452, .i2l, 1, 1453), (1453, .lcmp, 1, 1454), (1454, .ifCond .eq 5, 3, 1457), (1457, .iconst 0, 1, 1458), (1458, .ireturn, 1, 1459), (1459, .goto 1448, 3, 1462)]
set_option maxRecDepth 20000 in
theorem Q_E_may : zT M_E T_E_may := zT_of (by decide +kernel)
theorem e_may {S : zS} {V : qV} {J : qJ} {n i : Int} {kc ks : Nat} (hB : qB S V) (hR : Rel n V J) (hi : 0 ≤ i ∧ i + 5 < V 1000005 0) (h1 : 67 ≤ kc) (h2 : 402 ≤ ks) (kk : ∀ S' V' J', qB S' V' → Rel (n + 1) V' J' → scV V V' → Z M_E 200 (kc - 67) (ks - 402) 2907 (LE i none none none) [] S' (qi V') (qj J') QE) : Z M_E 200 kc ks 1394 (LE i none none none) [] S (qi V) (qj J) QE := by
  refine z_aload_n Q_E_may (k := 0) rfl rfl ?_
  refine q_arg (i := i) (j := 1) hB Q_E_may (k := 1) rfl rfl rfl rfl rfl rfl rfl (by omega) rfl ?_
  refine q_arg (i := i) (j := 2) hB Q_E_may (k := 6) rfl rfl rfl rfl rfl rfl rfl (by omega) rfl ?_
  refine z_aload_n Q_E_may (k := 11) rfl rfl ?_
  refine z_callSH (as := [.ref 0, .int (iI (V 1000004 (i + 1))), .int (iI (V 1000004 (i + 2))), .ref 624]) Q_E_may (k := 12) rfl rfl K_L_may L_L_209 rfl rfl (Nat.le_of_ble_eq_true rfl) rfl (by decide) (show 2 ≤ kc by omega) (show 12 ≤ ks by omega) (Or.inr (zRbE hB.1.1)) (Z.scr (w_L_may (Q := fun c V1 J1 => (c = 0 ∧ ∃ (r : Int) (J0 : qJ), zr r ∧ J1 = qu J0 624 0 (iI r).toInt64 ∧ W_X11_may_ (V 1000004 (i + 1)) (V 1000004 (i + 2)) V1 (fun s V2 => V2 602 0 = 0 ∧ r = s ∧ Rel (n + 1) V2 J0)) ∨ (c ≠ 0 ∧ W_X11_may_ (V 1000004 (i + 1)) (V 1000004 (i + 2)) V1 (fun s V2 => V2 602 0 = c ∧ Rel (n + 1) V2 J1))) 192 hB (hB.2.1 _ _) (hB.2.1 _ _) (t_may (P := (fun V2 J2 => Rel (n + 1) V2 J2)) hR (fun _ _ h => h)) (fun r V1 J1 hz hw => Or.inl ⟨rfl, r, J1, hz, rfl, hw⟩) (fun E V1 J1 h => by
    rcases h with ⟨e, w⟩ | ⟨e, w⟩
    · exact Or.inl ⟨e, Or.inr ⟨by decide, w⟩⟩
    · exact Or.inr ⟨e, Or.inr ⟨by decide, w⟩⟩))) (fun E S' I' J' hq => by obtain ⟨⟨_, _, _, e, _⟩, _⟩ := hq; cases e) (fun v S' I' J' hq => ?_)
  obtain ⟨⟨c, V1, J1, e, hn1, hI, hJ, hB1, hzc, hq⟩, hsc⟩ := hq
  cases e; subst hI; subst hJ
  have sc := scV.of hB hB1 hsc
  have sl := sc.1
  refine y_istore (L' := LE i (some (.int (iI c))) none none) Q_E_may (k := 13) rfl (by decide) rfl ?_
  refine z_aload_n Q_E_may (k := 14) rfl rfl ?_
  refine q_arg (i := i) (j := 1) hB1 Q_E_may (k := 15) rfl rfl rfl rfl rfl rfl rfl (by omega) (sc.2 _ (by omega)) ?_
  refine q_arg (i := i) (j := 2) hB1 Q_E_may (k := 20) rfl rfl rfl rfl rfl rfl rfl (by omega) (sc.2 _ (by omega)) ?_
  rcases hq with ⟨rfl, r, J0, hzr, rfl, hw⟩ | ⟨c0, hw⟩
  · refine z_callV (o := 602) (as := [.int (iI (V 1000004 (i + 1))), .int (iI (V 1000004 (i + 2)))]) Q_E_may (k := 25) rfl rfl K_X11_may_ V_X11_may_ L_L_211 (n_ hB1.1 rfl) (k_602 hB1.1) rfl rfl (Nat.le_of_ble_eq_true rfl) rfl (by decide) (Nat.zero_le _) (Nat.zero_le _) (Or.inl (fun o S' I' J' hq => by obtain ⟨_, _, _, e, _⟩ := hq; rw [e])) (w_X11_may_ 196 hB1 (hB.2.1 _ _) (hB.2.1 _ _) hw) (fun E S' I' J' hq => by obtain ⟨_, _, e, _⟩ := hq; cases e) (fun v S' I' J' hq => ?_)
    obtain ⟨s, V2, e, hS, hI, hJ, hB2, hzs, hq⟩ := hq
    cases e; subst hS; subst hI; subst hJ
    have sc2 := scV.of hB1 hB2 ⟨rfl, fun _ => rfl⟩
    refine y_istore (L' := LE i (some (.int (iI 0))) (some (.int (iI s))) none) Q_E_may (k := 26) rfl (by decide) rfl ?_
    refine z_aload_n Q_E_may (k := 27) rfl rfl ?_
    refine q_callV0_i Q_E_may (k := 28) rfl rfl K_X11_thrown V_X11_thrown L_L_144 (n_ hB2.1 rfl) (k_602 hB2.1) (Nat.le_of_ble_eq_true rfl) (Nat.le_of_ble_eq_true rfl) rfl (Nat.zero_le _) (Nat.zero_le _) (w_X11_thrown 199 hB2 (Q := fun r => r = V2 602 0) rfl) (fun t hzt ht => ?_)
    refine z_iload Q_E_may (k := 29) rfl rfl ?_
    refine y_icmp_eq 1442 Q_E_may (k := 30) rfl (by decide) hzt ⟨by decide, by decide⟩ (fun _ => ?_) (fun h => absurd (ht.trans hq.1) h)
    refine z_iload Q_E_may (k := 33) rfl rfl ?_
    refine y_if_ne 1459 Q_E_may (k := 34) rfl (by decide) ⟨by decide, by decide⟩ (fun h => absurd rfl h) (fun _ => ?_)
    refine z_aload_n Q_E_may (k := 35) rfl rfl ?_
    refine y_iconst Q_E_may (k := 36) rfl ?_
    refine q_lald (z := 0) (N := 1) (o := 624) Q_E_may (k := 37) rfl rfl (n_ hB2.1 rfl) (k_624 hB2.1) rfl ⟨by decide, by decide⟩ (by decide) ?_
    refine z_iload Q_E_may (k := 38) rfl rfl ?_
    refine z_i2l Q_E_may (k := 39) rfl ?_
    refine y_lcmp Q_E_may (k := 40) rfl ?_
    refine y_if_eq 1459 Q_E_may (k := 41) rfl (by decide) (zlc_r _ _) (fun _ => ?_) (fun h => absurd (zlc_0.mpr (by rw [qu_s, hq.2.1])) h)
    exact z_goto Q_E_may (k := 44) (tgt := 2907) rfl (by decide) (((kk _ V2 _ hB2 (hq.2.2.out _) (sc.tr sc2)).wid (by omega) (by omega)).sub LE_f)
  · refine z_callV (o := 602) (as := [.int (iI (V 1000004 (i + 1))), .int (iI (V 1000004 (i + 2)))]) Q_E_may (k := 25) rfl rfl K_X11_may_ V_X11_may_ L_L_211 (n_ hB1.1 rfl) (k_602 hB1.1) rfl rfl (Nat.le_of_ble_eq_true rfl) rfl (by decide) (Nat.zero_le _) (Nat.zero_le _) (Or.inl (fun o S' I' J' hq => by obtain ⟨_, _, _, e, _⟩ := hq; rw [e])) (w_X11_may_ 196 hB1 (hB.2.1 _ _) (hB.2.1 _ _) hw) (fun E S' I' J' hq => by obtain ⟨_, _, e, _⟩ := hq; cases e) (fun v S' I' J' hq => ?_)
    obtain ⟨s, V2, e, hS, hI, hJ, hB2, hzs, hq⟩ := hq
    cases e; subst hS; subst hI; subst hJ
    have sc2 := scV.of hB1 hB2 ⟨rfl, fun _ => rfl⟩
    refine y_istore (L' := LE i (some (.int (iI c))) (some (.int (iI s))) none) Q_E_may (k := 26) rfl (by decide) rfl ?_
    refine z_aload_n Q_E_may (k := 27) rfl rfl ?_
    refine q_callV0_i Q_E_may (k := 28) rfl rfl K_X11_thrown V_X11_thrown L_L_144 (n_ hB2.1 rfl) (k_602 hB2.1) (Nat.le_of_ble_eq_true rfl) (Nat.le_of_ble_eq_true rfl) rfl (Nat.zero_le _) (Nat.zero_le _) (w_X11_thrown 199 hB2 (Q := fun r => r = V2 602 0) rfl) (fun t hzt ht => ?_)
    refine z_iload Q_E_may (k := 29) rfl rfl ?_
    refine y_icmp_eq 1442 Q_E_may (k := 30) rfl (by decide) hzt hzc (fun _ => ?_) (fun h => absurd (ht.trans hq.1) h)
    refine z_iload Q_E_may (k := 33) rfl rfl ?_
    refine y_if_ne 1459 Q_E_may (k := 34) rfl (by decide) hzc (fun _ => ?_) (fun h => absurd h c0)
    exact z_goto Q_E_may (k := 44) (tgt := 2907) rfl (by decide) (((kk _ V2 J1 hB2 hq.2 (sc.tr sc2)).wid (by omega) (by omega)).sub LE_f)
def T_E_hangs : zTb := [(1541, .aload_n 1, 1, 1542), (1542, .aload_n 0, 1, 1543), (1543, .iload 4, 2, 1545), (1545, .iconst 1, 1, 1546), (1546, .iadd, 1, 1547), (1547, .iaload, 1, 1548), (1548, .aload_n 0, 1, 1549), (1549, .iload 4, 2, 1551), (1551, .iconst 2, 1, 1552), (1552, .iadd, 1, 1553), (1553, .iaload, 1, 1554), (1554, .aload_n 3, 1, 1555), (1555, .invokestatic 215, 3, 1558), (1558, .istore 5, 2, 1560), (1560, .aload_n 2, 1, 1561), (1561, .aload_n 0, 1, 1562), (1562, .iload 4, 2, 1564), (1564, .iconst 1, 1, 1565), (1565, .iadd, 1, 1566), (1566, .iaload, 1, 1567), (1567, .aload_n 0, 1, 1568), (1568, .iload 4, 2, 1570), (1570, .iconst 2, 1, 1571), (1571, .iadd, 1, 1572), (1572, .iaload, 1, 1573), (1573, .invokevirtual 217, 3, 1576), (1576, .istore 6, 2, 1578), (1578, .aload_n 2, 1, 1579), (1579, .invokevirtual 144, 3, 1582), (1582, .iload 5, 2, 1584), (1584, .if_icmp .eq 5, 3, 1587), (1587, .iconst 0, 1, 1588), (1588, .ireturn, 1, 1589), (1589, .iload 5, 2, 1591), (1591, .ifCond .ne 15, 3, 1594), (1594, .aload_n 3, 1, 1595), (1595, .iconst 0, 1, 1596), (1596, .laload, 1, 1597), (1597, .iload 6, 2, 1599), (1599, .i2l, 1, 1600), (1600, .lcmp, 1, 1601), (1601, .ifCond .eq 5, 3, 1604), (1604, .iconst 0, 1, 1605), (1605, .ireturn, 1, 1606), (1606, .goto 1301, 3, 1609)]
set_option maxRecDepth 20000 in
theorem Q_E_hangs : zT M_E T_E_hangs := zT_of (by decide +kernel)
theorem e_hangs {S : zS} {V : qV} {J : qJ} {n i : Int} {kc ks : Nat} (hB : qB S V) (hR : Rel n V J) (hi : 0 ≤ i ∧ i + 5 < V 1000005 0) (h1 : 67 ≤ kc) (h2 : 402 ≤ ks) (kk : ∀ S' V' J', qB S' V' → Rel (n + 1) V' J' → scV V V' → Z M_E 200 (kc - 67) (ks - 402) 2907 (LE i none none none) [] S' (qi V') (qj J') QE) : Z M_E 200 kc ks 1541 (LE i none none none) [] S (qi V) (qj J) QE := by
  refine z_aload_n Q_E_hangs (k := 0) rfl rfl ?_
  refine q_arg (i := i) (j := 1) hB Q_E_hangs (k := 1) rfl rfl rfl rfl rfl rfl rfl (by omega) rfl ?_
  refine q_arg (i := i) (j := 2) hB Q_E_hangs (k := 6) rfl rfl rfl rfl rfl rfl rfl (by omega) rfl ?_
  refine z_aload_n Q_E_hangs (k := 11) rfl rfl ?_
  refine z_callSH (as := [.ref 0, .int (iI (V 1000004 (i + 1))), .int (iI (V 1000004 (i + 2))), .ref 624]) Q_E_hangs (k := 12) rfl rfl K_L_hangs L_L_215 rfl rfl (Nat.le_of_ble_eq_true rfl) rfl (by decide) (show 2 ≤ kc by omega) (show 12 ≤ ks by omega) (Or.inr (zRbE hB.1.1)) (Z.scr (w_L_hangs (Q := fun c V1 J1 => (c = 0 ∧ ∃ (r : Int) (J0 : qJ), zr r ∧ J1 = qu J0 624 0 (iI r).toInt64 ∧ W_X11_hangs (V 1000004 (i + 1)) (V 1000004 (i + 2)) V1 (fun s V2 => V2 602 0 = 0 ∧ r = s ∧ Rel (n + 1) V2 J0)) ∨ (c ≠ 0 ∧ W_X11_hangs (V 1000004 (i + 1)) (V 1000004 (i + 2)) V1 (fun s V2 => V2 602 0 = c ∧ Rel (n + 1) V2 J1))) 191 hB (hB.2.1 _ _) (hB.2.1 _ _) (t_hangs (P := (fun V2 J2 => Rel (n + 1) V2 J2)) hR (fun _ _ h => h)) (fun r V1 J1 hz hw => Or.inl ⟨rfl, r, J1, hz, rfl, hw⟩) (fun E V1 J1 h => by
    rcases h with ⟨e, w⟩ | ⟨e, w⟩
    · exact Or.inl ⟨e, Or.inr ⟨by decide, w⟩⟩
    · exact Or.inr ⟨e, Or.inr ⟨by decide, w⟩⟩))) (fun E S' I' J' hq => by obtain ⟨⟨_, _, _, e, _⟩, _⟩ := hq; cases e) (fun v S' I' J' hq => ?_)
  obtain ⟨⟨c, V1, J1, e, hn1, hI, hJ, hB1, hzc, hq⟩, hsc⟩ := hq
  cases e; subst hI; subst hJ
  have sc := scV.of hB hB1 hsc
  have sl := sc.1
  refine y_istore (L' := LE i (some (.int (iI c))) none none) Q_E_hangs (k := 13) rfl (by decide) rfl ?_
  refine z_aload_n Q_E_hangs (k := 14) rfl rfl ?_
  refine q_arg (i := i) (j := 1) hB1 Q_E_hangs (k := 15) rfl rfl rfl rfl rfl rfl rfl (by omega) (sc.2 _ (by omega)) ?_
  refine q_arg (i := i) (j := 2) hB1 Q_E_hangs (k := 20) rfl rfl rfl rfl rfl rfl rfl (by omega) (sc.2 _ (by omega)) ?_
  rcases hq with ⟨rfl, r, J0, hzr, rfl, hw⟩ | ⟨c0, hw⟩
  · refine z_callV (o := 602) (as := [.int (iI (V 1000004 (i + 1))), .int (iI (V 1000004 (i + 2)))]) Q_E_hangs (k := 25) rfl rfl K_X11_hangs V_X11_hangs L_L_217 (n_ hB1.1 rfl) (k_602 hB1.1) rfl rfl (Nat.le_of_ble_eq_true rfl) rfl (by decide) (Nat.zero_le _) (Nat.zero_le _) (Or.inl (fun o S' I' J' hq => by obtain ⟨_, _, _, e, _⟩ := hq; rw [e])) (w_X11_hangs 196 hB1 (hB.2.1 _ _) (hB.2.1 _ _) hw) (fun E S' I' J' hq => by obtain ⟨_, _, e, _⟩ := hq; cases e) (fun v S' I' J' hq => ?_)
    obtain ⟨s, V2, e, hS, hI, hJ, hB2, hzs, hq⟩ := hq
    cases e; subst hS; subst hI; subst hJ
    have sc2 := scV.of hB1 hB2 ⟨rfl, fun _ => rfl⟩
    refine y_istore (L' := LE i (some (.int (iI 0))) (some (.int (iI s))) none) Q_E_hangs (k := 26) rfl (by decide) rfl ?_
    refine z_aload_n Q_E_hangs (k := 27) rfl rfl ?_
    refine q_callV0_i Q_E_hangs (k := 28) rfl rfl K_X11_thrown V_X11_thrown L_L_144 (n_ hB2.1 rfl) (k_602 hB2.1) (Nat.le_of_ble_eq_true rfl) (Nat.le_of_ble_eq_true rfl) rfl (Nat.zero_le _) (Nat.zero_le _) (w_X11_thrown 199 hB2 (Q := fun r => r = V2 602 0) rfl) (fun t hzt ht => ?_)
    refine z_iload Q_E_hangs (k := 29) rfl rfl ?_
    refine y_icmp_eq 1589 Q_E_hangs (k := 30) rfl (by decide) hzt ⟨by decide, by decide⟩ (fun _ => ?_) (fun h => absurd (ht.trans hq.1) h)
    refine z_iload Q_E_hangs (k := 33) rfl rfl ?_
    refine y_if_ne 1606 Q_E_hangs (k := 34) rfl (by decide) ⟨by decide, by decide⟩ (fun h => absurd rfl h) (fun _ => ?_)
    refine z_aload_n Q_E_hangs (k := 35) rfl rfl ?_
    refine y_iconst Q_E_hangs (k := 36) rfl ?_
    refine q_lald (z := 0) (N := 1) (o := 624) Q_E_hangs (k := 37) rfl rfl (n_ hB2.1 rfl) (k_624 hB2.1) rfl ⟨by decide, by decide⟩ (by decide) ?_
    refine z_iload Q_E_hangs (k := 38) rfl rfl ?_
    refine z_i2l Q_E_hangs (k := 39) rfl ?_
    refine y_lcmp Q_E_hangs (k := 40) rfl ?_
    refine y_if_eq 1606 Q_E_hangs (k := 41) rfl (by decide) (zlc_r _ _) (fun _ => ?_) (fun h => absurd (zlc_0.mpr (by rw [qu_s, hq.2.1])) h)
    exact z_goto Q_E_hangs (k := 44) (tgt := 2907) rfl (by decide) (((kk _ V2 _ hB2 (hq.2.2.out _) (sc.tr sc2)).wid (by omega) (by omega)).sub LE_f)
  · refine z_callV (o := 602) (as := [.int (iI (V 1000004 (i + 1))), .int (iI (V 1000004 (i + 2)))]) Q_E_hangs (k := 25) rfl rfl K_X11_hangs V_X11_hangs L_L_217 (n_ hB1.1 rfl) (k_602 hB1.1) rfl rfl (Nat.le_of_ble_eq_true rfl) rfl (by decide) (Nat.zero_le _) (Nat.zero_le _) (Or.inl (fun o S' I' J' hq => by obtain ⟨_, _, _, e, _⟩ := hq; rw [e])) (w_X11_hangs 196 hB1 (hB.2.1 _ _) (hB.2.1 _ _) hw) (fun E S' I' J' hq => by obtain ⟨_, _, e, _⟩ := hq; cases e) (fun v S' I' J' hq => ?_)
    obtain ⟨s, V2, e, hS, hI, hJ, hB2, hzs, hq⟩ := hq
    cases e; subst hS; subst hI; subst hJ
    have sc2 := scV.of hB1 hB2 ⟨rfl, fun _ => rfl⟩
    refine y_istore (L' := LE i (some (.int (iI c))) (some (.int (iI s))) none) Q_E_hangs (k := 26) rfl (by decide) rfl ?_
    refine z_aload_n Q_E_hangs (k := 27) rfl rfl ?_
    refine q_callV0_i Q_E_hangs (k := 28) rfl rfl K_X11_thrown V_X11_thrown L_L_144 (n_ hB2.1 rfl) (k_602 hB2.1) (Nat.le_of_ble_eq_true rfl) (Nat.le_of_ble_eq_true rfl) rfl (Nat.zero_le _) (Nat.zero_le _) (w_X11_thrown 199 hB2 (Q := fun r => r = V2 602 0) rfl) (fun t hzt ht => ?_)
    refine z_iload Q_E_hangs (k := 29) rfl rfl ?_
    refine y_icmp_eq 1589 Q_E_hangs (k := 30) rfl (by decide) hzt hzc (fun _ => ?_) (fun h => absurd (ht.trans hq.1) h)
    refine z_iload Q_E_hangs (k := 33) rfl rfl ?_
    refine y_if_ne 1606 Q_E_hangs (k := 34) rfl (by decide) hzc (fun _ => ?_) (fun h => absurd h c0)
    exact z_goto Q_E_hangs (k := 44) (tgt := 2907) rfl (by decide) (((kk _ V2 J1 hB2 hq.2 (sc.tr sc2)).wid (by omega) (by omega)).sub LE_f)
def T_E_settles : zTb := [(1609, .aload_n 1, 1, 1610), (1610, .aload_n 0, 1, 1611), (1611, .iload 4, 2, 1613), (1613, .iconst 1, 1, 1614), (1614, .iadd, 1, 1615), (1615, .iaload, 1, 1616), (1616, .aload_n 0, 1, 1617), (1617, .iload 4, 2, 1619), (1619, .iconst 2, 1, 1620), (1620, .iadd, 1, 1621), (1621, .iaload, 1, 1622), (1622, .aload_n 3, 1, 1623), (1623, .invokestatic 218, 3, 1626), (1626, .istore 5, 2, 1628), (1628, .aload_n 2, 1, 1629), (1629, .aload_n 0, 1, 1630), (1630, .iload 4, 2, 1632), (1632, .iconst 1, 1, 1633), (1633, .iadd, 1, 1634), (1634, .iaload, 1, 1635), (1635, .aload_n 0, 1, 1636), (1636, .iload 4, 2, 1638), (1638, .iconst 2, 1, 1639), (1639, .iadd, 1, 1640), (1640, .iaload, 1, 1641), (1641, .invokevirtual 220, 3, 1644), (1644, .istore 6, 2, 1646), (1646, .aload_n 2, 1, 1647), (1647, .invokevirtual 144, 3, 1650), (1650, .iload 5, 2, 1652), (1652, .if_icmp .eq 5, 3, 1655), (1655, .iconst 0, 1, 1656), (1656, .ireturn, 1, 1657), (1657, .iload 5, 2, 1659), (1659, .ifCond .ne 15, 3, 1662), (1662, .aload_n 3, 1, 1663), (1663, .iconst 0, 1, 1664), (1664, .laload, 1, 1665), (1665, .iload 6, 2, 1667), (1667, .i2l, 1, 1668), (1668, .lcmp, 1, 1669), (1669, .ifCond .eq 5, 3, 1672), (1672, .iconst 0, 1, 1673), (1673, .ireturn, 1, 1674), (1674, .goto 1233, 3, 1677)]
set_option maxRecDepth 20000 in
theorem Q_E_settles : zT M_E T_E_settles := zT_of (by decide +kernel)
theorem e_settles {S : zS} {V : qV} {J : qJ} {n i : Int} {kc ks : Nat} (hn : n ≤ 90000) (hB : qB S V) (hR : Rel n V J) (hi : 0 ≤ i ∧ i + 5 < V 1000005 0) (h1 : 67 ≤ kc) (h2 : 402 ≤ ks) (kk : ∀ S' V' J', qB S' V' → Rel (n + 1) V' J' → scV V V' → Z M_E 200 (kc - 67) (ks - 402) 2907 (LE i none none none) [] S' (qi V') (qj J') QE) : Z M_E 200 kc ks 1609 (LE i none none none) [] S (qi V) (qj J) QE := by
  refine z_aload_n Q_E_settles (k := 0) rfl rfl ?_
  refine q_arg (i := i) (j := 1) hB Q_E_settles (k := 1) rfl rfl rfl rfl rfl rfl rfl (by omega) rfl ?_
  refine q_arg (i := i) (j := 2) hB Q_E_settles (k := 6) rfl rfl rfl rfl rfl rfl rfl (by omega) rfl ?_
  refine z_aload_n Q_E_settles (k := 11) rfl rfl ?_
  refine z_callSH (as := [.ref 0, .int (iI (V 1000004 (i + 1))), .int (iI (V 1000004 (i + 2))), .ref 624]) Q_E_settles (k := 12) rfl rfl K_L_settles L_L_218 rfl rfl (Nat.le_of_ble_eq_true rfl) rfl (by decide) (show 2 ≤ kc by omega) (show 12 ≤ ks by omega) (Or.inr (zRbE hB.1.1)) (Z.scr (w_L_settles (Q := fun c V1 J1 => (c = 0 ∧ ∃ (r : Int) (J0 : qJ), zr r ∧ J1 = qu J0 624 0 (iI r).toInt64 ∧ W_X11_settles (V 1000004 (i + 1)) (V 1000004 (i + 2)) V1 (fun s V2 => V2 602 0 = 0 ∧ r = s ∧ Rel (n + 1) V2 J0)) ∨ (c ≠ 0 ∧ W_X11_settles (V 1000004 (i + 1)) (V 1000004 (i + 2)) V1 (fun s V2 => V2 602 0 = c ∧ Rel (n + 1) V2 J1))) 191 hB (hB.2.1 _ _) (hB.2.1 _ _) (t_settles (P := (fun V2 J2 => Rel (n + 1) V2 J2)) hn hR (fun _ _ h => h)) (fun r V1 J1 hz hw => Or.inl ⟨rfl, r, J1, hz, rfl, hw⟩) (fun E V1 J1 h => by
    rcases h with ⟨e, w⟩ | ⟨e, w⟩
    · exact Or.inl ⟨e, Or.inr ⟨by decide, w⟩⟩
    · exact Or.inr ⟨e, Or.inr ⟨by decide, w⟩⟩))) (fun E S' I' J' hq => by obtain ⟨⟨_, _, _, e, _⟩, _⟩ := hq; cases e) (fun v S' I' J' hq => ?_)
  obtain ⟨⟨c, V1, J1, e, hn1, hI, hJ, hB1, hzc, hq⟩, hsc⟩ := hq
  cases e; subst hI; subst hJ
  have sc := scV.of hB hB1 hsc
  have sl := sc.1
  refine y_istore (L' := LE i (some (.int (iI c))) none none) Q_E_settles (k := 13) rfl (by decide) rfl ?_
  refine z_aload_n Q_E_settles (k := 14) rfl rfl ?_
  refine q_arg (i := i) (j := 1) hB1 Q_E_settles (k := 15) rfl rfl rfl rfl rfl rfl rfl (by omega) (sc.2 _ (by omega)) ?_
  refine q_arg (i := i) (j := 2) hB1 Q_E_settles (k := 20) rfl rfl rfl rfl rfl rfl rfl (by omega) (sc.2 _ (by omega)) ?_
  rcases hq with ⟨rfl, r, J0, hzr, rfl, hw⟩ | ⟨c0, hw⟩
  · refine z_callV (o := 602) (as := [.int (iI (V 1000004 (i + 1))), .int (iI (V 1000004 (i + 2)))]) Q_E_settles (k := 25) rfl rfl K_X11_settles V_X11_settles L_L_220 (n_ hB1.1 rfl) (k_602 hB1.1) rfl rfl (Nat.le_of_ble_eq_true rfl) rfl (by decide) (Nat.zero_le _) (Nat.zero_le _) (Or.inl (fun o S' I' J' hq => by obtain ⟨_, _, _, e, _⟩ := hq; rw [e])) (w_X11_settles 196 hB1 (hB.2.1 _ _) (hB.2.1 _ _) hw) (fun E S' I' J' hq => by obtain ⟨_, _, e, _⟩ := hq; cases e) (fun v S' I' J' hq => ?_)
    obtain ⟨s, V2, e, hS, hI, hJ, hB2, hzs, hq⟩ := hq
    cases e; subst hS; subst hI; subst hJ
    have sc2 := scV.of hB1 hB2 ⟨rfl, fun _ => rfl⟩
    refine y_istore (L' := LE i (some (.int (iI 0))) (some (.int (iI s))) none) Q_E_settles (k := 26) rfl (by decide) rfl ?_
    refine z_aload_n Q_E_settles (k := 27) rfl rfl ?_
    refine q_callV0_i Q_E_settles (k := 28) rfl rfl K_X11_thrown V_X11_thrown L_L_144 (n_ hB2.1 rfl) (k_602 hB2.1) (Nat.le_of_ble_eq_true rfl) (Nat.le_of_ble_eq_true rfl) rfl (Nat.zero_le _) (Nat.zero_le _) (w_X11_thrown 199 hB2 (Q := fun r => r = V2 602 0) rfl) (fun t hzt ht => ?_)
    refine z_iload Q_E_settles (k := 29) rfl rfl ?_
    refine y_icmp_eq 1657 Q_E_settles (k := 30) rfl (by decide) hzt ⟨by decide, by decide⟩ (fun _ => ?_) (fun h => absurd (ht.trans hq.1) h)
    refine z_iload Q_E_settles (k := 33) rfl rfl ?_
    refine y_if_ne 1674 Q_E_settles (k := 34) rfl (by decide) ⟨by decide, by decide⟩ (fun h => absurd rfl h) (fun _ => ?_)
    refine z_aload_n Q_E_settles (k := 35) rfl rfl ?_
    refine y_iconst Q_E_settles (k := 36) rfl ?_
    refine q_lald (z := 0) (N := 1) (o := 624) Q_E_settles (k := 37) rfl rfl (n_ hB2.1 rfl) (k_624 hB2.1) rfl ⟨by decide, by decide⟩ (by decide) ?_
    refine z_iload Q_E_settles (k := 38) rfl rfl ?_
    refine z_i2l Q_E_settles (k := 39) rfl ?_
    refine y_lcmp Q_E_settles (k := 40) rfl ?_
    refine y_if_eq 1674 Q_E_settles (k := 41) rfl (by decide) (zlc_r _ _) (fun _ => ?_) (fun h => absurd (zlc_0.mpr (by rw [qu_s, hq.2.1])) h)
    exact z_goto Q_E_settles (k := 44) (tgt := 2907) rfl (by decide) (((kk _ V2 _ hB2 (hq.2.2.out _) (sc.tr sc2)).wid (by omega) (by omega)).sub LE_f)
  · refine z_callV (o := 602) (as := [.int (iI (V 1000004 (i + 1))), .int (iI (V 1000004 (i + 2)))]) Q_E_settles (k := 25) rfl rfl K_X11_settles V_X11_settles L_L_220 (n_ hB1.1 rfl) (k_602 hB1.1) rfl rfl (Nat.le_of_ble_eq_true rfl) rfl (by decide) (Nat.zero_le _) (Nat.zero_le _) (Or.inl (fun o S' I' J' hq => by obtain ⟨_, _, _, e, _⟩ := hq; rw [e])) (w_X11_settles 196 hB1 (hB.2.1 _ _) (hB.2.1 _ _) hw) (fun E S' I' J' hq => by obtain ⟨_, _, e, _⟩ := hq; cases e) (fun v S' I' J' hq => ?_)
    obtain ⟨s, V2, e, hS, hI, hJ, hB2, hzs, hq⟩ := hq
    cases e; subst hS; subst hI; subst hJ
    have sc2 := scV.of hB1 hB2 ⟨rfl, fun _ => rfl⟩
    refine y_istore (L' := LE i (some (.int (iI c))) (some (.int (iI s))) none) Q_E_settles (k := 26) rfl (by decide) rfl ?_
    refine z_aload_n Q_E_settles (k := 27) rfl rfl ?_
    refine q_callV0_i Q_E_settles (k := 28) rfl rfl K_X11_thrown V_X11_thrown L_L_144 (n_ hB2.1 rfl) (k_602 hB2.1) (Nat.le_of_ble_eq_true rfl) (Nat.le_of_ble_eq_true rfl) rfl (Nat.zero_le _) (Nat.zero_le _) (w_X11_thrown 199 hB2 (Q := fun r => r = V2 602 0) rfl) (fun t hzt ht => ?_)
    refine z_iload Q_E_settles (k := 29) rfl rfl ?_
    refine y_icmp_eq 1657 Q_E_settles (k := 30) rfl (by decide) hzt hzc (fun _ => ?_) (fun h => absurd (ht.trans hq.1) h)
    refine z_iload Q_E_settles (k := 33) rfl rfl ?_
    refine y_if_ne 1674 Q_E_settles (k := 34) rfl (by decide) hzc (fun _ => ?_) (fun h => absurd h c0)
    exact z_goto Q_E_settles (k := 44) (tgt := 2907) rfl (by decide) (((kk _ V2 J1 hB2 hq.2 (sc.tr sc2)).wid (by omega) (by omega)).sub LE_f)
def T_E_claim : zTb := [(1813, .aload_n 1, 1, 1814), (1814, .aload_n 0, 1, 1815), (1815, .iload 4, 2, 1817), (1817, .iconst 1, 1, 1818), (1818, .iadd, 1, 1819), (1819, .iaload, 1, 1820), (1820, .aload_n 0, 1, 1821), (1821, .iload 4, 2, 1823), (1823, .iconst 2, 1, 1824), (1824, .iadd, 1, 1825), (1825, .iaload, 1, 1826), (1826, .aload_n 0, 1, 1827), (1827, .iload 4, 2, 1829), (1829, .iconst 3, 1, 1830), (1830, .iadd, 1, 1831), (1831, .iaload, 1, 1832), (1832, .aload_n 3, 1, 1833), (1833, .invokestatic 227, 3, 1836), (1836, .istore 5, 2, 1838), (1838, .aload_n 2, 1, 1839), (1839, .aload_n 0, 1, 1840), (1840, .iload 4, 2, 1842), (1842, .iconst 1, 1, 1843), (1843, .iadd, 1, 1844), (1844, .iaload, 1, 1845), (1845, .aload_n 0, 1, 1846), (1846, .iload 4, 2, 1848), (1848, .iconst 2, 1, 1849), (1849, .iadd, 1, 1850), (1850, .iaload, 1, 1851), (1851, .aload_n 0, 1, 1852), (1852, .iload 4, 2, 1854), (1854, .iconst 3, 1, 1855), (1855, .iadd, 1, 1856), (1856, .iaload, 1, 1857), (1857, .invokevirtual 229, 3, 1860), (1860, .istore 6, 2, 1862), (1862, .aload_n 2, 1, 1863), (1863, .invokevirtual 144, 3, 1866), (1866, .iload 5, 2, 1868), (1868, .if_icmp .eq 5, 3, 1871), (1871, .iconst 0, 1, 1872), (1872, .ireturn, 1, 1873), (1873, .iload 5, 2, 1875), (1875, .ifCond .ne 15, 3, 1878), (1878, .aload_n 3, 1, 1879), (1879, .iconst 0, 1, 1880), (1880, .laload, 1, 1881), (1881, .iload 6, 2, 1883), (1883, .i2l, 1, 1884), (1884, .lcmp, 1, 1885), (1885, .ifCond .eq 5, 3, 1888), (1888, .iconst 0, 1, 1889), (1889, .ireturn, 1, 1890), (1890, .goto 1017, 3, 1893)]
set_option maxRecDepth 20000 in
theorem Q_E_claim : zT M_E T_E_claim := zT_of (by decide +kernel)
theorem e_claim {S : zS} {V : qV} {J : qJ} {n i : Int} {kc ks : Nat} (hB : qB S V) (hR : Rel n V J) (hi : 0 ≤ i ∧ i + 5 < V 1000005 0) (h1 : 67 ≤ kc) (h2 : 402 ≤ ks) (kk : ∀ S' V' J', qB S' V' → Rel (n + 1) V' J' → scV V V' → Z M_E 200 (kc - 67) (ks - 402) 2907 (LE i none none none) [] S' (qi V') (qj J') QE) : Z M_E 200 kc ks 1813 (LE i none none none) [] S (qi V) (qj J) QE := by
  refine z_aload_n Q_E_claim (k := 0) rfl rfl ?_
  refine q_arg (i := i) (j := 1) hB Q_E_claim (k := 1) rfl rfl rfl rfl rfl rfl rfl (by omega) rfl ?_
  refine q_arg (i := i) (j := 2) hB Q_E_claim (k := 6) rfl rfl rfl rfl rfl rfl rfl (by omega) rfl ?_
  refine q_arg (i := i) (j := 3) hB Q_E_claim (k := 11) rfl rfl rfl rfl rfl rfl rfl (by omega) rfl ?_
  refine z_aload_n Q_E_claim (k := 16) rfl rfl ?_
  refine z_callSH (as := [.ref 0, .int (iI (V 1000004 (i + 1))), .int (iI (V 1000004 (i + 2))), .int (iI (V 1000004 (i + 3))), .ref 624]) Q_E_claim (k := 17) rfl rfl K_L_claim L_L_227 rfl rfl (Nat.le_of_ble_eq_true rfl) rfl (by decide) (show 3 ≤ kc by omega) (show 18 ≤ ks by omega) (Or.inr (zRbE hB.1.1)) (Z.scr (w_L_claim (Q := fun c V1 J1 => (c = 0 ∧ ∃ (r : Int) (J0 : qJ), zr r ∧ J1 = qu J0 624 0 (iI r).toInt64 ∧ W_X11_claim (V 1000004 (i + 1)) (V 1000004 (i + 2)) (V 1000004 (i + 3)) V1 (fun s V2 => V2 602 0 = 0 ∧ r = s ∧ Rel (n + 1) V2 J0)) ∨ (c ≠ 0 ∧ W_X11_claim (V 1000004 (i + 1)) (V 1000004 (i + 2)) (V 1000004 (i + 3)) V1 (fun s V2 => V2 602 0 = c ∧ Rel (n + 1) V2 J1))) 197 hB (hB.2.1 _ _) (hB.2.1 _ _) (hB.2.1 _ _) (t_claim (P := (fun V2 => Rel (n + 1) V2 J)) hR (fun _ h => h)) (fun r V1 hz hw => Or.inl ⟨rfl, r, J, hz, rfl, hw⟩) (fun E V1 h => by
    rcases h with ⟨e, w⟩ | ⟨e, w⟩ | ⟨e, w⟩
    · exact Or.inl ⟨e, Or.inr ⟨by decide, w⟩⟩
    · exact Or.inr (Or.inl ⟨e, Or.inr ⟨by decide, w⟩⟩)
    · exact Or.inr (Or.inr ⟨e, Or.inr ⟨by decide, w⟩⟩)))) (fun E S' I' J' hq => by obtain ⟨⟨_, _, _, e, _⟩, _⟩ := hq; cases e) (fun v S' I' J' hq => ?_)
  obtain ⟨⟨c, V1, J1, e, hn1, hI, hJ, hB1, hzc, hq⟩, hsc⟩ := hq
  cases e; subst hI; subst hJ
  have sc := scV.of hB hB1 hsc
  have sl := sc.1
  refine y_istore (L' := LE i (some (.int (iI c))) none none) Q_E_claim (k := 18) rfl (by decide) rfl ?_
  refine z_aload_n Q_E_claim (k := 19) rfl rfl ?_
  refine q_arg (i := i) (j := 1) hB1 Q_E_claim (k := 20) rfl rfl rfl rfl rfl rfl rfl (by omega) (sc.2 _ (by omega)) ?_
  refine q_arg (i := i) (j := 2) hB1 Q_E_claim (k := 25) rfl rfl rfl rfl rfl rfl rfl (by omega) (sc.2 _ (by omega)) ?_
  refine q_arg (i := i) (j := 3) hB1 Q_E_claim (k := 30) rfl rfl rfl rfl rfl rfl rfl (by omega) (sc.2 _ (by omega)) ?_
  rcases hq with ⟨rfl, r, J0, hzr, rfl, hw⟩ | ⟨c0, hw⟩
  · refine z_callV (o := 602) (as := [.int (iI (V 1000004 (i + 1))), .int (iI (V 1000004 (i + 2))), .int (iI (V 1000004 (i + 3)))]) Q_E_claim (k := 35) rfl rfl K_X11_claim V_X11_claim L_L_229 (n_ hB1.1 rfl) (k_602 hB1.1) rfl rfl (Nat.le_of_ble_eq_true rfl) rfl (by decide) (Nat.zero_le _) (Nat.zero_le _) (Or.inl (fun o S' I' J' hq => by obtain ⟨_, _, _, e, _⟩ := hq; rw [e])) (w_X11_claim 197 hB1 (hB.2.1 _ _) (hB.2.1 _ _) (hB.2.1 _ _) hw) (fun E S' I' J' hq => by obtain ⟨_, _, e, _⟩ := hq; cases e) (fun v S' I' J' hq => ?_)
    obtain ⟨s, V2, e, hS, hI, hJ, hB2, hzs, hq⟩ := hq
    cases e; subst hS; subst hI; subst hJ
    have sc2 := scV.of hB1 hB2 ⟨rfl, fun _ => rfl⟩
    refine y_istore (L' := LE i (some (.int (iI 0))) (some (.int (iI s))) none) Q_E_claim (k := 36) rfl (by decide) rfl ?_
    refine z_aload_n Q_E_claim (k := 37) rfl rfl ?_
    refine q_callV0_i Q_E_claim (k := 38) rfl rfl K_X11_thrown V_X11_thrown L_L_144 (n_ hB2.1 rfl) (k_602 hB2.1) (Nat.le_of_ble_eq_true rfl) (Nat.le_of_ble_eq_true rfl) rfl (Nat.zero_le _) (Nat.zero_le _) (w_X11_thrown 199 hB2 (Q := fun r => r = V2 602 0) rfl) (fun t hzt ht => ?_)
    refine z_iload Q_E_claim (k := 39) rfl rfl ?_
    refine y_icmp_eq 1873 Q_E_claim (k := 40) rfl (by decide) hzt ⟨by decide, by decide⟩ (fun _ => ?_) (fun h => absurd (ht.trans hq.1) h)
    refine z_iload Q_E_claim (k := 43) rfl rfl ?_
    refine y_if_ne 1890 Q_E_claim (k := 44) rfl (by decide) ⟨by decide, by decide⟩ (fun h => absurd rfl h) (fun _ => ?_)
    refine z_aload_n Q_E_claim (k := 45) rfl rfl ?_
    refine y_iconst Q_E_claim (k := 46) rfl ?_
    refine q_lald (z := 0) (N := 1) (o := 624) Q_E_claim (k := 47) rfl rfl (n_ hB2.1 rfl) (k_624 hB2.1) rfl ⟨by decide, by decide⟩ (by decide) ?_
    refine z_iload Q_E_claim (k := 48) rfl rfl ?_
    refine z_i2l Q_E_claim (k := 49) rfl ?_
    refine y_lcmp Q_E_claim (k := 50) rfl ?_
    refine y_if_eq 1890 Q_E_claim (k := 51) rfl (by decide) (zlc_r _ _) (fun _ => ?_) (fun h => absurd (zlc_0.mpr (by rw [qu_s, hq.2.1])) h)
    exact z_goto Q_E_claim (k := 54) (tgt := 2907) rfl (by decide) (((kk _ V2 _ hB2 (hq.2.2.out _) (sc.tr sc2)).wid (by omega) (by omega)).sub LE_f)
  · refine z_callV (o := 602) (as := [.int (iI (V 1000004 (i + 1))), .int (iI (V 1000004 (i + 2))), .int (iI (V 1000004 (i + 3)))]) Q_E_claim (k := 35) rfl rfl K_X11_claim V_X11_claim L_L_229 (n_ hB1.1 rfl) (k_602 hB1.1) rfl rfl (Nat.le_of_ble_eq_true rfl) rfl (by decide) (Nat.zero_le _) (Nat.zero_le _) (Or.inl (fun o S' I' J' hq => by obtain ⟨_, _, _, e, _⟩ := hq; rw [e])) (w_X11_claim 197 hB1 (hB.2.1 _ _) (hB.2.1 _ _) (hB.2.1 _ _) hw) (fun E S' I' J' hq => by obtain ⟨_, _, e, _⟩ := hq; cases e) (fun v S' I' J' hq => ?_)
    obtain ⟨s, V2, e, hS, hI, hJ, hB2, hzs, hq⟩ := hq
    cases e; subst hS; subst hI; subst hJ
    have sc2 := scV.of hB1 hB2 ⟨rfl, fun _ => rfl⟩
    refine y_istore (L' := LE i (some (.int (iI c))) (some (.int (iI s))) none) Q_E_claim (k := 36) rfl (by decide) rfl ?_
    refine z_aload_n Q_E_claim (k := 37) rfl rfl ?_
    refine q_callV0_i Q_E_claim (k := 38) rfl rfl K_X11_thrown V_X11_thrown L_L_144 (n_ hB2.1 rfl) (k_602 hB2.1) (Nat.le_of_ble_eq_true rfl) (Nat.le_of_ble_eq_true rfl) rfl (Nat.zero_le _) (Nat.zero_le _) (w_X11_thrown 199 hB2 (Q := fun r => r = V2 602 0) rfl) (fun t hzt ht => ?_)
    refine z_iload Q_E_claim (k := 39) rfl rfl ?_
    refine y_icmp_eq 1873 Q_E_claim (k := 40) rfl (by decide) hzt hzc (fun _ => ?_) (fun h => absurd (ht.trans hq.1) h)
    refine z_iload Q_E_claim (k := 43) rfl rfl ?_
    refine y_if_ne 1890 Q_E_claim (k := 44) rfl (by decide) hzc (fun _ => ?_) (fun h => absurd h c0)
    exact z_goto Q_E_claim (k := 54) (tgt := 2907) rfl (by decide) (((kk _ V2 J1 hB2 hq.2 (sc.tr sc2)).wid (by omega) (by omega)).sub LE_f)
def T_E_claimed : zTb := [(1893, .aload_n 1, 1, 1894), (1894, .aload_n 0, 1, 1895), (1895, .iload 4, 2, 1897), (1897, .iconst 1, 1, 1898), (1898, .iadd, 1, 1899), (1899, .iaload, 1, 1900), (1900, .aload_n 0, 1, 1901), (1901, .iload 4, 2, 1903), (1903, .iconst 2, 1, 1904), (1904, .iadd, 1, 1905), (1905, .iaload, 1, 1906), (1906, .aload_n 3, 1, 1907), (1907, .invokestatic 230, 3, 1910), (1910, .istore 5, 2, 1912), (1912, .aload_n 2, 1, 1913), (1913, .aload_n 0, 1, 1914), (1914, .iload 4, 2, 1916), (1916, .iconst 1, 1, 1917), (1917, .iadd, 1, 1918), (1918, .iaload, 1, 1919), (1919, .aload_n 0, 1, 1920), (1920, .iload 4, 2, 1922), (1922, .iconst 2, 1, 1923), (1923, .iadd, 1, 1924), (1924, .iaload, 1, 1925), (1925, .invokevirtual 232, 3, 1928), (1928, .istore 6, 2, 1930), (1930, .aload_n 2, 1, 1931), (1931, .invokevirtual 144, 3, 1934), (1934, .iload 5, 2, 1936), (1936, .if_icmp .eq 5, 3, 1939), (1939, .iconst 0, 1, 1940), (1940, .ireturn, 1, 1941), (1941, .iload 5, 2, 1943), (1943, .ifCond .ne 15, 3, 1946), (1946, .aload_n 3, 1, 1947), (1947, .iconst 0, 1, 1948), (1948, .laload, 1, 1949), (1949, .iload 6, 2, 1951), (1951, .i2l, 1, 1952), (1952, .lcmp, 1, 1953), (1953, .ifCond .eq 5, 3, 1956), (1956, .iconst 0, 1, 1957), (1957, .ireturn, 1, 1958), (1958, .goto 949, 3, 1961)]
set_option maxRecDepth 20000 in
theorem Q_E_claimed : zT M_E T_E_claimed := zT_of (by decide +kernel)
theorem e_claimed {S : zS} {V : qV} {J : qJ} {n i : Int} {kc ks : Nat} (hB : qB S V) (hR : Rel n V J) (hi : 0 ≤ i ∧ i + 5 < V 1000005 0) (h1 : 67 ≤ kc) (h2 : 402 ≤ ks) (kk : ∀ S' V' J', qB S' V' → Rel (n + 1) V' J' → scV V V' → Z M_E 200 (kc - 67) (ks - 402) 2907 (LE i none none none) [] S' (qi V') (qj J') QE) : Z M_E 200 kc ks 1893 (LE i none none none) [] S (qi V) (qj J) QE := by
  refine z_aload_n Q_E_claimed (k := 0) rfl rfl ?_
  refine q_arg (i := i) (j := 1) hB Q_E_claimed (k := 1) rfl rfl rfl rfl rfl rfl rfl (by omega) rfl ?_
  refine q_arg (i := i) (j := 2) hB Q_E_claimed (k := 6) rfl rfl rfl rfl rfl rfl rfl (by omega) rfl ?_
  refine z_aload_n Q_E_claimed (k := 11) rfl rfl ?_
  refine z_callSH (as := [.ref 0, .int (iI (V 1000004 (i + 1))), .int (iI (V 1000004 (i + 2))), .ref 624]) Q_E_claimed (k := 12) rfl rfl K_L_claimed L_L_230 rfl rfl (Nat.le_of_ble_eq_true rfl) rfl (by decide) (show 1 ≤ kc by omega) (show 6 ≤ ks by omega) (Or.inr (zRbE hB.1.1)) (Z.scr (w_L_claimed (Q := fun c V1 J1 => (c = 0 ∧ ∃ (r : Int) (J0 : qJ), zr r ∧ J1 = qu J0 624 0 (iI r).toInt64 ∧ W_X11_claimed (V 1000004 (i + 1)) (V 1000004 (i + 2)) V1 (fun s V2 => V2 602 0 = 0 ∧ r = s ∧ Rel (n + 1) V2 J0)) ∨ (c ≠ 0 ∧ W_X11_claimed (V 1000004 (i + 1)) (V 1000004 (i + 2)) V1 (fun s V2 => V2 602 0 = c ∧ Rel (n + 1) V2 J1))) 197 hB (hB.2.1 _ _) (hB.2.1 _ _) (t_claimed (P := (fun V2 => Rel (n + 1) V2 J)) hR (fun _ h => h)) (fun r hz hw => Or.inl ⟨rfl, r, J, hz, rfl, hw⟩) (fun E h => by
    rcases h with ⟨e, w⟩ | ⟨e, w⟩
    · exact Or.inl ⟨e, Or.inr ⟨by decide, w⟩⟩
    · exact Or.inr ⟨e, Or.inr ⟨by decide, w⟩⟩))) (fun E S' I' J' hq => by obtain ⟨⟨_, _, _, e, _⟩, _⟩ := hq; cases e) (fun v S' I' J' hq => ?_)
  obtain ⟨⟨c, V1, J1, e, hn1, hI, hJ, hB1, hzc, hq⟩, hsc⟩ := hq
  cases e; subst hI; subst hJ
  have sc := scV.of hB hB1 hsc
  have sl := sc.1
  refine y_istore (L' := LE i (some (.int (iI c))) none none) Q_E_claimed (k := 13) rfl (by decide) rfl ?_
  refine z_aload_n Q_E_claimed (k := 14) rfl rfl ?_
  refine q_arg (i := i) (j := 1) hB1 Q_E_claimed (k := 15) rfl rfl rfl rfl rfl rfl rfl (by omega) (sc.2 _ (by omega)) ?_
  refine q_arg (i := i) (j := 2) hB1 Q_E_claimed (k := 20) rfl rfl rfl rfl rfl rfl rfl (by omega) (sc.2 _ (by omega)) ?_
  rcases hq with ⟨rfl, r, J0, hzr, rfl, hw⟩ | ⟨c0, hw⟩
  · refine z_callV (o := 602) (as := [.int (iI (V 1000004 (i + 1))), .int (iI (V 1000004 (i + 2)))]) Q_E_claimed (k := 25) rfl rfl K_X11_claimed V_X11_claimed L_L_232 (n_ hB1.1 rfl) (k_602 hB1.1) rfl rfl (Nat.le_of_ble_eq_true rfl) rfl (by decide) (Nat.zero_le _) (Nat.zero_le _) (Or.inl (fun o S' I' J' hq => by obtain ⟨_, _, _, e, _⟩ := hq; rw [e])) (w_X11_claimed 197 hB1 (hB.2.1 _ _) (hB.2.1 _ _) hw) (fun E S' I' J' hq => by obtain ⟨_, _, e, _⟩ := hq; cases e) (fun v S' I' J' hq => ?_)
    obtain ⟨s, V2, e, hS, hI, hJ, hB2, hzs, hq⟩ := hq
    cases e; subst hS; subst hI; subst hJ
    have sc2 := scV.of hB1 hB2 ⟨rfl, fun _ => rfl⟩
    refine y_istore (L' := LE i (some (.int (iI 0))) (some (.int (iI s))) none) Q_E_claimed (k := 26) rfl (by decide) rfl ?_
    refine z_aload_n Q_E_claimed (k := 27) rfl rfl ?_
    refine q_callV0_i Q_E_claimed (k := 28) rfl rfl K_X11_thrown V_X11_thrown L_L_144 (n_ hB2.1 rfl) (k_602 hB2.1) (Nat.le_of_ble_eq_true rfl) (Nat.le_of_ble_eq_true rfl) rfl (Nat.zero_le _) (Nat.zero_le _) (w_X11_thrown 199 hB2 (Q := fun r => r = V2 602 0) rfl) (fun t hzt ht => ?_)
    refine z_iload Q_E_claimed (k := 29) rfl rfl ?_
    refine y_icmp_eq 1941 Q_E_claimed (k := 30) rfl (by decide) hzt ⟨by decide, by decide⟩ (fun _ => ?_) (fun h => absurd (ht.trans hq.1) h)
    refine z_iload Q_E_claimed (k := 33) rfl rfl ?_
    refine y_if_ne 1958 Q_E_claimed (k := 34) rfl (by decide) ⟨by decide, by decide⟩ (fun h => absurd rfl h) (fun _ => ?_)
    refine z_aload_n Q_E_claimed (k := 35) rfl rfl ?_
    refine y_iconst Q_E_claimed (k := 36) rfl ?_
    refine q_lald (z := 0) (N := 1) (o := 624) Q_E_claimed (k := 37) rfl rfl (n_ hB2.1 rfl) (k_624 hB2.1) rfl ⟨by decide, by decide⟩ (by decide) ?_
    refine z_iload Q_E_claimed (k := 38) rfl rfl ?_
    refine z_i2l Q_E_claimed (k := 39) rfl ?_
    refine y_lcmp Q_E_claimed (k := 40) rfl ?_
    refine y_if_eq 1958 Q_E_claimed (k := 41) rfl (by decide) (zlc_r _ _) (fun _ => ?_) (fun h => absurd (zlc_0.mpr (by rw [qu_s, hq.2.1])) h)
    exact z_goto Q_E_claimed (k := 44) (tgt := 2907) rfl (by decide) (((kk _ V2 _ hB2 (hq.2.2.out _) (sc.tr sc2)).wid (by omega) (by omega)).sub LE_f)
  · refine z_callV (o := 602) (as := [.int (iI (V 1000004 (i + 1))), .int (iI (V 1000004 (i + 2)))]) Q_E_claimed (k := 25) rfl rfl K_X11_claimed V_X11_claimed L_L_232 (n_ hB1.1 rfl) (k_602 hB1.1) rfl rfl (Nat.le_of_ble_eq_true rfl) rfl (by decide) (Nat.zero_le _) (Nat.zero_le _) (Or.inl (fun o S' I' J' hq => by obtain ⟨_, _, _, e, _⟩ := hq; rw [e])) (w_X11_claimed 197 hB1 (hB.2.1 _ _) (hB.2.1 _ _) hw) (fun E S' I' J' hq => by obtain ⟨_, _, e, _⟩ := hq; cases e) (fun v S' I' J' hq => ?_)
    obtain ⟨s, V2, e, hS, hI, hJ, hB2, hzs, hq⟩ := hq
    cases e; subst hS; subst hI; subst hJ
    have sc2 := scV.of hB1 hB2 ⟨rfl, fun _ => rfl⟩
    refine y_istore (L' := LE i (some (.int (iI c))) (some (.int (iI s))) none) Q_E_claimed (k := 26) rfl (by decide) rfl ?_
    refine z_aload_n Q_E_claimed (k := 27) rfl rfl ?_
    refine q_callV0_i Q_E_claimed (k := 28) rfl rfl K_X11_thrown V_X11_thrown L_L_144 (n_ hB2.1 rfl) (k_602 hB2.1) (Nat.le_of_ble_eq_true rfl) (Nat.le_of_ble_eq_true rfl) rfl (Nat.zero_le _) (Nat.zero_le _) (w_X11_thrown 199 hB2 (Q := fun r => r = V2 602 0) rfl) (fun t hzt ht => ?_)
    refine z_iload Q_E_claimed (k := 29) rfl rfl ?_
    refine y_icmp_eq 1941 Q_E_claimed (k := 30) rfl (by decide) hzt hzc (fun _ => ?_) (fun h => absurd (ht.trans hq.1) h)
    refine z_iload Q_E_claimed (k := 33) rfl rfl ?_
    refine y_if_ne 1958 Q_E_claimed (k := 34) rfl (by decide) hzc (fun _ => ?_) (fun h => absurd h c0)
    exact z_goto Q_E_claimed (k := 44) (tgt := 2907) rfl (by decide) (((kk _ V2 J1 hB2 hq.2 (sc.tr sc2)).wid (by omega) (by omega)).sub LE_f)
def T_E_best : zTb := [(1961, .aload_n 1, 1, 1962), (1962, .aload_n 0, 1, 1963), (1963, .iload 4, 2, 1965), (1965, .iconst 1, 1, 1966), (1966, .iadd, 1, 1967), (1967, .iaload, 1, 1968), (1968, .aload_n 3, 1, 1969), (1969, .invokestatic 233, 3, 1972), (1972, .istore 5, 2, 1974), (1974, .aload_n 2, 1, 1975), (1975, .aload_n 0, 1, 1976), (1976, .iload 4, 2, 1978), (1978, .iconst 1, 1, 1979), (1979, .iadd, 1, 1980), (1980, .iaload, 1, 1981), (1981, .invokevirtual 235, 3, 1984), (1984, .istore 6, 2, 1986), (1986, .aload_n 2, 1, 1987), (1987, .invokevirtual 144, 3, 1990), (1990, .iload 5, 2, 1992), (1992, .if_icmp .eq 5, 3, 1995), (1995, .iconst 0, 1, 1996), (1996, .ireturn, 1, 1997), (1997, .iload 5, 2, 1999), (1999, .ifCond .ne 15, 3, 2002), (2002, .aload_n 3, 1, 2003), (2003, .iconst 0, 1, 2004), (2004, .laload, 1, 2005), (2005, .iload 6, 2, 2007), (2007, .i2l, 1, 2008), (2008, .lcmp, 1, 2009), (2009, .ifCond .eq 5, 3, 2012), (2012, .iconst 0, 1, 2013), (2013, .ireturn, 1, 2014), (2014, .goto 893, 3, 2017)]
set_option maxRecDepth 20000 in
theorem Q_E_best : zT M_E T_E_best := zT_of (by decide +kernel)
theorem e_best {S : zS} {V : qV} {J : qJ} {n i : Int} {kc ks : Nat} (hB : qB S V) (hR : Rel n V J) (hi : 0 ≤ i ∧ i + 5 < V 1000005 0) (h1 : 67 ≤ kc) (h2 : 402 ≤ ks) (kk : ∀ S' V' J', qB S' V' → Rel (n + 1) V' J' → scV V V' → Z M_E 200 (kc - 67) (ks - 402) 2907 (LE i none none none) [] S' (qi V') (qj J') QE) : Z M_E 200 kc ks 1961 (LE i none none none) [] S (qi V) (qj J) QE := by
  refine z_aload_n Q_E_best (k := 0) rfl rfl ?_
  refine q_arg (i := i) (j := 1) hB Q_E_best (k := 1) rfl rfl rfl rfl rfl rfl rfl (by omega) rfl ?_
  refine z_aload_n Q_E_best (k := 6) rfl rfl ?_
  refine z_callSH (as := [.ref 0, .int (iI (V 1000004 (i + 1))), .ref 624]) Q_E_best (k := 7) rfl rfl K_L_best L_L_233 rfl rfl (Nat.le_of_ble_eq_true rfl) rfl (by decide) (show 1 ≤ kc by omega) (show 6 ≤ ks by omega) (Or.inr (zRbE hB.1.1)) (Z.scr (w_L_best (Q := fun c V1 J1 => (c = 0 ∧ ∃ (r : Int) (J0 : qJ), zr r ∧ J1 = qu J0 624 0 (iI r).toInt64 ∧ W_X11_best (V 1000004 (i + 1)) V1 (fun s V2 => V2 602 0 = 0 ∧ r = s ∧ Rel (n + 1) V2 J0)) ∨ (c ≠ 0 ∧ W_X11_best (V 1000004 (i + 1)) V1 (fun s V2 => V2 602 0 = c ∧ Rel (n + 1) V2 J1))) 197 hB (hB.2.1 _ _) (t_best (P := (fun V2 => Rel (n + 1) V2 J)) hR (fun _ h => h)) (fun r hz hw => Or.inl ⟨rfl, r, J, hz, rfl, hw⟩) (fun E h => ⟨h.1, Or.inr ⟨by decide, h.2⟩⟩))) (fun E S' I' J' hq => by obtain ⟨⟨_, _, _, e, _⟩, _⟩ := hq; cases e) (fun v S' I' J' hq => ?_)
  obtain ⟨⟨c, V1, J1, e, hn1, hI, hJ, hB1, hzc, hq⟩, hsc⟩ := hq
  cases e; subst hI; subst hJ
  have sc := scV.of hB hB1 hsc
  have sl := sc.1
  refine y_istore (L' := LE i (some (.int (iI c))) none none) Q_E_best (k := 8) rfl (by decide) rfl ?_
  refine z_aload_n Q_E_best (k := 9) rfl rfl ?_
  refine q_arg (i := i) (j := 1) hB1 Q_E_best (k := 10) rfl rfl rfl rfl rfl rfl rfl (by omega) (sc.2 _ (by omega)) ?_
  rcases hq with ⟨rfl, r, J0, hzr, rfl, hw⟩ | ⟨c0, hw⟩
  · refine z_callV (o := 602) (as := [.int (iI (V 1000004 (i + 1)))]) Q_E_best (k := 15) rfl rfl K_X11_best V_X11_best L_L_235 (n_ hB1.1 rfl) (k_602 hB1.1) rfl rfl (Nat.le_of_ble_eq_true rfl) rfl (by decide) (Nat.zero_le _) (Nat.zero_le _) (Or.inl (fun o S' I' J' hq => by obtain ⟨_, _, _, e, _⟩ := hq; rw [e])) (w_X11_best 197 hB1 (hB.2.1 _ _) hw) (fun E S' I' J' hq => by obtain ⟨_, _, e, _⟩ := hq; cases e) (fun v S' I' J' hq => ?_)
    obtain ⟨s, V2, e, hS, hI, hJ, hB2, hzs, hq⟩ := hq
    cases e; subst hS; subst hI; subst hJ
    have sc2 := scV.of hB1 hB2 ⟨rfl, fun _ => rfl⟩
    refine y_istore (L' := LE i (some (.int (iI 0))) (some (.int (iI s))) none) Q_E_best (k := 16) rfl (by decide) rfl ?_
    refine z_aload_n Q_E_best (k := 17) rfl rfl ?_
    refine q_callV0_i Q_E_best (k := 18) rfl rfl K_X11_thrown V_X11_thrown L_L_144 (n_ hB2.1 rfl) (k_602 hB2.1) (Nat.le_of_ble_eq_true rfl) (Nat.le_of_ble_eq_true rfl) rfl (Nat.zero_le _) (Nat.zero_le _) (w_X11_thrown 199 hB2 (Q := fun r => r = V2 602 0) rfl) (fun t hzt ht => ?_)
    refine z_iload Q_E_best (k := 19) rfl rfl ?_
    refine y_icmp_eq 1997 Q_E_best (k := 20) rfl (by decide) hzt ⟨by decide, by decide⟩ (fun _ => ?_) (fun h => absurd (ht.trans hq.1) h)
    refine z_iload Q_E_best (k := 23) rfl rfl ?_
    refine y_if_ne 2014 Q_E_best (k := 24) rfl (by decide) ⟨by decide, by decide⟩ (fun h => absurd rfl h) (fun _ => ?_)
    refine z_aload_n Q_E_best (k := 25) rfl rfl ?_
    refine y_iconst Q_E_best (k := 26) rfl ?_
    refine q_lald (z := 0) (N := 1) (o := 624) Q_E_best (k := 27) rfl rfl (n_ hB2.1 rfl) (k_624 hB2.1) rfl ⟨by decide, by decide⟩ (by decide) ?_
    refine z_iload Q_E_best (k := 28) rfl rfl ?_
    refine z_i2l Q_E_best (k := 29) rfl ?_
    refine y_lcmp Q_E_best (k := 30) rfl ?_
    refine y_if_eq 2014 Q_E_best (k := 31) rfl (by decide) (zlc_r _ _) (fun _ => ?_) (fun h => absurd (zlc_0.mpr (by rw [qu_s, hq.2.1])) h)
    exact z_goto Q_E_best (k := 34) (tgt := 2907) rfl (by decide) (((kk _ V2 _ hB2 (hq.2.2.out _) (sc.tr sc2)).wid (by omega) (by omega)).sub LE_f)
  · refine z_callV (o := 602) (as := [.int (iI (V 1000004 (i + 1)))]) Q_E_best (k := 15) rfl rfl K_X11_best V_X11_best L_L_235 (n_ hB1.1 rfl) (k_602 hB1.1) rfl rfl (Nat.le_of_ble_eq_true rfl) rfl (by decide) (Nat.zero_le _) (Nat.zero_le _) (Or.inl (fun o S' I' J' hq => by obtain ⟨_, _, _, e, _⟩ := hq; rw [e])) (w_X11_best 197 hB1 (hB.2.1 _ _) hw) (fun E S' I' J' hq => by obtain ⟨_, _, e, _⟩ := hq; cases e) (fun v S' I' J' hq => ?_)
    obtain ⟨s, V2, e, hS, hI, hJ, hB2, hzs, hq⟩ := hq
    cases e; subst hS; subst hI; subst hJ
    have sc2 := scV.of hB1 hB2 ⟨rfl, fun _ => rfl⟩
    refine y_istore (L' := LE i (some (.int (iI c))) (some (.int (iI s))) none) Q_E_best (k := 16) rfl (by decide) rfl ?_
    refine z_aload_n Q_E_best (k := 17) rfl rfl ?_
    refine q_callV0_i Q_E_best (k := 18) rfl rfl K_X11_thrown V_X11_thrown L_L_144 (n_ hB2.1 rfl) (k_602 hB2.1) (Nat.le_of_ble_eq_true rfl) (Nat.le_of_ble_eq_true rfl) rfl (Nat.zero_le _) (Nat.zero_le _) (w_X11_thrown 199 hB2 (Q := fun r => r = V2 602 0) rfl) (fun t hzt ht => ?_)
    refine z_iload Q_E_best (k := 19) rfl rfl ?_
    refine y_icmp_eq 1997 Q_E_best (k := 20) rfl (by decide) hzt hzc (fun _ => ?_) (fun h => absurd (ht.trans hq.1) h)
    refine z_iload Q_E_best (k := 23) rfl rfl ?_
    refine y_if_ne 2014 Q_E_best (k := 24) rfl (by decide) hzc (fun _ => ?_) (fun h => absurd h c0)
    exact z_goto Q_E_best (k := 34) (tgt := 2907) rfl (by decide) (((kk _ V2 J1 hB2 hq.2 (sc.tr sc2)).wid (by omega) (by omega)).sub LE_f)
def T_E_added : zTb := [(2017, .aload_n 1, 1, 2018), (2018, .aload_n 0, 1, 2019), (2019, .iload 4, 2, 2021), (2021, .iconst 1, 1, 2022), (2022, .iadd, 1, 2023), (2023, .iaload, 1, 2024), (2024, .aload_n 0, 1, 2025), (2025, .iload 4, 2, 2027), (2027, .iconst 2, 1, 2028), (2028, .iadd, 1, 2029), (2029, .iaload, 1, 2030), (2030, .aload_n 3, 1, 2031), (2031, .invokestatic 236, 3, 2034), (2034, .istore 5, 2, 2036), (2036, .aload_n 2, 1, 2037), (2037, .aload_n 0, 1, 2038), (2038, .iload 4, 2, 2040), (2040, .iconst 1, 1, 2041), (2041, .iadd, 1, 2042), (2042, .iaload, 1, 2043), (2043, .aload_n 0, 1, 2044), (2044, .iload 4, 2, 2046), (2046, .iconst 2, 1, 2047), (2047, .iadd, 1, 2048), (2048, .iaload, 1, 2049), (2049, .invokevirtual 238, 3, 2052), (2052, .istore 6, 2, 2054), (2054, .aload_n 2, 1, 2055), (2055, .invokevirtual 144, 3, 2058), (2058, .iload 5, 2, 2060), (2060, .if_icmp .eq 5, 3, 2063), (2063, .iconst 0, 1, 2064), (2064, .ireturn, 1, 2065), (2065, .iload 5, 2, 2067), (2067, .ifCond .ne 15, 3, 2070), (2070, .aload_n 3, 1, 2071), (2071, .iconst 0, 1, 2072), (2072, .laload, 1, 2073), (2073, .iload 6, 2, 2075), (2075, .i2l, 1, 2076), (2076, .lcmp, 1, 2077), (2077, .ifCond .eq 5, 3, 2080), (2080, .iconst 0, 1, 2081), (2081, .ireturn, 1, 2082), (2082, .goto 825, 3, 2085)]
set_option maxRecDepth 20000 in
theorem Q_E_added : zT M_E T_E_added := zT_of (by decide +kernel)
theorem e_added {S : zS} {V : qV} {J : qJ} {n i : Int} {kc ks : Nat} (hB : qB S V) (hR : Rel n V J) (hi : 0 ≤ i ∧ i + 5 < V 1000005 0) (h1 : 67 ≤ kc) (h2 : 402 ≤ ks) (kk : ∀ S' V' J', qB S' V' → Rel (n + 1) V' J' → scV V V' → Z M_E 200 (kc - 67) (ks - 402) 2907 (LE i none none none) [] S' (qi V') (qj J') QE) : Z M_E 200 kc ks 2017 (LE i none none none) [] S (qi V) (qj J) QE := by
  refine z_aload_n Q_E_added (k := 0) rfl rfl ?_
  refine q_arg (i := i) (j := 1) hB Q_E_added (k := 1) rfl rfl rfl rfl rfl rfl rfl (by omega) rfl ?_
  refine q_arg (i := i) (j := 2) hB Q_E_added (k := 6) rfl rfl rfl rfl rfl rfl rfl (by omega) rfl ?_
  refine z_aload_n Q_E_added (k := 11) rfl rfl ?_
  refine z_callSH (as := [.ref 0, .int (iI (V 1000004 (i + 1))), .int (iI (V 1000004 (i + 2))), .ref 624]) Q_E_added (k := 12) rfl rfl K_L_added L_L_236 rfl rfl (Nat.le_of_ble_eq_true rfl) rfl (by decide) (show 2 ≤ kc by omega) (show 12 ≤ ks by omega) (Or.inr (zRbE hB.1.1)) (Z.scr (w_L_added (Q := fun c V1 J1 => (c = 0 ∧ ∃ (r : Int) (J0 : qJ), zr r ∧ J1 = qu J0 624 0 (iI r).toInt64 ∧ W_X11_added (V 1000004 (i + 1)) (V 1000004 (i + 2)) V1 (fun s V2 => V2 602 0 = 0 ∧ r = s ∧ Rel (n + 1) V2 J0)) ∨ (c ≠ 0 ∧ W_X11_added (V 1000004 (i + 1)) (V 1000004 (i + 2)) V1 (fun s V2 => V2 602 0 = c ∧ Rel (n + 1) V2 J1))) 197 hB (hB.2.1 _ _) (hB.2.1 _ _) (t_added (P := (fun V2 => Rel (n + 1) V2 J)) hR (fun _ h => h)) (fun r hz hw => Or.inl ⟨rfl, r, J, hz, rfl, hw⟩) (fun E h => by
    rcases h with ⟨e, w⟩ | ⟨e, w⟩
    · exact Or.inl ⟨e, Or.inr ⟨by decide, w⟩⟩
    · exact Or.inr ⟨e, Or.inr ⟨by decide, w⟩⟩))) (fun E S' I' J' hq => by obtain ⟨⟨_, _, _, e, _⟩, _⟩ := hq; cases e) (fun v S' I' J' hq => ?_)
  obtain ⟨⟨c, V1, J1, e, hn1, hI, hJ, hB1, hzc, hq⟩, hsc⟩ := hq
  cases e; subst hI; subst hJ
  have sc := scV.of hB hB1 hsc
  have sl := sc.1
  refine y_istore (L' := LE i (some (.int (iI c))) none none) Q_E_added (k := 13) rfl (by decide) rfl ?_
  refine z_aload_n Q_E_added (k := 14) rfl rfl ?_
  refine q_arg (i := i) (j := 1) hB1 Q_E_added (k := 15) rfl rfl rfl rfl rfl rfl rfl (by omega) (sc.2 _ (by omega)) ?_
  refine q_arg (i := i) (j := 2) hB1 Q_E_added (k := 20) rfl rfl rfl rfl rfl rfl rfl (by omega) (sc.2 _ (by omega)) ?_
  rcases hq with ⟨rfl, r, J0, hzr, rfl, hw⟩ | ⟨c0, hw⟩
  · refine z_callV (o := 602) (as := [.int (iI (V 1000004 (i + 1))), .int (iI (V 1000004 (i + 2)))]) Q_E_added (k := 25) rfl rfl K_X11_added V_X11_added L_L_238 (n_ hB1.1 rfl) (k_602 hB1.1) rfl rfl (Nat.le_of_ble_eq_true rfl) rfl (by decide) (Nat.zero_le _) (Nat.zero_le _) (Or.inl (fun o S' I' J' hq => by obtain ⟨_, _, _, e, _⟩ := hq; rw [e])) (w_X11_added 197 hB1 (hB.2.1 _ _) (hB.2.1 _ _) hw) (fun E S' I' J' hq => by obtain ⟨_, _, e, _⟩ := hq; cases e) (fun v S' I' J' hq => ?_)
    obtain ⟨s, V2, e, hS, hI, hJ, hB2, hzs, hq⟩ := hq
    cases e; subst hS; subst hI; subst hJ
    have sc2 := scV.of hB1 hB2 ⟨rfl, fun _ => rfl⟩
    refine y_istore (L' := LE i (some (.int (iI 0))) (some (.int (iI s))) none) Q_E_added (k := 26) rfl (by decide) rfl ?_
    refine z_aload_n Q_E_added (k := 27) rfl rfl ?_
    refine q_callV0_i Q_E_added (k := 28) rfl rfl K_X11_thrown V_X11_thrown L_L_144 (n_ hB2.1 rfl) (k_602 hB2.1) (Nat.le_of_ble_eq_true rfl) (Nat.le_of_ble_eq_true rfl) rfl (Nat.zero_le _) (Nat.zero_le _) (w_X11_thrown 199 hB2 (Q := fun r => r = V2 602 0) rfl) (fun t hzt ht => ?_)
    refine z_iload Q_E_added (k := 29) rfl rfl ?_
    refine y_icmp_eq 2065 Q_E_added (k := 30) rfl (by decide) hzt ⟨by decide, by decide⟩ (fun _ => ?_) (fun h => absurd (ht.trans hq.1) h)
    refine z_iload Q_E_added (k := 33) rfl rfl ?_
    refine y_if_ne 2082 Q_E_added (k := 34) rfl (by decide) ⟨by decide, by decide⟩ (fun h => absurd rfl h) (fun _ => ?_)
    refine z_aload_n Q_E_added (k := 35) rfl rfl ?_
    refine y_iconst Q_E_added (k := 36) rfl ?_
    refine q_lald (z := 0) (N := 1) (o := 624) Q_E_added (k := 37) rfl rfl (n_ hB2.1 rfl) (k_624 hB2.1) rfl ⟨by decide, by decide⟩ (by decide) ?_
    refine z_iload Q_E_added (k := 38) rfl rfl ?_
    refine z_i2l Q_E_added (k := 39) rfl ?_
    refine y_lcmp Q_E_added (k := 40) rfl ?_
    refine y_if_eq 2082 Q_E_added (k := 41) rfl (by decide) (zlc_r _ _) (fun _ => ?_) (fun h => absurd (zlc_0.mpr (by rw [qu_s, hq.2.1])) h)
    exact z_goto Q_E_added (k := 44) (tgt := 2907) rfl (by decide) (((kk _ V2 _ hB2 (hq.2.2.out _) (sc.tr sc2)).wid (by omega) (by omega)).sub LE_f)
  · refine z_callV (o := 602) (as := [.int (iI (V 1000004 (i + 1))), .int (iI (V 1000004 (i + 2)))]) Q_E_added (k := 25) rfl rfl K_X11_added V_X11_added L_L_238 (n_ hB1.1 rfl) (k_602 hB1.1) rfl rfl (Nat.le_of_ble_eq_true rfl) rfl (by decide) (Nat.zero_le _) (Nat.zero_le _) (Or.inl (fun o S' I' J' hq => by obtain ⟨_, _, _, e, _⟩ := hq; rw [e])) (w_X11_added 197 hB1 (hB.2.1 _ _) (hB.2.1 _ _) hw) (fun E S' I' J' hq => by obtain ⟨_, _, e, _⟩ := hq; cases e) (fun v S' I' J' hq => ?_)
    obtain ⟨s, V2, e, hS, hI, hJ, hB2, hzs, hq⟩ := hq
    cases e; subst hS; subst hI; subst hJ
    have sc2 := scV.of hB1 hB2 ⟨rfl, fun _ => rfl⟩
    refine y_istore (L' := LE i (some (.int (iI c))) (some (.int (iI s))) none) Q_E_added (k := 26) rfl (by decide) rfl ?_
    refine z_aload_n Q_E_added (k := 27) rfl rfl ?_
    refine q_callV0_i Q_E_added (k := 28) rfl rfl K_X11_thrown V_X11_thrown L_L_144 (n_ hB2.1 rfl) (k_602 hB2.1) (Nat.le_of_ble_eq_true rfl) (Nat.le_of_ble_eq_true rfl) rfl (Nat.zero_le _) (Nat.zero_le _) (w_X11_thrown 199 hB2 (Q := fun r => r = V2 602 0) rfl) (fun t hzt ht => ?_)
    refine z_iload Q_E_added (k := 29) rfl rfl ?_
    refine y_icmp_eq 2065 Q_E_added (k := 30) rfl (by decide) hzt hzc (fun _ => ?_) (fun h => absurd (ht.trans hq.1) h)
    refine z_iload Q_E_added (k := 33) rfl rfl ?_
    refine y_if_ne 2082 Q_E_added (k := 34) rfl (by decide) hzc (fun _ => ?_) (fun h => absurd h c0)
    exact z_goto Q_E_added (k := 44) (tgt := 2907) rfl (by decide) (((kk _ V2 J1 hB2 hq.2 (sc.tr sc2)).wid (by omega) (by omega)).sub LE_f)
def T_E_cry : zTb := [(2085, .aload_n 1, 1, 2086), (2086, .aload_n 0, 1, 2087), (2087, .iload 4, 2, 2089), (2089, .iconst 1, 1, 2090), (2090, .iadd, 1, 2091), (2091, .iaload, 1, 2092), (2092, .aload_n 3, 1, 2093), (2093, .invokestatic 239, 3, 2096), (2096, .istore 5, 2, 2098), (2098, .aload_n 2, 1, 2099), (2099, .aload_n 0, 1, 2100), (2100, .iload 4, 2, 2102), (2102, .iconst 1, 1, 2103), (2103, .iadd, 1, 2104), (2104, .iaload, 1, 2105), (2105, .invokevirtual 241, 3, 2108), (2108, .istore 6, 2, 2110), (2110, .aload_n 2, 1, 2111), (2111, .invokevirtual 144, 3, 2114), (2114, .iload 5, 2, 2116), (2116, .if_icmp .eq 5, 3, 2119), (2119, .iconst 0, 1, 2120), (2120, .ireturn, 1, 2121), (2121, .iload 5, 2, 2123), (2123, .ifCond .ne 15, 3, 2126), (2126, .aload_n 3, 1, 2127), (2127, .iconst 0, 1, 2128), (2128, .laload, 1, 2129), (2129, .iload 6, 2, 2131), (2131, .i2l, 1, 2132), (2132, .lcmp, 1, 2133), (2133, .ifCond .eq 5, 3, 2136), (2136, .iconst 0, 1, 2137), (2137, .ireturn, 1, 2138), (2138, .goto 769, 3, 2141)]
set_option maxRecDepth 20000 in
theorem Q_E_cry : zT M_E T_E_cry := zT_of (by decide +kernel)
theorem e_cry {S : zS} {V : qV} {J : qJ} {n i : Int} {kc ks : Nat} (hB : qB S V) (hR : Rel n V J) (hi : 0 ≤ i ∧ i + 5 < V 1000005 0) (h1 : 67 ≤ kc) (h2 : 402 ≤ ks) (kk : ∀ S' V' J', qB S' V' → Rel (n + 1) V' J' → scV V V' → Z M_E 200 (kc - 67) (ks - 402) 2907 (LE i none none none) [] S' (qi V') (qj J') QE) : Z M_E 200 kc ks 2085 (LE i none none none) [] S (qi V) (qj J) QE := by
  refine z_aload_n Q_E_cry (k := 0) rfl rfl ?_
  refine q_arg (i := i) (j := 1) hB Q_E_cry (k := 1) rfl rfl rfl rfl rfl rfl rfl (by omega) rfl ?_
  refine z_aload_n Q_E_cry (k := 6) rfl rfl ?_
  refine z_callSH (as := [.ref 0, .int (iI (V 1000004 (i + 1))), .ref 624]) Q_E_cry (k := 7) rfl rfl K_L_cry L_L_239 rfl rfl (Nat.le_of_ble_eq_true rfl) rfl (by decide) (show 1 ≤ kc by omega) (show 6 ≤ ks by omega) (Or.inr (zRbE hB.1.1)) (Z.scr (w_L_cry (Q := fun c V1 J1 => (c = 0 ∧ ∃ (r : Int) (J0 : qJ), zr r ∧ J1 = qu J0 624 0 (iI r).toInt64 ∧ W_X11_cry (V 1000004 (i + 1)) V1 (fun s V2 => V2 602 0 = 0 ∧ r = s ∧ Rel (n + 1) V2 J0)) ∨ (c ≠ 0 ∧ W_X11_cry (V 1000004 (i + 1)) V1 (fun s V2 => V2 602 0 = c ∧ Rel (n + 1) V2 J1))) 197 hB (hB.2.1 _ _) (t_cry (P := (fun V2 => Rel (n + 1) V2 J)) hR (fun _ h => h)) (fun r V1 hz hw => Or.inl ⟨rfl, r, J, hz, rfl, hw⟩) (fun E V1 h => ⟨h.1, Or.inr ⟨by decide, h.2⟩⟩))) (fun E S' I' J' hq => by obtain ⟨⟨_, _, _, e, _⟩, _⟩ := hq; cases e) (fun v S' I' J' hq => ?_)
  obtain ⟨⟨c, V1, J1, e, hn1, hI, hJ, hB1, hzc, hq⟩, hsc⟩ := hq
  cases e; subst hI; subst hJ
  have sc := scV.of hB hB1 hsc
  have sl := sc.1
  refine y_istore (L' := LE i (some (.int (iI c))) none none) Q_E_cry (k := 8) rfl (by decide) rfl ?_
  refine z_aload_n Q_E_cry (k := 9) rfl rfl ?_
  refine q_arg (i := i) (j := 1) hB1 Q_E_cry (k := 10) rfl rfl rfl rfl rfl rfl rfl (by omega) (sc.2 _ (by omega)) ?_
  rcases hq with ⟨rfl, r, J0, hzr, rfl, hw⟩ | ⟨c0, hw⟩
  · refine z_callV (o := 602) (as := [.int (iI (V 1000004 (i + 1)))]) Q_E_cry (k := 15) rfl rfl K_X11_cry V_X11_cry L_L_241 (n_ hB1.1 rfl) (k_602 hB1.1) rfl rfl (Nat.le_of_ble_eq_true rfl) rfl (by decide) (Nat.zero_le _) (Nat.zero_le _) (Or.inl (fun o S' I' J' hq => by obtain ⟨_, _, _, e, _⟩ := hq; rw [e])) (w_X11_cry 197 hB1 (hB.2.1 _ _) hw) (fun E S' I' J' hq => by obtain ⟨_, _, e, _⟩ := hq; cases e) (fun v S' I' J' hq => ?_)
    obtain ⟨s, V2, e, hS, hI, hJ, hB2, hzs, hq⟩ := hq
    cases e; subst hS; subst hI; subst hJ
    have sc2 := scV.of hB1 hB2 ⟨rfl, fun _ => rfl⟩
    refine y_istore (L' := LE i (some (.int (iI 0))) (some (.int (iI s))) none) Q_E_cry (k := 16) rfl (by decide) rfl ?_
    refine z_aload_n Q_E_cry (k := 17) rfl rfl ?_
    refine q_callV0_i Q_E_cry (k := 18) rfl rfl K_X11_thrown V_X11_thrown L_L_144 (n_ hB2.1 rfl) (k_602 hB2.1) (Nat.le_of_ble_eq_true rfl) (Nat.le_of_ble_eq_true rfl) rfl (Nat.zero_le _) (Nat.zero_le _) (w_X11_thrown 199 hB2 (Q := fun r => r = V2 602 0) rfl) (fun t hzt ht => ?_)
    refine z_iload Q_E_cry (k := 19) rfl rfl ?_
    refine y_icmp_eq 2121 Q_E_cry (k := 20) rfl (by decide) hzt ⟨by decide, by decide⟩ (fun _ => ?_) (fun h => absurd (ht.trans hq.1) h)
    refine z_iload Q_E_cry (k := 23) rfl rfl ?_
    refine y_if_ne 2138 Q_E_cry (k := 24) rfl (by decide) ⟨by decide, by decide⟩ (fun h => absurd rfl h) (fun _ => ?_)
    refine z_aload_n Q_E_cry (k := 25) rfl rfl ?_
    refine y_iconst Q_E_cry (k := 26) rfl ?_
    refine q_lald (z := 0) (N := 1) (o := 624) Q_E_cry (k := 27) rfl rfl (n_ hB2.1 rfl) (k_624 hB2.1) rfl ⟨by decide, by decide⟩ (by decide) ?_
    refine z_iload Q_E_cry (k := 28) rfl rfl ?_
    refine z_i2l Q_E_cry (k := 29) rfl ?_
    refine y_lcmp Q_E_cry (k := 30) rfl ?_
    refine y_if_eq 2138 Q_E_cry (k := 31) rfl (by decide) (zlc_r _ _) (fun _ => ?_) (fun h => absurd (zlc_0.mpr (by rw [qu_s, hq.2.1])) h)
    exact z_goto Q_E_cry (k := 34) (tgt := 2907) rfl (by decide) (((kk _ V2 _ hB2 (hq.2.2.out _) (sc.tr sc2)).wid (by omega) (by omega)).sub LE_f)
  · refine z_callV (o := 602) (as := [.int (iI (V 1000004 (i + 1)))]) Q_E_cry (k := 15) rfl rfl K_X11_cry V_X11_cry L_L_241 (n_ hB1.1 rfl) (k_602 hB1.1) rfl rfl (Nat.le_of_ble_eq_true rfl) rfl (by decide) (Nat.zero_le _) (Nat.zero_le _) (Or.inl (fun o S' I' J' hq => by obtain ⟨_, _, _, e, _⟩ := hq; rw [e])) (w_X11_cry 197 hB1 (hB.2.1 _ _) hw) (fun E S' I' J' hq => by obtain ⟨_, _, e, _⟩ := hq; cases e) (fun v S' I' J' hq => ?_)
    obtain ⟨s, V2, e, hS, hI, hJ, hB2, hzs, hq⟩ := hq
    cases e; subst hS; subst hI; subst hJ
    have sc2 := scV.of hB1 hB2 ⟨rfl, fun _ => rfl⟩
    refine y_istore (L' := LE i (some (.int (iI c))) (some (.int (iI s))) none) Q_E_cry (k := 16) rfl (by decide) rfl ?_
    refine z_aload_n Q_E_cry (k := 17) rfl rfl ?_
    refine q_callV0_i Q_E_cry (k := 18) rfl rfl K_X11_thrown V_X11_thrown L_L_144 (n_ hB2.1 rfl) (k_602 hB2.1) (Nat.le_of_ble_eq_true rfl) (Nat.le_of_ble_eq_true rfl) rfl (Nat.zero_le _) (Nat.zero_le _) (w_X11_thrown 199 hB2 (Q := fun r => r = V2 602 0) rfl) (fun t hzt ht => ?_)
    refine z_iload Q_E_cry (k := 19) rfl rfl ?_
    refine y_icmp_eq 2121 Q_E_cry (k := 20) rfl (by decide) hzt hzc (fun _ => ?_) (fun h => absurd (ht.trans hq.1) h)
    refine z_iload Q_E_cry (k := 23) rfl rfl ?_
    refine y_if_ne 2138 Q_E_cry (k := 24) rfl (by decide) hzc (fun _ => ?_) (fun h => absurd h c0)
    exact z_goto Q_E_cry (k := 34) (tgt := 2907) rfl (by decide) (((kk _ V2 J1 hB2 hq.2 (sc.tr sc2)).wid (by omega) (by omega)).sub LE_f)
def T_E_due : zTb := [(2141, .aload_n 1, 1, 2142), (2142, .aload_n 0, 1, 2143), (2143, .iload 4, 2, 2145), (2145, .iconst 1, 1, 2146), (2146, .iadd, 1, 2147), (2147, .iaload, 1, 2148), (2148, .aload_n 0, 1, 2149), (2149, .iload 4, 2, 2151), (2151, .iconst 2, 1, 2152), (2152, .iadd, 1, 2153), (2153, .iaload, 1, 2154), (2154, .aload_n 3, 1, 2155), (2155, .invokestatic 242, 3, 2158), (2158, .istore 5, 2, 2160), (2160, .aload_n 2, 1, 2161), (2161, .aload_n 0, 1, 2162), (2162, .iload 4, 2, 2164), (2164, .iconst 1, 1, 2165), (2165, .iadd, 1, 2166), (2166, .iaload, 1, 2167), (2167, .aload_n 0, 1, 2168), (2168, .iload 4, 2, 2170), (2170, .iconst 2, 1, 2171), (2171, .iadd, 1, 2172), (2172, .iaload, 1, 2173), (2173, .invokevirtual 244, 3, 2176), (2176, .istore 6, 2, 2178), (2178, .aload_n 2, 1, 2179), (2179, .invokevirtual 144, 3, 2182), (2182, .iload 5, 2, 2184), (2184, .if_icmp .eq 5, 3, 2187), (2187, .iconst 0, 1, 2188), (2188, .ireturn, 1, 2189), (2189, .iload 5, 2, 2191), (2191, .ifCond .ne 15, 3, 2194), (2194, .aload_n 3, 1, 2195), (2195, .iconst 0, 1, 2196), (2196, .laload, 1, 2197), (2197, .iload 6, 2, 2199), (2199, .i2l, 1, 2200), (2200, .lcmp, 1, 2201), (2201, .ifCond .eq 5, 3, 2204), (2204, .iconst 0, 1, 2205), (2205, .ireturn, 1, 2206), (2206, .goto 701, 3, 2209)]
set_option maxRecDepth 20000 in
theorem Q_E_due : zT M_E T_E_due := zT_of (by decide +kernel)
theorem e_due {S : zS} {V : qV} {J : qJ} {n i : Int} {kc ks : Nat} (hB : qB S V) (hR : Rel n V J) (hi : 0 ≤ i ∧ i + 5 < V 1000005 0) (h1 : 67 ≤ kc) (h2 : 402 ≤ ks) (kk : ∀ S' V' J', qB S' V' → Rel (n + 1) V' J' → scV V V' → Z M_E 200 (kc - 67) (ks - 402) 2907 (LE i none none none) [] S' (qi V') (qj J') QE) : Z M_E 200 kc ks 2141 (LE i none none none) [] S (qi V) (qj J) QE := by
  refine z_aload_n Q_E_due (k := 0) rfl rfl ?_
  refine q_arg (i := i) (j := 1) hB Q_E_due (k := 1) rfl rfl rfl rfl rfl rfl rfl (by omega) rfl ?_
  refine q_arg (i := i) (j := 2) hB Q_E_due (k := 6) rfl rfl rfl rfl rfl rfl rfl (by omega) rfl ?_
  refine z_aload_n Q_E_due (k := 11) rfl rfl ?_
  refine z_callSH (as := [.ref 0, .int (iI (V 1000004 (i + 1))), .int (iI (V 1000004 (i + 2))), .ref 624]) Q_E_due (k := 12) rfl rfl K_L_due L_L_242 rfl rfl (Nat.le_of_ble_eq_true rfl) rfl (by decide) (show 3 ≤ kc by omega) (show 18 ≤ ks by omega) (Or.inr (zRbE hB.1.1)) (Z.scr (w_L_due (Q := fun c V1 J1 => (c = 0 ∧ ∃ (r : Int) (J0 : qJ), zr r ∧ J1 = qu J0 624 0 (iI r).toInt64 ∧ W_X11_due (V 1000004 (i + 1)) (V 1000004 (i + 2)) V1 (fun s V2 => V2 602 0 = 0 ∧ r = s ∧ Rel (n + 1) V2 J0)) ∨ (c ≠ 0 ∧ W_X11_due (V 1000004 (i + 1)) (V 1000004 (i + 2)) V1 (fun s V2 => V2 602 0 = c ∧ Rel (n + 1) V2 J1))) 192 hB (hB.2.1 _ _) (hB.2.1 _ _) (t_due (P := (fun V2 J2 => Rel (n + 1) V2 J2)) hR (fun _ _ h => h)) (fun r V1 J1 hz hw => Or.inl ⟨rfl, r, J1, hz, rfl, hw⟩) (fun E V1 J1 h => by
    rcases h with ⟨e, w⟩ | ⟨e, w⟩
    · exact Or.inl ⟨e, Or.inr ⟨by decide, w⟩⟩
    · exact Or.inr ⟨e, Or.inr ⟨by decide, w⟩⟩))) (fun E S' I' J' hq => by obtain ⟨⟨_, _, _, e, _⟩, _⟩ := hq; cases e) (fun v S' I' J' hq => ?_)
  obtain ⟨⟨c, V1, J1, e, hn1, hI, hJ, hB1, hzc, hq⟩, hsc⟩ := hq
  cases e; subst hI; subst hJ
  have sc := scV.of hB hB1 hsc
  have sl := sc.1
  refine y_istore (L' := LE i (some (.int (iI c))) none none) Q_E_due (k := 13) rfl (by decide) rfl ?_
  refine z_aload_n Q_E_due (k := 14) rfl rfl ?_
  refine q_arg (i := i) (j := 1) hB1 Q_E_due (k := 15) rfl rfl rfl rfl rfl rfl rfl (by omega) (sc.2 _ (by omega)) ?_
  refine q_arg (i := i) (j := 2) hB1 Q_E_due (k := 20) rfl rfl rfl rfl rfl rfl rfl (by omega) (sc.2 _ (by omega)) ?_
  rcases hq with ⟨rfl, r, J0, hzr, rfl, hw⟩ | ⟨c0, hw⟩
  · refine z_callV (o := 602) (as := [.int (iI (V 1000004 (i + 1))), .int (iI (V 1000004 (i + 2)))]) Q_E_due (k := 25) rfl rfl K_X11_due V_X11_due L_L_244 (n_ hB1.1 rfl) (k_602 hB1.1) rfl rfl (Nat.le_of_ble_eq_true rfl) rfl (by decide) (Nat.zero_le _) (Nat.zero_le _) (Or.inl (fun o S' I' J' hq => by obtain ⟨_, _, _, e, _⟩ := hq; rw [e])) (w_X11_due 196 hB1 (hB.2.1 _ _) (hB.2.1 _ _) hw) (fun E S' I' J' hq => by obtain ⟨_, _, e, _⟩ := hq; cases e) (fun v S' I' J' hq => ?_)
    obtain ⟨s, V2, e, hS, hI, hJ, hB2, hzs, hq⟩ := hq
    cases e; subst hS; subst hI; subst hJ
    have sc2 := scV.of hB1 hB2 ⟨rfl, fun _ => rfl⟩
    refine y_istore (L' := LE i (some (.int (iI 0))) (some (.int (iI s))) none) Q_E_due (k := 26) rfl (by decide) rfl ?_
    refine z_aload_n Q_E_due (k := 27) rfl rfl ?_
    refine q_callV0_i Q_E_due (k := 28) rfl rfl K_X11_thrown V_X11_thrown L_L_144 (n_ hB2.1 rfl) (k_602 hB2.1) (Nat.le_of_ble_eq_true rfl) (Nat.le_of_ble_eq_true rfl) rfl (Nat.zero_le _) (Nat.zero_le _) (w_X11_thrown 199 hB2 (Q := fun r => r = V2 602 0) rfl) (fun t hzt ht => ?_)
    refine z_iload Q_E_due (k := 29) rfl rfl ?_
    refine y_icmp_eq 2189 Q_E_due (k := 30) rfl (by decide) hzt ⟨by decide, by decide⟩ (fun _ => ?_) (fun h => absurd (ht.trans hq.1) h)
    refine z_iload Q_E_due (k := 33) rfl rfl ?_
    refine y_if_ne 2206 Q_E_due (k := 34) rfl (by decide) ⟨by decide, by decide⟩ (fun h => absurd rfl h) (fun _ => ?_)
    refine z_aload_n Q_E_due (k := 35) rfl rfl ?_
    refine y_iconst Q_E_due (k := 36) rfl ?_
    refine q_lald (z := 0) (N := 1) (o := 624) Q_E_due (k := 37) rfl rfl (n_ hB2.1 rfl) (k_624 hB2.1) rfl ⟨by decide, by decide⟩ (by decide) ?_
    refine z_iload Q_E_due (k := 38) rfl rfl ?_
    refine z_i2l Q_E_due (k := 39) rfl ?_
    refine y_lcmp Q_E_due (k := 40) rfl ?_
    refine y_if_eq 2206 Q_E_due (k := 41) rfl (by decide) (zlc_r _ _) (fun _ => ?_) (fun h => absurd (zlc_0.mpr (by rw [qu_s, hq.2.1])) h)
    exact z_goto Q_E_due (k := 44) (tgt := 2907) rfl (by decide) (((kk _ V2 _ hB2 (hq.2.2.out _) (sc.tr sc2)).wid (by omega) (by omega)).sub LE_f)
  · refine z_callV (o := 602) (as := [.int (iI (V 1000004 (i + 1))), .int (iI (V 1000004 (i + 2)))]) Q_E_due (k := 25) rfl rfl K_X11_due V_X11_due L_L_244 (n_ hB1.1 rfl) (k_602 hB1.1) rfl rfl (Nat.le_of_ble_eq_true rfl) rfl (by decide) (Nat.zero_le _) (Nat.zero_le _) (Or.inl (fun o S' I' J' hq => by obtain ⟨_, _, _, e, _⟩ := hq; rw [e])) (w_X11_due 196 hB1 (hB.2.1 _ _) (hB.2.1 _ _) hw) (fun E S' I' J' hq => by obtain ⟨_, _, e, _⟩ := hq; cases e) (fun v S' I' J' hq => ?_)
    obtain ⟨s, V2, e, hS, hI, hJ, hB2, hzs, hq⟩ := hq
    cases e; subst hS; subst hI; subst hJ
    have sc2 := scV.of hB1 hB2 ⟨rfl, fun _ => rfl⟩
    refine y_istore (L' := LE i (some (.int (iI c))) (some (.int (iI s))) none) Q_E_due (k := 26) rfl (by decide) rfl ?_
    refine z_aload_n Q_E_due (k := 27) rfl rfl ?_
    refine q_callV0_i Q_E_due (k := 28) rfl rfl K_X11_thrown V_X11_thrown L_L_144 (n_ hB2.1 rfl) (k_602 hB2.1) (Nat.le_of_ble_eq_true rfl) (Nat.le_of_ble_eq_true rfl) rfl (Nat.zero_le _) (Nat.zero_le _) (w_X11_thrown 199 hB2 (Q := fun r => r = V2 602 0) rfl) (fun t hzt ht => ?_)
    refine z_iload Q_E_due (k := 29) rfl rfl ?_
    refine y_icmp_eq 2189 Q_E_due (k := 30) rfl (by decide) hzt hzc (fun _ => ?_) (fun h => absurd (ht.trans hq.1) h)
    refine z_iload Q_E_due (k := 33) rfl rfl ?_
    refine y_if_ne 2206 Q_E_due (k := 34) rfl (by decide) hzc (fun _ => ?_) (fun h => absurd h c0)
    exact z_goto Q_E_due (k := 44) (tgt := 2907) rfl (by decide) (((kk _ V2 J1 hB2 hq.2 (sc.tr sc2)).wid (by omega) (by omega)).sub LE_f)
def T_E_left : zTb := [(2209, .aload_n 1, 1, 2210), (2210, .aload_n 0, 1, 2211), (2211, .iload 4, 2, 2213), (2213, .iconst 1, 1, 2214), (2214, .iadd, 1, 2215), (2215, .iaload, 1, 2216), (2216, .aload_n 0, 1, 2217), (2217, .iload 4, 2, 2219), (2219, .iconst 2, 1, 2220), (2220, .iadd, 1, 2221), (2221, .iaload, 1, 2222), (2222, .aload_n 3, 1, 2223), (2223, .invokestatic 245, 3, 2226), (2226, .istore 5, 2, 2228), (2228, .aload_n 2, 1, 2229), (2229, .aload_n 0, 1, 2230), (2230, .iload 4, 2, 2232), (2232, .iconst 1, 1, 2233), (2233, .iadd, 1, 2234), (2234, .iaload, 1, 2235), (2235, .aload_n 0, 1, 2236), (2236, .iload 4, 2, 2238), (2238, .iconst 2, 1, 2239), (2239, .iadd, 1, 2240), (2240, .iaload, 1, 2241), (2241, .invokevirtual 247, 3, 2244), (2244, .istore 6, 2, 2246), (2246, .aload_n 2, 1, 2247), (2247, .invokevirtual 144, 3, 2250), (2250, .iload 5, 2, 2252), (2252, .if_icmp .eq 5, 3, 2255), (2255, .iconst 0, 1, 2256), (2256, .ireturn, 1, 2257), (2257, .iload 5, 2, 2259), (2259, .ifCond .ne 15, 3, 2262), (2262, .aload_n 3, 1, 2263), (2263, .iconst 0, 1, 2264), (2264, .laload, 1, 2265), (2265, .iload 6, 2, 2267), (2267, .i2l, 1, 2268), (2268, .lcmp, 1, 2269), (2269, .ifCond .eq 5, 3, 2272), (2272, .iconst 0, 1, 2273), (2273, .ireturn, 1, 2274), (2274, .goto 633, 3, 2277)]
set_option maxRecDepth 20000 in
theorem Q_E_left : zT M_E T_E_left := zT_of (by decide +kernel)
theorem e_left {S : zS} {V : qV} {J : qJ} {n i : Int} {kc ks : Nat} (hB : qB S V) (hR : Rel n V J) (hi : 0 ≤ i ∧ i + 5 < V 1000005 0) (h1 : 67 ≤ kc) (h2 : 402 ≤ ks) (kk : ∀ S' V' J', qB S' V' → Rel (n + 1) V' J' → scV V V' → Z M_E 200 (kc - 67) (ks - 402) 2907 (LE i none none none) [] S' (qi V') (qj J') QE) : Z M_E 200 kc ks 2209 (LE i none none none) [] S (qi V) (qj J) QE := by
  refine z_aload_n Q_E_left (k := 0) rfl rfl ?_
  refine q_arg (i := i) (j := 1) hB Q_E_left (k := 1) rfl rfl rfl rfl rfl rfl rfl (by omega) rfl ?_
  refine q_arg (i := i) (j := 2) hB Q_E_left (k := 6) rfl rfl rfl rfl rfl rfl rfl (by omega) rfl ?_
  refine z_aload_n Q_E_left (k := 11) rfl rfl ?_
  refine z_callSH (as := [.ref 0, .int (iI (V 1000004 (i + 1))), .int (iI (V 1000004 (i + 2))), .ref 624]) Q_E_left (k := 12) rfl rfl K_L_left L_L_245 rfl rfl (Nat.le_of_ble_eq_true rfl) rfl (by decide) (show 2 ≤ kc by omega) (show 12 ≤ ks by omega) (Or.inr (zRbE hB.1.1)) (Z.scr (w_L_left (Q := fun c V1 J1 => (c = 0 ∧ ∃ (r : Int) (J0 : qJ), zr r ∧ J1 = qu J0 624 0 (iI r).toInt64 ∧ W_X11_left (V 1000004 (i + 1)) (V 1000004 (i + 2)) V1 (fun s V2 => V2 602 0 = 0 ∧ r = s ∧ Rel (n + 1) V2 J0)) ∨ (c ≠ 0 ∧ W_X11_left (V 1000004 (i + 1)) (V 1000004 (i + 2)) V1 (fun s V2 => V2 602 0 = c ∧ Rel (n + 1) V2 J1))) 197 hB (hB.2.1 _ _) (hB.2.1 _ _) (t_left (P := (fun V2 => Rel (n + 1) V2 J)) hR (fun _ h => h)) (fun r hz hw => Or.inl ⟨rfl, r, J, hz, rfl, hw⟩) (fun E h => by
    rcases h with ⟨e, w⟩ | ⟨e, w⟩
    · exact Or.inl ⟨e, Or.inr ⟨by decide, w⟩⟩
    · exact Or.inr ⟨e, Or.inr ⟨by decide, w⟩⟩))) (fun E S' I' J' hq => by obtain ⟨⟨_, _, _, e, _⟩, _⟩ := hq; cases e) (fun v S' I' J' hq => ?_)
  obtain ⟨⟨c, V1, J1, e, hn1, hI, hJ, hB1, hzc, hq⟩, hsc⟩ := hq
  cases e; subst hI; subst hJ
  have sc := scV.of hB hB1 hsc
  have sl := sc.1
  refine y_istore (L' := LE i (some (.int (iI c))) none none) Q_E_left (k := 13) rfl (by decide) rfl ?_
  refine z_aload_n Q_E_left (k := 14) rfl rfl ?_
  refine q_arg (i := i) (j := 1) hB1 Q_E_left (k := 15) rfl rfl rfl rfl rfl rfl rfl (by omega) (sc.2 _ (by omega)) ?_
  refine q_arg (i := i) (j := 2) hB1 Q_E_left (k := 20) rfl rfl rfl rfl rfl rfl rfl (by omega) (sc.2 _ (by omega)) ?_
  rcases hq with ⟨rfl, r, J0, hzr, rfl, hw⟩ | ⟨c0, hw⟩
  · refine z_callV (o := 602) (as := [.int (iI (V 1000004 (i + 1))), .int (iI (V 1000004 (i + 2)))]) Q_E_left (k := 25) rfl rfl K_X11_left V_X11_left L_L_247 (n_ hB1.1 rfl) (k_602 hB1.1) rfl rfl (Nat.le_of_ble_eq_true rfl) rfl (by decide) (Nat.zero_le _) (Nat.zero_le _) (Or.inl (fun o S' I' J' hq => by obtain ⟨_, _, _, e, _⟩ := hq; rw [e])) (w_X11_left 197 hB1 (hB.2.1 _ _) (hB.2.1 _ _) hw) (fun E S' I' J' hq => by obtain ⟨_, _, e, _⟩ := hq; cases e) (fun v S' I' J' hq => ?_)
    obtain ⟨s, V2, e, hS, hI, hJ, hB2, hzs, hq⟩ := hq
    cases e; subst hS; subst hI; subst hJ
    have sc2 := scV.of hB1 hB2 ⟨rfl, fun _ => rfl⟩
    refine y_istore (L' := LE i (some (.int (iI 0))) (some (.int (iI s))) none) Q_E_left (k := 26) rfl (by decide) rfl ?_
    refine z_aload_n Q_E_left (k := 27) rfl rfl ?_
    refine q_callV0_i Q_E_left (k := 28) rfl rfl K_X11_thrown V_X11_thrown L_L_144 (n_ hB2.1 rfl) (k_602 hB2.1) (Nat.le_of_ble_eq_true rfl) (Nat.le_of_ble_eq_true rfl) rfl (Nat.zero_le _) (Nat.zero_le _) (w_X11_thrown 199 hB2 (Q := fun r => r = V2 602 0) rfl) (fun t hzt ht => ?_)
    refine z_iload Q_E_left (k := 29) rfl rfl ?_
    refine y_icmp_eq 2257 Q_E_left (k := 30) rfl (by decide) hzt ⟨by decide, by decide⟩ (fun _ => ?_) (fun h => absurd (ht.trans hq.1) h)
    refine z_iload Q_E_left (k := 33) rfl rfl ?_
    refine y_if_ne 2274 Q_E_left (k := 34) rfl (by decide) ⟨by decide, by decide⟩ (fun h => absurd rfl h) (fun _ => ?_)
    refine z_aload_n Q_E_left (k := 35) rfl rfl ?_
    refine y_iconst Q_E_left (k := 36) rfl ?_
    refine q_lald (z := 0) (N := 1) (o := 624) Q_E_left (k := 37) rfl rfl (n_ hB2.1 rfl) (k_624 hB2.1) rfl ⟨by decide, by decide⟩ (by decide) ?_
    refine z_iload Q_E_left (k := 38) rfl rfl ?_
    refine z_i2l Q_E_left (k := 39) rfl ?_
    refine y_lcmp Q_E_left (k := 40) rfl ?_
    refine y_if_eq 2274 Q_E_left (k := 41) rfl (by decide) (zlc_r _ _) (fun _ => ?_) (fun h => absurd (zlc_0.mpr (by rw [qu_s, hq.2.1])) h)
    exact z_goto Q_E_left (k := 44) (tgt := 2907) rfl (by decide) (((kk _ V2 _ hB2 (hq.2.2.out _) (sc.tr sc2)).wid (by omega) (by omega)).sub LE_f)
  · refine z_callV (o := 602) (as := [.int (iI (V 1000004 (i + 1))), .int (iI (V 1000004 (i + 2)))]) Q_E_left (k := 25) rfl rfl K_X11_left V_X11_left L_L_247 (n_ hB1.1 rfl) (k_602 hB1.1) rfl rfl (Nat.le_of_ble_eq_true rfl) rfl (by decide) (Nat.zero_le _) (Nat.zero_le _) (Or.inl (fun o S' I' J' hq => by obtain ⟨_, _, _, e, _⟩ := hq; rw [e])) (w_X11_left 197 hB1 (hB.2.1 _ _) (hB.2.1 _ _) hw) (fun E S' I' J' hq => by obtain ⟨_, _, e, _⟩ := hq; cases e) (fun v S' I' J' hq => ?_)
    obtain ⟨s, V2, e, hS, hI, hJ, hB2, hzs, hq⟩ := hq
    cases e; subst hS; subst hI; subst hJ
    have sc2 := scV.of hB1 hB2 ⟨rfl, fun _ => rfl⟩
    refine y_istore (L' := LE i (some (.int (iI c))) (some (.int (iI s))) none) Q_E_left (k := 26) rfl (by decide) rfl ?_
    refine z_aload_n Q_E_left (k := 27) rfl rfl ?_
    refine q_callV0_i Q_E_left (k := 28) rfl rfl K_X11_thrown V_X11_thrown L_L_144 (n_ hB2.1 rfl) (k_602 hB2.1) (Nat.le_of_ble_eq_true rfl) (Nat.le_of_ble_eq_true rfl) rfl (Nat.zero_le _) (Nat.zero_le _) (w_X11_thrown 199 hB2 (Q := fun r => r = V2 602 0) rfl) (fun t hzt ht => ?_)
    refine z_iload Q_E_left (k := 29) rfl rfl ?_
    refine y_icmp_eq 2257 Q_E_left (k := 30) rfl (by decide) hzt hzc (fun _ => ?_) (fun h => absurd (ht.trans hq.1) h)
    refine z_iload Q_E_left (k := 33) rfl rfl ?_
    refine y_if_ne 2274 Q_E_left (k := 34) rfl (by decide) hzc (fun _ => ?_) (fun h => absurd h c0)
    exact z_goto Q_E_left (k := 44) (tgt := 2907) rfl (by decide) (((kk _ V2 J1 hB2 hq.2 (sc.tr sc2)).wid (by omega) (by omega)).sub LE_f)
def T_E_gone : zTb := [(2277, .aload_n 1, 1, 2278), (2278, .aload_n 0, 1, 2279), (2279, .iload 4, 2, 2281), (2281, .iconst 1, 1, 2282), (2282, .iadd, 1, 2283), (2283, .iaload, 1, 2284), (2284, .aload_n 3, 1, 2285), (2285, .invokestatic 248, 3, 2288), (2288, .istore 5, 2, 2290), (2290, .aload_n 2, 1, 2291), (2291, .aload_n 0, 1, 2292), (2292, .iload 4, 2, 2294), (2294, .iconst 1, 1, 2295), (2295, .iadd, 1, 2296), (2296, .iaload, 1, 2297), (2297, .invokevirtual 250, 3, 2300), (2300, .istore 6, 2, 2302), (2302, .aload_n 2, 1, 2303), (2303, .invokevirtual 144, 3, 2306), (2306, .iload 5, 2, 2308), (2308, .if_icmp .eq 5, 3, 2311), (2311, .iconst 0, 1, 2312), (2312, .ireturn, 1, 2313), (2313, .iload 5, 2, 2315), (2315, .ifCond .ne 15, 3, 2318), (2318, .aload_n 3, 1, 2319), (2319, .iconst 0, 1, 2320), (2320, .laload, 1, 2321), (2321, .iload 6, 2, 2323), (2323, .i2l, 1, 2324), (2324, .lcmp, 1, 2325), (2325, .ifCond .eq 5, 3, 2328), (2328, .iconst 0, 1, 2329), (2329, .ireturn, 1, 2330), (2330, .goto 577, 3, 2333)]
set_option maxRecDepth 20000 in
theorem Q_E_gone : zT M_E T_E_gone := zT_of (by decide +kernel)
theorem e_gone {S : zS} {V : qV} {J : qJ} {n i : Int} {kc ks : Nat} (hB : qB S V) (hR : Rel n V J) (hi : 0 ≤ i ∧ i + 5 < V 1000005 0) (h1 : 67 ≤ kc) (h2 : 402 ≤ ks) (kk : ∀ S' V' J', qB S' V' → Rel (n + 1) V' J' → scV V V' → Z M_E 200 (kc - 67) (ks - 402) 2907 (LE i none none none) [] S' (qi V') (qj J') QE) : Z M_E 200 kc ks 2277 (LE i none none none) [] S (qi V) (qj J) QE := by
  refine z_aload_n Q_E_gone (k := 0) rfl rfl ?_
  refine q_arg (i := i) (j := 1) hB Q_E_gone (k := 1) rfl rfl rfl rfl rfl rfl rfl (by omega) rfl ?_
  refine z_aload_n Q_E_gone (k := 6) rfl rfl ?_
  refine z_callSH (as := [.ref 0, .int (iI (V 1000004 (i + 1))), .ref 624]) Q_E_gone (k := 7) rfl rfl K_L_gone L_L_248 rfl rfl (Nat.le_of_ble_eq_true rfl) rfl (by decide) (show 1 ≤ kc by omega) (show 6 ≤ ks by omega) (Or.inr (zRbE hB.1.1)) (Z.scr (w_L_gone (Q := fun c V1 J1 => (c = 0 ∧ ∃ (r : Int) (J0 : qJ), zr r ∧ J1 = qu J0 624 0 (iI r).toInt64 ∧ W_X11_gone (V 1000004 (i + 1)) V1 (fun s V2 => V2 602 0 = 0 ∧ r = s ∧ Rel (n + 1) V2 J0)) ∨ (c ≠ 0 ∧ W_X11_gone (V 1000004 (i + 1)) V1 (fun s V2 => V2 602 0 = c ∧ Rel (n + 1) V2 J1))) 197 hB (hB.2.1 _ _) (t_gone (P := (fun V2 => Rel (n + 1) V2 J)) hR (fun _ h => h)) (fun r hz hw => Or.inl ⟨rfl, r, J, hz, rfl, hw⟩) (fun E h => ⟨h.1, Or.inr ⟨by decide, h.2⟩⟩))) (fun E S' I' J' hq => by obtain ⟨⟨_, _, _, e, _⟩, _⟩ := hq; cases e) (fun v S' I' J' hq => ?_)
  obtain ⟨⟨c, V1, J1, e, hn1, hI, hJ, hB1, hzc, hq⟩, hsc⟩ := hq
  cases e; subst hI; subst hJ
  have sc := scV.of hB hB1 hsc
  have sl := sc.1
  refine y_istore (L' := LE i (some (.int (iI c))) none none) Q_E_gone (k := 8) rfl (by decide) rfl ?_
  refine z_aload_n Q_E_gone (k := 9) rfl rfl ?_
  refine q_arg (i := i) (j := 1) hB1 Q_E_gone (k := 10) rfl rfl rfl rfl rfl rfl rfl (by omega) (sc.2 _ (by omega)) ?_
  rcases hq with ⟨rfl, r, J0, hzr, rfl, hw⟩ | ⟨c0, hw⟩
  · refine z_callV (o := 602) (as := [.int (iI (V 1000004 (i + 1)))]) Q_E_gone (k := 15) rfl rfl K_X11_gone V_X11_gone L_L_250 (n_ hB1.1 rfl) (k_602 hB1.1) rfl rfl (Nat.le_of_ble_eq_true rfl) rfl (by decide) (Nat.zero_le _) (Nat.zero_le _) (Or.inl (fun o S' I' J' hq => by obtain ⟨_, _, _, e, _⟩ := hq; rw [e])) (w_X11_gone 197 hB1 (hB.2.1 _ _) hw) (fun E S' I' J' hq => by obtain ⟨_, _, e, _⟩ := hq; cases e) (fun v S' I' J' hq => ?_)
    obtain ⟨s, V2, e, hS, hI, hJ, hB2, hzs, hq⟩ := hq
    cases e; subst hS; subst hI; subst hJ
    have sc2 := scV.of hB1 hB2 ⟨rfl, fun _ => rfl⟩
    refine y_istore (L' := LE i (some (.int (iI 0))) (some (.int (iI s))) none) Q_E_gone (k := 16) rfl (by decide) rfl ?_
    refine z_aload_n Q_E_gone (k := 17) rfl rfl ?_
    refine q_callV0_i Q_E_gone (k := 18) rfl rfl K_X11_thrown V_X11_thrown L_L_144 (n_ hB2.1 rfl) (k_602 hB2.1) (Nat.le_of_ble_eq_true rfl) (Nat.le_of_ble_eq_true rfl) rfl (Nat.zero_le _) (Nat.zero_le _) (w_X11_thrown 199 hB2 (Q := fun r => r = V2 602 0) rfl) (fun t hzt ht => ?_)
    refine z_iload Q_E_gone (k := 19) rfl rfl ?_
    refine y_icmp_eq 2313 Q_E_gone (k := 20) rfl (by decide) hzt ⟨by decide, by decide⟩ (fun _ => ?_) (fun h => absurd (ht.trans hq.1) h)
    refine z_iload Q_E_gone (k := 23) rfl rfl ?_
    refine y_if_ne 2330 Q_E_gone (k := 24) rfl (by decide) ⟨by decide, by decide⟩ (fun h => absurd rfl h) (fun _ => ?_)
    refine z_aload_n Q_E_gone (k := 25) rfl rfl ?_
    refine y_iconst Q_E_gone (k := 26) rfl ?_
    refine q_lald (z := 0) (N := 1) (o := 624) Q_E_gone (k := 27) rfl rfl (n_ hB2.1 rfl) (k_624 hB2.1) rfl ⟨by decide, by decide⟩ (by decide) ?_
    refine z_iload Q_E_gone (k := 28) rfl rfl ?_
    refine z_i2l Q_E_gone (k := 29) rfl ?_
    refine y_lcmp Q_E_gone (k := 30) rfl ?_
    refine y_if_eq 2330 Q_E_gone (k := 31) rfl (by decide) (zlc_r _ _) (fun _ => ?_) (fun h => absurd (zlc_0.mpr (by rw [qu_s, hq.2.1])) h)
    exact z_goto Q_E_gone (k := 34) (tgt := 2907) rfl (by decide) (((kk _ V2 _ hB2 (hq.2.2.out _) (sc.tr sc2)).wid (by omega) (by omega)).sub LE_f)
  · refine z_callV (o := 602) (as := [.int (iI (V 1000004 (i + 1)))]) Q_E_gone (k := 15) rfl rfl K_X11_gone V_X11_gone L_L_250 (n_ hB1.1 rfl) (k_602 hB1.1) rfl rfl (Nat.le_of_ble_eq_true rfl) rfl (by decide) (Nat.zero_le _) (Nat.zero_le _) (Or.inl (fun o S' I' J' hq => by obtain ⟨_, _, _, e, _⟩ := hq; rw [e])) (w_X11_gone 197 hB1 (hB.2.1 _ _) hw) (fun E S' I' J' hq => by obtain ⟨_, _, e, _⟩ := hq; cases e) (fun v S' I' J' hq => ?_)
    obtain ⟨s, V2, e, hS, hI, hJ, hB2, hzs, hq⟩ := hq
    cases e; subst hS; subst hI; subst hJ
    have sc2 := scV.of hB1 hB2 ⟨rfl, fun _ => rfl⟩
    refine y_istore (L' := LE i (some (.int (iI c))) (some (.int (iI s))) none) Q_E_gone (k := 16) rfl (by decide) rfl ?_
    refine z_aload_n Q_E_gone (k := 17) rfl rfl ?_
    refine q_callV0_i Q_E_gone (k := 18) rfl rfl K_X11_thrown V_X11_thrown L_L_144 (n_ hB2.1 rfl) (k_602 hB2.1) (Nat.le_of_ble_eq_true rfl) (Nat.le_of_ble_eq_true rfl) rfl (Nat.zero_le _) (Nat.zero_le _) (w_X11_thrown 199 hB2 (Q := fun r => r = V2 602 0) rfl) (fun t hzt ht => ?_)
    refine z_iload Q_E_gone (k := 19) rfl rfl ?_
    refine y_icmp_eq 2313 Q_E_gone (k := 20) rfl (by decide) hzt hzc (fun _ => ?_) (fun h => absurd (ht.trans hq.1) h)
    refine z_iload Q_E_gone (k := 23) rfl rfl ?_
    refine y_if_ne 2330 Q_E_gone (k := 24) rfl (by decide) hzc (fun _ => ?_) (fun h => absurd h c0)
    exact z_goto Q_E_gone (k := 34) (tgt := 2907) rfl (by decide) (((kk _ V2 J1 hB2 hq.2 (sc.tr sc2)).wid (by omega) (by omega)).sub LE_f)
def T_E_late : zTb := [(2333, .aload_n 1, 1, 2334), (2334, .aload_n 0, 1, 2335), (2335, .iload 4, 2, 2337), (2337, .iconst 1, 1, 2338), (2338, .iadd, 1, 2339), (2339, .iaload, 1, 2340), (2340, .aload_n 0, 1, 2341), (2341, .iload 4, 2, 2343), (2343, .iconst 2, 1, 2344), (2344, .iadd, 1, 2345), (2345, .iaload, 1, 2346), (2346, .aload_n 3, 1, 2347), (2347, .invokestatic 251, 3, 2350), (2350, .istore 5, 2, 2352), (2352, .aload_n 2, 1, 2353), (2353, .aload_n 0, 1, 2354), (2354, .iload 4, 2, 2356), (2356, .iconst 1, 1, 2357), (2357, .iadd, 1, 2358), (2358, .iaload, 1, 2359), (2359, .aload_n 0, 1, 2360), (2360, .iload 4, 2, 2362), (2362, .iconst 2, 1, 2363), (2363, .iadd, 1, 2364), (2364, .iaload, 1, 2365), (2365, .invokevirtual 253, 3, 2368), (2368, .istore 6, 2, 2370), (2370, .aload_n 2, 1, 2371), (2371, .invokevirtual 144, 3, 2374), (2374, .iload 5, 2, 2376), (2376, .if_icmp .eq 5, 3, 2379), (2379, .iconst 0, 1, 2380), (2380, .ireturn, 1, 2381), (2381, .iload 5, 2, 2383), (2383, .ifCond .ne 15, 3, 2386), (2386, .aload_n 3, 1, 2387), (2387, .iconst 0, 1, 2388), (2388, .laload, 1, 2389), (2389, .iload 6, 2, 2391), (2391, .i2l, 1, 2392), (2392, .lcmp, 1, 2393), (2393, .ifCond .eq 5, 3, 2396), (2396, .iconst 0, 1, 2397), (2397, .ireturn, 1, 2398), (2398, .goto 509, 3, 2401)]
set_option maxRecDepth 20000 in
theorem Q_E_late : zT M_E T_E_late := zT_of (by decide +kernel)
theorem e_late {S : zS} {V : qV} {J : qJ} {n i : Int} {kc ks : Nat} (hB : qB S V) (hR : Rel n V J) (hi : 0 ≤ i ∧ i + 5 < V 1000005 0) (h1 : 67 ≤ kc) (h2 : 402 ≤ ks) (kk : ∀ S' V' J', qB S' V' → Rel (n + 1) V' J' → scV V V' → Z M_E 200 (kc - 67) (ks - 402) 2907 (LE i none none none) [] S' (qi V') (qj J') QE) : Z M_E 200 kc ks 2333 (LE i none none none) [] S (qi V) (qj J) QE := by
  refine z_aload_n Q_E_late (k := 0) rfl rfl ?_
  refine q_arg (i := i) (j := 1) hB Q_E_late (k := 1) rfl rfl rfl rfl rfl rfl rfl (by omega) rfl ?_
  refine q_arg (i := i) (j := 2) hB Q_E_late (k := 6) rfl rfl rfl rfl rfl rfl rfl (by omega) rfl ?_
  refine z_aload_n Q_E_late (k := 11) rfl rfl ?_
  refine z_callSH (as := [.ref 0, .int (iI (V 1000004 (i + 1))), .int (iI (V 1000004 (i + 2))), .ref 624]) Q_E_late (k := 12) rfl rfl K_L_late L_L_251 rfl rfl (Nat.le_of_ble_eq_true rfl) rfl (by decide) (show 4 ≤ kc by omega) (show 24 ≤ ks by omega) (Or.inr (zRbE hB.1.1)) (Z.scr (w_L_late (Q := fun c V1 J1 => (c = 0 ∧ ∃ (r : Int) (J0 : qJ), zr r ∧ J1 = qu J0 624 0 (iI r).toInt64 ∧ W_X11_late (V 1000004 (i + 1)) (V 1000004 (i + 2)) V1 (fun s V2 => V2 602 0 = 0 ∧ r = s ∧ Rel (n + 1) V2 J0)) ∨ (c ≠ 0 ∧ W_X11_late (V 1000004 (i + 1)) (V 1000004 (i + 2)) V1 (fun s V2 => V2 602 0 = c ∧ Rel (n + 1) V2 J1))) 192 hB (hB.2.1 _ _) (hB.2.1 _ _) (t_late (P := (fun V2 J2 => Rel (n + 1) V2 J2)) hR (fun _ _ h => h)) (fun r V1 J1 hz hw => Or.inl ⟨rfl, r, J1, hz, rfl, hw⟩) (fun E V1 J1 h => by
    rcases h with ⟨e, w⟩ | ⟨e, w⟩
    · exact Or.inl ⟨e, Or.inr ⟨by decide, w⟩⟩
    · exact Or.inr ⟨e, Or.inr ⟨by decide, w⟩⟩))) (fun E S' I' J' hq => by obtain ⟨⟨_, _, _, e, _⟩, _⟩ := hq; cases e) (fun v S' I' J' hq => ?_)
  obtain ⟨⟨c, V1, J1, e, hn1, hI, hJ, hB1, hzc, hq⟩, hsc⟩ := hq
  cases e; subst hI; subst hJ
  have sc := scV.of hB hB1 hsc
  have sl := sc.1
  refine y_istore (L' := LE i (some (.int (iI c))) none none) Q_E_late (k := 13) rfl (by decide) rfl ?_
  refine z_aload_n Q_E_late (k := 14) rfl rfl ?_
  refine q_arg (i := i) (j := 1) hB1 Q_E_late (k := 15) rfl rfl rfl rfl rfl rfl rfl (by omega) (sc.2 _ (by omega)) ?_
  refine q_arg (i := i) (j := 2) hB1 Q_E_late (k := 20) rfl rfl rfl rfl rfl rfl rfl (by omega) (sc.2 _ (by omega)) ?_
  rcases hq with ⟨rfl, r, J0, hzr, rfl, hw⟩ | ⟨c0, hw⟩
  · refine z_callV (o := 602) (as := [.int (iI (V 1000004 (i + 1))), .int (iI (V 1000004 (i + 2)))]) Q_E_late (k := 25) rfl rfl K_X11_late V_X11_late L_L_253 (n_ hB1.1 rfl) (k_602 hB1.1) rfl rfl (Nat.le_of_ble_eq_true rfl) rfl (by decide) (Nat.zero_le _) (Nat.zero_le _) (Or.inl (fun o S' I' J' hq => by obtain ⟨_, _, _, e, _⟩ := hq; rw [e])) (w_X11_late 196 hB1 (hB.2.1 _ _) (hB.2.1 _ _) hw) (fun E S' I' J' hq => by obtain ⟨_, _, e, _⟩ := hq; cases e) (fun v S' I' J' hq => ?_)
    obtain ⟨s, V2, e, hS, hI, hJ, hB2, hzs, hq⟩ := hq
    cases e; subst hS; subst hI; subst hJ
    have sc2 := scV.of hB1 hB2 ⟨rfl, fun _ => rfl⟩
    refine y_istore (L' := LE i (some (.int (iI 0))) (some (.int (iI s))) none) Q_E_late (k := 26) rfl (by decide) rfl ?_
    refine z_aload_n Q_E_late (k := 27) rfl rfl ?_
    refine q_callV0_i Q_E_late (k := 28) rfl rfl K_X11_thrown V_X11_thrown L_L_144 (n_ hB2.1 rfl) (k_602 hB2.1) (Nat.le_of_ble_eq_true rfl) (Nat.le_of_ble_eq_true rfl) rfl (Nat.zero_le _) (Nat.zero_le _) (w_X11_thrown 199 hB2 (Q := fun r => r = V2 602 0) rfl) (fun t hzt ht => ?_)
    refine z_iload Q_E_late (k := 29) rfl rfl ?_
    refine y_icmp_eq 2381 Q_E_late (k := 30) rfl (by decide) hzt ⟨by decide, by decide⟩ (fun _ => ?_) (fun h => absurd (ht.trans hq.1) h)
    refine z_iload Q_E_late (k := 33) rfl rfl ?_
    refine y_if_ne 2398 Q_E_late (k := 34) rfl (by decide) ⟨by decide, by decide⟩ (fun h => absurd rfl h) (fun _ => ?_)
    refine z_aload_n Q_E_late (k := 35) rfl rfl ?_
    refine y_iconst Q_E_late (k := 36) rfl ?_
    refine q_lald (z := 0) (N := 1) (o := 624) Q_E_late (k := 37) rfl rfl (n_ hB2.1 rfl) (k_624 hB2.1) rfl ⟨by decide, by decide⟩ (by decide) ?_
    refine z_iload Q_E_late (k := 38) rfl rfl ?_
    refine z_i2l Q_E_late (k := 39) rfl ?_
    refine y_lcmp Q_E_late (k := 40) rfl ?_
    refine y_if_eq 2398 Q_E_late (k := 41) rfl (by decide) (zlc_r _ _) (fun _ => ?_) (fun h => absurd (zlc_0.mpr (by rw [qu_s, hq.2.1])) h)
    exact z_goto Q_E_late (k := 44) (tgt := 2907) rfl (by decide) (((kk _ V2 _ hB2 (hq.2.2.out _) (sc.tr sc2)).wid (by omega) (by omega)).sub LE_f)
  · refine z_callV (o := 602) (as := [.int (iI (V 1000004 (i + 1))), .int (iI (V 1000004 (i + 2)))]) Q_E_late (k := 25) rfl rfl K_X11_late V_X11_late L_L_253 (n_ hB1.1 rfl) (k_602 hB1.1) rfl rfl (Nat.le_of_ble_eq_true rfl) rfl (by decide) (Nat.zero_le _) (Nat.zero_le _) (Or.inl (fun o S' I' J' hq => by obtain ⟨_, _, _, e, _⟩ := hq; rw [e])) (w_X11_late 196 hB1 (hB.2.1 _ _) (hB.2.1 _ _) hw) (fun E S' I' J' hq => by obtain ⟨_, _, e, _⟩ := hq; cases e) (fun v S' I' J' hq => ?_)
    obtain ⟨s, V2, e, hS, hI, hJ, hB2, hzs, hq⟩ := hq
    cases e; subst hS; subst hI; subst hJ
    have sc2 := scV.of hB1 hB2 ⟨rfl, fun _ => rfl⟩
    refine y_istore (L' := LE i (some (.int (iI c))) (some (.int (iI s))) none) Q_E_late (k := 26) rfl (by decide) rfl ?_
    refine z_aload_n Q_E_late (k := 27) rfl rfl ?_
    refine q_callV0_i Q_E_late (k := 28) rfl rfl K_X11_thrown V_X11_thrown L_L_144 (n_ hB2.1 rfl) (k_602 hB2.1) (Nat.le_of_ble_eq_true rfl) (Nat.le_of_ble_eq_true rfl) rfl (Nat.zero_le _) (Nat.zero_le _) (w_X11_thrown 199 hB2 (Q := fun r => r = V2 602 0) rfl) (fun t hzt ht => ?_)
    refine z_iload Q_E_late (k := 29) rfl rfl ?_
    refine y_icmp_eq 2381 Q_E_late (k := 30) rfl (by decide) hzt hzc (fun _ => ?_) (fun h => absurd (ht.trans hq.1) h)
    refine z_iload Q_E_late (k := 33) rfl rfl ?_
    refine y_if_ne 2398 Q_E_late (k := 34) rfl (by decide) hzc (fun _ => ?_) (fun h => absurd h c0)
    exact z_goto Q_E_late (k := 44) (tgt := 2907) rfl (by decide) (((kk _ V2 J1 hB2 hq.2 (sc.tr sc2)).wid (by omega) (by omega)).sub LE_f)
def T_E_pass : zTb := [(2401, .aload_n 1, 1, 2402), (2402, .aload_n 0, 1, 2403), (2403, .iload 4, 2, 2405), (2405, .iconst 1, 1, 2406), (2406, .iadd, 1, 2407), (2407, .iaload, 1, 2408), (2408, .aload_n 0, 1, 2409), (2409, .iload 4, 2, 2411), (2411, .iconst 2, 1, 2412), (2412, .iadd, 1, 2413), (2413, .iaload, 1, 2414), (2414, .aload_n 0, 1, 2415), (2415, .iload 4, 2, 2417), (2417, .iconst 3, 1, 2418), (2418, .iadd, 1, 2419), (2419, .iaload, 1, 2420), (2420, .aload_n 0, 1, 2421), (2421, .iload 4, 2, 2423), (2423, .iconst 4, 1, 2424), (2424, .iadd, 1, 2425), (2425, .iaload, 1, 2426), (2426, .aload_n 3, 1, 2427), (2427, .invokestatic 254, 3, 2430), (2430, .istore 5, 2, 2432), (2432, .aload_n 2, 1, 2433), (2433, .aload_n 0, 1, 2434), (2434, .iload 4, 2, 2436), (2436, .iconst 1, 1, 2437), (2437, .iadd, 1, 2438), (2438, .iaload, 1, 2439), (2439, .aload_n 0, 1, 2440), (2440, .iload 4, 2, 2442), (2442, .iconst 2, 1, 2443), (2443, .iadd, 1, 2444), (2444, .iaload, 1, 2445), (2445, .aload_n 0, 1, 2446), (2446, .iload 4, 2, 2448), (2448, .iconst 3, 1, 2449), (2449, .iadd, 1, 2450), (2450, .iaload, 1, 2451), (2451, .aload_n 0, 1, 2452), (2452, .iload 4, 2, 2454), (2454, .iconst 4, 1, 2455), (2455, .iadd, 1, 2456), (2456, .iaload, 1, 2457), (2457, .invokevirtual 256, 3, 2460), (2460, .istore 6, 2, 2462), (2462, .aload_n 2, 1, 2463), (2463, .invokevirtual 144, 3, 2466), (2466, .iload 5, 2, 2468), (2468, .if_icmp .eq 5, 3, 2471), (2471, .iconst 0, 1, 2472), (2472, .ireturn, 1, 2473), (2473, .iload 5, 2, 2475), (2475, .ifCond .ne 15, 3, 2478), (2478, .aload_n 3, 1, 2479), (2479, .iconst 0, 1, 2480), (2480, .laload, 1, 2481), (2481, .iload 6, 2, 2483), (2483, .i2l, 1, 2484), (2484, .lcmp, 1, 2485), (2485, .ifCond .eq 5, 3, 2488), (2488, .iconst 0, 1, 2489), (2489, .ireturn, 1, 2490), (2490, .goto 417, 3, 2493)]
set_option maxRecDepth 20000 in
theorem Q_E_pass : zT M_E T_E_pass := zT_of (by decide +kernel)
theorem e_pass {S : zS} {V : qV} {J : qJ} {n i : Int} {kc ks : Nat} (hB : qB S V) (hR : Rel n V J) (hi : 0 ≤ i ∧ i + 5 < V 1000005 0) (h1 : 67 ≤ kc) (h2 : 402 ≤ ks) (kk : ∀ S' V' J', qB S' V' → Rel (n + 1) V' J' → scV V V' → Z M_E 200 (kc - 67) (ks - 402) 2907 (LE i none none none) [] S' (qi V') (qj J') QE) : Z M_E 200 kc ks 2401 (LE i none none none) [] S (qi V) (qj J) QE := by
  refine z_aload_n Q_E_pass (k := 0) rfl rfl ?_
  refine q_arg (i := i) (j := 1) hB Q_E_pass (k := 1) rfl rfl rfl rfl rfl rfl rfl (by omega) rfl ?_
  refine q_arg (i := i) (j := 2) hB Q_E_pass (k := 6) rfl rfl rfl rfl rfl rfl rfl (by omega) rfl ?_
  refine q_arg (i := i) (j := 3) hB Q_E_pass (k := 11) rfl rfl rfl rfl rfl rfl rfl (by omega) rfl ?_
  refine q_arg (i := i) (j := 4) hB Q_E_pass (k := 16) rfl rfl rfl rfl rfl rfl rfl (by omega) rfl ?_
  refine z_aload_n Q_E_pass (k := 21) rfl rfl ?_
  refine z_callSH (as := [.ref 0, .int (iI (V 1000004 (i + 1))), .int (iI (V 1000004 (i + 2))), .int (iI (V 1000004 (i + 3))), .int (iI (V 1000004 (i + 4))), .ref 624]) Q_E_pass (k := 22) rfl rfl K_L_pass L_L_254 rfl rfl (Nat.le_of_ble_eq_true rfl) rfl (by decide) (show 4 ≤ kc by omega) (show 24 ≤ ks by omega) (Or.inr (zRbE hB.1.1)) (Z.scr (w_L_pass (Q := fun c V1 J1 => (c = 0 ∧ ∃ (r : Int) (J0 : qJ), zr r ∧ J1 = qu J0 624 0 (iI r).toInt64 ∧ W_X11_pass_ (V 1000004 (i + 1)) (V 1000004 (i + 2)) (V 1000004 (i + 3)) (V 1000004 (i + 4)) V1 (fun s V2 => V2 602 0 = 0 ∧ r = s ∧ Rel (n + 1) V2 J0)) ∨ (c ≠ 0 ∧ W_X11_pass_ (V 1000004 (i + 1)) (V 1000004 (i + 2)) (V 1000004 (i + 3)) (V 1000004 (i + 4)) V1 (fun s V2 => V2 602 0 = c ∧ Rel (n + 1) V2 J1))) 196 hB (hB.2.1 _ _) (hB.2.1 _ _) (hB.2.1 _ _) (hB.2.1 _ _) (t_pass (P := (fun V2 => Rel (n + 1) V2 J)) hR (fun _ h => h)) (fun r V1 hz hw => Or.inl ⟨rfl, r, J, hz, rfl, hw⟩) (fun E V1 h => by
    rcases h with ⟨e, w⟩ | ⟨e, w⟩ | ⟨e, w⟩
    · exact Or.inl ⟨e, Or.inr ⟨by decide, w⟩⟩
    · exact Or.inr (Or.inl ⟨e, Or.inr ⟨by decide, w⟩⟩)
    · exact Or.inr (Or.inr ⟨e, Or.inr ⟨by decide, w⟩⟩)))) (fun E S' I' J' hq => by obtain ⟨⟨_, _, _, e, _⟩, _⟩ := hq; cases e) (fun v S' I' J' hq => ?_)
  obtain ⟨⟨c, V1, J1, e, hn1, hI, hJ, hB1, hzc, hq⟩, hsc⟩ := hq
  cases e; subst hI; subst hJ
  have sc := scV.of hB hB1 hsc
  have sl := sc.1
  refine y_istore (L' := LE i (some (.int (iI c))) none none) Q_E_pass (k := 23) rfl (by decide) rfl ?_
  refine z_aload_n Q_E_pass (k := 24) rfl rfl ?_
  refine q_arg (i := i) (j := 1) hB1 Q_E_pass (k := 25) rfl rfl rfl rfl rfl rfl rfl (by omega) (sc.2 _ (by omega)) ?_
  refine q_arg (i := i) (j := 2) hB1 Q_E_pass (k := 30) rfl rfl rfl rfl rfl rfl rfl (by omega) (sc.2 _ (by omega)) ?_
  refine q_arg (i := i) (j := 3) hB1 Q_E_pass (k := 35) rfl rfl rfl rfl rfl rfl rfl (by omega) (sc.2 _ (by omega)) ?_
  refine q_arg (i := i) (j := 4) hB1 Q_E_pass (k := 40) rfl rfl rfl rfl rfl rfl rfl (by omega) (sc.2 _ (by omega)) ?_
  rcases hq with ⟨rfl, r, J0, hzr, rfl, hw⟩ | ⟨c0, hw⟩
  · refine z_callV (o := 602) (as := [.int (iI (V 1000004 (i + 1))), .int (iI (V 1000004 (i + 2))), .int (iI (V 1000004 (i + 3))), .int (iI (V 1000004 (i + 4)))]) Q_E_pass (k := 45) rfl rfl K_X11_pass_ V_X11_pass_ L_L_256 (n_ hB1.1 rfl) (k_602 hB1.1) rfl rfl (Nat.le_of_ble_eq_true rfl) rfl (by decide) (Nat.zero_le _) (Nat.zero_le _) (Or.inl (fun o S' I' J' hq => by obtain ⟨_, _, _, e, _⟩ := hq; rw [e])) (w_X11_pass_ 196 hB1 (hB.2.1 _ _) (hB.2.1 _ _) (hB.2.1 _ _) (hB.2.1 _ _) hw) (fun E S' I' J' hq => by obtain ⟨_, _, e, _⟩ := hq; cases e) (fun v S' I' J' hq => ?_)
    obtain ⟨s, V2, e, hS, hI, hJ, hB2, hzs, hq⟩ := hq
    cases e; subst hS; subst hI; subst hJ
    have sc2 := scV.of hB1 hB2 ⟨rfl, fun _ => rfl⟩
    refine y_istore (L' := LE i (some (.int (iI 0))) (some (.int (iI s))) none) Q_E_pass (k := 46) rfl (by decide) rfl ?_
    refine z_aload_n Q_E_pass (k := 47) rfl rfl ?_
    refine q_callV0_i Q_E_pass (k := 48) rfl rfl K_X11_thrown V_X11_thrown L_L_144 (n_ hB2.1 rfl) (k_602 hB2.1) (Nat.le_of_ble_eq_true rfl) (Nat.le_of_ble_eq_true rfl) rfl (Nat.zero_le _) (Nat.zero_le _) (w_X11_thrown 199 hB2 (Q := fun r => r = V2 602 0) rfl) (fun t hzt ht => ?_)
    refine z_iload Q_E_pass (k := 49) rfl rfl ?_
    refine y_icmp_eq 2473 Q_E_pass (k := 50) rfl (by decide) hzt ⟨by decide, by decide⟩ (fun _ => ?_) (fun h => absurd (ht.trans hq.1) h)
    refine z_iload Q_E_pass (k := 53) rfl rfl ?_
    refine y_if_ne 2490 Q_E_pass (k := 54) rfl (by decide) ⟨by decide, by decide⟩ (fun h => absurd rfl h) (fun _ => ?_)
    refine z_aload_n Q_E_pass (k := 55) rfl rfl ?_
    refine y_iconst Q_E_pass (k := 56) rfl ?_
    refine q_lald (z := 0) (N := 1) (o := 624) Q_E_pass (k := 57) rfl rfl (n_ hB2.1 rfl) (k_624 hB2.1) rfl ⟨by decide, by decide⟩ (by decide) ?_
    refine z_iload Q_E_pass (k := 58) rfl rfl ?_
    refine z_i2l Q_E_pass (k := 59) rfl ?_
    refine y_lcmp Q_E_pass (k := 60) rfl ?_
    refine y_if_eq 2490 Q_E_pass (k := 61) rfl (by decide) (zlc_r _ _) (fun _ => ?_) (fun h => absurd (zlc_0.mpr (by rw [qu_s, hq.2.1])) h)
    exact z_goto Q_E_pass (k := 64) (tgt := 2907) rfl (by decide) (((kk _ V2 _ hB2 (hq.2.2.out _) (sc.tr sc2)).wid (by omega) (by omega)).sub LE_f)
  · refine z_callV (o := 602) (as := [.int (iI (V 1000004 (i + 1))), .int (iI (V 1000004 (i + 2))), .int (iI (V 1000004 (i + 3))), .int (iI (V 1000004 (i + 4)))]) Q_E_pass (k := 45) rfl rfl K_X11_pass_ V_X11_pass_ L_L_256 (n_ hB1.1 rfl) (k_602 hB1.1) rfl rfl (Nat.le_of_ble_eq_true rfl) rfl (by decide) (Nat.zero_le _) (Nat.zero_le _) (Or.inl (fun o S' I' J' hq => by obtain ⟨_, _, _, e, _⟩ := hq; rw [e])) (w_X11_pass_ 196 hB1 (hB.2.1 _ _) (hB.2.1 _ _) (hB.2.1 _ _) (hB.2.1 _ _) hw) (fun E S' I' J' hq => by obtain ⟨_, _, e, _⟩ := hq; cases e) (fun v S' I' J' hq => ?_)
    obtain ⟨s, V2, e, hS, hI, hJ, hB2, hzs, hq⟩ := hq
    cases e; subst hS; subst hI; subst hJ
    have sc2 := scV.of hB1 hB2 ⟨rfl, fun _ => rfl⟩
    refine y_istore (L' := LE i (some (.int (iI c))) (some (.int (iI s))) none) Q_E_pass (k := 46) rfl (by decide) rfl ?_
    refine z_aload_n Q_E_pass (k := 47) rfl rfl ?_
    refine q_callV0_i Q_E_pass (k := 48) rfl rfl K_X11_thrown V_X11_thrown L_L_144 (n_ hB2.1 rfl) (k_602 hB2.1) (Nat.le_of_ble_eq_true rfl) (Nat.le_of_ble_eq_true rfl) rfl (Nat.zero_le _) (Nat.zero_le _) (w_X11_thrown 199 hB2 (Q := fun r => r = V2 602 0) rfl) (fun t hzt ht => ?_)
    refine z_iload Q_E_pass (k := 49) rfl rfl ?_
    refine y_icmp_eq 2473 Q_E_pass (k := 50) rfl (by decide) hzt hzc (fun _ => ?_) (fun h => absurd (ht.trans hq.1) h)
    refine z_iload Q_E_pass (k := 53) rfl rfl ?_
    refine y_if_ne 2490 Q_E_pass (k := 54) rfl (by decide) hzc (fun _ => ?_) (fun h => absurd h c0)
    exact z_goto Q_E_pass (k := 64) (tgt := 2907) rfl (by decide) (((kk _ V2 J1 hB2 hq.2 (sc.tr sc2)).wid (by omega) (by omega)).sub LE_f)
def T_E_has : zTb := [(2493, .aload_n 1, 1, 2494), (2494, .aload_n 0, 1, 2495), (2495, .iload 4, 2, 2497), (2497, .iconst 1, 1, 2498), (2498, .iadd, 1, 2499), (2499, .iaload, 1, 2500), (2500, .aload_n 3, 1, 2501), (2501, .invokestatic 257, 3, 2504), (2504, .istore 5, 2, 2506), (2506, .aload_n 2, 1, 2507), (2507, .aload_n 0, 1, 2508), (2508, .iload 4, 2, 2510), (2510, .iconst 1, 1, 2511), (2511, .iadd, 1, 2512), (2512, .iaload, 1, 2513), (2513, .invokevirtual 259, 3, 2516), (2516, .istore 6, 2, 2518), (2518, .aload_n 2, 1, 2519), (2519, .invokevirtual 144, 3, 2522), (2522, .iload 5, 2, 2524), (2524, .if_icmp .eq 5, 3, 2527), (2527, .iconst 0, 1, 2528), (2528, .ireturn, 1, 2529), (2529, .iload 5, 2, 2531), (2531, .ifCond .ne 15, 3, 2534), (2534, .aload_n 3, 1, 2535), (2535, .iconst 0, 1, 2536), (2536, .laload, 1, 2537), (2537, .iload 6, 2, 2539), (2539, .i2l, 1, 2540), (2540, .lcmp, 1, 2541), (2541, .ifCond .eq 5, 3, 2544), (2544, .iconst 0, 1, 2545), (2545, .ireturn, 1, 2546), (2546, .goto 361, 3, 2549)]
set_option maxRecDepth 20000 in
theorem Q_E_has : zT M_E T_E_has := zT_of (by decide +kernel)
theorem e_has {S : zS} {V : qV} {J : qJ} {n i : Int} {kc ks : Nat} (hB : qB S V) (hR : Rel n V J) (hi : 0 ≤ i ∧ i + 5 < V 1000005 0) (h1 : 67 ≤ kc) (h2 : 402 ≤ ks) (kk : ∀ S' V' J', qB S' V' → Rel (n + 1) V' J' → scV V V' → Z M_E 200 (kc - 67) (ks - 402) 2907 (LE i none none none) [] S' (qi V') (qj J') QE) : Z M_E 200 kc ks 2493 (LE i none none none) [] S (qi V) (qj J) QE := by
  refine z_aload_n Q_E_has (k := 0) rfl rfl ?_
  refine q_arg (i := i) (j := 1) hB Q_E_has (k := 1) rfl rfl rfl rfl rfl rfl rfl (by omega) rfl ?_
  refine z_aload_n Q_E_has (k := 6) rfl rfl ?_
  refine z_callSH (as := [.ref 0, .int (iI (V 1000004 (i + 1))), .ref 624]) Q_E_has (k := 7) rfl rfl K_L_has L_L_257 rfl rfl (Nat.le_of_ble_eq_true rfl) rfl (by decide) (show 1 ≤ kc by omega) (show 6 ≤ ks by omega) (Or.inr (zRbE hB.1.1)) (Z.scr (w_L_has (Q := fun c V1 J1 => (c = 0 ∧ ∃ (r : Int) (J0 : qJ), zr r ∧ J1 = qu J0 624 0 (iI r).toInt64 ∧ W_X11_has (V 1000004 (i + 1)) V1 (fun s V2 => V2 602 0 = 0 ∧ r = s ∧ Rel (n + 1) V2 J0)) ∨ (c ≠ 0 ∧ W_X11_has (V 1000004 (i + 1)) V1 (fun s V2 => V2 602 0 = c ∧ Rel (n + 1) V2 J1))) 196 hB (hB.2.1 _ _) (t_has (P := (fun V2 => Rel (n + 1) V2 J)) hR (fun _ h => h)) (fun r hz hw => Or.inl ⟨rfl, r, J, hz, rfl, hw⟩) (fun E h => ⟨h.1, Or.inr ⟨by decide, h.2⟩⟩))) (fun E S' I' J' hq => by obtain ⟨⟨_, _, _, e, _⟩, _⟩ := hq; cases e) (fun v S' I' J' hq => ?_)
  obtain ⟨⟨c, V1, J1, e, hn1, hI, hJ, hB1, hzc, hq⟩, hsc⟩ := hq
  cases e; subst hI; subst hJ
  have sc := scV.of hB hB1 hsc
  have sl := sc.1
  refine y_istore (L' := LE i (some (.int (iI c))) none none) Q_E_has (k := 8) rfl (by decide) rfl ?_
  refine z_aload_n Q_E_has (k := 9) rfl rfl ?_
  refine q_arg (i := i) (j := 1) hB1 Q_E_has (k := 10) rfl rfl rfl rfl rfl rfl rfl (by omega) (sc.2 _ (by omega)) ?_
  rcases hq with ⟨rfl, r, J0, hzr, rfl, hw⟩ | ⟨c0, hw⟩
  · refine z_callV (o := 602) (as := [.int (iI (V 1000004 (i + 1)))]) Q_E_has (k := 15) rfl rfl K_X11_has V_X11_has L_L_259 (n_ hB1.1 rfl) (k_602 hB1.1) rfl rfl (Nat.le_of_ble_eq_true rfl) rfl (by decide) (Nat.zero_le _) (Nat.zero_le _) (Or.inl (fun o S' I' J' hq => by obtain ⟨_, _, _, e, _⟩ := hq; rw [e])) (w_X11_has 196 hB1 (hB.2.1 _ _) hw) (fun E S' I' J' hq => by obtain ⟨_, _, e, _⟩ := hq; cases e) (fun v S' I' J' hq => ?_)
    obtain ⟨s, V2, e, hS, hI, hJ, hB2, hzs, hq⟩ := hq
    cases e; subst hS; subst hI; subst hJ
    have sc2 := scV.of hB1 hB2 ⟨rfl, fun _ => rfl⟩
    refine y_istore (L' := LE i (some (.int (iI 0))) (some (.int (iI s))) none) Q_E_has (k := 16) rfl (by decide) rfl ?_
    refine z_aload_n Q_E_has (k := 17) rfl rfl ?_
    refine q_callV0_i Q_E_has (k := 18) rfl rfl K_X11_thrown V_X11_thrown L_L_144 (n_ hB2.1 rfl) (k_602 hB2.1) (Nat.le_of_ble_eq_true rfl) (Nat.le_of_ble_eq_true rfl) rfl (Nat.zero_le _) (Nat.zero_le _) (w_X11_thrown 199 hB2 (Q := fun r => r = V2 602 0) rfl) (fun t hzt ht => ?_)
    refine z_iload Q_E_has (k := 19) rfl rfl ?_
    refine y_icmp_eq 2529 Q_E_has (k := 20) rfl (by decide) hzt ⟨by decide, by decide⟩ (fun _ => ?_) (fun h => absurd (ht.trans hq.1) h)
    refine z_iload Q_E_has (k := 23) rfl rfl ?_
    refine y_if_ne 2546 Q_E_has (k := 24) rfl (by decide) ⟨by decide, by decide⟩ (fun h => absurd rfl h) (fun _ => ?_)
    refine z_aload_n Q_E_has (k := 25) rfl rfl ?_
    refine y_iconst Q_E_has (k := 26) rfl ?_
    refine q_lald (z := 0) (N := 1) (o := 624) Q_E_has (k := 27) rfl rfl (n_ hB2.1 rfl) (k_624 hB2.1) rfl ⟨by decide, by decide⟩ (by decide) ?_
    refine z_iload Q_E_has (k := 28) rfl rfl ?_
    refine z_i2l Q_E_has (k := 29) rfl ?_
    refine y_lcmp Q_E_has (k := 30) rfl ?_
    refine y_if_eq 2546 Q_E_has (k := 31) rfl (by decide) (zlc_r _ _) (fun _ => ?_) (fun h => absurd (zlc_0.mpr (by rw [qu_s, hq.2.1])) h)
    exact z_goto Q_E_has (k := 34) (tgt := 2907) rfl (by decide) (((kk _ V2 _ hB2 (hq.2.2.out _) (sc.tr sc2)).wid (by omega) (by omega)).sub LE_f)
  · refine z_callV (o := 602) (as := [.int (iI (V 1000004 (i + 1)))]) Q_E_has (k := 15) rfl rfl K_X11_has V_X11_has L_L_259 (n_ hB1.1 rfl) (k_602 hB1.1) rfl rfl (Nat.le_of_ble_eq_true rfl) rfl (by decide) (Nat.zero_le _) (Nat.zero_le _) (Or.inl (fun o S' I' J' hq => by obtain ⟨_, _, _, e, _⟩ := hq; rw [e])) (w_X11_has 196 hB1 (hB.2.1 _ _) hw) (fun E S' I' J' hq => by obtain ⟨_, _, e, _⟩ := hq; cases e) (fun v S' I' J' hq => ?_)
    obtain ⟨s, V2, e, hS, hI, hJ, hB2, hzs, hq⟩ := hq
    cases e; subst hS; subst hI; subst hJ
    have sc2 := scV.of hB1 hB2 ⟨rfl, fun _ => rfl⟩
    refine y_istore (L' := LE i (some (.int (iI c))) (some (.int (iI s))) none) Q_E_has (k := 16) rfl (by decide) rfl ?_
    refine z_aload_n Q_E_has (k := 17) rfl rfl ?_
    refine q_callV0_i Q_E_has (k := 18) rfl rfl K_X11_thrown V_X11_thrown L_L_144 (n_ hB2.1 rfl) (k_602 hB2.1) (Nat.le_of_ble_eq_true rfl) (Nat.le_of_ble_eq_true rfl) rfl (Nat.zero_le _) (Nat.zero_le _) (w_X11_thrown 199 hB2 (Q := fun r => r = V2 602 0) rfl) (fun t hzt ht => ?_)
    refine z_iload Q_E_has (k := 19) rfl rfl ?_
    refine y_icmp_eq 2529 Q_E_has (k := 20) rfl (by decide) hzt hzc (fun _ => ?_) (fun h => absurd (ht.trans hq.1) h)
    refine z_iload Q_E_has (k := 23) rfl rfl ?_
    refine y_if_ne 2546 Q_E_has (k := 24) rfl (by decide) hzc (fun _ => ?_) (fun h => absurd h c0)
    exact z_goto Q_E_has (k := 34) (tgt := 2907) rfl (by decide) (((kk _ V2 J1 hB2 hq.2 (sc.tr sc2)).wid (by omega) (by omega)).sub LE_f)
def T_E_loss : zTb := [(2640, .aload_n 1, 1, 2641), (2641, .aload_n 0, 1, 2642), (2642, .iload 4, 2, 2644), (2644, .iconst 1, 1, 2645), (2645, .iadd, 1, 2646), (2646, .iaload, 1, 2647), (2647, .aload_n 0, 1, 2648), (2648, .iload 4, 2, 2650), (2650, .iconst 2, 1, 2651), (2651, .iadd, 1, 2652), (2652, .iaload, 1, 2653), (2653, .aload_n 3, 1, 2654), (2654, .invokestatic 264, 3, 2657), (2657, .istore 5, 2, 2659), (2659, .aload_n 2, 1, 2660), (2660, .aload_n 0, 1, 2661), (2661, .iload 4, 2, 2663), (2663, .iconst 1, 1, 2664), (2664, .iadd, 1, 2665), (2665, .iaload, 1, 2666), (2666, .aload_n 0, 1, 2667), (2667, .iload 4, 2, 2669), (2669, .iconst 2, 1, 2670), (2670, .iadd, 1, 2671), (2671, .iaload, 1, 2672), (2672, .invokevirtual 266, 3, 2675), (2675, .istore 6, 2, 2677), (2677, .aload_n 2, 1, 2678), (2678, .invokevirtual 144, 3, 2681), (2681, .iload 5, 2, 2683), (2683, .if_icmp .eq 5, 3, 2686), (2686, .iconst 0, 1, 2687), (2687, .ireturn, 1, 2688), (2688, .iload 5, 2, 2690), (2690, .ifCond .ne 15, 3, 2693), (2693, .aload_n 3, 1, 2694), (2694, .iconst 0, 1, 2695), (2695, .laload, 1, 2696), (2696, .iload 6, 2, 2698), (2698, .i2l, 1, 2699), (2699, .lcmp, 1, 2700), (2700, .ifCond .eq 5, 3, 2703), (2703, .iconst 0, 1, 2704), (2704, .ireturn, 1, 2705), (2705, .goto 202, 3, 2708)]
set_option maxRecDepth 20000 in
theorem Q_E_loss : zT M_E T_E_loss := zT_of (by decide +kernel)
theorem e_loss {S : zS} {V : qV} {J : qJ} {n i : Int} {kc ks : Nat} (hB : qB S V) (hR : Rel n V J) (hi : 0 ≤ i ∧ i + 5 < V 1000005 0) (h1 : 67 ≤ kc) (h2 : 402 ≤ ks) (kk : ∀ S' V' J', qB S' V' → Rel (n + 1) V' J' → scV V V' → Z M_E 200 (kc - 67) (ks - 402) 2907 (LE i none none none) [] S' (qi V') (qj J') QE) : Z M_E 200 kc ks 2640 (LE i none none none) [] S (qi V) (qj J) QE := by
  refine z_aload_n Q_E_loss (k := 0) rfl rfl ?_
  refine q_arg (i := i) (j := 1) hB Q_E_loss (k := 1) rfl rfl rfl rfl rfl rfl rfl (by omega) rfl ?_
  refine q_arg (i := i) (j := 2) hB Q_E_loss (k := 6) rfl rfl rfl rfl rfl rfl rfl (by omega) rfl ?_
  refine z_aload_n Q_E_loss (k := 11) rfl rfl ?_
  refine z_callSH (as := [.ref 0, .int (iI (V 1000004 (i + 1))), .int (iI (V 1000004 (i + 2))), .ref 624]) Q_E_loss (k := 12) rfl rfl K_L_loss L_L_264 rfl rfl (Nat.le_of_ble_eq_true rfl) rfl (by decide) (show 67 ≤ kc by omega) (show 402 ≤ ks by omega) (Or.inr (zRbE hB.1.1)) (Z.scr (w_L_loss (Q := fun c V1 J1 => (c = 0 ∧ ∃ (r : Int) (J0 : qJ), zr r ∧ J1 = qu J0 624 0 (iI r).toInt64 ∧ W_X11_loss (V 1000004 (i + 1)) (V 1000004 (i + 2)) V1 (fun s V2 => V2 602 0 = 0 ∧ r = s ∧ Rel (n + 1) V2 J0)) ∨ (c ≠ 0 ∧ W_X11_loss (V 1000004 (i + 1)) (V 1000004 (i + 2)) V1 (fun s V2 => V2 602 0 = c ∧ Rel (n + 1) V2 J1))) 197 hB (hB.2.1 _ _) (hB.2.1 _ _) (t_loss (P := (fun V2 => Rel (n + 1) V2 J)) hR (fun _ h => h)) (fun r hz hw => Or.inl ⟨rfl, r, J, hz, rfl, hw⟩) (fun E h => by
    rcases h with ⟨e, w⟩ | ⟨e, w⟩
    · exact Or.inl ⟨e, Or.inr ⟨by decide, w⟩⟩
    · exact Or.inr ⟨e, Or.inr ⟨by decide, w⟩⟩))) (fun E S' I' J' hq => by obtain ⟨⟨_, _, _, e, _⟩, _⟩ := hq; cases e) (fun v S' I' J' hq => ?_)
  obtain ⟨⟨c, V1, J1, e, hn1, hI, hJ, hB1, hzc, hq⟩, hsc⟩ := hq
  cases e; subst hI; subst hJ
  have sc := scV.of hB hB1 hsc
  have sl := sc.1
  refine y_istore (L' := LE i (some (.int (iI c))) none none) Q_E_loss (k := 13) rfl (by decide) rfl ?_
  refine z_aload_n Q_E_loss (k := 14) rfl rfl ?_
  refine q_arg (i := i) (j := 1) hB1 Q_E_loss (k := 15) rfl rfl rfl rfl rfl rfl rfl (by omega) (sc.2 _ (by omega)) ?_
  refine q_arg (i := i) (j := 2) hB1 Q_E_loss (k := 20) rfl rfl rfl rfl rfl rfl rfl (by omega) (sc.2 _ (by omega)) ?_
  rcases hq with ⟨rfl, r, J0, hzr, rfl, hw⟩ | ⟨c0, hw⟩
  · refine z_callV (o := 602) (as := [.int (iI (V 1000004 (i + 1))), .int (iI (V 1000004 (i + 2)))]) Q_E_loss (k := 25) rfl rfl K_X11_loss V_X11_loss L_L_266 (n_ hB1.1 rfl) (k_602 hB1.1) rfl rfl (Nat.le_of_ble_eq_true rfl) rfl (by decide) (Nat.zero_le _) (Nat.zero_le _) (Or.inl (fun o S' I' J' hq => by obtain ⟨_, _, _, e, _⟩ := hq; rw [e])) (w_X11_loss 197 hB1 (hB.2.1 _ _) (hB.2.1 _ _) hw) (fun E S' I' J' hq => by obtain ⟨_, _, e, _⟩ := hq; cases e) (fun v S' I' J' hq => ?_)
    obtain ⟨s, V2, e, hS, hI, hJ, hB2, hzs, hq⟩ := hq
    cases e; subst hS; subst hI; subst hJ
    have sc2 := scV.of hB1 hB2 ⟨rfl, fun _ => rfl⟩
    refine y_istore (L' := LE i (some (.int (iI 0))) (some (.int (iI s))) none) Q_E_loss (k := 26) rfl (by decide) rfl ?_
    refine z_aload_n Q_E_loss (k := 27) rfl rfl ?_
    refine q_callV0_i Q_E_loss (k := 28) rfl rfl K_X11_thrown V_X11_thrown L_L_144 (n_ hB2.1 rfl) (k_602 hB2.1) (Nat.le_of_ble_eq_true rfl) (Nat.le_of_ble_eq_true rfl) rfl (Nat.zero_le _) (Nat.zero_le _) (w_X11_thrown 199 hB2 (Q := fun r => r = V2 602 0) rfl) (fun t hzt ht => ?_)
    refine z_iload Q_E_loss (k := 29) rfl rfl ?_
    refine y_icmp_eq 2688 Q_E_loss (k := 30) rfl (by decide) hzt ⟨by decide, by decide⟩ (fun _ => ?_) (fun h => absurd (ht.trans hq.1) h)
    refine z_iload Q_E_loss (k := 33) rfl rfl ?_
    refine y_if_ne 2705 Q_E_loss (k := 34) rfl (by decide) ⟨by decide, by decide⟩ (fun h => absurd rfl h) (fun _ => ?_)
    refine z_aload_n Q_E_loss (k := 35) rfl rfl ?_
    refine y_iconst Q_E_loss (k := 36) rfl ?_
    refine q_lald (z := 0) (N := 1) (o := 624) Q_E_loss (k := 37) rfl rfl (n_ hB2.1 rfl) (k_624 hB2.1) rfl ⟨by decide, by decide⟩ (by decide) ?_
    refine z_iload Q_E_loss (k := 38) rfl rfl ?_
    refine z_i2l Q_E_loss (k := 39) rfl ?_
    refine y_lcmp Q_E_loss (k := 40) rfl ?_
    refine y_if_eq 2705 Q_E_loss (k := 41) rfl (by decide) (zlc_r _ _) (fun _ => ?_) (fun h => absurd (zlc_0.mpr (by rw [qu_s, hq.2.1])) h)
    exact z_goto Q_E_loss (k := 44) (tgt := 2907) rfl (by decide) (((kk _ V2 _ hB2 (hq.2.2.out _) (sc.tr sc2)).wid (by omega) (by omega)).sub LE_f)
  · refine z_callV (o := 602) (as := [.int (iI (V 1000004 (i + 1))), .int (iI (V 1000004 (i + 2)))]) Q_E_loss (k := 25) rfl rfl K_X11_loss V_X11_loss L_L_266 (n_ hB1.1 rfl) (k_602 hB1.1) rfl rfl (Nat.le_of_ble_eq_true rfl) rfl (by decide) (Nat.zero_le _) (Nat.zero_le _) (Or.inl (fun o S' I' J' hq => by obtain ⟨_, _, _, e, _⟩ := hq; rw [e])) (w_X11_loss 197 hB1 (hB.2.1 _ _) (hB.2.1 _ _) hw) (fun E S' I' J' hq => by obtain ⟨_, _, e, _⟩ := hq; cases e) (fun v S' I' J' hq => ?_)
    obtain ⟨s, V2, e, hS, hI, hJ, hB2, hzs, hq⟩ := hq
    cases e; subst hS; subst hI; subst hJ
    have sc2 := scV.of hB1 hB2 ⟨rfl, fun _ => rfl⟩
    refine y_istore (L' := LE i (some (.int (iI c))) (some (.int (iI s))) none) Q_E_loss (k := 26) rfl (by decide) rfl ?_
    refine z_aload_n Q_E_loss (k := 27) rfl rfl ?_
    refine q_callV0_i Q_E_loss (k := 28) rfl rfl K_X11_thrown V_X11_thrown L_L_144 (n_ hB2.1 rfl) (k_602 hB2.1) (Nat.le_of_ble_eq_true rfl) (Nat.le_of_ble_eq_true rfl) rfl (Nat.zero_le _) (Nat.zero_le _) (w_X11_thrown 199 hB2 (Q := fun r => r = V2 602 0) rfl) (fun t hzt ht => ?_)
    refine z_iload Q_E_loss (k := 29) rfl rfl ?_
    refine y_icmp_eq 2688 Q_E_loss (k := 30) rfl (by decide) hzt hzc (fun _ => ?_) (fun h => absurd (ht.trans hq.1) h)
    refine z_iload Q_E_loss (k := 33) rfl rfl ?_
    refine y_if_ne 2705 Q_E_loss (k := 34) rfl (by decide) hzc (fun _ => ?_) (fun h => absurd h c0)
    exact z_goto Q_E_loss (k := 44) (tgt := 2907) rfl (by decide) (((kk _ V2 J1 hB2 hq.2 (sc.tr sc2)).wid (by omega) (by omega)).sub LE_f)
def T_E_beside : zTb := [(2708, .aload_n 1, 1, 2709), (2709, .aload_n 0, 1, 2710), (2710, .iload 4, 2, 2712), (2712, .iconst 1, 1, 2713), (2713, .iadd, 1, 2714), (2714, .iaload, 1, 2715), (2715, .aload_n 0, 1, 2716), (2716, .iload 4, 2, 2718), (2718, .iconst 2, 1, 2719), (2719, .iadd, 1, 2720), (2720, .iaload, 1, 2721), (2721, .aload_n 3, 1, 2722), (2722, .invokestatic 267, 3, 2725), (2725, .istore 5, 2, 2727), (2727, .aload_n 2, 1, 2728), (2728, .aload_n 0, 1, 2729), (2729, .iload 4, 2, 2731), (2731, .iconst 1, 1, 2732), (2732, .iadd, 1, 2733), (2733, .iaload, 1, 2734), (2734, .aload_n 0, 1, 2735), (2735, .iload 4, 2, 2737), (2737, .iconst 2, 1, 2738), (2738, .iadd, 1, 2739), (2739, .iaload, 1, 2740), (2740, .invokevirtual 269, 3, 2743), (2743, .istore 6, 2, 2745), (2745, .aload_n 2, 1, 2746), (2746, .invokevirtual 144, 3, 2749), (2749, .iload 5, 2, 2751), (2751, .if_icmp .eq 5, 3, 2754), (2754, .iconst 0, 1, 2755), (2755, .ireturn, 1, 2756), (2756, .iload 5, 2, 2758), (2758, .ifCond .ne 15, 3, 2761), (2761, .aload_n 3, 1, 2762), (2762, .iconst 0, 1, 2763), (2763, .laload, 1, 2764), (2764, .iload 6, 2, 2766), (2766, .i2l, 1, 2767), (2767, .lcmp, 1, 2768), (2768, .ifCond .eq 5, 3, 2771), (2771, .iconst 0, 1, 2772), (2772, .ireturn, 1, 2773), (2773, .goto 134, 3, 2776)]
set_option maxRecDepth 20000 in
theorem Q_E_beside : zT M_E T_E_beside := zT_of (by decide +kernel)
theorem e_beside {S : zS} {V : qV} {J : qJ} {n i : Int} {kc ks : Nat} (hB : qB S V) (hR : Rel n V J) (hi : 0 ≤ i ∧ i + 5 < V 1000005 0) (h1 : 67 ≤ kc) (h2 : 402 ≤ ks) (kk : ∀ S' V' J', qB S' V' → Rel (n + 1) V' J' → scV V V' → Z M_E 200 (kc - 67) (ks - 402) 2907 (LE i none none none) [] S' (qi V') (qj J') QE) : Z M_E 200 kc ks 2708 (LE i none none none) [] S (qi V) (qj J) QE := by
  refine z_aload_n Q_E_beside (k := 0) rfl rfl ?_
  refine q_arg (i := i) (j := 1) hB Q_E_beside (k := 1) rfl rfl rfl rfl rfl rfl rfl (by omega) rfl ?_
  refine q_arg (i := i) (j := 2) hB Q_E_beside (k := 6) rfl rfl rfl rfl rfl rfl rfl (by omega) rfl ?_
  refine z_aload_n Q_E_beside (k := 11) rfl rfl ?_
  refine z_callSH (as := [.ref 0, .int (iI (V 1000004 (i + 1))), .int (iI (V 1000004 (i + 2))), .ref 624]) Q_E_beside (k := 12) rfl rfl K_L_beside L_L_267 rfl rfl (Nat.le_of_ble_eq_true rfl) rfl (by decide) (show 2 ≤ kc by omega) (show 12 ≤ ks by omega) (Or.inr (zRbE hB.1.1)) (Z.scr (w_L_beside (Q := fun c V1 J1 => (c = 0 ∧ ∃ (r : Int) (J0 : qJ), zr r ∧ J1 = qu J0 624 0 (iI r).toInt64 ∧ W_X11_beside (V 1000004 (i + 1)) (V 1000004 (i + 2)) V1 (fun s V2 => V2 602 0 = 0 ∧ r = s ∧ Rel (n + 1) V2 J0)) ∨ (c ≠ 0 ∧ W_X11_beside (V 1000004 (i + 1)) (V 1000004 (i + 2)) V1 (fun s V2 => V2 602 0 = c ∧ Rel (n + 1) V2 J1))) 192 hB (hB.2.1 _ _) (hB.2.1 _ _) (t_beside (P := (fun V2 J2 => Rel (n + 1) V2 J2)) hR (fun _ _ h => h)) (fun r V1 J1 hz hw => Or.inl ⟨rfl, r, J1, hz, rfl, hw⟩) (fun E V1 J1 h => ⟨h.1, Or.inr ⟨by decide, h.2⟩⟩))) (fun E S' I' J' hq => by obtain ⟨⟨_, _, _, e, _⟩, _⟩ := hq; cases e) (fun v S' I' J' hq => ?_)
  obtain ⟨⟨c, V1, J1, e, hn1, hI, hJ, hB1, hzc, hq⟩, hsc⟩ := hq
  cases e; subst hI; subst hJ
  have sc := scV.of hB hB1 hsc
  have sl := sc.1
  refine y_istore (L' := LE i (some (.int (iI c))) none none) Q_E_beside (k := 13) rfl (by decide) rfl ?_
  refine z_aload_n Q_E_beside (k := 14) rfl rfl ?_
  refine q_arg (i := i) (j := 1) hB1 Q_E_beside (k := 15) rfl rfl rfl rfl rfl rfl rfl (by omega) (sc.2 _ (by omega)) ?_
  refine q_arg (i := i) (j := 2) hB1 Q_E_beside (k := 20) rfl rfl rfl rfl rfl rfl rfl (by omega) (sc.2 _ (by omega)) ?_
  rcases hq with ⟨rfl, r, J0, hzr, rfl, hw⟩ | ⟨c0, hw⟩
  · refine z_callV (o := 602) (as := [.int (iI (V 1000004 (i + 1))), .int (iI (V 1000004 (i + 2)))]) Q_E_beside (k := 25) rfl rfl K_X11_beside V_X11_beside L_L_269 (n_ hB1.1 rfl) (k_602 hB1.1) rfl rfl (Nat.le_of_ble_eq_true rfl) rfl (by decide) (Nat.zero_le _) (Nat.zero_le _) (Or.inl (fun o S' I' J' hq => by obtain ⟨_, _, _, e, _⟩ := hq; rw [e])) (w_X11_beside 195 hB1 (hB.2.1 _ _) (hB.2.1 _ _) hw) (fun E S' I' J' hq => by obtain ⟨_, _, e, _⟩ := hq; cases e) (fun v S' I' J' hq => ?_)
    obtain ⟨s, V2, e, hS, hI, hJ, hB2, hzs, hq⟩ := hq
    cases e; subst hS; subst hI; subst hJ
    have sc2 := scV.of hB1 hB2 ⟨rfl, fun _ => rfl⟩
    refine y_istore (L' := LE i (some (.int (iI 0))) (some (.int (iI s))) none) Q_E_beside (k := 26) rfl (by decide) rfl ?_
    refine z_aload_n Q_E_beside (k := 27) rfl rfl ?_
    refine q_callV0_i Q_E_beside (k := 28) rfl rfl K_X11_thrown V_X11_thrown L_L_144 (n_ hB2.1 rfl) (k_602 hB2.1) (Nat.le_of_ble_eq_true rfl) (Nat.le_of_ble_eq_true rfl) rfl (Nat.zero_le _) (Nat.zero_le _) (w_X11_thrown 199 hB2 (Q := fun r => r = V2 602 0) rfl) (fun t hzt ht => ?_)
    refine z_iload Q_E_beside (k := 29) rfl rfl ?_
    refine y_icmp_eq 2756 Q_E_beside (k := 30) rfl (by decide) hzt ⟨by decide, by decide⟩ (fun _ => ?_) (fun h => absurd (ht.trans hq.1) h)
    refine z_iload Q_E_beside (k := 33) rfl rfl ?_
    refine y_if_ne 2773 Q_E_beside (k := 34) rfl (by decide) ⟨by decide, by decide⟩ (fun h => absurd rfl h) (fun _ => ?_)
    refine z_aload_n Q_E_beside (k := 35) rfl rfl ?_
    refine y_iconst Q_E_beside (k := 36) rfl ?_
    refine q_lald (z := 0) (N := 1) (o := 624) Q_E_beside (k := 37) rfl rfl (n_ hB2.1 rfl) (k_624 hB2.1) rfl ⟨by decide, by decide⟩ (by decide) ?_
    refine z_iload Q_E_beside (k := 38) rfl rfl ?_
    refine z_i2l Q_E_beside (k := 39) rfl ?_
    refine y_lcmp Q_E_beside (k := 40) rfl ?_
    refine y_if_eq 2773 Q_E_beside (k := 41) rfl (by decide) (zlc_r _ _) (fun _ => ?_) (fun h => absurd (zlc_0.mpr (by rw [qu_s, hq.2.1])) h)
    exact z_goto Q_E_beside (k := 44) (tgt := 2907) rfl (by decide) (((kk _ V2 _ hB2 (hq.2.2.out _) (sc.tr sc2)).wid (by omega) (by omega)).sub LE_f)
  · refine z_callV (o := 602) (as := [.int (iI (V 1000004 (i + 1))), .int (iI (V 1000004 (i + 2)))]) Q_E_beside (k := 25) rfl rfl K_X11_beside V_X11_beside L_L_269 (n_ hB1.1 rfl) (k_602 hB1.1) rfl rfl (Nat.le_of_ble_eq_true rfl) rfl (by decide) (Nat.zero_le _) (Nat.zero_le _) (Or.inl (fun o S' I' J' hq => by obtain ⟨_, _, _, e, _⟩ := hq; rw [e])) (w_X11_beside 195 hB1 (hB.2.1 _ _) (hB.2.1 _ _) hw) (fun E S' I' J' hq => by obtain ⟨_, _, e, _⟩ := hq; cases e) (fun v S' I' J' hq => ?_)
    obtain ⟨s, V2, e, hS, hI, hJ, hB2, hzs, hq⟩ := hq
    cases e; subst hS; subst hI; subst hJ
    have sc2 := scV.of hB1 hB2 ⟨rfl, fun _ => rfl⟩
    refine y_istore (L' := LE i (some (.int (iI c))) (some (.int (iI s))) none) Q_E_beside (k := 26) rfl (by decide) rfl ?_
    refine z_aload_n Q_E_beside (k := 27) rfl rfl ?_
    refine q_callV0_i Q_E_beside (k := 28) rfl rfl K_X11_thrown V_X11_thrown L_L_144 (n_ hB2.1 rfl) (k_602 hB2.1) (Nat.le_of_ble_eq_true rfl) (Nat.le_of_ble_eq_true rfl) rfl (Nat.zero_le _) (Nat.zero_le _) (w_X11_thrown 199 hB2 (Q := fun r => r = V2 602 0) rfl) (fun t hzt ht => ?_)
    refine z_iload Q_E_beside (k := 29) rfl rfl ?_
    refine y_icmp_eq 2756 Q_E_beside (k := 30) rfl (by decide) hzt hzc (fun _ => ?_) (fun h => absurd (ht.trans hq.1) h)
    refine z_iload Q_E_beside (k := 33) rfl rfl ?_
    refine y_if_ne 2773 Q_E_beside (k := 34) rfl (by decide) hzc (fun _ => ?_) (fun h => absurd h c0)
    exact z_goto Q_E_beside (k := 44) (tgt := 2907) rfl (by decide) (((kk _ V2 J1 hB2 hq.2 (sc.tr sc2)).wid (by omega) (by omega)).sub LE_f)
def T_E_least : zTb := [(2776, .aload_n 1, 1, 2777), (2777, .aload_n 0, 1, 2778), (2778, .iload 4, 2, 2780), (2780, .iconst 1, 1, 2781), (2781, .iadd, 1, 2782), (2782, .iaload, 1, 2783), (2783, .aload_n 0, 1, 2784), (2784, .iload 4, 2, 2786), (2786, .iconst 2, 1, 2787), (2787, .iadd, 1, 2788), (2788, .iaload, 1, 2789), (2789, .aload_n 0, 1, 2790), (2790, .iload 4, 2, 2792), (2792, .iconst 3, 1, 2793), (2793, .iadd, 1, 2794), (2794, .iaload, 1, 2795), (2795, .aload_n 3, 1, 2796), (2796, .invokestatic 270, 3, 2799), (2799, .istore 5, 2, 2801), (2801, .aload_n 2, 1, 2802), (2802, .aload_n 0, 1, 2803), (2803, .iload 4, 2, 2805), (2805, .iconst 1, 1, 2806), (2806, .iadd, 1, 2807), (2807, .iaload, 1, 2808), (2808, .aload_n 0, 1, 2809), (2809, .iload 4, 2, 2811), (2811, .iconst 2, 1, 2812), (2812, .iadd, 1, 2813), (2813, .iaload, 1, 2814), (2814, .aload_n 0, 1, 2815), (2815, .iload 4, 2, 2817), (2817, .iconst 3, 1, 2818), (2818, .iadd, 1, 2819), (2819, .iaload, 1, 2820), (2820, .invokevirtual 272, 3, 2823), (2823, .istore 6, 2, 2825), (2825, .aload_n 2, 1, 2826), (2826, .invokevirtual 144, 3, 2829), (2829, .iload 5, 2, 2831), (2831, .if_icmp .eq 5, 3, 2834), (2834, .iconst 0, 1, 2835), (2835, .ireturn, 1, 2836), (2836, .iload 5, 2, 2838), (2838, .ifCond .ne 15, 3, 2841), (2841, .aload_n 3, 1, 2842), (2842, .iconst 0, 1, 2843), (2843, .laload, 1, 2844), (2844, .iload 6, 2, 2846), (2846, .i2l, 1, 2847), (2847, .lcmp, 1, 2848), (2848, .ifCond .eq 5, 3, 2851), (2851, .iconst 0, 1, 2852), (2852, .ireturn, 1, 2853), (2853, .goto 54, 3, 2856)]
set_option maxRecDepth 20000 in
theorem Q_E_least : zT M_E T_E_least := zT_of (by decide +kernel)
theorem e_least {S : zS} {V : qV} {J : qJ} {n i : Int} {kc ks : Nat} (hB : qB S V) (hR : Rel n V J) (hi : 0 ≤ i ∧ i + 5 < V 1000005 0) (h1 : 67 ≤ kc) (h2 : 402 ≤ ks) (kk : ∀ S' V' J', qB S' V' → Rel (n + 1) V' J' → scV V V' → Z M_E 200 (kc - 67) (ks - 402) 2907 (LE i none none none) [] S' (qi V') (qj J') QE) : Z M_E 200 kc ks 2776 (LE i none none none) [] S (qi V) (qj J) QE := by
  refine z_aload_n Q_E_least (k := 0) rfl rfl ?_
  refine q_arg (i := i) (j := 1) hB Q_E_least (k := 1) rfl rfl rfl rfl rfl rfl rfl (by omega) rfl ?_
  refine q_arg (i := i) (j := 2) hB Q_E_least (k := 6) rfl rfl rfl rfl rfl rfl rfl (by omega) rfl ?_
  refine q_arg (i := i) (j := 3) hB Q_E_least (k := 11) rfl rfl rfl rfl rfl rfl rfl (by omega) rfl ?_
  refine z_aload_n Q_E_least (k := 16) rfl rfl ?_
  refine z_callSH (as := [.ref 0, .int (iI (V 1000004 (i + 1))), .int (iI (V 1000004 (i + 2))), .int (iI (V 1000004 (i + 3))), .ref 624]) Q_E_least (k := 17) rfl rfl K_L_least L_L_270 rfl rfl (Nat.le_of_ble_eq_true rfl) rfl (by decide) (show 3 ≤ kc by omega) (show 18 ≤ ks by omega) (Or.inr (zRbE hB.1.1)) (Z.scr (w_L_least (Q := fun c V1 J1 => (c = 0 ∧ ∃ (r : Int) (J0 : qJ), zr r ∧ J1 = qu J0 624 0 (iI r).toInt64 ∧ W_X11_least (V 1000004 (i + 1)) (V 1000004 (i + 2)) (V 1000004 (i + 3)) V1 (fun s V2 => V2 602 0 = 0 ∧ r = s ∧ Rel (n + 1) V2 J0)) ∨ (c ≠ 0 ∧ W_X11_least (V 1000004 (i + 1)) (V 1000004 (i + 2)) (V 1000004 (i + 3)) V1 (fun s V2 => V2 602 0 = c ∧ Rel (n + 1) V2 J1))) 192 hB (hB.2.1 _ _) (hB.2.1 _ _) (hB.2.1 _ _) (t_least (P := (fun V2 J2 => Rel (n + 1) V2 J2)) hR (fun _ _ h => h)) (fun r V1 J1 hz hw => Or.inl ⟨rfl, r, J1, hz, rfl, hw⟩) (fun E V1 J1 h => ⟨h.1, Or.inr ⟨by decide, h.2⟩⟩))) (fun E S' I' J' hq => by obtain ⟨⟨_, _, _, e, _⟩, _⟩ := hq; cases e) (fun v S' I' J' hq => ?_)
  obtain ⟨⟨c, V1, J1, e, hn1, hI, hJ, hB1, hzc, hq⟩, hsc⟩ := hq
  cases e; subst hI; subst hJ
  have sc := scV.of hB hB1 hsc
  have sl := sc.1
  refine y_istore (L' := LE i (some (.int (iI c))) none none) Q_E_least (k := 18) rfl (by decide) rfl ?_
  refine z_aload_n Q_E_least (k := 19) rfl rfl ?_
  refine q_arg (i := i) (j := 1) hB1 Q_E_least (k := 20) rfl rfl rfl rfl rfl rfl rfl (by omega) (sc.2 _ (by omega)) ?_
  refine q_arg (i := i) (j := 2) hB1 Q_E_least (k := 25) rfl rfl rfl rfl rfl rfl rfl (by omega) (sc.2 _ (by omega)) ?_
  refine q_arg (i := i) (j := 3) hB1 Q_E_least (k := 30) rfl rfl rfl rfl rfl rfl rfl (by omega) (sc.2 _ (by omega)) ?_
  rcases hq with ⟨rfl, r, J0, hzr, rfl, hw⟩ | ⟨c0, hw⟩
  · refine z_callV (o := 602) (as := [.int (iI (V 1000004 (i + 1))), .int (iI (V 1000004 (i + 2))), .int (iI (V 1000004 (i + 3)))]) Q_E_least (k := 35) rfl rfl K_X11_least V_X11_least L_L_272 (n_ hB1.1 rfl) (k_602 hB1.1) rfl rfl (Nat.le_of_ble_eq_true rfl) rfl (by decide) (Nat.zero_le _) (Nat.zero_le _) (Or.inl (fun o S' I' J' hq => by obtain ⟨_, _, _, e, _⟩ := hq; rw [e])) (w_X11_least 195 hB1 (hB.2.1 _ _) (hB.2.1 _ _) (hB.2.1 _ _) hw) (fun E S' I' J' hq => by obtain ⟨_, _, e, _⟩ := hq; cases e) (fun v S' I' J' hq => ?_)
    obtain ⟨s, V2, e, hS, hI, hJ, hB2, hzs, hq⟩ := hq
    cases e; subst hS; subst hI; subst hJ
    have sc2 := scV.of hB1 hB2 ⟨rfl, fun _ => rfl⟩
    refine y_istore (L' := LE i (some (.int (iI 0))) (some (.int (iI s))) none) Q_E_least (k := 36) rfl (by decide) rfl ?_
    refine z_aload_n Q_E_least (k := 37) rfl rfl ?_
    refine q_callV0_i Q_E_least (k := 38) rfl rfl K_X11_thrown V_X11_thrown L_L_144 (n_ hB2.1 rfl) (k_602 hB2.1) (Nat.le_of_ble_eq_true rfl) (Nat.le_of_ble_eq_true rfl) rfl (Nat.zero_le _) (Nat.zero_le _) (w_X11_thrown 199 hB2 (Q := fun r => r = V2 602 0) rfl) (fun t hzt ht => ?_)
    refine z_iload Q_E_least (k := 39) rfl rfl ?_
    refine y_icmp_eq 2836 Q_E_least (k := 40) rfl (by decide) hzt ⟨by decide, by decide⟩ (fun _ => ?_) (fun h => absurd (ht.trans hq.1) h)
    refine z_iload Q_E_least (k := 43) rfl rfl ?_
    refine y_if_ne 2853 Q_E_least (k := 44) rfl (by decide) ⟨by decide, by decide⟩ (fun h => absurd rfl h) (fun _ => ?_)
    refine z_aload_n Q_E_least (k := 45) rfl rfl ?_
    refine y_iconst Q_E_least (k := 46) rfl ?_
    refine q_lald (z := 0) (N := 1) (o := 624) Q_E_least (k := 47) rfl rfl (n_ hB2.1 rfl) (k_624 hB2.1) rfl ⟨by decide, by decide⟩ (by decide) ?_
    refine z_iload Q_E_least (k := 48) rfl rfl ?_
    refine z_i2l Q_E_least (k := 49) rfl ?_
    refine y_lcmp Q_E_least (k := 50) rfl ?_
    refine y_if_eq 2853 Q_E_least (k := 51) rfl (by decide) (zlc_r _ _) (fun _ => ?_) (fun h => absurd (zlc_0.mpr (by rw [qu_s, hq.2.1])) h)
    exact z_goto Q_E_least (k := 54) (tgt := 2907) rfl (by decide) (((kk _ V2 _ hB2 (hq.2.2.out _) (sc.tr sc2)).wid (by omega) (by omega)).sub LE_f)
  · refine z_callV (o := 602) (as := [.int (iI (V 1000004 (i + 1))), .int (iI (V 1000004 (i + 2))), .int (iI (V 1000004 (i + 3)))]) Q_E_least (k := 35) rfl rfl K_X11_least V_X11_least L_L_272 (n_ hB1.1 rfl) (k_602 hB1.1) rfl rfl (Nat.le_of_ble_eq_true rfl) rfl (by decide) (Nat.zero_le _) (Nat.zero_le _) (Or.inl (fun o S' I' J' hq => by obtain ⟨_, _, _, e, _⟩ := hq; rw [e])) (w_X11_least 195 hB1 (hB.2.1 _ _) (hB.2.1 _ _) (hB.2.1 _ _) hw) (fun E S' I' J' hq => by obtain ⟨_, _, e, _⟩ := hq; cases e) (fun v S' I' J' hq => ?_)
    obtain ⟨s, V2, e, hS, hI, hJ, hB2, hzs, hq⟩ := hq
    cases e; subst hS; subst hI; subst hJ
    have sc2 := scV.of hB1 hB2 ⟨rfl, fun _ => rfl⟩
    refine y_istore (L' := LE i (some (.int (iI c))) (some (.int (iI s))) none) Q_E_least (k := 36) rfl (by decide) rfl ?_
    refine z_aload_n Q_E_least (k := 37) rfl rfl ?_
    refine q_callV0_i Q_E_least (k := 38) rfl rfl K_X11_thrown V_X11_thrown L_L_144 (n_ hB2.1 rfl) (k_602 hB2.1) (Nat.le_of_ble_eq_true rfl) (Nat.le_of_ble_eq_true rfl) rfl (Nat.zero_le _) (Nat.zero_le _) (w_X11_thrown 199 hB2 (Q := fun r => r = V2 602 0) rfl) (fun t hzt ht => ?_)
    refine z_iload Q_E_least (k := 39) rfl rfl ?_
    refine y_icmp_eq 2836 Q_E_least (k := 40) rfl (by decide) hzt hzc (fun _ => ?_) (fun h => absurd (ht.trans hq.1) h)
    refine z_iload Q_E_least (k := 43) rfl rfl ?_
    refine y_if_ne 2853 Q_E_least (k := 44) rfl (by decide) hzc (fun _ => ?_) (fun h => absurd h c0)
    exact z_goto Q_E_least (k := 54) (tgt := 2907) rfl (by decide) (((kk _ V2 J1 hB2 hq.2 (sc.tr sc2)).wid (by omega) (by omega)).sub LE_f)
