/-! the law: its calls that throw nothing -/
def T_E_feed : zTb := [(228, .aload_n 1, 1, 229), (229, .aload_n 0, 1, 230), (230, .iload 4, 2, 232), (232, .iconst 1, 1, 233), (233, .iadd, 1, 234), (234, .iaload, 1, 235), (235, .aload_n 0, 1, 236), (236, .iload 4, 2, 238), (238, .iconst 2, 1, 239), (239, .iadd, 1, 240), (240, .iaload, 1, 241), (241, .aload_n 0, 1, 242), (242, .iload 4, 2, 244), (244, .iconst 3, 1, 245), (245, .iadd, 1, 246), (246, .iaload, 1, 247), (247, .aload_n 0, 1, 248), (248, .iload 4, 2, 250), (250, .iconst 4, 1, 251), (251, .iadd, 1, 252), (252, .iaload, 1, 253), (253, .aload_n 0, 1, 254), (254, .iload 4, 2, 256), (256, .iconst 5, 1, 257), (257, .iadd, 1, 258), (258, .iaload, 1, 259), (259, .invokevirtual 134, 3, 262), (262, .aload_n 2, 1, 263), (263, .aload_n 0, 1, 264), (264, .iload 4, 2, 266), (266, .iconst 1, 1, 267), (267, .iadd, 1, 268), (268, .iaload, 1, 269), (269, .aload_n 0, 1, 270), (270, .iload 4, 2, 272), (272, .iconst 2, 1, 273), (273, .iadd, 1, 274), (274, .iaload, 1, 275), (275, .aload_n 0, 1, 276), (276, .iload 4, 2, 278), (278, .iconst 3, 1, 279), (279, .iadd, 1, 280), (280, .iaload, 1, 281), (281, .aload_n 0, 1, 282), (282, .iload 4, 2, 284), (284, .iconst 4, 1, 285), (285, .iadd, 1, 286), (286, .iaload, 1, 287), (287, .aload_n 0, 1, 288), (288, .iload 4, 2, 290), (290, .iconst 5, 1, 291), (291, .iadd, 1, 292), (292, .iaload, 1, 293), (293, .invokevirtual 137, 3, 296), (296, .if_icmp .eq 2611, 3, 299), (299, .iconst 0, 1, 300), (300, .ireturn, 1, 301)]
set_option maxRecDepth 20000 in
theorem Q_E_feed : zT M_E T_E_feed := zT_of (by decide +kernel)
theorem e_feed {S : zS} {V : qV} {J : qJ} {n i : Int} {kc ks : Nat} (hB : qB S V) (hR : Rel n V J) (hi : 0 ≤ i ∧ i + 5 < V 1000005 0) (h1 : 67 ≤ kc) (h2 : 402 ≤ ks) (kk : ∀ S' V' J', qB S' V' → Rel (n + 1) V' J' → scV V V' → Z M_E 200 (kc - 67) (ks - 402) 2907 (LE i none none none) [] S' (qi V') (qj J') QE) : Z M_E 200 kc ks 228 (LE i none none none) [] S (qi V) (qj J) QE := by
  refine z_aload_n Q_E_feed (k := 0) rfl rfl ?_
  refine q_arg (i := i) (j := 1) hB Q_E_feed (k := 1) rfl rfl rfl rfl rfl rfl rfl (by omega) rfl ?_
  refine q_arg (i := i) (j := 2) hB Q_E_feed (k := 6) rfl rfl rfl rfl rfl rfl rfl (by omega) rfl ?_
  refine q_arg (i := i) (j := 3) hB Q_E_feed (k := 11) rfl rfl rfl rfl rfl rfl rfl (by omega) rfl ?_
  refine q_arg (i := i) (j := 4) hB Q_E_feed (k := 16) rfl rfl rfl rfl rfl rfl rfl (by omega) rfl ?_
  refine q_arg (i := i) (j := 5) hB Q_E_feed (k := 21) rfl rfl rfl rfl rfl rfl rfl (by omega) rfl ?_
  refine z_callV (o := 0) (as := [.int (iI (V 1000004 (i + 1))), .int (iI (V 1000004 (i + 2))), .int (iI (V 1000004 (i + 3))), .int (iI (V 1000004 (i + 4))), .int (iI (V 1000004 (i + 5)))]) Q_E_feed (k := 26) rfl rfl K_X10_feed V_X10_feed L_L_134 (n_ hB.1 rfl) (k_0 hB.1) rfl rfl (Nat.le_of_ble_eq_true rfl) rfl (by decide) (Nat.zero_le _) (Nat.zero_le _) (Or.inl (fun o S' I' J' hq => by obtain ⟨_, _, _, e, _⟩ := hq; rw [e])) (w_X10_feed 198 hB (hB.2.1 _ _) (hB.2.1 _ _) (hB.2.1 _ _) (hB.2.1 _ _) (hB.2.1 _ _) (t_feed (P := (fun V2 => Rel (n + 1) V2 J)) hR (fun _ h => h))) (fun E S' I' J' hq => by obtain ⟨_, _, e, _⟩ := hq; cases e) (fun v S' I' J' hq => ?_)
  obtain ⟨r, V1, e, hS, hI, hJ, hB1, hz, hw⟩ := hq
  cases e; subst hS; subst hI; subst hJ
  have sc := scV.of hB hB1 ⟨rfl, fun _ => rfl⟩
  have sl := sc.1
  refine z_aload_n Q_E_feed (k := 27) rfl rfl ?_
  refine q_arg (i := i) (j := 1) hB1 Q_E_feed (k := 28) rfl rfl rfl rfl rfl rfl rfl (by omega) (sc.2 _ (by omega)) ?_
  refine q_arg (i := i) (j := 2) hB1 Q_E_feed (k := 33) rfl rfl rfl rfl rfl rfl rfl (by omega) (sc.2 _ (by omega)) ?_
  refine q_arg (i := i) (j := 3) hB1 Q_E_feed (k := 38) rfl rfl rfl rfl rfl rfl rfl (by omega) (sc.2 _ (by omega)) ?_
  refine q_arg (i := i) (j := 4) hB1 Q_E_feed (k := 43) rfl rfl rfl rfl rfl rfl rfl (by omega) (sc.2 _ (by omega)) ?_
  refine q_arg (i := i) (j := 5) hB1 Q_E_feed (k := 48) rfl rfl rfl rfl rfl rfl rfl (by omega) (sc.2 _ (by omega)) ?_
  refine z_callV (o := 602) (as := [.int (iI (V 1000004 (i + 1))), .int (iI (V 1000004 (i + 2))), .int (iI (V 1000004 (i + 3))), .int (iI (V 1000004 (i + 4))), .int (iI (V 1000004 (i + 5)))]) Q_E_feed (k := 53) rfl rfl K_X11_feed V_X11_feed L_L_137 (n_ hB1.1 rfl) (k_602 hB1.1) rfl rfl (Nat.le_of_ble_eq_true rfl) rfl (by simp [Value.category]) (Nat.zero_le _) (Nat.zero_le _) (Or.inl (fun o S' I' J' hq => by obtain ⟨_, _, _, e, _⟩ := hq; rw [e])) (w_X11_feed 199 hB1 (hB.2.1 _ _) (hB.2.1 _ _) (hB.2.1 _ _) (hB.2.1 _ _) (hB.2.1 _ _) hw) (fun E S' I' J' hq => by obtain ⟨_, _, e, _⟩ := hq; cases e) (fun v S' I' J' hq => ?_)
  obtain ⟨s, V2, e, hS, hI, hJ, hB2, hzs, hq⟩ := hq
  cases e; subst hS; subst hI; subst hJ
  exact y_icmp_eq 2907 Q_E_feed (k := 54) rfl (by decide) hz hzs (fun _ => (kk _ V2 _ hB2 hq.2.2 (sc.tr (scV.of hB1 hB2 ⟨rfl, fun _ => rfl⟩))).wid (by omega) (by omega)) (fun h => absurd hq.2.1 h)
def T_E_fault : zTb := [(413, .aload_n 1, 1, 414), (414, .invokevirtual 151, 3, 417), (417, .aload_n 2, 1, 418), (418, .invokevirtual 154, 3, 421), (421, .if_icmp .eq 2486, 3, 424), (424, .iconst 0, 1, 425), (425, .ireturn, 1, 426)]
set_option maxRecDepth 20000 in
theorem Q_E_fault : zT M_E T_E_fault := zT_of (by decide +kernel)
theorem e_fault {S : zS} {V : qV} {J : qJ} {n i : Int} {kc ks : Nat} (hB : qB S V) (hR : Rel n V J) (hi : 0 ≤ i ∧ i + 5 < V 1000005 0) (h1 : 67 ≤ kc) (h2 : 402 ≤ ks) (kk : ∀ S' V' J', qB S' V' → Rel (n + 1) V' J' → scV V V' → Z M_E 200 (kc - 67) (ks - 402) 2907 (LE i none none none) [] S' (qi V') (qj J') QE) : Z M_E 200 kc ks 413 (LE i none none none) [] S (qi V) (qj J) QE := by
  refine z_aload_n Q_E_fault (k := 0) rfl rfl ?_
  refine z_callV (o := 0) (as := []) Q_E_fault (k := 1) rfl rfl K_X10_fault V_X10_fault L_L_151 (n_ hB.1 rfl) (k_0 hB.1) rfl rfl (Nat.le_of_ble_eq_true rfl) rfl (by decide) (Nat.zero_le _) (Nat.zero_le _) (Or.inl (fun o S' I' J' hq => by obtain ⟨_, _, e, _⟩ := hq; rw [e])) (w_X10_fault 199 hB  (t_fault (P := (fun V2 => Rel (n + 1) V2 J)) hR (fun _ h => h))) (fun E S' I' J' hq => by obtain ⟨_, e, _⟩ := hq; cases e) (fun v S' I' J' hq => ?_)
  obtain ⟨r, e, hS, hI, hJ, hz, hw⟩ := hq
  cases e; subst hS; subst hI; subst hJ
  refine z_aload_n Q_E_fault (k := 2) rfl rfl ?_
  refine z_callV (o := 602) (as := []) Q_E_fault (k := 3) rfl rfl K_X11_fault V_X11_fault L_L_154 (n_ hB.1 rfl) (k_602 hB.1) rfl rfl (Nat.le_of_ble_eq_true rfl) rfl (by simp [Value.category]) (Nat.zero_le _) (Nat.zero_le _) (Or.inl (fun o S' I' J' hq => by obtain ⟨_, _, _, e, _⟩ := hq; rw [e])) (w_X11_fault 199 hB  hw) (fun E S' I' J' hq => by obtain ⟨_, _, e, _⟩ := hq; cases e) (fun v S' I' J' hq => ?_)
  obtain ⟨s, V2, e, hS, hI, hJ, hB2, hzs, hq⟩ := hq
  cases e; subst hS; subst hI; subst hJ
  exact y_icmp_eq 2907 Q_E_fault (k := 4) rfl (by decide) hz hzs (fun _ => (kk _ V2 _ hB2 hq.2 (scV.of hB hB2 ⟨rfl, fun _ => rfl⟩)).wid (by omega) (by omega)) (fun h => absurd hq.1 h)
def T_E_worlds : zTb := [(562, .aload_n 1, 1, 563), (563, .invokevirtual 162, 3, 566), (566, .aload_n 2, 1, 567), (567, .invokevirtual 165, 3, 570), (570, .if_icmp .eq 2337, 3, 573), (573, .iconst 0, 1, 574), (574, .ireturn, 1, 575)]
set_option maxRecDepth 20000 in
theorem Q_E_worlds : zT M_E T_E_worlds := zT_of (by decide +kernel)
theorem e_worlds {S : zS} {V : qV} {J : qJ} {n i : Int} {kc ks : Nat} (hB : qB S V) (hR : Rel n V J) (hi : 0 ≤ i ∧ i + 5 < V 1000005 0) (h1 : 67 ≤ kc) (h2 : 402 ≤ ks) (kk : ∀ S' V' J', qB S' V' → Rel (n + 1) V' J' → scV V V' → Z M_E 200 (kc - 67) (ks - 402) 2907 (LE i none none none) [] S' (qi V') (qj J') QE) : Z M_E 200 kc ks 562 (LE i none none none) [] S (qi V) (qj J) QE := by
  refine z_aload_n Q_E_worlds (k := 0) rfl rfl ?_
  refine z_callV (o := 0) (as := []) Q_E_worlds (k := 1) rfl rfl K_X10_worlds V_X10_worlds L_L_162 (n_ hB.1 rfl) (k_0 hB.1) rfl rfl (Nat.le_of_ble_eq_true rfl) rfl (by decide) (Nat.zero_le _) (Nat.zero_le _) (Or.inl (fun o S' I' J' hq => by obtain ⟨_, _, _, e, _⟩ := hq; rw [e])) (w_X10_worlds 197 hB  (t_worlds (P := (fun V2 J2 => Rel (n + 1) V2 J2)) hR (fun _ _ h => h))) (fun E S' I' J' hq => by obtain ⟨_, _, e, _⟩ := hq; cases e) (fun v S' I' J' hq => ?_)
  obtain ⟨r, J1, e, hS, hI, hJ, hz, hw⟩ := hq
  cases e; subst hS; subst hI; subst hJ
  refine z_aload_n Q_E_worlds (k := 2) rfl rfl ?_
  refine z_callV (o := 602) (as := []) Q_E_worlds (k := 3) rfl rfl K_X11_worlds V_X11_worlds L_L_165 (n_ hB.1 rfl) (k_602 hB.1) rfl rfl (Nat.le_of_ble_eq_true rfl) rfl (by simp [Value.category]) (Nat.zero_le _) (Nat.zero_le _) (Or.inl (fun o S' I' J' hq => by obtain ⟨_, _, _, e, _⟩ := hq; rw [e])) (w_X11_worlds 197 hB  hw) (fun E S' I' J' hq => by obtain ⟨_, _, e, _⟩ := hq; cases e) (fun v S' I' J' hq => ?_)
  obtain ⟨s, V2, e, hS, hI, hJ, hB2, hzs, hq⟩ := hq
  cases e; subst hS; subst hI; subst hJ
  exact y_icmp_eq 2907 Q_E_worlds (k := 4) rfl (by decide) hz hzs (fun _ => (kk _ V2 _ hB2 hq.2.2 (scV.of hB hB2 ⟨rfl, fun _ => rfl⟩)).wid (by omega) (by omega)) (fun h => absurd hq.2.1 h)
def T_E_world : zTb := [(575, .aload_n 1, 1, 576), (576, .aload_n 0, 1, 577), (577, .iload 4, 2, 579), (579, .iconst 1, 1, 580), (580, .iadd, 1, 581), (581, .iaload, 1, 582), (582, .invokevirtual 166, 3, 585), (585, .aload_n 2, 1, 586), (586, .aload_n 0, 1, 587), (587, .iload 4, 2, 589), (589, .iconst 1, 1, 590), (590, .iadd, 1, 591), (591, .iaload, 1, 592), (592, .invokevirtual 169, 3, 595), (595, .if_icmp .eq 2312, 3, 598), (598, .iconst 0, 1, 599), (599, .ireturn, 1, 600)]
set_option maxRecDepth 20000 in
theorem Q_E_world : zT M_E T_E_world := zT_of (by decide +kernel)
theorem e_world {S : zS} {V : qV} {J : qJ} {n i : Int} {kc ks : Nat} (hB : qB S V) (hR : Rel n V J) (hi : 0 ≤ i ∧ i + 5 < V 1000005 0) (h1 : 67 ≤ kc) (h2 : 402 ≤ ks) (kk : ∀ S' V' J', qB S' V' → Rel (n + 1) V' J' → scV V V' → Z M_E 200 (kc - 67) (ks - 402) 2907 (LE i none none none) [] S' (qi V') (qj J') QE) : Z M_E 200 kc ks 575 (LE i none none none) [] S (qi V) (qj J) QE := by
  refine z_aload_n Q_E_world (k := 0) rfl rfl ?_
  refine q_arg (i := i) (j := 1) hB Q_E_world (k := 1) rfl rfl rfl rfl rfl rfl rfl (by omega) rfl ?_
  refine z_callV (o := 0) (as := [.int (iI (V 1000004 (i + 1)))]) Q_E_world (k := 6) rfl rfl K_X10_world V_X10_world L_L_166 (n_ hB.1 rfl) (k_0 hB.1) rfl rfl (Nat.le_of_ble_eq_true rfl) rfl (by decide) (Nat.zero_le _) (Nat.zero_le _) (Or.inl (fun o S' I' J' hq => by obtain ⟨_, _, _, e, _⟩ := hq; rw [e])) (w_X10_world 197 hB (hB.2.1 _ _) (t_world (P := (fun V2 J2 => Rel (n + 1) V2 J2)) hR (fun _ _ h => h))) (fun E S' I' J' hq => by obtain ⟨_, _, e, _⟩ := hq; cases e) (fun v S' I' J' hq => ?_)
  obtain ⟨r, J1, e, hS, hI, hJ, hz, hw⟩ := hq
  cases e; subst hS; subst hI; subst hJ
  refine z_aload_n Q_E_world (k := 7) rfl rfl ?_
  refine q_arg (i := i) (j := 1) hB Q_E_world (k := 8) rfl rfl rfl rfl rfl rfl rfl (by omega) rfl ?_
  refine z_callV (o := 602) (as := [.int (iI (V 1000004 (i + 1)))]) Q_E_world (k := 13) rfl rfl K_X11_world V_X11_world L_L_169 (n_ hB.1 rfl) (k_602 hB.1) rfl rfl (Nat.le_of_ble_eq_true rfl) rfl (by simp [Value.category]) (Nat.zero_le _) (Nat.zero_le _) (Or.inl (fun o S' I' J' hq => by obtain ⟨_, _, _, e, _⟩ := hq; rw [e])) (w_X11_world 197 hB (hB.2.1 _ _) hw) (fun E S' I' J' hq => by obtain ⟨_, _, e, _⟩ := hq; cases e) (fun v S' I' J' hq => ?_)
  obtain ⟨s, V2, e, hS, hI, hJ, hB2, hzs, hq⟩ := hq
  cases e; subst hS; subst hI; subst hJ
  exact y_icmp_eq 2907 Q_E_world (k := 14) rfl (by decide) hz hzs (fun _ => (kk _ V2 _ hB2 hq.2.2 (scV.of hB hB2 ⟨rfl, fun _ => rfl⟩)).wid (by omega) (by omega)) (fun h => absurd hq.2.1 h)
def T_E_all : zTb := [(600, .aload_n 1, 1, 601), (601, .invokevirtual 170, 3, 604), (604, .aload_n 2, 1, 605), (605, .invokevirtual 174, 3, 608), (608, .lcmp, 1, 609), (609, .ifCond .eq 2298, 3, 612), (612, .iconst 0, 1, 613), (613, .ireturn, 1, 614)]
set_option maxRecDepth 20000 in
theorem Q_E_all : zT M_E T_E_all := zT_of (by decide +kernel)
theorem e_all {S : zS} {V : qV} {J : qJ} {n i : Int} {kc ks : Nat} (hB : qB S V) (hR : Rel n V J) (hi : 0 ≤ i ∧ i + 5 < V 1000005 0) (h1 : 67 ≤ kc) (h2 : 402 ≤ ks) (kk : ∀ S' V' J', qB S' V' → Rel (n + 1) V' J' → scV V V' → Z M_E 200 (kc - 67) (ks - 402) 2907 (LE i none none none) [] S' (qi V') (qj J') QE) : Z M_E 200 kc ks 600 (LE i none none none) [] S (qi V) (qj J) QE := by
  refine z_aload_n Q_E_all (k := 0) rfl rfl ?_
  refine z_callV (o := 0) (as := []) Q_E_all (k := 1) rfl rfl K_X10_all V_X10_all L_L_170 (n_ hB.1 rfl) (k_0 hB.1) rfl rfl (Nat.le_of_ble_eq_true rfl) rfl (by decide) (Nat.zero_le _) (Nat.zero_le _) (Or.inl (fun o S' I' J' hq => by obtain ⟨_, _, _, e, _⟩ := hq; rw [e])) (w_X10_all 197 hB  (t_all (P := (fun V2 J2 => Rel (n + 1) V2 J2)) hR (fun _ _ h => h))) (fun E S' I' J' hq => by obtain ⟨_, _, e, _⟩ := hq; cases e) (fun v S' I' J' hq => ?_)
  obtain ⟨r, J1, e, hS, hI, hJ, hw⟩ := hq
  cases e; subst hS; subst hI; subst hJ
  refine z_aload_n Q_E_all (k := 2) rfl rfl ?_
  refine z_callV (o := 602) (as := []) Q_E_all (k := 3) rfl rfl K_X11_all V_X11_all L_L_174 (n_ hB.1 rfl) (k_602 hB.1) rfl rfl (Nat.le_of_ble_eq_true rfl) rfl (by simp [Value.category]) (Nat.zero_le _) (Nat.zero_le _) (Or.inl (fun o S' I' J' hq => by obtain ⟨_, _, _, e, _⟩ := hq; rw [e])) (w_X11_all 197 hB  hw) (fun E S' I' J' hq => by obtain ⟨_, _, e, _⟩ := hq; cases e) (fun v S' I' J' hq => ?_)
  obtain ⟨s, V2, e, hS, hI, hJ, hB2, hq⟩ := hq
  cases e; subst hS; subst hI; subst hJ
  refine y_lcmp Q_E_all (k := 4) rfl ?_
  exact y_if_eq 2907 Q_E_all (k := 5) rfl (by decide) (zlc_r _ _) (fun _ => (kk _ V2 _ hB2 hq.2.2 (scV.of hB hB2 ⟨rfl, fun _ => rfl⟩)).wid (by omega) (by omega)) (fun h => absurd (zlc_0.mpr hq.2.1) h)
def T_E_image : zTb := [(2856, .aload_n 1, 1, 2857), (2857, .invokevirtual 273, 3, 2860), (2860, .aload_n 2, 1, 2861), (2861, .invokevirtual 276, 3, 2864), (2864, .if_icmp .eq 43, 3, 2867), (2867, .iconst 0, 1, 2868), (2868, .ireturn, 1, 2869)]
set_option maxRecDepth 20000 in
theorem Q_E_image : zT M_E T_E_image := zT_of (by decide +kernel)
theorem e_image {S : zS} {V : qV} {J : qJ} {n i : Int} {kc ks : Nat} (hB : qB S V) (hR : Rel n V J) (hi : 0 ≤ i ∧ i + 5 < V 1000005 0) (h1 : 67 ≤ kc) (h2 : 402 ≤ ks) (kk : ∀ S' V' J', qB S' V' → Rel (n + 1) V' J' → scV V V' → Z M_E 200 (kc - 67) (ks - 402) 2907 (LE i none none none) [] S' (qi V') (qj J') QE) : Z M_E 200 kc ks 2856 (LE i none none none) [] S (qi V) (qj J) QE := by
  refine z_aload_n Q_E_image (k := 0) rfl rfl ?_
  refine z_callV (o := 0) (as := []) Q_E_image (k := 1) rfl rfl K_X10_image V_X10_image L_L_273 (n_ hB.1 rfl) (k_0 hB.1) rfl rfl (Nat.le_of_ble_eq_true rfl) rfl (by decide) (Nat.zero_le _) (Nat.zero_le _) (Or.inl (fun o S' I' J' hq => by obtain ⟨_, _, _, _, e, _⟩ := hq; rw [e])) (w_X10_image 196 hB  (t_image (P := (fun V2 J2 => Rel (n + 1) V2 J2)) hR (fun _ _ h => h))) (fun E S' I' J' hq => by obtain ⟨_, _, _, e, _⟩ := hq; cases e) (fun v S' I' J' hq => ?_)
  obtain ⟨r, V1, J1, e, hS, hI, hJ, hB1, hz, hw⟩ := hq
  cases e; subst hS; subst hI; subst hJ
  have sc := scV.of hB hB1 ⟨rfl, fun _ => rfl⟩
  have sl := sc.1
  refine z_aload_n Q_E_image (k := 2) rfl rfl ?_
  refine z_callV (o := 602) (as := []) Q_E_image (k := 3) rfl rfl K_X11_image V_X11_image L_L_276 (n_ hB1.1 rfl) (k_602 hB1.1) rfl rfl (Nat.le_of_ble_eq_true rfl) rfl (by simp [Value.category]) (Nat.zero_le _) (Nat.zero_le _) (Or.inl (fun o S' I' J' hq => by obtain ⟨_, _, _, e, _⟩ := hq; rw [e])) (w_X11_image 199 hB1  hw) (fun E S' I' J' hq => by obtain ⟨_, _, e, _⟩ := hq; cases e) (fun v S' I' J' hq => ?_)
  obtain ⟨s, V2, e, hS, hI, hJ, hB2, hzs, hq⟩ := hq
  cases e; subst hS; subst hI; subst hJ
  exact y_icmp_eq 2907 Q_E_image (k := 4) rfl (by decide) hz hzs (fun _ => (kk _ V2 _ hB2 hq.2.2 (sc.tr (scV.of hB1 hB2 ⟨rfl, fun _ => rfl⟩))).wid (by omega) (by omega)) (fun h => absurd hq.2.1 h)
def T_E_restore : zTb := [(2869, .aload_n 1, 1, 2870), (2870, .invokevirtual 277, 3, 2873), (2873, .aload_n 2, 1, 2874), (2874, .invokevirtual 280, 3, 2877), (2877, .if_icmp .eq 30, 3, 2880), (2880, .iconst 0, 1, 2881), (2881, .ireturn, 1, 2882)]
set_option maxRecDepth 20000 in
theorem Q_E_restore : zT M_E T_E_restore := zT_of (by decide +kernel)
theorem e_restore {S : zS} {V : qV} {J : qJ} {n i : Int} {kc ks : Nat} (hB : qB S V) (hR : Rel n V J) (hi : 0 ≤ i ∧ i + 5 < V 1000005 0) (h1 : 67 ≤ kc) (h2 : 402 ≤ ks) (kk : ∀ S' V' J', qB S' V' → Rel (n + 1) V' J' → scV V V' → Z M_E 200 (kc - 67) (ks - 402) 2907 (LE i none none none) [] S' (qi V') (qj J') QE) : Z M_E 200 kc ks 2869 (LE i none none none) [] S (qi V) (qj J) QE := by
  refine z_aload_n Q_E_restore (k := 0) rfl rfl ?_
  refine z_callV (o := 0) (as := []) Q_E_restore (k := 1) rfl rfl K_X10_restore V_X10_restore L_L_277 (n_ hB.1 rfl) (k_0 hB.1) rfl rfl (Nat.le_of_ble_eq_true rfl) rfl (by decide) (Nat.zero_le _) (Nat.zero_le _) (Or.inl (fun o S' I' J' hq => by obtain ⟨_, _, _, _, e, _⟩ := hq; rw [e])) (w_X10_restore 196 hB  (t_restore (P := (fun V2 J2 => Rel (n + 1) V2 J2)) hR (fun _ _ h => h))) (fun E S' I' J' hq => by obtain ⟨_, _, _, e, _⟩ := hq; cases e) (fun v S' I' J' hq => ?_)
  obtain ⟨r, V1, J1, e, hS, hI, hJ, hB1, hz, hw⟩ := hq
  cases e; subst hS; subst hI; subst hJ
  have sc := scV.of hB hB1 ⟨rfl, fun _ => rfl⟩
  have sl := sc.1
  refine z_aload_n Q_E_restore (k := 2) rfl rfl ?_
  refine z_callV (o := 602) (as := []) Q_E_restore (k := 3) rfl rfl K_X11_restore V_X11_restore L_L_280 (n_ hB1.1 rfl) (k_602 hB1.1) rfl rfl (Nat.le_of_ble_eq_true rfl) rfl (by simp [Value.category]) (Nat.zero_le _) (Nat.zero_le _) (Or.inl (fun o S' I' J' hq => by obtain ⟨_, _, _, e, _⟩ := hq; rw [e])) (w_X11_restore 199 hB1  hw) (fun E S' I' J' hq => by obtain ⟨_, _, e, _⟩ := hq; cases e) (fun v S' I' J' hq => ?_)
  obtain ⟨s, V2, e, hS, hI, hJ, hB2, hzs, hq⟩ := hq
  cases e; subst hS; subst hI; subst hJ
  exact y_icmp_eq 2907 Q_E_restore (k := 4) rfl (by decide) hz hzs (fun _ => (kk _ V2 _ hB2 hq.2.2 (sc.tr (scV.of hB1 hB2 ⟨rfl, fun _ => rfl⟩))).wid (by omega) (by omega)) (fun h => absurd hq.2.1 h)
def T_E_count : zTb := [(2882, .aload_n 1, 1, 2883), (2883, .aload_n 0, 1, 2884), (2884, .iload 4, 2, 2886), (2886, .iconst 1, 1, 2887), (2887, .iadd, 1, 2888), (2888, .iaload, 1, 2889), (2889, .invokevirtual 281, 3, 2892), (2892, .aload_n 2, 1, 2893), (2893, .aload_n 0, 1, 2894), (2894, .iload 4, 2, 2896), (2896, .iconst 1, 1, 2897), (2897, .iadd, 1, 2898), (2898, .iaload, 1, 2899), (2899, .invokevirtual 284, 3, 2902), (2902, .if_icmp .eq 5, 3, 2905), (2905, .iconst 0, 1, 2906), (2906, .ireturn, 1, 2907)]
set_option maxRecDepth 20000 in
theorem Q_E_count : zT M_E T_E_count := zT_of (by decide +kernel)
theorem e_count {S : zS} {V : qV} {J : qJ} {n i : Int} {kc ks : Nat} (hB : qB S V) (hR : Rel n V J) (hi : 0 ≤ i ∧ i + 5 < V 1000005 0) (h1 : 67 ≤ kc) (h2 : 402 ≤ ks) (kk : ∀ S' V' J', qB S' V' → Rel (n + 1) V' J' → scV V V' → Z M_E 200 (kc - 67) (ks - 402) 2907 (LE i none none none) [] S' (qi V') (qj J') QE) : Z M_E 200 kc ks 2882 (LE i none none none) [] S (qi V) (qj J) QE := by
  refine z_aload_n Q_E_count (k := 0) rfl rfl ?_
  refine q_arg (i := i) (j := 1) hB Q_E_count (k := 1) rfl rfl rfl rfl rfl rfl rfl (by omega) rfl ?_
  refine z_callV (o := 0) (as := [.int (iI (V 1000004 (i + 1)))]) Q_E_count (k := 6) rfl rfl K_X10_count V_X10_count L_L_281 (n_ hB.1 rfl) (k_0 hB.1) rfl rfl (Nat.le_of_ble_eq_true rfl) rfl (by decide) (Nat.zero_le _) (Nat.zero_le _) (Or.inl (fun o S' I' J' hq => by obtain ⟨_, _, e, _⟩ := hq; rw [e])) (w_X10_count 198 hB (hB.2.1 _ _) (t_count (P := (fun V2 => Rel (n + 1) V2 J)) hR (fun _ h => h))) (fun E S' I' J' hq => by obtain ⟨_, e, _⟩ := hq; cases e) (fun v S' I' J' hq => ?_)
  obtain ⟨r, e, hS, hI, hJ, hz, hw⟩ := hq
  cases e; subst hS; subst hI; subst hJ
  refine z_aload_n Q_E_count (k := 7) rfl rfl ?_
  refine q_arg (i := i) (j := 1) hB Q_E_count (k := 8) rfl rfl rfl rfl rfl rfl rfl (by omega) rfl ?_
  refine z_callV (o := 602) (as := [.int (iI (V 1000004 (i + 1)))]) Q_E_count (k := 13) rfl rfl K_X11_count V_X11_count L_L_284 (n_ hB.1 rfl) (k_602 hB.1) rfl rfl (Nat.le_of_ble_eq_true rfl) rfl (by simp [Value.category]) (Nat.zero_le _) (Nat.zero_le _) (Or.inl (fun o S' I' J' hq => by obtain ⟨_, _, _, e, _⟩ := hq; rw [e])) (w_X11_count 198 hB (hB.2.1 _ _) hw) (fun E S' I' J' hq => by obtain ⟨_, _, e, _⟩ := hq; cases e) (fun v S' I' J' hq => ?_)
  obtain ⟨s, V2, e, hS, hI, hJ, hB2, hzs, hq⟩ := hq
  cases e; subst hS; subst hI; subst hJ
  exact y_icmp_eq 2907 Q_E_count (k := 14) rfl (by decide) hz hzs (fun _ => (kk _ V2 _ hB2 hq.2 (scV.of hB hB2 ⟨rfl, fun _ => rfl⟩)).wid (by omega) (by omega)) (fun h => absurd hq.1 h)
