/-! the law: ground and away -/
def zbo (x : Int) : Int := if x = 0 then 0 else 1
theorem zbo_r (x : Int) : zr (zbo x) := by
  unfold zbo; split <;> exact ⟨by decide, by decide⟩
theorem zbo_b (x : Int) : zbo x = 0 ∨ zbo x = 1 := by
  unfold zbo; split <;> simp
section
variable {μ : zM} {d kc ks pc nx k : Nat} {L : zL} {st : List Value} {S : zS} {I : zI} {J : zJ} {Q : zQ} {tb : zTb}
theorem q_bo {x : Int} {p1 p2 t0 : Nat} (ht : zT μ tb) (h1 : zat tb k = some (pc, .ifCond .eq 7, 3, p1)) (h2 : zat tb (k + 1) = some (p1, .iconst 1, 1, p2)) (h3 : zat tb (k + 2) = some (p2, .goto 4, 3, t0)) (h4 : zat tb (k + 3) = some (t0, .iconst 0, 1, nx)) (hg : (pc : Int) + 7 = (t0 : Int)) (hg2 : (p2 : Int) + 4 = (nx : Int)) (hx : zr x) (kk : Z μ d kc ks nx L (.int (iI (zbo x)) :: st) S I J Q) : Z μ d kc ks pc L (.int (iI x) :: st) S I J Q := by
  refine y_if_eq t0 ht h1 hg hx (fun e => y_iconst ht h4 ?_) (fun e => y_iconst ht h2 (z_goto ht h3 hg2 ?_))
  · have : zbo x = 0 := if_pos e
    rw [this] at kk; exact kk
  · have : zbo x = 1 := if_neg e
    rw [this] at kk; exact kk
theorem q_bl {x : Int} {p1 p2 t0 : Nat} (ht : zT μ tb) (h1 : zat tb k = some (pc, .ifCond .eq 7, 3, p1)) (h2 : zat tb (k + 1) = some (p1, .lconst 1, 1, p2)) (h3 : zat tb (k + 2) = some (p2, .goto 4, 3, t0)) (h4 : zat tb (k + 3) = some (t0, .lconst 0, 1, nx)) (hg : (pc : Int) + 7 = (t0 : Int)) (hg2 : (p2 : Int) + 4 = (nx : Int)) (hx : x = 0 ∨ x = 1) (kk : Z μ d kc ks nx L (.long (iI x).toInt64 :: st) S I J Q) : Z μ d kc ks pc L (.int (iI x) :: st) S I J Q := by
  refine y_if_eq t0 ht h1 hg (by rcases hx with rfl | rfl <;> exact ⟨by decide, by decide⟩) (fun e => z_lconst_ ht h4 (v := (iI x).toInt64) (by subst e; decide) kk) (fun e => z_lconst_ ht h2 (v := (iI x).toInt64) (by rcases hx with rfl | rfl; exact absurd rfl e; decide) (z_goto ht h3 hg2 kk))
end
def T_E_ground : zTb := [(762, .aload_n 1, 1, 763), (763, .aload_n 0, 1, 764), (764, .iload 4, 2, 766), (766, .iconst 1, 1, 767), (767, .iadd, 1, 768), (768, .iaload, 1, 769), (769, .aload_n 0, 1, 770), (770, .iload 4, 2, 772), (772, .iconst 2, 1, 773), (773, .iadd, 1, 774), (774, .iaload, 1, 775), (775, .ifCond .eq 7, 3, 778), (778, .iconst 1, 1, 779), (779, .goto 4, 3, 782), (782, .iconst 0, 1, 783), (783, .aload_n 0, 1, 784), (784, .iload 4, 2, 786), (786, .iconst 3, 1, 787), (787, .iadd, 1, 788), (788, .iaload, 1, 789), (789, .aload_n 3, 1, 790), (790, .invokestatic 182, 3, 793), (793, .istore 5, 2, 795), (795, .aload_n 2, 1, 796), (796, .aload_n 0, 1, 797), (797, .iload 4, 2, 799), (799, .iconst 1, 1, 800), (800, .iadd, 1, 801), (801, .iaload, 1, 802), (802, .aload_n 0, 1, 803), (803, .iload 4, 2, 805), (805, .iconst 2, 1, 806), (806, .iadd, 1, 807), (807, .iaload, 1, 808), (808, .ifCond .eq 7, 3, 811), (811, .iconst 1, 1, 812), (812, .goto 4, 3, 815), (815, .iconst 0, 1, 816), (816, .aload_n 0, 1, 817), (817, .iload 4, 2, 819), (819, .iconst 3, 1, 820), (820, .iadd, 1, 821), (821, .iaload, 1, 822), (822, .invokevirtual 185, 3, 825), (825, .istore 6, 2, 827), (827, .aload_n 2, 1, 828), (828, .invokevirtual 144, 3, 831), (831, .iload 5, 2, 833), (833, .if_icmp .eq 5, 3, 836), (836, .iconst 0, 1, 837), (837, .ireturn, 1, 838), (838, .iload 5, 2, 840), (840, .ifCond .ne 15, 3, 843), (843, .aload_n 3, 1, 844), (844, .iconst 0, 1, 845), (845, .laload, 1, 846), (846, .iload 6, 2, 848), (848, .i2l, 1, 849), (849, .lcmp, 1, 850), (850, .ifCond .eq 5, 3, 853), (853, .iconst 0, 1, 854), (854, .ireturn, 1, 855), (855, .goto 2052, 3, 858)]
set_option maxRecDepth 20000 in
theorem Q_E_ground : zT M_E T_E_ground := zT_of (by decide +kernel)
theorem e_ground {S : zS} {V : qV} {J : qJ} {n i : Int} {kc ks : Nat} (hB : qB S V) (hR : Rel n V J) (hi : 0 ≤ i ∧ i + 5 < V 1000005 0) (h1 : 67 ≤ kc) (h2 : 402 ≤ ks) (kk : ∀ S' V' J', qB S' V' → Rel (n + 1) V' J' → scV V V' → Z M_E 200 (kc - 67) (ks - 402) 2907 (LE i none none none) [] S' (qi V') (qj J') QE) : Z M_E 200 kc ks 762 (LE i none none none) [] S (qi V) (qj J) QE := by
  refine z_aload_n Q_E_ground (k := 0) rfl rfl ?_
  refine q_arg (i := i) (j := 1) hB Q_E_ground (k := 1) rfl rfl rfl rfl rfl rfl rfl (by omega) rfl ?_
  refine q_arg (i := i) (j := 2) hB Q_E_ground (k := 6) rfl rfl rfl rfl rfl rfl rfl (by omega) rfl ?_
  refine q_bo Q_E_ground (k := 11) rfl rfl rfl rfl (by decide) (by decide) (hB.2.1 _ _) ?_
  refine q_arg (i := i) (j := 3) hB Q_E_ground (k := 15) rfl rfl rfl rfl rfl rfl rfl (by omega) rfl ?_
  refine z_aload_n Q_E_ground (k := 20) rfl rfl ?_
  refine z_callSH (as := [.ref 0, .int (iI (V 1000004 (i + 1))), .int (iI (zbo (V 1000004 (i + 2)))), .int (iI (V 1000004 (i + 3))), .ref 624]) Q_E_ground (k := 21) rfl rfl K_L_ground L_L_182 rfl rfl (Nat.le_of_ble_eq_true rfl) rfl (by decide) (show 2 ≤ kc by omega) (show 12 ≤ ks by omega) (Or.inr (zRbE hB.1.1)) (Z.scr (w_L_ground (Q := fun c V1 J1 => (c = 0 ∧ ∃ (r : Int) (J0 : qJ), zr r ∧ J1 = qu J0 624 0 (iI r).toInt64 ∧ W_X11_ground (V 1000004 (i + 1)) (zbo (V 1000004 (i + 2))) (V 1000004 (i + 3)) V1 (fun s V2 => V2 602 0 = 0 ∧ r = s ∧ Rel (n + 1) V2 J0)) ∨ (c ≠ 0 ∧ W_X11_ground (V 1000004 (i + 1)) (zbo (V 1000004 (i + 2))) (V 1000004 (i + 3)) V1 (fun s V2 => V2 602 0 = c ∧ Rel (n + 1) V2 J1))) 197 hB (hB.2.1 _ _) (zbo_r _) (zbo_b _) (hB.2.1 _ _) (t_ground (P := (fun V2 => Rel (n + 1) V2 J)) (zbo_b _) hR (fun _ h => h)) (fun r V1 hz hw => Or.inl ⟨rfl, r, J, hz, rfl, hw⟩) (fun E V1 h => by
    rcases h with ⟨e, w⟩ | ⟨e, w⟩
    · exact Or.inl ⟨e, Or.inr ⟨by decide, w⟩⟩
    · exact Or.inr ⟨e, Or.inr ⟨by decide, w⟩⟩))) (fun E S' I' J' hq => by obtain ⟨⟨_, _, _, e, _⟩, _⟩ := hq; cases e) (fun v S' I' J' hq => ?_)
  obtain ⟨⟨c, V1, J1, e, hn1, hI, hJ, hB1, hzc, hq⟩, hsc⟩ := hq
  cases e; subst hI; subst hJ
  have sc := scV.of hB hB1 hsc
  have sl := sc.1
  refine y_istore (L' := LE i (some (.int (iI c))) none none) Q_E_ground (k := 22) rfl (by decide) rfl ?_
  refine z_aload_n Q_E_ground (k := 23) rfl rfl ?_
  refine q_arg (i := i) (j := 1) hB1 Q_E_ground (k := 24) rfl rfl rfl rfl rfl rfl rfl (by omega) (sc.2 _ (by omega)) ?_
  refine q_arg (i := i) (j := 2) hB1 Q_E_ground (k := 29) rfl rfl rfl rfl rfl rfl rfl (by omega) (sc.2 _ (by omega)) ?_
  refine q_bo Q_E_ground (k := 34) rfl rfl rfl rfl (by decide) (by decide) (hB.2.1 _ _) ?_
  refine q_arg (i := i) (j := 3) hB1 Q_E_ground (k := 38) rfl rfl rfl rfl rfl rfl rfl (by omega) (sc.2 _ (by omega)) ?_
  rcases hq with ⟨rfl, r, J0, hzr, rfl, hw⟩ | ⟨c0, hw⟩
  · refine z_callV (o := 602) (as := [.int (iI (V 1000004 (i + 1))), .int (iI (zbo (V 1000004 (i + 2)))), .int (iI (V 1000004 (i + 3)))]) Q_E_ground (k := 43) rfl rfl K_X11_ground V_X11_ground L_L_185 (n_ hB1.1 rfl) (k_602 hB1.1) rfl rfl (Nat.le_of_ble_eq_true rfl) rfl (by decide) (Nat.zero_le _) (Nat.zero_le _) (Or.inl (fun o S' I' J' hq => by obtain ⟨_, _, _, e, _⟩ := hq; rw [e])) (w_X11_ground 197 hB1 (hB.2.1 _ _) (zbo_r _) (zbo_b _) (hB.2.1 _ _) hw) (fun E S' I' J' hq => by obtain ⟨_, _, e, _⟩ := hq; cases e) (fun v S' I' J' hq => ?_)
    obtain ⟨s, V2, e, hS, hI, hJ, hB2, hzs, hq⟩ := hq
    cases e; subst hS; subst hI; subst hJ
    have sc2 := scV.of hB1 hB2 ⟨rfl, fun _ => rfl⟩
    refine y_istore (L' := LE i (some (.int (iI 0))) (some (.int (iI s))) none) Q_E_ground (k := 44) rfl (by decide) rfl ?_
    refine z_aload_n Q_E_ground (k := 45) rfl rfl ?_
    refine q_callV0_i Q_E_ground (k := 46) rfl rfl K_X11_thrown V_X11_thrown L_L_144 (n_ hB2.1 rfl) (k_602 hB2.1) (Nat.le_of_ble_eq_true rfl) (Nat.le_of_ble_eq_true rfl) rfl (Nat.zero_le _) (Nat.zero_le _) (w_X11_thrown 199 hB2 (Q := fun r => r = V2 602 0) rfl) (fun t hzt ht => ?_)
    refine z_iload Q_E_ground (k := 47) rfl rfl ?_
    refine y_icmp_eq 838 Q_E_ground (k := 48) rfl (by decide) hzt ⟨by decide, by decide⟩ (fun _ => ?_) (fun h => absurd (ht.trans hq.1) h)
    refine z_iload Q_E_ground (k := 51) rfl rfl ?_
    refine y_if_ne 855 Q_E_ground (k := 52) rfl (by decide) ⟨by decide, by decide⟩ (fun h => absurd rfl h) (fun _ => ?_)
    refine z_aload_n Q_E_ground (k := 53) rfl rfl ?_
    refine y_iconst Q_E_ground (k := 54) rfl ?_
    refine q_lald (z := 0) (N := 1) (o := 624) Q_E_ground (k := 55) rfl rfl (n_ hB2.1 rfl) (k_624 hB2.1) rfl ⟨by decide, by decide⟩ (by decide) ?_
    refine z_iload Q_E_ground (k := 56) rfl rfl ?_
    refine z_i2l Q_E_ground (k := 57) rfl ?_
    refine y_lcmp Q_E_ground (k := 58) rfl ?_
    refine y_if_eq 855 Q_E_ground (k := 59) rfl (by decide) (zlc_r _ _) (fun _ => ?_) (fun h => absurd (zlc_0.mpr (by rw [qu_s, hq.2.1])) h)
    exact z_goto Q_E_ground (k := 62) (tgt := 2907) rfl (by decide) (((kk _ V2 _ hB2 (hq.2.2.out _) (sc.tr sc2)).wid (by omega) (by omega)).sub LE_f)
  · refine z_callV (o := 602) (as := [.int (iI (V 1000004 (i + 1))), .int (iI (zbo (V 1000004 (i + 2)))), .int (iI (V 1000004 (i + 3)))]) Q_E_ground (k := 43) rfl rfl K_X11_ground V_X11_ground L_L_185 (n_ hB1.1 rfl) (k_602 hB1.1) rfl rfl (Nat.le_of_ble_eq_true rfl) rfl (by decide) (Nat.zero_le _) (Nat.zero_le _) (Or.inl (fun o S' I' J' hq => by obtain ⟨_, _, _, e, _⟩ := hq; rw [e])) (w_X11_ground 197 hB1 (hB.2.1 _ _) (zbo_r _) (zbo_b _) (hB.2.1 _ _) hw) (fun E S' I' J' hq => by obtain ⟨_, _, e, _⟩ := hq; cases e) (fun v S' I' J' hq => ?_)
    obtain ⟨s, V2, e, hS, hI, hJ, hB2, hzs, hq⟩ := hq
    cases e; subst hS; subst hI; subst hJ
    have sc2 := scV.of hB1 hB2 ⟨rfl, fun _ => rfl⟩
    refine y_istore (L' := LE i (some (.int (iI c))) (some (.int (iI s))) none) Q_E_ground (k := 44) rfl (by decide) rfl ?_
    refine z_aload_n Q_E_ground (k := 45) rfl rfl ?_
    refine q_callV0_i Q_E_ground (k := 46) rfl rfl K_X11_thrown V_X11_thrown L_L_144 (n_ hB2.1 rfl) (k_602 hB2.1) (Nat.le_of_ble_eq_true rfl) (Nat.le_of_ble_eq_true rfl) rfl (Nat.zero_le _) (Nat.zero_le _) (w_X11_thrown 199 hB2 (Q := fun r => r = V2 602 0) rfl) (fun t hzt ht => ?_)
    refine z_iload Q_E_ground (k := 47) rfl rfl ?_
    refine y_icmp_eq 838 Q_E_ground (k := 48) rfl (by decide) hzt hzc (fun _ => ?_) (fun h => absurd (ht.trans hq.1) h)
    refine z_iload Q_E_ground (k := 51) rfl rfl ?_
    refine y_if_ne 855 Q_E_ground (k := 52) rfl (by decide) hzc (fun _ => ?_) (fun h => absurd h c0)
    exact z_goto Q_E_ground (k := 62) (tgt := 2907) rfl (by decide) (((kk _ V2 J1 hB2 hq.2 (sc.tr sc2)).wid (by omega) (by omega)).sub LE_f)
def T_E_away : zTb := [(2549, .aload_n 1, 1, 2550), (2550, .aload_n 0, 1, 2551), (2551, .iload 4, 2, 2553), (2553, .iconst 1, 1, 2554), (2554, .iadd, 1, 2555), (2555, .iaload, 1, 2556), (2556, .aload_n 0, 1, 2557), (2557, .iload 4, 2, 2559), (2559, .iconst 2, 1, 2560), (2560, .iadd, 1, 2561), (2561, .iaload, 1, 2562), (2562, .ifCond .eq 7, 3, 2565), (2565, .iconst 1, 1, 2566), (2566, .goto 4, 3, 2569), (2569, .iconst 0, 1, 2570), (2570, .aload_n 3, 1, 2571), (2571, .invokestatic 260, 3, 2574), (2574, .istore 5, 2, 2576), (2576, .aload_n 2, 1, 2577), (2577, .aload_n 0, 1, 2578), (2578, .iload 4, 2, 2580), (2580, .iconst 1, 1, 2581), (2581, .iadd, 1, 2582), (2582, .iaload, 1, 2583), (2583, .aload_n 0, 1, 2584), (2584, .iload 4, 2, 2586), (2586, .iconst 2, 1, 2587), (2587, .iadd, 1, 2588), (2588, .iaload, 1, 2589), (2589, .ifCond .eq 7, 3, 2592), (2592, .iconst 1, 1, 2593), (2593, .goto 4, 3, 2596), (2596, .iconst 0, 1, 2597), (2597, .invokevirtual 263, 3, 2600), (2600, .istore 6, 2, 2602), (2602, .aload_n 2, 1, 2603), (2603, .invokevirtual 144, 3, 2606), (2606, .iload 5, 2, 2608), (2608, .if_icmp .eq 5, 3, 2611), (2611, .iconst 0, 1, 2612), (2612, .ireturn, 1, 2613), (2613, .iload 5, 2, 2615), (2615, .ifCond .ne 22, 3, 2618), (2618, .aload_n 3, 1, 2619), (2619, .iconst 0, 1, 2620), (2620, .laload, 1, 2621), (2621, .iload 6, 2, 2623), (2623, .ifCond .eq 7, 3, 2626), (2626, .lconst 1, 1, 2627), (2627, .goto 4, 3, 2630), (2630, .lconst 0, 1, 2631), (2631, .lcmp, 1, 2632), (2632, .ifCond .eq 5, 3, 2635), (2635, .iconst 0, 1, 2636), (2636, .ireturn, 1, 2637), (2637, .goto 270, 3, 2640)]
set_option maxRecDepth 20000 in
theorem Q_E_away : zT M_E T_E_away := zT_of (by decide +kernel)
theorem e_away {S : zS} {V : qV} {J : qJ} {n i : Int} {kc ks : Nat} (hB : qB S V) (hR : Rel n V J) (hi : 0 ≤ i ∧ i + 5 < V 1000005 0) (h1 : 67 ≤ kc) (h2 : 402 ≤ ks) (kk : ∀ S' V' J', qB S' V' → Rel (n + 1) V' J' → scV V V' → Z M_E 200 (kc - 67) (ks - 402) 2907 (LE i none none none) [] S' (qi V') (qj J') QE) : Z M_E 200 kc ks 2549 (LE i none none none) [] S (qi V) (qj J) QE := by
  refine z_aload_n Q_E_away (k := 0) rfl rfl ?_
  refine q_arg (i := i) (j := 1) hB Q_E_away (k := 1) rfl rfl rfl rfl rfl rfl rfl (by omega) rfl ?_
  refine q_arg (i := i) (j := 2) hB Q_E_away (k := 6) rfl rfl rfl rfl rfl rfl rfl (by omega) rfl ?_
  refine q_bo Q_E_away (k := 11) rfl rfl rfl rfl (by decide) (by decide) (hB.2.1 _ _) ?_
  refine z_aload_n Q_E_away (k := 15) rfl rfl ?_
  refine z_callSH (as := [.ref 0, .int (iI (V 1000004 (i + 1))), .int (iI (zbo (V 1000004 (i + 2)))), .ref 624]) Q_E_away (k := 16) rfl rfl K_L_away L_L_260 rfl rfl (Nat.le_of_ble_eq_true rfl) rfl (by decide) (show 1 ≤ kc by omega) (show 6 ≤ ks by omega) (Or.inr (zRbE hB.1.1)) (Z.scr (w_L_away (Q := fun c V1 J1 => (c = 0 ∧ ∃ (r : Int) (J0 : qJ), zr r ∧ J1 = qu J0 624 0 (iI r).toInt64 ∧ W_X11_away (V 1000004 (i + 1)) (zbo (V 1000004 (i + 2))) V1 (fun s V2 => V2 602 0 = 0 ∧ r = s ∧ Rel (n + 1) V2 J0)) ∨ (c ≠ 0 ∧ W_X11_away (V 1000004 (i + 1)) (zbo (V 1000004 (i + 2))) V1 (fun s V2 => V2 602 0 = c ∧ Rel (n + 1) V2 J1))) 197 hB (hB.2.1 _ _) (zbo_r _) (zbo_b _) (t_away (P := (fun V2 => Rel (n + 1) V2 J)) (zbo_b _) hR (fun _ h => h)) (fun r V1 hz hw => Or.inl ⟨rfl, r, J, hz, rfl, hw⟩) (fun E V1 h => ⟨h.1, Or.inr ⟨by decide, h.2⟩⟩))) (fun E S' I' J' hq => by obtain ⟨⟨_, _, _, e, _⟩, _⟩ := hq; cases e) (fun v S' I' J' hq => ?_)
  obtain ⟨⟨c, V1, J1, e, hn1, hI, hJ, hB1, hzc, hq⟩, hsc⟩ := hq
  cases e; subst hI; subst hJ
  have sc := scV.of hB hB1 hsc
  have sl := sc.1
  refine y_istore (L' := LE i (some (.int (iI c))) none none) Q_E_away (k := 17) rfl (by decide) rfl ?_
  refine z_aload_n Q_E_away (k := 18) rfl rfl ?_
  refine q_arg (i := i) (j := 1) hB1 Q_E_away (k := 19) rfl rfl rfl rfl rfl rfl rfl (by omega) (sc.2 _ (by omega)) ?_
  refine q_arg (i := i) (j := 2) hB1 Q_E_away (k := 24) rfl rfl rfl rfl rfl rfl rfl (by omega) (sc.2 _ (by omega)) ?_
  refine q_bo Q_E_away (k := 29) rfl rfl rfl rfl (by decide) (by decide) (hB.2.1 _ _) ?_
  rcases hq with ⟨rfl, r, J0, hzr, rfl, hw⟩ | ⟨c0, hw⟩
  · refine z_callV (o := 602) (as := [.int (iI (V 1000004 (i + 1))), .int (iI (zbo (V 1000004 (i + 2))))]) Q_E_away (k := 33) rfl rfl K_X11_away V_X11_away L_L_263 (n_ hB1.1 rfl) (k_602 hB1.1) rfl rfl (Nat.le_of_ble_eq_true rfl) rfl (by decide) (Nat.zero_le _) (Nat.zero_le _) (Or.inl (fun o S' I' J' hq => by obtain ⟨_, _, _, e, _⟩ := hq; rw [e])) (w_X11_away 197 hB1 (hB.2.1 _ _) (zbo_r _) (zbo_b _) hw) (fun E S' I' J' hq => by obtain ⟨_, _, e, _⟩ := hq; cases e) (fun v S' I' J' hq => ?_)
    obtain ⟨s, V2, e, hS, hI, hJ, hB2, hzs, bs, hq⟩ := hq
    cases e; subst hS; subst hI; subst hJ
    have sc2 := scV.of hB1 hB2 ⟨rfl, fun _ => rfl⟩
    refine y_istore (L' := LE i (some (.int (iI 0))) (some (.int (iI s))) none) Q_E_away (k := 34) rfl (by decide) rfl ?_
    refine z_aload_n Q_E_away (k := 35) rfl rfl ?_
    refine q_callV0_i Q_E_away (k := 36) rfl rfl K_X11_thrown V_X11_thrown L_L_144 (n_ hB2.1 rfl) (k_602 hB2.1) (Nat.le_of_ble_eq_true rfl) (Nat.le_of_ble_eq_true rfl) rfl (Nat.zero_le _) (Nat.zero_le _) (w_X11_thrown 199 hB2 (Q := fun r => r = V2 602 0) rfl) (fun t hzt ht => ?_)
    refine z_iload Q_E_away (k := 37) rfl rfl ?_
    refine y_icmp_eq 2613 Q_E_away (k := 38) rfl (by decide) hzt ⟨by decide, by decide⟩ (fun _ => ?_) (fun h => absurd (ht.trans hq.1) h)
    refine z_iload Q_E_away (k := 41) rfl rfl ?_
    refine y_if_ne 2637 Q_E_away (k := 42) rfl (by decide) ⟨by decide, by decide⟩ (fun h => absurd rfl h) (fun _ => ?_)
    refine z_aload_n Q_E_away (k := 43) rfl rfl ?_
    refine y_iconst Q_E_away (k := 44) rfl ?_
    refine q_lald (z := 0) (N := 1) (o := 624) Q_E_away (k := 45) rfl rfl (n_ hB2.1 rfl) (k_624 hB2.1) rfl ⟨by decide, by decide⟩ (by decide) ?_
    refine z_iload Q_E_away (k := 46) rfl rfl ?_
    refine q_bl Q_E_away (k := 47) rfl rfl rfl rfl (by decide) (by decide) bs ?_
    refine y_lcmp Q_E_away (k := 51) rfl ?_
    refine y_if_eq 2637 Q_E_away (k := 52) rfl (by decide) (zlc_r _ _) (fun _ => ?_) (fun h => absurd (zlc_0.mpr (by rw [qu_s, hq.2.1])) h)
    exact z_goto Q_E_away (k := 55) (tgt := 2907) rfl (by decide) (((kk _ V2 _ hB2 (hq.2.2.out _) (sc.tr sc2)).wid (by omega) (by omega)).sub LE_f)
  · refine z_callV (o := 602) (as := [.int (iI (V 1000004 (i + 1))), .int (iI (zbo (V 1000004 (i + 2))))]) Q_E_away (k := 33) rfl rfl K_X11_away V_X11_away L_L_263 (n_ hB1.1 rfl) (k_602 hB1.1) rfl rfl (Nat.le_of_ble_eq_true rfl) rfl (by decide) (Nat.zero_le _) (Nat.zero_le _) (Or.inl (fun o S' I' J' hq => by obtain ⟨_, _, _, e, _⟩ := hq; rw [e])) (w_X11_away 197 hB1 (hB.2.1 _ _) (zbo_r _) (zbo_b _) hw) (fun E S' I' J' hq => by obtain ⟨_, _, e, _⟩ := hq; cases e) (fun v S' I' J' hq => ?_)
    obtain ⟨s, V2, e, hS, hI, hJ, hB2, hzs, bs, hq⟩ := hq
    cases e; subst hS; subst hI; subst hJ
    have sc2 := scV.of hB1 hB2 ⟨rfl, fun _ => rfl⟩
    refine y_istore (L' := LE i (some (.int (iI c))) (some (.int (iI s))) none) Q_E_away (k := 34) rfl (by decide) rfl ?_
    refine z_aload_n Q_E_away (k := 35) rfl rfl ?_
    refine q_callV0_i Q_E_away (k := 36) rfl rfl K_X11_thrown V_X11_thrown L_L_144 (n_ hB2.1 rfl) (k_602 hB2.1) (Nat.le_of_ble_eq_true rfl) (Nat.le_of_ble_eq_true rfl) rfl (Nat.zero_le _) (Nat.zero_le _) (w_X11_thrown 199 hB2 (Q := fun r => r = V2 602 0) rfl) (fun t hzt ht => ?_)
    refine z_iload Q_E_away (k := 37) rfl rfl ?_
    refine y_icmp_eq 2613 Q_E_away (k := 38) rfl (by decide) hzt hzc (fun _ => ?_) (fun h => absurd (ht.trans hq.1) h)
    refine z_iload Q_E_away (k := 41) rfl rfl ?_
    refine y_if_ne 2637 Q_E_away (k := 42) rfl (by decide) hzc (fun _ => ?_) (fun h => absurd h c0)
    exact z_goto Q_E_away (k := 55) (tgt := 2907) rfl (by decide) (((kk _ V2 J1 hB2 hq.2 (sc.tr sc2)).wid (by omega) (by omega)).sub LE_f)
