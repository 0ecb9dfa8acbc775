/-! the law: its loop -/
theorem fx_and63 {x : Int} : 0 ≤ zand x 63 ∧ zand x 63 < 64 := by
  have h1 : iI 63 = 63 := by decide
  have h2 := pk_and (iI x) (m := 63) 6 (by decide)
  unfold zand
  rw [h1, h2, nI_toInt (by omega)]
  omega
theorem gw_1 {n f l : Int} {V : qV} {J : qJ} (h : Rel n V J) (g : gw V f l) : 8192 ≤ n := by
  obtain ⟨h1, h2, h3, h4, h5, h6, ⟨⟨g0, g1⟩, g2, g3, g4, g5, g6⟩, h8⟩ := h
  have t := @cntB_b (fun u => decide (V 603 u = 2) && dfB (omW V f l) u 0) 10
  have t0 : 0 ≤ tN V f l ∧ tN V f l ≤ 10 := t
  have g3' := g.2.2
  have m0 : 0 < (tN V f l).toNat := by
    by_cases e : (tN V f l).toNat = 0
    · rw [e] at g3'
      have : V 159 100 < 1 := g3'
      omega
    · omega
  have a := gT_lt (Int.le_of_lt g3') g3' (Int.le_refl _) m0 10 (by omega)
  have b := (gT_b (3 ^ (tN V f l).toNat) 10).1
  have u : 1 ≤ gN (V 159 100) := by unfold gN; omega
  omega
def T_E_loop : zTb := [(23, .iload 4, 2, 25), (25, .aload_n 0, 1, 26), (26, .arraylength, 1, 27), (27, .bipush 6, 2, 29), (29, .isub, 1, 30), (30, .if_icmp .gt 2883, 3, 33), (33, .aload_n 0, 1, 34), (34, .iload 4, 2, 36), (36, .iaload, 1, 37), (37, .bipush 63, 2, 39), (39, .iand, 1, 40), (40, .tableswitch 2867 0 42 #[188, 261, 317, 373, 386, 454, 522, 535, 560, 574, 642, 722, 818, 874, 978, 1046, 1138, 1194, 1286, 1354, 1422, 1501, 1569, 1637, 1705, 1773, 1853, 1921, 1977, 2045, 2101, 2169, 2237, 2293, 2361, 2453, 2509, 2600, 2668, 2736, 2816, 2829, 2842], 188, 228), (2907, .iinc 4 6, 3, 2910), (2910, .goto (-2887), 3, 2913), (2913, .iconst 1, 1, 2914), (2914, .ireturn, 1, 2915)]
set_option maxRecDepth 20000 in
theorem Q_E_loop : zT M_E T_E_loop := zT_of (by decide +kernel)
theorem e_head {S : zS} {V : qV} {J : qJ} {i : Int} {kc ks : Nat} (hB : qB S V) (hi : 0 ≤ i ∧ i ≤ 3072) (kk : i + 6 ≤ V 1000005 0 → Z M_E 200 kc ks 33 (LE i none none none) [] S (qi V) (qj J) QE) : Z M_E 200 kc ks 23 (LE i none none none) [] S (qi V) (qj J) QE := by
  have h8 := hB.2.2.2.2.2.2.2
  refine z_iload Q_E_loop (k := 0) rfl rfl ?_
  refine z_aload_n Q_E_loop (k := 1) rfl rfl ?_
  refine q_slen hB Q_E_loop (k := 2) rfl ?_
  refine y_bipush Q_E_loop (k := 3) rfl (by decide) ?_
  refine y_isub Q_E_loop (k := 4) rfl ?_
  refine y_icmp_gt 2913 Q_E_loop (k := 5) rfl (by decide) ⟨by omega, by omega⟩ ⟨by omega, by omega⟩ (fun _ => ?_) (fun h => kk (by omega))
  refine y_iconst Q_E_loop (k := 14) rfl (z_nret (ty := .boolean) Q_E_loop (k := 15) rfl rfl (by decide) ?_)
  show Sum.inl (some (Value.int (iI 1))) = Sum.inl (some (Value.int 1))
  rw [show iI 1 = 1 by decide]
theorem e_tail {g : Nat} (ih : ∀ {S : zS} {V : qV} {J : qJ} {n i : Int} {e kc ks : Nat}, qB S V → Rel n V J → 0 ≤ i ∧ i ≤ 3072 → V 1000005 0 < i + 6 * g + 6 → n + g ≤ 1023 + 8192 * e → e ≤ 10 → 67 * g ≤ kc → 402 * g + 59049 * e ≤ ks → Z M_E 200 kc ks 23 (LE i none none none) [] S (qi V) (qj J) QE) {S : zS} {V : qV} {J : qJ} {n i l : Int} {e kc ks : Nat} (hB : qB S V) (hR : Rel n V J) (hl : V 1000005 0 = l) (hi : 0 ≤ i ∧ i + 6 ≤ l) (hg : l < i + 6 * (g + 1) + 6) (hn : n + g ≤ 1023 + 8192 * e) (he : e ≤ 10) (h1 : 67 * g ≤ kc) (h2 : 402 * g + 59049 * e ≤ ks) : Z M_E 200 kc ks 2907 (LE i none none none) [] S (qi V) (qj J) QE := by
  have h8 := hB.2.2.2.2.2.2.2
  refine y_iinc (L' := LE (i + 6) none none none) Q_E_loop (k := 12) rfl (by decide) rfl rfl ?_
  refine z_goto Q_E_loop (k := 13) (tgt := 23) rfl (by decide) ?_
  exact ih hB hR (by omega) (by omega) hn he h1 h2
theorem e_loop : ∀ (g : Nat) {S : zS} {V : qV} {J : qJ} {n i : Int} {e kc ks : Nat}, qB S V → Rel n V J → 0 ≤ i ∧ i ≤ 3072 → V 1000005 0 < i + 6 * g + 6 → n + g ≤ 1023 + 8192 * e → e ≤ 10 → 67 * g ≤ kc → 402 * g + 59049 * e ≤ ks → Z M_E 200 kc ks 23 (LE i none none none) [] S (qi V) (qj J) QE := by
  intro g
  induction g with
  | zero => exact fun hB hR hi hg hn he h1 h2 => e_head hB hi (fun h => absurd h (by omega))
  | succ g ih =>
    intro S V J n i e kc ks hB hR hi hg hn he h1 h2
    refine e_head hB hi (fun hl => ?_)
    have h8 := hB.2.2.2.2.2.2.2
    have zx := @fx_and63 (V 1000004 i)
    have K1 : ∀ S' V' J', qB S' V' → Rel (n + 1) V' J' → scV V V' → Z M_E 200 (kc - 67) (ks - 402) 2907 (LE i none none none) [] S' (qi V') (qj J') QE := fun S' V' J' b r s => e_tail ih b r s.1 ⟨hi.1, hl⟩ (by omega) (by omega) he (by omega) (by omega)
    have hI : 0 ≤ i ∧ i + 5 < V 1000005 0 := by omega
    have u1 : 67 ≤ kc := by omega
    have u2 : 402 ≤ ks := by omega
    refine z_aload_n Q_E_loop (k := 6) rfl rfl ?_
    refine z_iload Q_E_loop (k := 7) rfl rfl ?_
    refine q_sld hB Q_E_loop (k := 8) rfl (by omega) ?_
    refine y_bipush Q_E_loop (k := 9) rfl (by decide) ?_
    refine y_iand Q_E_loop (k := 10) rfl ?_
    have hz : zr (zand (V 1000004 i) 63) := zand_r _ _
    generalize zand (V 1000004 i) 63 = x at zx hz ⊢
    have KQ : ∀ (f l : Int), ∃ kz : Nat, (¬ gw V f l ∨ 59049 ≤ kz) ∧ 402 + kz ≤ ks ∧ ∀ S' V' J', qB S' V' → Rel (n + 1) V' J' → (gw V f l → Rel (n + 1 - 8192) V' J') → scV V V' → Z M_E 200 (kc - 67) (ks - 402 - kz) 2907 (LE i none none none) [] S' (qi V') (qj J') QE := by
      intro f l
      by_cases y : gw V f l
      · have e1 := gw_1 hR y
        exact ⟨59049, Or.inr (Nat.le_refl _), by omega, fun S' V' J' b _ r s => e_tail (e := e - 1) ih b (r y) s.1 ⟨hi.1, hl⟩ (by omega) (by omega) (by omega) (by omega) (by omega)⟩
      · exact ⟨0, Or.inl y, by omega, fun S' V' J' b r _ s => e_tail ih b r s.1 ⟨hi.1, hl⟩ (by omega) (by omega) he (by omega) (by omega)⟩
    have hc : x = 0 ∨ x = 1 ∨ x = 2 ∨ x = 3 ∨ x = 4 ∨ x = 5 ∨ x = 6 ∨ x = 7 ∨ x = 8 ∨ x = 9 ∨ x = 10 ∨ x = 11 ∨ x = 12 ∨ x = 13 ∨ x = 14 ∨ x = 15 ∨ x = 16 ∨ x = 17 ∨ x = 18 ∨ x = 19 ∨ x = 20 ∨ x = 21 ∨ x = 22 ∨ x = 23 ∨ x = 24 ∨ x = 25 ∨ x = 26 ∨ x = 27 ∨ x = 28 ∨ x = 29 ∨ x = 30 ∨ x = 31 ∨ x = 32 ∨ x = 33 ∨ x = 34 ∨ x = 35 ∨ x = 36 ∨ x = 37 ∨ x = 38 ∨ x = 39 ∨ x = 40 ∨ x = 41 ∨ x = 42 ∨ 42 < x := by omega
    rcases hc with rfl | rfl | rfl | rfl | rfl | rfl | rfl | rfl | rfl | rfl | rfl | rfl | rfl | rfl | rfl | rfl | rfl | rfl | rfl | rfl | rfl | rfl | rfl | rfl | rfl | rfl | rfl | rfl | rfl | rfl | rfl | rfl | rfl | rfl | rfl | rfl | rfl | rfl | rfl | rfl | rfl | rfl | rfl | hc
    · exact y_switchK (j := 0) (off := 188) (tgt := 228) Q_E_loop (k := 11) rfl (by decide) (by decide) hz rfl (by decide) (e_feed hB hR hI u1 u2 K1)
    · exact y_switchK (j := 1) (off := 261) (tgt := 301) Q_E_loop (k := 11) rfl (by decide) (by decide) hz rfl (by decide) (e_law hB hR hI u1 u2 K1)
    · exact y_switchK (j := 2) (off := 317) (tgt := 357) Q_E_loop (k := 11) rfl (by decide) (by decide) hz rfl (by decide) (e_holds hB hR hI u1 u2 K1)
    · exact y_switchK (j := 3) (off := 373) (tgt := 413) Q_E_loop (k := 11) rfl (by decide) (by decide) hz rfl (by decide) (e_fault hB hR hI u1 u2 K1)
    · exact y_switchK (j := 4) (off := 386) (tgt := 426) Q_E_loop (k := 11) rfl (by decide) (by decide) hz rfl (by decide) (e_know hB hR hI u1 u2 K1)
    · exact y_switchK (j := 5) (off := 454) (tgt := 494) Q_E_loop (k := 11) rfl (by decide) (by decide) hz rfl (by decide) (e_weigh hB hR hI u1 u2 K1)
    · exact y_switchK (j := 6) (off := 522) (tgt := 562) Q_E_loop (k := 11) rfl (by decide) (by decide) hz rfl (by decide) (e_worlds hB hR hI u1 u2 K1)
    · exact y_switchK (j := 7) (off := 535) (tgt := 575) Q_E_loop (k := 11) rfl (by decide) (by decide) hz rfl (by decide) (e_world hB hR hI u1 u2 K1)
    · exact y_switchK (j := 8) (off := 560) (tgt := 600) Q_E_loop (k := 11) rfl (by decide) (by decide) hz rfl (by decide) (e_all hB hR hI u1 u2 K1)
    · exact y_switchK (j := 9) (off := 574) (tgt := 614) Q_E_loop (k := 11) rfl (by decide) (by decide) hz rfl (by decide) (e_person hB hR hI u1 u2 K1)
    · exact y_switchK (j := 10) (off := 642) (tgt := 682) Q_E_loop (k := 11) rfl (by decide) (by decide) hz rfl (by decide) (e_passes hB hR hI u1 u2 K1)
    · exact y_switchK (j := 11) (off := 722) (tgt := 762) Q_E_loop (k := 11) rfl (by decide) (by decide) hz rfl (by decide) (e_ground hB hR hI u1 u2 K1)
    · exact y_switchK (j := 12) (off := 818) (tgt := 858) Q_E_loop (k := 11) rfl (by decide) (by decide) hz rfl (by decide) (e_days hB hR hI u1 u2 K1)
    · exact y_switchK (j := 13) (off := 874) (tgt := 914) Q_E_loop (k := 11) rfl (by decide) (by decide) hz rfl (by decide) (e_find hB hR hI u1 u2 K1)
    · exact y_switchK (j := 14) (off := 978) (tgt := 1018) Q_E_loop (k := 11) rfl (by decide) (by decide) hz rfl (by decide) (e_name hB hR hI u1 u2 K1)
    · exact y_switchK (j := 15) (off := 1046) (tgt := 1086) Q_E_loop (k := 11) rfl (by decide) (by decide) hz rfl (by decide) (e_hold hB hR hI u1 u2 K1)
    · exact y_switchK (j := 16) (off := 1138) (tgt := 1178) Q_E_loop (k := 11) rfl (by decide) (by decide) hz rfl (by decide) (e_finders hB hR hI u1 u2 K1)
    · exact y_switchK (j := 17) (off := 1194) (tgt := 1234) Q_E_loop (k := 11) rfl (by decide) (by decide) hz rfl (by decide) (e_whose hB hR hI u1 u2 K1)
    · exact y_switchK (j := 18) (off := 1286) (tgt := 1326) Q_E_loop (k := 11) rfl (by decide) (by decide) hz rfl (by decide) (e_sure hB hR hI u1 u2 K1)
    · exact y_switchK (j := 19) (off := 1354) (tgt := 1394) Q_E_loop (k := 11) rfl (by decide) (by decide) hz rfl (by decide) (e_may hB hR hI u1 u2 K1)
    · exact y_switchK (j := 20) (off := 1422) (tgt := 1462) Q_E_loop (k := 11) rfl (by decide) (by decide) hz rfl (by decide) (e_part hB hR hI u1 u2 K1)
    · exact y_switchK (j := 21) (off := 1501) (tgt := 1541) Q_E_loop (k := 11) rfl (by decide) (by decide) hz rfl (by decide) (e_hangs hB hR hI u1 u2 K1)
    · exact y_switchK (j := 22) (off := 1569) (tgt := 1609) Q_E_loop (k := 11) rfl (by decide) (by decide) hz rfl (by decide) (e_settles (by omega) hB hR hI u1 u2 K1)
    · obtain ⟨kz, a1, a2, a3⟩ := KQ (V 1000004 (i + 1)) (V 1000004 (i + 2))
      exact y_switchK (j := 23) (off := 1637) (tgt := 1677) Q_E_loop (k := 11) rfl (by decide) (by decide) hz rfl (by decide) (e_questions a1 hB hR hI u1 a2 a3)
    · obtain ⟨kz, a1, a2, a3⟩ := KQ (V 1000004 (i + 1)) (V 1000004 (i + 2))
      exact y_switchK (j := 24) (off := 1705) (tgt := 1745) Q_E_loop (k := 11) rfl (by decide) (by decide) hz rfl (by decide) (e_ask a1 hB hR hI u1 a2 a3)
    · exact y_switchK (j := 25) (off := 1773) (tgt := 1813) Q_E_loop (k := 11) rfl (by decide) (by decide) hz rfl (by decide) (e_claim hB hR hI u1 u2 K1)
    · exact y_switchK (j := 26) (off := 1853) (tgt := 1893) Q_E_loop (k := 11) rfl (by decide) (by decide) hz rfl (by decide) (e_claimed hB hR hI u1 u2 K1)
    · exact y_switchK (j := 27) (off := 1921) (tgt := 1961) Q_E_loop (k := 11) rfl (by decide) (by decide) hz rfl (by decide) (e_best hB hR hI u1 u2 K1)
    · exact y_switchK (j := 28) (off := 1977) (tgt := 2017) Q_E_loop (k := 11) rfl (by decide) (by decide) hz rfl (by decide) (e_added hB hR hI u1 u2 K1)
    · exact y_switchK (j := 29) (off := 2045) (tgt := 2085) Q_E_loop (k := 11) rfl (by decide) (by decide) hz rfl (by decide) (e_cry hB hR hI u1 u2 K1)
    · exact y_switchK (j := 30) (off := 2101) (tgt := 2141) Q_E_loop (k := 11) rfl (by decide) (by decide) hz rfl (by decide) (e_due hB hR hI u1 u2 K1)
    · exact y_switchK (j := 31) (off := 2169) (tgt := 2209) Q_E_loop (k := 11) rfl (by decide) (by decide) hz rfl (by decide) (e_left hB hR hI u1 u2 K1)
    · exact y_switchK (j := 32) (off := 2237) (tgt := 2277) Q_E_loop (k := 11) rfl (by decide) (by decide) hz rfl (by decide) (e_gone hB hR hI u1 u2 K1)
    · exact y_switchK (j := 33) (off := 2293) (tgt := 2333) Q_E_loop (k := 11) rfl (by decide) (by decide) hz rfl (by decide) (e_late hB hR hI u1 u2 K1)
    · exact y_switchK (j := 34) (off := 2361) (tgt := 2401) Q_E_loop (k := 11) rfl (by decide) (by decide) hz rfl (by decide) (e_pass hB hR hI u1 u2 K1)
    · exact y_switchK (j := 35) (off := 2453) (tgt := 2493) Q_E_loop (k := 11) rfl (by decide) (by decide) hz rfl (by decide) (e_has hB hR hI u1 u2 K1)
    · exact y_switchK (j := 36) (off := 2509) (tgt := 2549) Q_E_loop (k := 11) rfl (by decide) (by decide) hz rfl (by decide) (e_away hB hR hI u1 u2 K1)
    · exact y_switchK (j := 37) (off := 2600) (tgt := 2640) Q_E_loop (k := 11) rfl (by decide) (by decide) hz rfl (by decide) (e_loss hB hR hI u1 u2 K1)
    · exact y_switchK (j := 38) (off := 2668) (tgt := 2708) Q_E_loop (k := 11) rfl (by decide) (by decide) hz rfl (by decide) (e_beside hB hR hI u1 u2 K1)
    · exact y_switchK (j := 39) (off := 2736) (tgt := 2776) Q_E_loop (k := 11) rfl (by decide) (by decide) hz rfl (by decide) (e_least hB hR hI u1 u2 K1)
    · exact y_switchK (j := 40) (off := 2816) (tgt := 2856) Q_E_loop (k := 11) rfl (by decide) (by decide) hz rfl (by decide) (e_image hB hR hI u1 u2 K1)
    · exact y_switchK (j := 41) (off := 2829) (tgt := 2869) Q_E_loop (k := 11) rfl (by decide) (by decide) hz rfl (by decide) (e_restore hB hR hI u1 u2 K1)
    · exact y_switchK (j := 42) (off := 2842) (tgt := 2882) Q_E_loop (k := 11) rfl (by decide) (by decide) hz rfl (by decide) (e_count hB hR hI u1 u2 K1)
    · exact y_switchD (tgt := 2907) Q_E_loop (k := 11) rfl (Or.inr hc) hz (by decide) (e_tail ih hB hR rfl ⟨hi.1, hl⟩ (by omega) (by omega) he (by omega) (by omega))
