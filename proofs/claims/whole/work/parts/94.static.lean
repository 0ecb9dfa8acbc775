/-! static calls of methods that catch -/
def zKh (μ : zM) (n : Nat) : Prop := Cond.codeWith μ.1 μ.2.1 μ.2.2.1 μ.2.2.2.1 μ.2.2.2.2 ∈ zG ∧ Cond.initialized μ.1.cls ∈ zG ∧ (μ.1.cls ≠ "java/lang/invoke/MethodHandle" ∧ μ.1.cls ≠ "java/lang/invoke/VarHandle") ∧ (parseMethodDescriptor μ.1.desc).map (fun d => d.parameters.length) = some n ∧ plainName μ.1.cls = true ∧ μ.2.2.1 ≤ 20 ∧ Cond.static μ.1 ∈ zG
theorem zMetH {μ : zM} {d kc ks : Nat} {vs : List Value} {L : zL} {S : zS} {I : zI} {J : zJ} {Q : zQ} (l : Launch) (hl : l.stackTraces = false) (hp : plainName μ.1.cls = true) (hlen : (lg_sl vs).length ≤ μ.2.2.1) (hL : zin vs μ.2.2.1 = L) (hZ : Z μ d kc ks 0 L [] S I J Q) (X : zX) (D : va_G) (aC : Nat → ClassId) (ad : Nat → Nat) :
    vx_Met l μ.1 (Cond.codeWith μ.1 μ.2.1 μ.2.2.1 μ.2.2.2.1 μ.2.2.2.2 :: zG) (zRm d kc ks) (zPc X D aC ad S I J vs) (zQc X D aC ad S.2.2 Q) (zXc X D aC ad S.2.2 Q) kc ks (zA X.1) := by
  refine vx_ofWH (cc := μ.2.1) (maxL := μ.2.2.1) (ret := μ.2.2.2.1) (hh := μ.2.2.2.2) hp rfl ?_
  intro p e s m args below meth c s₁ B hml hv
  obtain ⟨rfl, hB, hH⟩ := hv
  have hts := atoms_spec (ws := Cond.codeWith μ.1 μ.2.1 μ.2.2.1 μ.2.2.2.1 μ.2.2.2.2 :: zG) B.pre
  have hlv := lv_entry (vs.map (zv ad)) (n := μ.2.2.1) (by rw [lg_sl_len]; exact hlen)
  rw [lg_entry_eq]
  refine hZ p l e (headSpec (Cond.codeWith μ.1 μ.2.1 μ.2.2.1 μ.2.2.2.1 μ.2.2.2.2 :: zG) (zRm d kc ks)).room s m _ below meth c X D aC ad ad S.2.2 _ s.heap [] 0 0 kc ks ?_ hB hH (zAg.rf _ _) va_S.rf ?_ (by omega) (by omega)
  · exact ⟨B.exec, B.bytes, hml, findClass_of_methodNamed B.named, fun w hw => hts w (List.mem_cons_of_mem _ hw), B.returns, B.notSynchronized, vx_table (x := μ.1) B (hts _ List.mem_cons_self), (name_of_methodNamed B.named B.method).1, hl, Nat.le_refl _, Nat.le_refl _, rfl, rfl⟩
  · refine ⟨hlv.1, hlv.2.1, fun j v hj => ?_⟩
    rw [← hL] at hj
    have := zin_args (ad := ad) vs μ.2.2.1 0 j v hj
    rw [Nat.zero_add] at this
    exact hlv.2.2 _ this
section
variable {μ μ' : zM} {d kc ks kc' ks' pc nx k : Nat} {L L' : zL} {st as : List Value} {S : zS} {I : zI} {J : zJ} {Q Q' : zQ} {tb : zTb}
theorem z_callSH {idx n : Nat} (ht : zT μ tb) (hk : zat tb k = some (pc, .invokestatic idx, 3, nx)) (hno : μ.2.2.2.2 = []) (K : zKh μ' n) (hlink : Cond.methodLink μ.1.cls idx μ'.1 ∈ zG) {st0 : List Value} (hst : st0 = as.reverse ++ st) (hn : as.length = n)
    (hlen : (lg_sl as).length ≤ μ'.2.2.1) (hL' : zin as μ'.2.2.1 = L') (hroom : (st.map fun v => v.category).sum ≤ 8) (hkc : kc' ≤ kc) (hks : ks' ≤ ks) (hkeep : zkeep Q' S L st)
    (hZ : Z μ' d kc' ks' 0 L' [] S I J Q') (kx : ∀ E S' I' J', Q' (.inr E) S' I' J' → Q (.inr E) S' I' J')
    (kk : ∀ v S' I' J', Q' (.inl v) S' I' J' → Z μ (d + 1) (kc - kc') (ks - ks') nx L (v.toList ++ st) S' I' J' Q) : Z μ (d + 1) kc ks pc L st0 S I J Q := by
  intro p l e R s m args below meth c X D aC ad ad0 n0 ls H locs cells slots mc ms hF hB hH hG hS hL hc hs
  obtain ⟨hd, rfl⟩ := ht.at hk
  have hts := hF.2.2.2.2.1
  have hfr := hF.2.2.2.2.2.2.2.2.2.2
  obtain ⟨k1, k2, k3, k4, k5, k6, k7⟩ := K
  have cw : vx_CSW R s args μ.1.cls idx μ'.1 μ'.2.1 μ'.2.2.1 μ'.2.2.2.1 μ'.2.2.2.2 (Cond.codeWith μ'.1 μ'.2.1 μ'.2.2.1 μ'.2.2.2.1 μ'.2.2.2.2 :: zG) (zRm d kc' ks') kc' ks' n := by
    refine ⟨⟨rfl, rfl, by show d + 10 + 1 ≤ _; omega, by show 8 + (_ + 11) + (45 * d + 200) ≤ _; omega, fun w hw a' U hW => ?_, List.mem_cons_self⟩, hts _ k1, hts _ k2, k3, fun sig h => ?_, hts _ hlink, hts _ k7⟩
    · have hw2 : w ∈ zG := by
        rcases List.mem_cons.mp hw with rfl | h
        · exact k1
        · exact h
      exact word_at hW (zG_good hw2) (hts w hw2)
    · rw [h] at k4
      exact (Option.some.inj k4).symm
  have hrun := vx_runSX (l := l) (e := e) (R := R) (below := below) (meth := meth) (H := H) (locs := locs) (cells := cells) (slots := slots) (Ts := zG) (own := μ.1.cls) (index := idx) (As := as.map (zv ad)) (rest := st.map (zv ad)) (g := F0 m pc ls (st0.map (zv ad))) (nL := μ.2.2.1) (n := n)
    ⟨hF.1, hF.2.1, hF.2.2.1, hF.2.2.2.1, hts⟩ (zMetH (vs := as) l hF.2.2.2.2.2.2.2.2.2.1 k5 hlen hL' hZ X D aC ad)
    cw ⟨zPc_blind, zPre hB hH hS⟩
    rfl (by rw [List.length_map]; exact hn) hL.1 (by rw [hst]; simp [F0]) (by show 2 * 0 + _ ≤ 8; rw [zcat]; omega) hd ⟨by omega, by omega⟩
  exact zBehind hF hB hH hG hS hL hc hs hkc hks hno hkeep hrun kx kk
end
set_option maxRecDepth 100000 in
theorem K_L_law : zKh M_L_law 3 := ⟨zmem 676 rfl rfl, zmem 112 (by decide +kernel) (by decide +kernel), by decide +kernel, by decide +kernel, by decide +kernel, by decide, zmem 675 (by decide +kernel) (by decide +kernel)⟩
set_option maxRecDepth 100000 in
theorem K_L_holds : zKh M_L_holds 3 := ⟨zmem 937 rfl rfl, zmem 112 (by decide +kernel) (by decide +kernel), by decide +kernel, by decide +kernel, by decide +kernel, by decide, zmem 936 (by decide +kernel) (by decide +kernel)⟩
set_option maxRecDepth 100000 in
theorem K_L_know : zKh M_L_know 4 := ⟨zmem 1001 rfl rfl, zmem 112 (by decide +kernel) (by decide +kernel), by decide +kernel, by decide +kernel, by decide +kernel, by decide, zmem 1000 (by decide +kernel) (by decide +kernel)⟩
set_option maxRecDepth 100000 in
theorem K_L_weigh : zKh M_L_weigh 4 := ⟨zmem 1032 rfl rfl, zmem 112 (by decide +kernel) (by decide +kernel), by decide +kernel, by decide +kernel, by decide +kernel, by decide, zmem 1031 (by decide +kernel) (by decide +kernel)⟩
set_option maxRecDepth 100000 in
theorem K_L_person : zKh M_L_person 4 := ⟨zmem 1039 rfl rfl, zmem 112 (by decide +kernel) (by decide +kernel), by decide +kernel, by decide +kernel, by decide +kernel, by decide, zmem 1038 (by decide +kernel) (by decide +kernel)⟩
set_option maxRecDepth 100000 in
theorem K_L_passes : zKh M_L_passes 5 := ⟨zmem 1050 rfl rfl, zmem 112 (by decide +kernel) (by decide +kernel), by decide +kernel, by decide +kernel, by decide +kernel, by decide, zmem 1049 (by decide +kernel) (by decide +kernel)⟩
set_option maxRecDepth 100000 in
theorem K_L_ground : zKh M_L_ground 5 := ⟨zmem 1078 rfl rfl, zmem 112 (by decide +kernel) (by decide +kernel), by decide +kernel, by decide +kernel, by decide +kernel, by decide, zmem 1077 (by decide +kernel) (by decide +kernel)⟩
set_option maxRecDepth 100000 in
theorem K_L_days : zKh M_L_days 3 := ⟨zmem 1085 rfl rfl, zmem 112 (by decide +kernel) (by decide +kernel), by decide +kernel, by decide +kernel, by decide +kernel, by decide, zmem 1084 (by decide +kernel) (by decide +kernel)⟩
set_option maxRecDepth 100000 in
theorem K_L_find : zKh M_L_find 7 := ⟨zmem 1109 rfl rfl, zmem 112 (by decide +kernel) (by decide +kernel), by decide +kernel, by decide +kernel, by decide +kernel, by decide, zmem 1108 (by decide +kernel) (by decide +kernel)⟩
set_option maxRecDepth 100000 in
theorem K_L_name : zKh M_L_name 4 := ⟨zmem 1117 rfl rfl, zmem 112 (by decide +kernel) (by decide +kernel), by decide +kernel, by decide +kernel, by decide +kernel, by decide, zmem 1116 (by decide +kernel) (by decide +kernel)⟩
set_option maxRecDepth 100000 in
theorem K_L_hold : zKh M_L_hold 6 := ⟨zmem 1156 rfl rfl, zmem 112 (by decide +kernel) (by decide +kernel), by decide +kernel, by decide +kernel, by decide +kernel, by decide, zmem 1155 (by decide +kernel) (by decide +kernel)⟩
set_option maxRecDepth 100000 in
theorem K_L_finders : zKh M_L_finders 3 := ⟨zmem 1167 rfl rfl, zmem 112 (by decide +kernel) (by decide +kernel), by decide +kernel, by decide +kernel, by decide +kernel, by decide, zmem 1166 (by decide +kernel) (by decide +kernel)⟩
set_option maxRecDepth 100000 in
theorem K_L_whose : zKh M_L_whose 6 := ⟨zmem 1178 rfl rfl, zmem 112 (by decide +kernel) (by decide +kernel), by decide +kernel, by decide +kernel, by decide +kernel, by decide, zmem 1177 (by decide +kernel) (by decide +kernel)⟩
set_option maxRecDepth 100000 in
theorem K_L_sure : zKh M_L_sure 4 := ⟨zmem 1216 rfl rfl, zmem 112 (by decide +kernel) (by decide +kernel), by decide +kernel, by decide +kernel, by decide +kernel, by decide, zmem 1215 (by decide +kernel) (by decide +kernel)⟩
set_option maxRecDepth 100000 in
theorem K_L_may : zKh M_L_may 4 := ⟨zmem 1231 rfl rfl, zmem 112 (by decide +kernel) (by decide +kernel), by decide +kernel, by decide +kernel, by decide +kernel, by decide, zmem 1230 (by decide +kernel) (by decide +kernel)⟩
set_option maxRecDepth 100000 in
theorem K_L_part : zKh M_L_part 5 := ⟨zmem 1238 rfl rfl, zmem 112 (by decide +kernel) (by decide +kernel), by decide +kernel, by decide +kernel, by decide +kernel, by decide, zmem 1237 (by decide +kernel) (by decide +kernel)⟩
set_option maxRecDepth 100000 in
theorem K_L_hangs : zKh M_L_hangs 4 := ⟨zmem 1245 rfl rfl, zmem 112 (by decide +kernel) (by decide +kernel), by decide +kernel, by decide +kernel, by decide +kernel, by decide, zmem 1244 (by decide +kernel) (by decide +kernel)⟩
set_option maxRecDepth 100000 in
theorem K_L_settles : zKh M_L_settles 4 := ⟨zmem 1273 rfl rfl, zmem 112 (by decide +kernel) (by decide +kernel), by decide +kernel, by decide +kernel, by decide +kernel, by decide, zmem 1272 (by decide +kernel) (by decide +kernel)⟩
set_option maxRecDepth 100000 in
theorem K_L_questions : zKh M_L_questions 4 := ⟨zmem 1290 rfl rfl, zmem 112 (by decide +kernel) (by decide +kernel), by decide +kernel, by decide +kernel, by decide +kernel, by decide, zmem 1289 (by decide +kernel) (by decide +kernel)⟩
set_option maxRecDepth 100000 in
theorem K_L_ask : zKh M_L_ask 4 := ⟨zmem 1338 rfl rfl, zmem 112 (by decide +kernel) (by decide +kernel), by decide +kernel, by decide +kernel, by decide +kernel, by decide, zmem 1337 (by decide +kernel) (by decide +kernel)⟩
set_option maxRecDepth 100000 in
theorem K_L_claim : zKh M_L_claim 5 := ⟨zmem 1350 rfl rfl, zmem 112 (by decide +kernel) (by decide +kernel), by decide +kernel, by decide +kernel, by decide +kernel, by decide, zmem 1349 (by decide +kernel) (by decide +kernel)⟩
set_option maxRecDepth 100000 in
theorem K_L_claimed : zKh M_L_claimed 4 := ⟨zmem 1358 rfl rfl, zmem 112 (by decide +kernel) (by decide +kernel), by decide +kernel, by decide +kernel, by decide +kernel, by decide, zmem 1357 (by decide +kernel) (by decide +kernel)⟩
set_option maxRecDepth 100000 in
theorem K_L_best : zKh M_L_best 3 := ⟨zmem 1372 rfl rfl, zmem 112 (by decide +kernel) (by decide +kernel), by decide +kernel, by decide +kernel, by decide +kernel, by decide, zmem 1371 (by decide +kernel) (by decide +kernel)⟩
set_option maxRecDepth 100000 in
theorem K_L_added : zKh M_L_added 4 := ⟨zmem 1379 rfl rfl, zmem 112 (by decide +kernel) (by decide +kernel), by decide +kernel, by decide +kernel, by decide +kernel, by decide, zmem 1378 (by decide +kernel) (by decide +kernel)⟩
set_option maxRecDepth 100000 in
theorem K_L_cry : zKh M_L_cry 3 := ⟨zmem 1386 rfl rfl, zmem 112 (by decide +kernel) (by decide +kernel), by decide +kernel, by decide +kernel, by decide +kernel, by decide, zmem 1385 (by decide +kernel) (by decide +kernel)⟩
set_option maxRecDepth 100000 in
theorem K_L_due : zKh M_L_due 4 := ⟨zmem 1393 rfl rfl, zmem 112 (by decide +kernel) (by decide +kernel), by decide +kernel, by decide +kernel, by decide +kernel, by decide, zmem 1392 (by decide +kernel) (by decide +kernel)⟩
set_option maxRecDepth 100000 in
theorem K_L_left : zKh M_L_left 4 := ⟨zmem 1405 rfl rfl, zmem 112 (by decide +kernel) (by decide +kernel), by decide +kernel, by decide +kernel, by decide +kernel, by decide, zmem 1404 (by decide +kernel) (by decide +kernel)⟩
set_option maxRecDepth 100000 in
theorem K_L_gone : zKh M_L_gone 3 := ⟨zmem 1417 rfl rfl, zmem 112 (by decide +kernel) (by decide +kernel), by decide +kernel, by decide +kernel, by decide +kernel, by decide, zmem 1416 (by decide +kernel) (by decide +kernel)⟩
set_option maxRecDepth 100000 in
theorem K_L_late : zKh M_L_late 4 := ⟨zmem 1424 rfl rfl, zmem 112 (by decide +kernel) (by decide +kernel), by decide +kernel, by decide +kernel, by decide +kernel, by decide, zmem 1423 (by decide +kernel) (by decide +kernel)⟩
set_option maxRecDepth 100000 in
theorem K_L_pass : zKh M_L_pass 6 := ⟨zmem 1431 rfl rfl, zmem 112 (by decide +kernel) (by decide +kernel), by decide +kernel, by decide +kernel, by decide +kernel, by decide, zmem 1430 (by decide +kernel) (by decide +kernel)⟩
set_option maxRecDepth 100000 in
theorem K_L_has : zKh M_L_has 3 := ⟨zmem 1444 rfl rfl, zmem 112 (by decide +kernel) (by decide +kernel), by decide +kernel, by decide +kernel, by decide +kernel, by decide, zmem 1443 (by decide +kernel) (by decide +kernel)⟩
set_option maxRecDepth 100000 in
theorem K_L_away : zKh M_L_away 4 := ⟨zmem 1451 rfl rfl, zmem 112 (by decide +kernel) (by decide +kernel), by decide +kernel, by decide +kernel, by decide +kernel, by decide, zmem 1450 (by decide +kernel) (by decide +kernel)⟩
set_option maxRecDepth 100000 in
theorem K_L_loss : zKh M_L_loss 4 := ⟨zmem 1458 rfl rfl, zmem 112 (by decide +kernel) (by decide +kernel), by decide +kernel, by decide +kernel, by decide +kernel, by decide, zmem 1457 (by decide +kernel) (by decide +kernel)⟩
set_option maxRecDepth 100000 in
theorem K_L_beside : zKh M_L_beside 4 := ⟨zmem 1465 rfl rfl, zmem 112 (by decide +kernel) (by decide +kernel), by decide +kernel, by decide +kernel, by decide +kernel, by decide, zmem 1464 (by decide +kernel) (by decide +kernel)⟩
set_option maxRecDepth 100000 in
theorem K_L_least : zKh M_L_least 5 := ⟨zmem 1480 rfl rfl, zmem 112 (by decide +kernel) (by decide +kernel), by decide +kernel, by decide +kernel, by decide +kernel, by decide, zmem 1479 (by decide +kernel) (by decide +kernel)⟩
