/-! rules of Z for throws, nest mates, what is made -/
section
variable {μ μ' : zM} {d kc ks kc' ks' pc nx k : Nat} {L L' : zL} {st as : List Value} {S : zS} {I : zI} {J : zJ} {Q Q' : zQ} {tb : zTb}
def zThrown (own cls : String) (ik ic is : Nat) (text : String) : Prop := Bundle.fit cls = true ∧ Cond.classLink own ik cls ∈ zG ∧ Cond.initialized cls ∈ zG ∧ (own, is, text) ∈ zStr ∧ (∀ w ∈ (vx_atS own ic cls ["java/lang/RuntimeException", "java/lang/Exception"]).filter goodWord, w ∈ zG) ∧ (∀ w ∈ (vx_atS own ic cls ["java/lang/RuntimeException", "java/lang/Exception"]).filter (fun w => !goodWord w), w ∈ (zCas.map fun q => Cond.castable q.1 q.2) ++ zDc.map Cond.declares) ∧ ∀ w ∈ Cond.classLink own ik cls :: Cond.initialized cls :: vx_atS own ic cls ["java/lang/RuntimeException", "java/lang/Exception"], vx_ot w = true
/-- throw new E("text") -/
theorem z_throw {cls text : String} {ik ic is : Nat} (ht : zT μ tb) (hk : zat tb k = some (pc, .new ik, 3, nx)) (hd3 : decode μ.2.1 (pc + 3) = .ok (.dup, 1)) (hd4 : decode μ.2.1 (pc + 4) = .ok (.ldc is, 2)) (hd6 : decode μ.2.1 (pc + 6) = .ok (.invokespecial ic, 3)) (hd9 : decode μ.2.1 (pc + 9) = .ok (.athrow, 1))
    (hno : μ.2.2.2.2 = []) (hT : zThrown μ.1.cls cls ik ic is text) (hst : (st.map fun v => v.category).sum ≤ 50) (hkc : 1 ≤ kc) (hks : 6 ≤ ks) (hq : Q (.inr cls) S I J) : Z μ d kc ks pc L st S I J Q := by
  intro p l e R s m args below meth c X D aC ad ad0 n0 ls H locs cells slots mc ms hF hB hH hG hS hL hc hs
  obtain ⟨hd, rfl⟩ := ht.at hk
  obtain ⟨t1, t2, t3, t4, t5, t6, t7⟩ := hT
  have hts := hF.2.2.2.2.1
  have hfr := hF.2.2.2.2.2.2.2.2.2.2
  obtain ⟨sa, hsa⟩ := hB.2.2.2.2.1 _ t4
  refine vx_throwS (A := zA X.1) (names := ["java/lang/RuntimeException", "java/lang/Exception"]) hF.1 hF.2.1 hF.2.2.2.2.2.2.2.2.2.1 hF.2.2.2.1 t1 (by decide +kernel) (hts _ t2) (hts _ t3) hsa ?_ t7 hB.2.2.2.2.2.1 hB.2.2.2.2.2.2.1 hS (hL.1.trans hF.2.2.1.symm) hd hd3 hd4 hd6 hd9 (by rw [hF.2.2.2.2.2.2.2.1, hno]; intro x hx; cases hx)
    (by show 2 + 3 < R.frames; omega) (by rw [zcat]; show _ + (13 * (2 + 1) + 43) ≤ _; omega) (by omega) (by omega) hF.2.2.2.2.2.2.1 ?_ (fun z hz => hS.2.2 z hz) (by omega) (by omega)
  · refine vx_hat (B := (zCas.map fun q => Cond.castable q.1 q.2) ++ zDc.map Cond.declares) (fun w hw => hts w (t5 w hw)) t6 (fun w hw => ?_)
    rcases List.mem_append.mp hw with hw | hw
    · obtain ⟨q, hq1, rfl⟩ := List.mem_map.mp hw
      exact va_Nw.use rfl (hB.2.2.2.2.2.2.2.2.2.1.1 q hq1)
    · obtain ⟨y, hq1, rfl⟩ := List.mem_map.mp hw
      exact va_Nw.use rfl (hB.2.2.2.2.2.2.2.2.2.1.2 y hq1)
  · intro t hvm hz hk2
    exact ⟨⟨S, I, J, ad, hq, ⟨hH.1.kept (fun k q hk => hk2 q.1 (hH.1 k q hk).lt), hH.2.1, hH.2.2⟩, hG⟩, Nat.le_trans hS.1 hz, fun q h1 h2 => (hk2 q (Nat.lt_of_lt_of_le h1 hS.1)).trans (hS.2.1 q h1 h2)⟩
theorem zMet0 {l : Launch} {y : MethodName} {ws : List Cond} {rm : Room} {Pc : Array Value → State → Prop} {Qc : Array Value → State → Outcome → State → Prop} {XC : String → State → State → Prop} {mc ms : Nat} {free : Addr → Prop} (h : vx_Met l y ws rm Pc Qc XC mc ms free) (hx : ∀ E a b, ¬ XC E a b) : Met l y ws rm Pc Qc mc ms free := by
  intro p e ha hc hk s m args below hf hap hP hT
  obtain ⟨t, o, h1, h2, h3, h4⟩ := h p e ha hc hk s m args below hf hap hP hT
  rcases h4 with h4 | ⟨q, -, E, ce, L, h5, -⟩
  · exact ⟨t, o, h1, h2, h3, h4⟩
  · exact (hx E _ _ h5).elim
theorem zRunX {p : Program} {l : Launch} {e : Env} {R : Room} {s : State} {m : MethodId} {args : Array Value} {below : List Frame} {meth : Method} {c : Code} {H : Heap} {locs : List Loc} {cells slots mc ms : Nat} {g : JFrame} {rest : List Value} {Qa : State → Outcome → State → Prop} {XC : String → State → State → Prop} {free : Addr → Prop}
    (h : va_Run p l e R s m args below meth c H locs cells slots mc ms g rest Qa free) : vx_Run p l e R s m args below meth c H locs cells slots mc ms g rest Qa XC free := fun T hT X0 => Or.inl (h T hT X0)
theorem zCN {R : Room} {s : State} {args : Array Value} {own : String} {index n : Nat} (hts : ∀ w ∈ zG, w.before args s = true) (K : zKm μ' n) (hlink : va_Nw (.methodLinkNest own index μ'.1 "FoundThings") s) (h1 : d + 11 ≤ R.frames) (h2 : 45 * d + 245 ≤ R.locals) :
    va_CN R s args own index μ'.1 "FoundThings" μ'.2.1 μ'.2.2.1 μ'.2.2.2.1 (Cond.code μ'.1 μ'.2.1 μ'.2.2.1 μ'.2.2.2.1 :: zG) (zRm d kc' ks') kc' ks' n := by
  obtain ⟨k1, k2, k3, k4, k5, k6, k7⟩ := K
  refine va_cnB (Ts := zG) n hts (fun w hw => ?_) rfl rfl rfl hlink (hts _ k2) ⟨k3.1, k3.2, k4⟩ ⟨h1, by show 8 + (_ + 11) + (45 * d + 200) ≤ _; omega⟩
  rcases List.mem_cons.mp hw with rfl | h
  · exact ⟨k1, zG_good k1⟩
  · exact ⟨h, zG_good h⟩
/-- calls of private methods of nest mates: they never throw -/
theorem z_callVN {idx o n ci : Nat} (ht : zT μ tb) (hk : zat tb k = some (pc, .invokevirtual idx, 3, nx)) (hno : μ.2.2.2.2 = []) (K : zKm μ' n) (KV : zKv μ' ci) (hlink : (μ.1.cls, idx, μ'.1) ∈ zNM) (ho : o < S.2.2) (hkd : (S.2.1 o).1 = ci) {st0 : List Value} (hst : st0 = as.reverse ++ .ref o :: st) (hn : as.length = n)
    (hlen : (lg_sl (.ref o :: as)).length ≤ μ'.2.2.1) (hL' : zin (.ref o :: as) μ'.2.2.1 = L') (hroom : (st.map fun v => v.category).sum ≤ 8) (hkc : kc' ≤ kc) (hks : ks' ≤ ks) (hkeep : zkeep Q' S L st)
    (hZ : Z μ' d kc' ks' 0 L' [] S I J Q') (kx : ∀ E S' I' J', ¬ Q' (.inr E) S' I' J')
    (kk : ∀ v S' I' J', Q' (.inl v) S' I' J' → Z μ (d + 1) (kc - kc') (ks - ks') nx L (v.toList ++ st) S' I' J' Q) : Z μ (d + 1) kc ks pc L st0 S I J Q := by
  intro p l e R s m args below meth c X D aC ad ad0 n0 ls H locs cells slots mc ms hF hB hH hG hS hL hc hs
  obtain ⟨hd, rfl⟩ := ht.at hk
  have hts := hF.2.2.2.2.1
  have hfr := hF.2.2.2.2.2.2.2.2.2.2
  obtain ⟨q0, hq0, hq1, hci⟩ := KV.2.2
  have he : (zW aC ad S I J)[o]? = some (ad o, .inr (ci, zFd ad S I o ci)) := by rw [zW_get ho, zE_o hkd hci]
  have hrun := va_runVN (l := l) (e := e) (R := R) (below := below) (meth := meth) (H := H) (locs := locs) (cells := cells) (slots := slots) (Ts := zG) (own := μ.1.cls) (host := "FoundThings") (C := μ'.1.cls) (index := idx) (b := ad o) (As := as.map (zv ad)) (rest := st.map (zv ad)) (g := F0 m pc ls (st0.map (zv ad))) (nL := μ.2.2.1) (n := n)
    ⟨hF.1, hF.2.1, hF.2.2.1, hF.2.2.2.1, hts⟩ (zMet0 (zMet (vs := .ref o :: as) l hF.2.2.2.2.2.2.2.2.2.1 K.2.2.2.2.2.1 K.2.2.2.2.1 hlen hL' hZ X D aC ad) (fun E a b h => by obtain ⟨⟨S', I', J', ad', h1, -⟩, -⟩ := h; exact kx E _ _ _ h1))
    ⟨zCN (d := d) hts K (hB.2.2.2.1 _ hlink) (by omega) (by omega), hts _ KV.1, hts _ KV.2.1⟩ ⟨zPc_blind, by rw [← hq1]; exact va_recv hB.2.1 hH.1 hq0 he, zPre hB hH hS⟩
    rfl (by rw [List.length_map]; exact hn) hL.1 (by rw [hst]; simp [F0, zv]) (by show 2 * 0 + _ ≤ 8; rw [zcat]; omega) hd ⟨by omega, by omega⟩
  exact zBehind hF hB hH hG hS hL hc hs hkc hks hno hkeep (zRunX hrun) (fun E S' I' J' h => (kx E S' I' J' h).elim) kk
theorem z_callSN {idx n : Nat} (ht : zT μ tb) (hk : zat tb k = some (pc, .invokestatic idx, 3, nx)) (hno : μ.2.2.2.2 = []) (K : zKm μ' n) (KS : Cond.static μ'.1 ∈ zG) (hlink : (μ.1.cls, idx, μ'.1) ∈ zNM) {st0 : List Value} (hst : st0 = as.reverse ++ st) (hn : as.length = n)
    (hlen : (lg_sl as).length ≤ μ'.2.2.1) (hL' : zin as μ'.2.2.1 = L') (hroom : (st.map fun v => v.category).sum ≤ 8) (hkc : kc' ≤ kc) (hks : ks' ≤ ks) (hkeep : zkeep Q' S L st)
    (hZ : Z μ' d kc' ks' 0 L' [] S I J Q') (kx : ∀ E S' I' J', ¬ Q' (.inr E) S' I' J')
    (kk : ∀ v S' I' J', Q' (.inl v) S' I' J' → Z μ (d + 1) (kc - kc') (ks - ks') nx L (v.toList ++ st) S' I' J' Q) : Z μ (d + 1) kc ks pc L st0 S I J Q := by
  intro p l e R s m args below meth c X D aC ad ad0 n0 ls H locs cells slots mc ms hF hB hH hG hS hL hc hs
  obtain ⟨hd, rfl⟩ := ht.at hk
  have hts := hF.2.2.2.2.1
  have hfr := hF.2.2.2.2.2.2.2.2.2.2
  have hrun := va_runSN (l := l) (e := e) (R := R) (below := below) (meth := meth) (H := H) (locs := locs) (cells := cells) (slots := slots) (Ts := zG) (own := μ.1.cls) (host := "FoundThings") (index := idx) (As := as.map (zv ad)) (rest := st.map (zv ad)) (g := F0 m pc ls (st0.map (zv ad))) (nL := μ.2.2.1) (n := n)
    ⟨hF.1, hF.2.1, hF.2.2.1, hF.2.2.2.1, hts⟩ (zMet0 (zMet (vs := as) l hF.2.2.2.2.2.2.2.2.2.1 K.2.2.2.2.2.1 K.2.2.2.2.1 hlen hL' hZ X D aC ad) (fun E a b h => by obtain ⟨⟨S', I', J', ad', h1, -⟩, -⟩ := h; exact kx E _ _ _ h1))
    ⟨zCN (d := d) hts K (hB.2.2.2.1 _ hlink) (by omega) (by omega), hts _ KS, trivial⟩ ⟨zPc_blind, zPre hB hH hS⟩
    rfl (by rw [List.length_map]; exact hn) hL.1 (by rw [hst]; simp [F0]) (by show 2 * 0 + _ ≤ 8; rw [zcat]; omega) hd ⟨by omega, by omega⟩
  exact zBehind hF hB hH hG hS hL hc hs hkc hks hno hkeep (zRunX hrun) (fun E S' I' J' h => (kx E S' I' J' h).elim) kk
/-- a constructor -/
theorem z_callI {idx o n : Nat} (ht : zT μ tb) (hk : zat tb k = some (pc, .invokespecial idx, 3, nx)) (hno : μ.2.2.2.2 = []) (K : zKm μ' n) (hret : μ'.2.2.2.1 = none) (hnm : μ'.1.name = "<init>") (KI : Cond.instanceMethod μ'.1 ∈ zG) (hlink : Cond.methodLink μ.1.cls idx μ'.1 ∈ zG) {st0 : List Value} (hst : st0 = as.reverse ++ .ref o :: st) (hn : as.length = n)
    (hlen : (lg_sl (.ref o :: as)).length ≤ μ'.2.2.1) (hL' : zin (.ref o :: as) μ'.2.2.1 = L') (hroom : (st.map fun v => v.category).sum ≤ 8) (hkc : kc' ≤ kc) (hks : ks' ≤ ks) (hkeep : zkeep Q' S L st)
    (hZ : Z μ' d kc' ks' 0 L' [] S I J Q') (kx : ∀ E S' I' J', ¬ Q' (.inr E) S' I' J')
    (kk : ∀ v S' I' J', Q' (.inl v) S' I' J' → Z μ (d + 1) (kc - kc') (ks - ks') nx L (v.toList ++ st) S' I' J' Q) : Z μ (d + 1) kc ks pc L st0 S I J Q := by
  intro p l e R s m args below meth c X D aC ad ad0 n0 ls H locs cells slots mc ms hF hB hH hG hS hL hc hs
  obtain ⟨hd, rfl⟩ := ht.at hk
  have hts := hF.2.2.2.2.1
  have hfr := hF.2.2.2.2.2.2.2.2.2.2
  have hM := zMet0 (zMet (vs := .ref o :: as) l hF.2.2.2.2.2.2.2.2.2.1 K.2.2.2.2.2.1 K.2.2.2.2.1 hlen hL' hZ X D aC ad) (fun E a b h => by obtain ⟨⟨S', I', J', ad', h1, -⟩, -⟩ := h; exact kx E _ _ _ h1)
  have hCB := zCB (R := R) (kc' := kc') (ks' := ks') (d := d) hts K hlink (by omega) (by omega)
  rw [hret] at hM hCB
  have hrun := va_runI (l := l) (e := e) (R := R) (below := below) (meth := meth) (H := H) (locs := locs) (cells := cells) (slots := slots) (Ts := zG) (own := μ.1.cls) (index := idx) (b := ad o) (As := as.map (zv ad)) (rest := st.map (zv ad)) (g := F0 m pc ls (st0.map (zv ad))) (nL := μ.2.2.1) (n := n)
    ⟨hF.1, hF.2.1, hF.2.2.1, hF.2.2.2.1, hts⟩ hM ⟨hCB, hnm, hts _ KI⟩ ⟨zPc_blind, zPre hB hH hS⟩
    rfl (by rw [List.length_map]; exact hn) hL.1 (by rw [hst]; simp [F0, zv]) (by show 2 * 0 + _ ≤ 8; rw [zcat]; omega) hd ⟨by omega, by omega⟩
  exact zBehind hF hB hH hG hS hL hc hs hkc hks hno hkeep (zRunX hrun) (fun E S' I' J' h => (kx E S' I' J' h).elim) kk
end
