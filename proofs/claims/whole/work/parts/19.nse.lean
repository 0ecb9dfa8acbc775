/-! an exception whose constructor passes its text on by an index of its own; no traces kept -/
section
variable {p : Program} {l : Launch} {e : Env} {R : Room} {s : State} {m : MethodId} {args : Array Value} {below : List Frame} {meth : Method} {c : Code} {locs : List Loc} {cells slots : Nat}
/-- a method that a class answers with itself -/
theorem nx_sel {cls : String} {c1 : ClassId} {y : MethodName} {i : MethodId} (ha : l.admits e) (hc : s.vm.findClass cls = some c1) (hn : s.methodNamed? y = some i) (hm : y.cls ≠ "java/lang/invoke/MethodHandle" ∧ y.cls ≠ "java/lang/invoke/VarHandle") (h : (Cond.selects cls y y).before args s = true) : selectMethod e.platform s.vm c1 i = .method i := by
  obtain ⟨c2, r2, m2, q1, q2, q3, q4, -⟩ := Cond.selects_spec h
  have e1 := Option.some.inj (q1.symm.trans hc)
  have e2 := Option.some.inj (q2.symm.trans (State.methodFound?_of_named hn hm))
  have e3 := Option.some.inj (q3.symm.trans hn)
  subst e1; subst e2; subst e3
  rw [Launch.admits_selectMethod ha]; exact q4
/-- what the constructor of cls asks of its own link (by the index ix to its parent yn) and of its parents' links -/
def nx_way (cls : String) (ix : Nat) (rx : ByteArray) (yn : String) (r : List String) : List Cond := Bundle.passSAtoms cls yn ix rx ++ Bundle.chainSAtoms yn r
/-- what a throw of cls asks, all together -/
def nx_own (own : String) (ic : Nat) (cls : String) (ix : Nat) (rx : ByteArray) (yn : String) (r : List String) : List Cond :=
  Bundle.throwableAtoms ++ Bundle.throwableSAtoms ++ nx_way cls ix rx yn r ++
  [Cond.methodLink own ic (Bundle.initS cls), .instantiable cls 6, .castable cls cls, .selects cls Bundle.tFill0 Bundle.tFill0, .selects cls Bundle.tFill Bundle.tFill,
      .lays cls Bundle.tN "cause" "Ljava/lang/Throwable;", .lays cls Bundle.tN "stackTrace" Bundle.steD, .lays cls Bundle.tN "suppressedExceptions" Bundle.listD, .lays cls Bundle.tN "detailMessage" "Ljava/lang/String;",
      .isRef (.static Bundle.tN "UNASSIGNED_STACK" Bundle.steD), .isRef (.static Bundle.tN "SUPPRESSED_SENTINEL" Bundle.listD),
      .fieldLink Bundle.tN 198 Bundle.tN "backtrace" "Ljava/lang/Object;", .lays Bundle.tN Bundle.tN "backtrace" "Ljava/lang/Object;", .lays cls Bundle.tN "backtrace" "Ljava/lang/Object;"]
/-- the first link by its own index, the parents' links by the library's chain -/
theorem nx_links {pl : Platform} {top : MethodId} {cls yn : String} {r : List String} {ix : Nat} {rx : ByteArray} (hpl : pl.magicAccessors = ({} : Platform).magicAccessors) (htop : s.methodNamed? (Bundle.initS Bundle.tN) = some top)
    (r0 : decode rx 0 = .ok (.aload_n 0, 1)) (r1 : decode rx 1 = .ok (.aload_n 1, 1)) (r2 : decode rx 2 = .ok (.invokespecial ix, 3)) (r5 : decode rx 5 = .ok (.return_, 1))
    (hcls : Bundle.fit cls = true) (hY : Bundle.fit yn = true) (hr : ∀ n ∈ r, Bundle.fit n = true) (h : ∀ w ∈ nx_way cls ix rx yn r, w.before args s = true) :
    ∃ (P1 P2 : PassC) (Ps : List PassC), Ps.length = r.length ∧ P1.LinksS pl s ∧ P2.LinksS pl s ∧ (∀ P, P ∈ Ps → P.LinksS pl s) ∧ s.methodNamed? (Bundle.initS cls) = some P1.m ∧ P1.sup = P2.m ∧ P2.sup = firstOf top (Ps.map (·.toPassT)) ∧ PassesOn top (Ps.map (·.toPassT)) := by
  obtain ⟨P2, Ps, g1, g2, g3, g4, g5, g6⟩ := Bundle.chainS (args := args) hpl htop r yn hY hr (fun w hw => h w (List.mem_append_right _ hw))
  obtain ⟨P1, q1, q2, q3⟩ := PassC.ofS_atoms (args := args) (s := s) hpl (Bundle.fit_spec hcls).1 (Bundle.fit_spec hY).2 r0 r1 r2 r5 (fun w hw => h w (List.mem_append_left _ hw))
  rw [g4] at q3
  exact ⟨P1, P2, Ps, g1, q1, g2, g3, q2, (Option.some.inj q3).symm, g5, g6⟩
set_option maxHeartbeats 1000000 in
theorem nx_ctor {U : State} (X : Stand p l e R s m args below meth c U locs cells slots) (hx : p.tables.exec = Jvm.exec) (htr : e.platform.stackTraces = false) {own cls yn : String} {r names : List String} (hn : names = yn :: r) {ic ix : Nat} {rx : ByteArray}
    (r0 : decode rx 0 = .ok (.aload_n 0, 1)) (r1 : decode rx 1 = .ok (.aload_n 1, 1)) (r2 : decode rx 2 = .ok (.invokespecial ix, 3)) (r5 : decode rx 5 = .ok (.return_, 1))
    (hown : s.vm.findClass own = some m.cls) (hcls : Bundle.fit cls = true) (hnames : ∀ n ∈ names, Bundle.fit n = true) (A : ∀ w ∈ nx_own own ic cls ix rx yn r, w.before args s = true)
    (hlocs : ∀ x ∈ locs, ∀ cell, s.heap[x.base]? = some cell → cell.vm.isStatics = false)
    {a : Addr} {cX : ClassId} {kX : Class} (hfX : s.vm.findClass cls = some cX) (hkX : s.vm.classes[cX]? = some kX) (hcell : U.heap[a]? = some (freshCell cX kX)) (hnew : s.heap.size ≤ a) {msg : Value} (hmsg : msg.isRef = true)
    {g : JFrame} (hg : g.method = m) (hsize : g.locals.size = c.maxLocals) (hlk : g.locked = none) (hen : g.entered = []) {rest : List Value} (hst : g.stack = msg :: .ref a :: .ref a :: rest)
    (hd6 : decode c.code g.pc = .ok (.invokespecial ic, 3)) (hd9 : decode c.code (g.pc + 3) = .ok (.athrow, 1)) (hout : ∀ x ∈ c.exceptionTable.toList, covers x (g.pc + 3) = false)
    (hRf : names.length + 3 < R.frames) (hRl : 2 * g.monitorRoom + ((Value.ref a :: rest).map fun v => v.category).sum + (13 * (names.length + 1) + 42) ≤ R.locals) (hlocks : meth.locks = false) :
    ∃ T : State, Steps p.tables e below (U.setTop g) T ∧ T.status = .running ∧ Ended T below (.threw a) ∧ s.WarmedH T.vm ∧ s.sameButNew ({ T with vm := s.vm } : State) locs cells slots ∧ ∃ ce, T.heap[a]? = some ce ∧ ce.cls = cX ∧ ce.vm = .none := by
  have hpl : e.platform.magicAccessors = ({} : Platform).magicAccessors := by rw [X.admits.platform]
  have B : ∀ w, w ∈ [Cond.methodLink own ic (Bundle.initS cls), .instantiable cls 6, .castable cls cls, .selects cls Bundle.tFill0 Bundle.tFill0, .selects cls Bundle.tFill Bundle.tFill,
      .lays cls Bundle.tN "cause" "Ljava/lang/Throwable;", .lays cls Bundle.tN "stackTrace" Bundle.steD, .lays cls Bundle.tN "suppressedExceptions" Bundle.listD, .lays cls Bundle.tN "detailMessage" "Ljava/lang/String;",
      .isRef (.static Bundle.tN "UNASSIGNED_STACK" Bundle.steD), .isRef (.static Bundle.tN "SUPPRESSED_SENTINEL" Bundle.listD),
      .fieldLink Bundle.tN 198 Bundle.tN "backtrace" "Ljava/lang/Object;", .lays Bundle.tN Bundle.tN "backtrace" "Ljava/lang/Object;", .lays cls Bundle.tN "backtrace" "Ljava/lang/Object;"] → w.before args s = true := fun w hw => A w (List.mem_append_right _ hw)
  obtain ⟨T, Z0, L, -, Y⟩ := ThrowableC.of_atoms (args := args) (show e.platform.frameOwnsMonitors = true by rw [X.admits.platform]) (show e.platform.finalization = false by rw [X.admits.platform]) hpl (fun w hw => A w (List.mem_append_left _ (List.mem_append_left _ (List.mem_append_left _ hw))))
  obtain ⟨Z, M, LZ, LM, hnZ⟩ := Init0T.ofS_atoms (args := args) hpl L Y (fun w hw => A w (List.mem_append_left _ (List.mem_append_left _ (List.mem_append_right _ hw))))
  have hch : ∀ w ∈ nx_way cls ix rx yn r, w.before args s = true := fun w hw => A w (List.mem_append_left _ (List.mem_append_right _ hw))
  obtain ⟨P1, Ps, hlen, L1, hL, hP1, hl1, hl2⟩ : ∃ (P1 : PassC) (Ps : List PassC), Ps.length = names.length ∧ P1.LinksS e.platform s ∧ (∀ P, P ∈ Ps → P.LinksS e.platform s) ∧ s.methodNamed? (Bundle.initS cls) = some P1.m ∧ P1.sup = firstOf (Z.m T.toThrowableT) (Ps.map (·.toPassT)) ∧ PassesOn (Z.m T.toThrowableT) (Ps.map (·.toPassT)) := by
    obtain ⟨P1, P2, Ps, g1, g2, g3, g4, g5, g6, g7, g8⟩ := nx_links (args := args) hpl hnZ r0 r1 r2 r5 hcls (hnames yn (by rw [hn]; exact List.mem_cons_self)) (fun n h => hnames n (by rw [hn]; exact List.mem_cons_of_mem _ h)) hch
    refine ⟨P1, P2 :: Ps, by rw [hn, List.length_cons, List.length_cons, g1], g2, fun P hP => ?_, g5, g6, g7, g8⟩
    rcases List.mem_cons.mp hP with rfl | hP
    · exact g3
    · exact g4 P hP
  have hf : s.vm.findClass cls = some P1.m.cls := findClass_of_methodNamed hP1
  have ec := Option.some.inj (hfX.symm.trans hf)
  subst ec
  obtain ⟨c1, k1, hc1, hk, hord, -, -, -⟩ := Cond.instantiable_spec (B (.instantiable cls 6) (by simp))
  have e1 := Option.some.inj (hc1.symm.trans hf)
  subst e1
  have e2 := Option.some.inj (hkX.symm.trans hk)
  subst e2
  obtain ⟨cS0, hcS0, hiss⟩ := Y.statics
  obtain ⟨u0, hu0⟩ := Cond.staticRefV Y.unassigned L.unassignedStatic L.statics hcS0 hiss (B (.isRef (.static Bundle.tN "UNASSIGNED_STACK" Bundle.steD)) (by simp))
  obtain ⟨sen, hsen⟩ := Cond.staticRefV Y.sentinel L.sentinelStatic L.statics hcS0 hiss (B (.isRef (.static Bundle.tN "SUPPRESSED_SENTINEL" Bundle.listD)) (by simp))
  obtain ⟨ci, ib, fB, b1, b2, b3, b4, -, hnB, htB, hffB⟩ := Cond.ownField (t := .object "java/lang/Object") Y.found L.cls (by decide +kernel) (B (.fieldLink Bundle.tN 198 Bundle.tN "backtrace" "Ljava/lang/Object;") (by simp)) (B (.lays Bundle.tN Bundle.tN "backtrace" "Ljava/lang/Object;") (by simp)) e.platform hpl
  obtain ⟨cS, hcS, heS, -, hkp⟩ := X.same.2.2.2.2.2 T.aS cS0 hcS0
  have hno : ∀ i, (⟨T.aS, i⟩ : Loc) ∉ locs := fun i hm => by
    have := hlocs _ hm cS0 hcS0
    rw [hiss] at this; cases this
  have hkn : cS.vm ≠ .unknown := fun hu => by
    rw [heS] at hu
    rw [show cS0.vm = .unknown from hu] at hiss
    cases hiss
  have hlt0 : T.aS < s.heap.size := (Array.getElem?_eq_some_iff.mp hcS0).1
  obtain ⟨iM, hffM⟩ := Y.msg
  obtain ⟨tyC, dC, hdC, nC⟩ := Cond.laysAt hf hk Y.cause (B (.lays cls Bundle.tN "cause" "Ljava/lang/Throwable;") (by simp))
  obtain ⟨tyS, dS, hdS, nS⟩ := Cond.laysAt hf hk Y.stack (B (.lays cls Bundle.tN "stackTrace" Bundle.steD) (by simp))
  obtain ⟨tyP, dP, hdP, nP⟩ := Cond.laysAt hf hk Y.supp (B (.lays cls Bundle.tN "suppressedExceptions" Bundle.listD) (by simp))
  obtain ⟨tyM, dM, hdM, nM⟩ := Cond.laysAt hf hk hffM (B (.lays cls Bundle.tN "detailMessage" "Ljava/lang/String;") (by simp))
  obtain ⟨tyB, dB, hdB, nB'⟩ := Cond.laysAt hf hk hffB (B (.lays cls Bundle.tN "backtrace" "Ljava/lang/Object;") (by simp))
  have bC := Cond.laysApart hdB hdC nB' nC (by rw [hnB, Y.causeName]; decide)
  have bS := Cond.laysApart hdB hdS nB' nS (by rw [hnB, Y.stackName]; decide)
  have bP := Cond.laysApart hdB hdP nB' nP (by rw [hnB, Y.suppName]; decide)
  have hskip : SkipFacts T e.platform s (fun u => u) u0 ((preparedCellV T.toThrowableT (freshCell P1.m.cls kX) a u0 sen).withEntry U.cur) := by
    refine ⟨{ ci198 := ci, i198 := ib, fBack := fB }, ⟨b1, b2, b3, b4⟩, ?_, fun _ _ => rfl⟩
    have := fresh_default (c := P1.m.cls) tyB
    rw [htB] at this
    simpa [preparedCellV, Cell.setSlot, Cell.withEntry, Array.getElem?_setIfInBounds, bC, bS, bP, bC.symm, bS.symm, bP.symm, defaultValue] using this
  obtain ⟨tm, -, -, -, vm1, hnC, -, -, -, -, -, -, -, hW1, st1⟩ := Steps.initColdS (tb := p.tables) (e := e) (below := below) (s := s) (U := U) X.here hx X.warmed hpl hown (t := Bundle.initS cls) rfl rfl (Bundle.fit_spec hcls).2
    (B (.methodLink own ic (Bundle.initS cls)) (by simp)) (hch (.instanceMethod (Bundle.initS cls)) (by simp [nx_way, Bundle.passSAtoms])) (bytes := rx) (maxL := 2) (hch (.code (Bundle.initS cls) rx 2 none) (by simp [nx_way, Bundle.passSAtoms]))
    (f := g) hg (a := a) (msg := msg) (rest := .ref a :: rest) hst hd6
  have e3 := Option.some.inj (hnC.symm.trans hP1)
  subst e3
  obtain ⟨vm2, X2, st2⟩ := (X.noted hW1).ctorMessageOffV hx (g := { g with stack := .ref a :: rest }) hg hsize T L Z LZ M LM (P1 :: Ps)
    (fun P hP => (List.mem_cons.mp hP).elim (fun q => q ▸ L1) (hL P)) ⟨hl1, hl2⟩ (u0 := u0) (sen := sen) (self := a) hmsg (cell := freshCell P1.m.cls kX) (cellS := cS)
    hcell (fun _ => by simp) (by simp) rfl rfl (nx_sel X.admits hf Y.fill0 (by decide) (B (.selects cls Bundle.tFill0 Bundle.tFill0) (by simp))) (nx_sel X.admits hf Y.fill (by decide) (B (.selects cls Bundle.tFill Bundle.tFill) (by simp)))
    hcS (Nat.ne_of_lt (Nat.lt_of_lt_of_le hlt0 hnew)) hkn (by rw [hkp _ (hno _)]; exact hu0) (by rw [hkp _ (hno _)]; exact hsen)
    (Takes.of_laid hk hord tyC (by rw [Y.causeType]; rfl)) (Takes.of_laid hk hord tyS (by rw [Y.stackType]; exact fits_refV_array _ u0)) (Takes.of_laid hk hord tyP (by rw [Y.suppType]; exact fits_refV_object _ sen))
    (Takes.of_laid hk hord tyM (by rw [Y.msgType]; exact fits_refV_object _ ⟨msg, hmsg⟩)) Y.objLocals hskip htr [] hd6
    (by simp only [List.length_cons, hlen]; omega) (by simp only [List.length_cons, hlen]; exact hRl)
  obtain ⟨hw, hrun, hend, hWU, hsm⟩ := X2.athrowLeaves hx (g := { g with stack := .ref a :: rest, pc := g.pc + 3 }) hg hlk hen hout (a := a) (rest := rest) rfl hd9
  have hlt : a < ((U.setVm vm1).setVm vm2).heap.size := (Array.getElem?_eq_some_iff.mp hcell).1
  refine ⟨_, st1 _ (fun acts => ?_), hrun, hend, hWU, hsm.weaken (fun y hy hl => ?_) (Nat.le_refl _) (Nat.le_refl _), _, heapAt_setCell_self (s := (U.setVm vm1).setVm vm2) (plainBareV T.toThrowableT (freshCell P1.m.cls kX) a u0 sen msg) hlt, rfl, rfl⟩
  · rw [doInvoke_state]; exact st2 _ hw
  · rcases List.mem_append.mp hy with h1 | h1
    · exact h1
    · exfalso
      have hb : y.base = a := by
        simp only [List.mem_cons, List.not_mem_nil, or_false] at h1
        rcases h1 with rfl | rfl | rfl | rfl | rfl <;> rfl
      rw [hb] at hl
      exact Nat.not_lt.mpr hnew hl
variable {H : Heap} {mc ms : Nat} {free : Addr → Prop} {ls : Array Slot} {rest : List Value} {Qc : Array Value → State → Outcome → State → Prop} {XC : String → State → State → Prop}
def nx_at (own : String) (ic : Nat) (X : String) (ix : Nat) (rx : ByteArray) (yn : String) (r : List String) : List Cond := (nx_own own ic X ix rx yn r).filter vx_no
theorem nx_throw {cc : ByteArray} {pc : Nat} (hexec : p.tables.exec = Jvm.exec) (hb : c.code = cc) (hl : l.stackTraces = false) {own cls text yn : String} {r names : List String} (hn : names = yn :: r) {ik is ic mc ms sa ix : Nat} {rx : ByteArray} {A : Nat → Prop}
    (r0 : decode rx 0 = .ok (.aload_n 0, 1)) (r1 : decode rx 1 = .ok (.aload_n 1, 1)) (r2 : decode rx 2 = .ok (.invokespecial ix, 3)) (r5 : decode rx 5 = .ok (.return_, 1))
    (hown : s.vm.findClass own = some m.cls) (hcls : Bundle.fit cls = true) (hnames : ∀ n ∈ names, Bundle.fit n = true)
    (hk : (Cond.classLink own ik cls).before args s = true) (hini : (Cond.initialized cls).before args s = true) (hstr : vk_R own is text sa s) (hat : ∀ w ∈ nx_at own ic cls ix rx yn r, w.before args s = true)
    (hgood : ∀ w ∈ Cond.classLink own ik cls :: Cond.initialized cls :: nx_at own ic cls ix rx yn r, vx_ot w = true)
    (hU : vx_Zq Bundle.tN "UNASSIGNED_STACK" Bundle.steD A s s.heap) (hN : vx_Zq Bundle.tN "SUPPRESSED_SENTINEL" Bundle.listD A s s.heap) (hS : va_S A s.heap H locs) (hsize : ls.size = c.maxLocals)
    (d0 : decode cc pc = .ok (.new ik, 3)) (d3 : decode cc (pc + 3) = .ok (.dup, 1)) (d4 : decode cc (pc + 4) = .ok (.ldc is, 2)) (d6 : decode cc (pc + 6) = .ok (.invokespecial ic, 3)) (d9 : decode cc (pc + 9) = .ok (.athrow, 1))
    (hout : ∀ x ∈ c.exceptionTable.toList, covers x (pc + 9) = false)
    (hRframes : names.length + 3 < R.frames) (hRlocals : (rest.map fun v => v.category).sum + (13 * (names.length + 1) + 43) ≤ R.locals) (hRcells : cells + 1 ≤ R.cells) (hRslots : slots + 6 ≤ R.slots) (hlocks : meth.locks = false)
    (hx : ∀ t : State, s.vm.Alike t.vm → H.size ≤ t.heap.size → (∀ q : Nat, q < H.size → t.heap[q]? = H[q]?) → XC cls s t)
    (hf : ∀ z ∈ locs, free z.base) (hc : cells + 1 ≤ mc) (hs : slots + 6 ≤ ms) :
    W p l e R s m args below meth c H locs cells slots (vx_MQ below Qc XC args s mc ms free) (F0 m pc ls rest) := by
  intro T hT X
  have htr : e.platform.stackTraces = false := (show e.platform.stackTraces = l.stackTraces by rw [X.admits.platform]).trans hl
  have Y := vx_rebase X (R' := { frames := R.frames, locals := R.locals, cells := 1, slots := 6 }) (Nat.le_refl _) (Nat.le_refl _) hRcells hRslots
  obtain ⟨s', hA⟩ : ∃ z, z = (T.setVm s.vm).setFrames (.invoking m args :: below) := ⟨_, rfl⟩
  rw [← hA] at Y
  have hvm : s'.vm = s.vm := by rw [hA]; rfl
  have hhp : s'.heap = H := by rw [hA]; exact hT
  have hW0 : s.WarmedH s'.vm := by rw [hvm]; exact State.WarmedH.refl s
  have hat' : ∀ w ∈ nx_at own ic cls ix rx yn r, w.before args s' = true := fun w hw => vx_ot_at hW0 hvm.symm (hgood w (List.mem_cons_of_mem _ (List.mem_cons_of_mem _ hw))) (hat w hw)
  have hk' : (Cond.classLink own ik cls).before args s' = true := vx_ot_at hW0 hvm.symm (hgood _ List.mem_cons_self) hk
  have hini' : (Cond.initialized cls).before args s' = true := vx_ot_at hW0 hvm.symm (hgood _ (List.mem_cons_of_mem _ List.mem_cons_self)) hini
  have hU' : vx_Zq Bundle.tN "UNASSIGNED_STACK" Bundle.steD A s' s'.heap := by rw [hhp]; exact vx_Zq.moved hW0.alike (hU.kept hS.2.1)
  have hN' : vx_Zq Bundle.tN "SUPPRESSED_SENTINEL" Bundle.listD A s' s'.heap := by rw [hhp]; exact vx_Zq.moved hW0.alike (hN.kept hS.2.1)
  have h : ∀ w ∈ nx_own own ic cls ix rx yn r, w.before args s' = true := vx_own hat' (vx_isRefq hU'.1) (vx_isRefq hN'.1) hU'.2.word hN'.2.word
  have hown' : s'.vm.findClass own = some m.cls := by rw [hvm]; exact hown
  have hins : (Cond.instantiable cls 6).before args s' = true := h _ (by simp [nx_own])
  obtain ⟨vm₁, cX, kX, hfX, hkX, -, -, X₁, st1⟩ := Y.newCold hexec (own := own) (C := cls) (index := ik) (n := 6) hown' hk' hins hini'
    (g := F0 m pc ls rest) rfl (by rw [hb]; exact d0) (Nat.le_refl _) (Nat.le_refl _)
  generalize hT1 : (T.setVm vm₁).pushCell { cls := cX, slots := kX.instanceTypes.map defaultValue, vm := .none } = T1 at X₁ st1
  have hcat : (Value.ref T.heap.size).category = 1 := rfl
  have hcellA : T1.heap[T.heap.size]? = some (freshCell cX kX) := by rw [← hT1]; exact State.heap_pushCell_size _ _
  have d3' : decode c.code (pc + 3) = .ok (.dup, 1) := by rw [hb]; exact d3
  have d4' : decode c.code (pc + 4) = .ok (.ldc is, 2) := by rw [hb]; exact d4
  have hstr' : vk_R own is text sa s' := vk_R.warm hW0 hstr
  obtain ⟨U, hsteps, hrun, hend, hW, hsame, ce, hce, hO1, hO2⟩ := nx_ctor X₁ hexec htr hn r0 r1 r2 r5 (own := own) (cls := cls) (names := names) (ic := ic) hown' hcls hnames h (fun x hx => nomatch hx) hfX hkX hcellA (by rw [hhp, hT]; exact Nat.le_refl _) (msg := .ref sa) rfl
    (g := { method := m, pc := pc + 6, locals := ls, stack := .ref sa :: .ref T.heap.size :: .ref T.heap.size :: rest, locked := none }) rfl hsize rfl rfl (rest := rest) rfl
    (by rw [hb]; exact d6) (by rw [hb]; exact d9) hout hRframes (by simp only [List.map_cons, List.sum_cons, hcat]; omega) hlocks
  obtain ⟨f1, f2⟩ := vx_frame hsame
  rw [hhp] at f1 f2
  have hWs : s.WarmedH U.vm := State.WarmedH.trans hW0 hW
  have hcl : s.vm.findClass cls = some ce.cls := by rw [hO1, ← hvm]; exact hfX
  have hall : s.sameButNew ({ U with vm := s.vm } : State) locs mc ms := by
    subst hA
    obtain ⟨e1, e2⟩ := hsame
    rw [State.setFrames_setFrames] at e1
    have h2 : (T.setVm s.vm).sameButNew ({ U with vm := s.vm } : State) [] (0 + 1) (0 + 6) := ⟨e1, e2⟩
    have h3 := X.same.trans h2
    rw [List.append_nil] at h3
    exact h3.mono hc hs
  refine ⟨U, ?_, .threw T.heap.size, hrun, hend, Or.inr ⟨T.heap.size, rfl, cls, ce, locs, hx U hWs.alike f1 (fun q hq => f2 q hq (fun z hz => nomatch hz)), hce, hO2, hcl, hWs, hall, hf⟩⟩
  refine st1 _ ?_
  show Steps p.tables e below (T1.setTop { method := m, pc := pc + 3, locals := ls, stack := .ref T.heap.size :: rest, locked := none }) _
  jvm_step X₁.here [X₁.here.top, hexec, d3', Value.category]
  exact X₁.ldcString hexec (own := own) (text := text) (index := is) (a := sa) hown' hstr'.1 hstr'.2
    (g := { method := m, pc := pc + 4, locals := ls, stack := .ref T.heap.size :: .ref T.heap.size :: rest, locked := none }) rfl d4' _ hsteps
end
theorem nx_ini : Cond.initialized "java/util/NoSuchElementException" ∈ zG := by decide +kernel
theorem nx_gd : ∀ w ∈ Cond.classLink RX10 206 "java/util/NoSuchElementException" :: Cond.initialized "java/util/NoSuchElementException" :: nx_at RX10 210 "java/util/NoSuchElementException" 13 prog_32_method_4_code "java/lang/RuntimeException" ["java/lang/Exception"], vx_ot w = true := by decide +kernel
theorem nx_g : ∀ w ∈ (nx_at RX10 210 "java/util/NoSuchElementException" 13 prog_32_method_4_code "java/lang/RuntimeException" ["java/lang/Exception"]).filter goodWord, w ∈ zG := by decide +kernel
theorem nx_b : ∀ w ∈ (nx_at RX10 210 "java/util/NoSuchElementException" 13 prog_32_method_4_code "java/lang/RuntimeException" ["java/lang/Exception"]).filter (fun w => !goodWord w), w ∈ (zCas.map fun q => Cond.castable q.1 q.2) ++ zDc.map Cond.declares := by decide +kernel
theorem z_throwN {μ : zM} {d kc ks pc nx k : Nat} {L : zL} {st : List Value} {S : zS} {I : zI} {J : zJ} {Q : zQ} {tb : zTb} (ht : zT μ tb) (hk : zat tb k = some (pc, .new 206, 3, nx)) (hd3 : decode μ.2.1 (pc + 3) = .ok (.dup, 1)) (hd4 : decode μ.2.1 (pc + 4) = .ok (.ldc 208, 2)) (hd6 : decode μ.2.1 (pc + 6) = .ok (.invokespecial 210, 3)) (hd9 : decode μ.2.1 (pc + 9) = .ok (.athrow, 1))
    (hno : μ.2.2.2.2 = []) (hown : μ.1.cls = RX10) (hst : (st.map fun v => v.category).sum ≤ 50) (hkc : 1 ≤ kc) (hks : 6 ≤ ks) (hq : Q (.inr "java/util/NoSuchElementException") S I J) : Z μ d kc ks pc L st S I J Q := by
  intro p l e R s m args below meth c X D aC ad ad0 n0 ls H locs cells slots mc ms hF hB hH hG hS hL hc hs
  obtain ⟨hd, rfl⟩ := ht.at hk
  have hts := hF.2.2.2.2.1
  have hfr := hF.2.2.2.2.2.2.2.2.2.2
  obtain ⟨sa, hsa⟩ := hB.2.2.2.2.1 (RX10, 208, "no such person") (by decide +kernel)
  refine nx_throw (A := zA X.1) (own := RX10) (cls := "java/util/NoSuchElementException") (ix := 13) (rx := prog_32_method_4_code) (yn := "java/lang/RuntimeException") (r := ["java/lang/Exception"]) (names := ["java/lang/RuntimeException", "java/lang/Exception"]) hF.1 hF.2.1 hF.2.2.2.2.2.2.2.2.2.1 rfl (by decide +kernel) (by decide +kernel) (by decide +kernel) (by decide +kernel) (by rw [← hown]; exact hF.2.2.2.1) (by decide +kernel) (by decide +kernel) (hts _ C_X10_206) (hts _ nx_ini) hsa ?_ nx_gd hB.2.2.2.2.2.1 hB.2.2.2.2.2.2.1 hS (hL.1.trans hF.2.2.1.symm) hd hd3 hd4 hd6 hd9 (by rw [hF.2.2.2.2.2.2.2.1, hno]; intro x hx; cases hx)
    (by show 2 + 3 < R.frames; omega) (by rw [zcat]; show _ + (13 * (2 + 1) + 43) ≤ _; omega) (by omega) (by omega) hF.2.2.2.2.2.2.1 ?_ (fun z hz => hS.2.2 z hz) (by omega) (by omega)
  · refine vx_hat (B := (zCas.map fun q => Cond.castable q.1 q.2) ++ zDc.map Cond.declares) (fun w hw => hts w (nx_g w hw)) nx_b (fun w hw => ?_)
    rcases List.mem_append.mp hw with hw | hw
    · obtain ⟨q, hq1, rfl⟩ := List.mem_map.mp hw
      exact va_Nw.use rfl (hB.2.2.2.2.2.2.2.2.2.1.1 q hq1)
    · obtain ⟨y, hq1, rfl⟩ := List.mem_map.mp hw
      exact va_Nw.use rfl (hB.2.2.2.2.2.2.2.2.2.1.2 y hq1)
  · intro t hvm hz hk2
    exact ⟨⟨S, I, J, ad, hq, ⟨hH.1.kept (fun k q hk => hk2 q.1 (hH.1 k q hk).lt), hH.2.1, hH.2.2⟩, hG⟩, Nat.le_trans hS.1 hz, fun q h1 h2 => (hk2 q (Nat.lt_of_lt_of_le h1 hS.1)).trans (hS.2.1 q h1 h2)⟩
