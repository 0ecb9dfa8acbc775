/-! an exception of a callee, caught by a row of this method's table (the row's class may not be resolved yet) -/
theorem zx_yes {Q : Handler → Pre} {E : CtlPost} {e : Env} {d : Bool} {acts : List Action} {s : State} {f : JFrame} {a : Addr} {x : ExceptionTableEntry} {t : List ExceptionTableEntry} {c : ClassId} {cell : Cell} (hx : covers x f.pc = true) (h0 : x.catchType ≠ 0)
    (hl : s.vm.ClassLinks e.platform f.method.cls x.catchType c) (hcell : s.heap[a]? = some cell) (hobj : ∀ k, cell.vm ≠ .statics k) (hk : ∃ k, s.vm.classes[cell.cls]? = some k) (hc : ∃ k, s.vm.classes[c]? = some k) :
    wp (findHandler.go f a (x :: t)) Q E e d acts s ↔ if s.vm.assignable cell.cls c = true then Q (.found x.handlerPc) d acts (s.setVm (s.vm.noted f.method.cls x.catchType (.cls c))) else wp (findHandler.go f a t) Q E e d acts (s.setVm (s.vm.noted f.method.cls x.catchType (.cls c))) := by
  simp only [covers] at hx
  obtain ⟨ha, ht⟩ := (resolveClass_links e.toSetting hl).op (op := VmOp.resolveClass f.method.cls x.catchType) rfl
  have hal : s.vm.Alike (s.vm.noted f.method.cls x.catchType (.cls c)) := (Vm.Alike.refl s.vm).noted _ _ _
  obtain ⟨k1, hk1⟩ := hk
  obtain ⟨k2, hk2⟩ := hc
  obtain ⟨k1', hk1', -⟩ := hal.2.2 _ _ hk1
  obtain ⟨k2', hk2', -⟩ := hal.2.2 _ _ hk2
  have hfit' : (s.vm.noted f.method.cls x.catchType (.cls c)).assignable cell.cls c = s.vm.assignable cell.cls c := by rw [hal.assignable]
  by_cases hy : s.vm.assignable cell.cls c = true
  · rw [if_pos hy]
    simp [findHandler.go, hx, h0, ha, ht, hcell, hobj, hk1', hk2', hfit', hy, VmOp.dirties, VmOp.acts]
  · rw [if_neg hy]
    simp [findHandler.go, hx, h0, ha, ht, hcell, hobj, hk1', hk2', hfit', hy, VmOp.dirties, VmOp.acts]
theorem zx_go {e : Env} {s₀ : State} {f : JFrame} {a : Addr} {cell : Cell} (hobj : ∀ k, cell.vm ≠ .statics k) (hk0 : ∃ k, s₀.vm.classes[cell.cls]? = some k) (x : ExceptionTableEntry) (rest : List ExceptionTableEntry) (hx : covers x f.pc = true) (h0 : x.catchType ≠ 0) {c : ClassId} (hl : s₀.vm.ClassLinks e.platform f.method.cls x.catchType c) (hfit : s₀.vm.assignable cell.cls c = true) :
    ∀ (pre : List ExceptionTableEntry) (S : State), s₀.WarmedH S.vm → S.heap[a]? = some cell → (∀ y ∈ pre, covers y f.pc = false ∨ (y.catchType ≠ 0 ∧ ∃ c, s₀.vm.ClassLinks e.platform f.method.cls y.catchType c ∧ s₀.vm.assignable cell.cls c = false)) →
      ∃ vm', s₀.WarmedH vm' ∧ ∀ (Q : Handler → Pre) (E : CtlPost) (d : Bool) (acts : List Action), wp (findHandler.go f a (pre ++ x :: rest)) Q E e d acts S ↔ Q (.found x.handlerPc) d acts (S.setVm vm') := by
  obtain ⟨k0, hk0⟩ := hk0
  intro pre
  induction pre with
  | nil =>
    intro S hW hcell _
    obtain ⟨k0', hk0', -⟩ := hW.alike.2.2 _ _ hk0
    obtain ⟨dk, _, _, kt, hd, _, _, _, _, hkt, _, hopen⟩ := hl.here
    obtain ⟨kt', hkt', -⟩ := hW.alike.2.2 _ _ hkt
    refine ⟨_, hW.noted hd hopen (State.rightAt_cls hl), fun Q E d acts => ?_⟩
    rw [List.nil_append, zx_yes hx h0 (hW.classLinks hl) hcell hobj ⟨k0', hk0'⟩ ⟨kt', hkt'⟩, if_pos (by rw [hW.alike.assignable]; exact hfit)]
  | cons y ys ih =>
    intro S hW hcell hpass
    obtain ⟨k0', hk0', -⟩ := hW.alike.2.2 _ _ hk0
    have hrest : ∀ z ∈ ys, covers z f.pc = false ∨ (z.catchType ≠ 0 ∧ ∃ c, s₀.vm.ClassLinks e.platform f.method.cls z.catchType c ∧ s₀.vm.assignable cell.cls c = false) := fun z hz => hpass z (List.mem_cons_of_mem _ hz)
    by_cases hcov : covers y f.pc = true
    · rcases hpass y List.mem_cons_self with h | ⟨h0y, c1, hl1, hno⟩
      · rw [h] at hcov; cases hcov
      · obtain ⟨dk, _, _, kt, hd, _, _, _, _, hkt, _, hopen⟩ := hl1.here
        obtain ⟨kt', hkt', -⟩ := hW.alike.2.2 _ _ hkt
        obtain ⟨vm', hW', hq⟩ := ih (S.setVm (S.vm.noted f.method.cls y.catchType (.cls c1))) (hW.noted hd hopen (State.rightAt_cls hl1)) hcell hrest
        refine ⟨vm', hW', fun Q E d acts => ?_⟩
        rw [List.cons_append, zx_yes hcov h0y (hW.classLinks hl1) hcell hobj ⟨k0', hk0'⟩ ⟨kt', hkt'⟩, if_neg (by rw [hW.alike.assignable, hno]; decide)]
        exact hq Q E d acts
    · obtain ⟨vm', hW', hq⟩ := ih S hW hcell hrest
      refine ⟨vm', hW', fun Q E d acts => ?_⟩
      rw [List.cons_append, W.findHandler_go_skip (by simpa using hcov)]
      exact hq Q E d acts
theorem zx_step {e : Env} {s : State} {a : Addr} {f : JFrame} {r : List Frame} {pc : Nat} {vm' : Vm} (hfind : ∀ (Q : Handler → Pre) (E : CtlPost) (d : Bool) (acts : List Action), wp (findHandler f a) Q E e d acts s ↔ Q (.found pc) d acts (s.setVm vm')) :
    (stepThrowing e s a (.java f :: r)).Is ((s.setVm vm').setFrames (.java { f with pc := pc, stack := [.ref a] } :: r)) [] := by
  simp only [stepThrowing, searchFrame, vmDo]
  generalize hr : Sem.go _ e false [] s = res
  obtain ⟨as, rfl, ha⟩ := Sem.eq_ok_of hr (a := Handler.found pc) (s' := s.setVm vm') (acts' := []) (by simp [hfind _ _ _ _])
  exact ⟨rfl, ha⟩
theorem zx_steps {tb : Tables} {e : Env} {s target : State} {g : JFrame} {c : Code} {below : List Frame} {a : Addr} (h : At s g.method c below) {pc : Nat} {vm' : Vm}
    (hfind : ∀ (Q : Handler → Pre) (E : CtlPost) (d : Bool) (acts : List Action), wp (findHandler g a) Q E e d acts ((s.setTop g).pushFrame (.throwing a)) ↔ Q (.found pc) d acts (((s.setTop g).pushFrame (.throwing a)).setVm vm')) (hrest : Steps tb e below ((s.setVm vm').setTop { g with pc := pc, stack := [.ref a] }) target) :
    Steps tb e below ((s.setTop g).pushFrame (.throwing a)) target := by
  obtain ⟨hgo, hw⟩ := h.throwing a
  refine Steps.head hgo hw ?_
  rw [stepThread_throwing (frames_entered h.top _), (zx_step (s := (s.setTop g).pushFrame (.throwing a)) hfind).1]
  obtain ⟨g₀, hg⟩ := Option.isSome_iff_exists.mp h.top
  obtain ⟨r, hr⟩ := State.topJava?_eq_some.mp hg
  have hr' : (s.setVm vm').frames = .java g₀ :: r := hr
  have e1 : ∀ (u : State) (vm' : Vm) (F G : List Frame), ((u.setFrames F).setVm vm').setFrames G = (u.setVm vm').setFrames G := fun u vm' F G => by
    have h1 : (u.setFrames F).setVm vm' = (u.setVm vm').setFrames F := rfl
    rw [h1, State.setFrames_setFrames]
  rw [State.setTop_of_frames _ hr'] at hrest
  rw [hr, List.tail_cons, State.pushFrame, e1, State.setTop_of_frames _ hr, e1]
  exact hrest
/-- caught: at the handler's first instruction, an astore, the exception goes out of sight -/
theorem zx_catch {p : Program} {l : Launch} {e : Env} {R : Room} {s : State} {m : MethodId} {args : Array Value} {below : List Frame} {meth : Method} {c : Code} {H : Heap} {locs : List Loc} {cells slots : Nat} {Q : State → Prop} {pc : Nat} {ls : Array Slot} {rest : List Value}
    {own name E : String} {ce : Cell} {q : Addr} (hown : s.vm.findClass own = some m.cls) (pre : List ExceptionTableEntry) (x : ExceptionTableEntry) (suf : List ExceptionTableEntry) (hsplit : c.exceptionTable.toList = pre ++ x :: suf)
    (hpass : ∀ z ∈ pre, covers z pc = false ∨ (z.catchType ≠ 0 ∧ ∃ nm : String, (Cond.classLink own z.catchType nm).before args s = true ∧ va_Nc E nm s)) (hx : covers x pc = true) (h0 : x.catchType ≠ 0)
    (hlink : (Cond.classLink own x.catchType name).before args s = true) (hcast : (Cond.castable E name).before args s = true) (hcell : H[q]? = some ce) (hv : ce.vm = .none) (hcl : s.vm.findClass E = some ce.cls)
    (kk : W p l e R s m args below meth c H locs cells slots Q (F0 m x.handlerPc ls [.ref q])) : vx_W p l e R s m args below meth c H locs cells slots Q (F0 m pc ls rest) q := by
  intro T hT X
  have hpl : e.platform.magicAccessors = ({} : Platform).magicAccessors := by rw [X.admits.platform]
  obtain ⟨c3, c4, hc3, hc4, hasg⟩ := Cond.castable_spec hcast
  cases Option.some.inj (hc3.symm.trans hcl)
  obtain ⟨c5, hc5, hcl5⟩ := Cond.classLink_spec hown hlink e.platform hpl
  cases Option.some.inj (hc4.symm.trans hc5)
  have hk0 : ∃ k, s.vm.classes[ce.cls]? = some k := by obtain ⟨k9, h9, -⟩ := Vm.findClass_spec hcl; exact ⟨k9, h9⟩
  obtain ⟨vm', hW', hf⟩ := zx_go (e := e) (s₀ := s) (f := F0 m pc ls rest) (a := q) (cell := ce) (fun k h => by rw [hv] at h; cases h) hk0 x suf hx h0 hcl5 hasg pre ((T.setTop (F0 m pc ls rest)).pushFrame (.throwing q)) X.warmed (by rw [throwing_heap, hT]; exact hcell)
    (fun z hz => by
      rcases hpass z hz with h | ⟨hz0, nm, hl1, hn1⟩
      · exact Or.inl h
      · obtain ⟨c6, hc6, hcl6⟩ := Cond.classLink_spec hown hl1 e.platform hpl
        obtain ⟨a8, b8, h1, h2, h3⟩ := hn1
        cases Option.some.inj (h1.symm.trans hcl)
        cases Option.some.inj (h2.symm.trans hc6)
        exact Or.inr ⟨hz0, _, hcl6, h3⟩)
  obtain ⟨t, a1, b1⟩ := kk (T.setVm vm') hT (X.noted hW')
  refine ⟨t, zx_steps (g := F0 m pc ls rest) X.here (vm' := vm') (pc := x.handlerPc) (fun Q E d acts => ?_) a1, b1⟩
  rw [W.findHandler_eq (meth := meth) (code := c) X.method' X.code, hsplit]
  exact hf Q E d acts
section
variable {μ μ' : zM} {d kc ks kc' ks' pc nx k : Nat} {L L' : zL} {st as : List Value} {S : zS} {I : zI} {J : zJ} {Q Q' : zQ} {tb : zTb}
/-- where a thrown E is caught at pc: the row, what its class is, the astore that takes it away -/
def zHan (μ : zM) (pc : Nat) (E : String) (i nx2 : Nat) : Prop := ∃ (pre : List ExceptionTableEntry) (x : ExceptionTableEntry) (suf : List ExceptionTableEntry), tableOf μ.2.2.2.2 = pre ++ x :: suf ∧ (∀ z ∈ pre, covers z pc = false ∨ (z.catchType ≠ 0 ∧ ∃ nm, Cond.classLink μ.1.cls z.catchType nm ∈ zG ∧ (E, nm) ∈ zNc)) ∧ covers x pc = true ∧ x.catchType ≠ 0 ∧ Cond.classLink μ.1.cls x.catchType E ∈ zG ∧ (E, E) ∈ zCas ∧ i < μ.2.2.1 ∧
  ((∃ j : Fin 4, decode μ.2.1 x.handlerPc = .ok (.astore_n j, 1) ∧ (j : Nat) = i ∧ nx2 = x.handlerPc + 1) ∨ (decode μ.2.1 x.handlerPc = .ok (.astore i, 2) ∧ nx2 = x.handlerPc + 2))
theorem zLv.out {ad : Nat → Nat} {ls' : Array Slot} {n i : Nat} {q : Nat} (hlw : ∀ (j : Nat) (v : Value), L[j]? = some (some v) → v.category = 1) (h : lv_has ls' n ((i, .ref q) :: (zlv ad L).filter (fun q => !(q.1 == i) && !(q.1 + 1 == i && q.2.category == 2)))) : zLv ad ls' n (L.set i none) := by
  refine ⟨h.1, h.2.1, fun j v hj => ?_⟩
  by_cases hji : j = i
  · subst hji
    rw [List.getElem?_set] at hj
    split at hj
    · split at hj
      · simp at hj
      · simp at hj
    · rename_i hne; exact absurd rfl hne
  · rw [List.getElem?_set_ne (Ne.symm hji)] at hj
    refine h.2.2 (j, zv ad v) (List.mem_cons_of_mem _ (List.mem_filter.mpr ⟨zlv_mem.mpr ⟨v, hj, rfl⟩, ?_⟩))
    simp [zv_cat, hlw j v hj, hji]
theorem z_callVC {idx o n ci : Nat} (ht : zT μ tb) (hk : zat tb k = some (pc, .invokevirtual idx, 3, nx)) (K : zKm μ' n) (KV : zKv μ' ci) (hlink : Cond.methodLink μ.1.cls idx μ'.1 ∈ zG) (ho : o < S.2.2) (hkd : (S.2.1 o).1 = ci) {st0 : List Value} (hst : st0 = as.reverse ++ .ref o :: st) (hn : as.length = n)
    (hlen : (lg_sl (.ref o :: as)).length ≤ μ'.2.2.1) (hL' : zin (.ref o :: as) μ'.2.2.1 = L') (hroom : (st.map fun v => v.category).sum ≤ 8) (hkc : kc' ≤ kc) (hks : ks' ≤ ks) (hkeep : zkeep Q' S L st) (hlw : ∀ (j : Nat) (v : Value), L[j]? = some (some v) → v.category = 1)
    (hZ : Z μ' d kc' ks' 0 L' [] S I J Q') (kx : ∀ E S' I' J', Q' (.inr E) S' I' J' → ∃ i nx2, zHan μ pc E i nx2 ∧ Z μ (d + 1) (kc - kc') (ks - ks') nx2 (L.set i none) [] S' I' J' Q)
    (kk : ∀ v S' I' J', Q' (.inl v) S' I' J' → Z μ (d + 1) (kc - kc') (ks - ks') nx L (v.toList ++ st) S' I' J' Q) : Z μ (d + 1) kc ks pc L st0 S I J Q := by
  intro p l e R s m args below meth c X D aC ad ad0 n0 ls H locs cells slots mc ms hF hB hH hG hS hL hc hs
  obtain ⟨hd, rfl⟩ := ht.at hk
  have hts := hF.2.2.2.2.1
  have hfr := hF.2.2.2.2.2.2.2.2.2.2
  obtain ⟨q0, hq0, hq1, hci⟩ := KV.2.2
  have he : (zW aC ad S I J)[o]? = some (ad o, .inr (ci, zFd ad S I o ci)) := by rw [zW_get ho, zE_o hkd hci]
  have hrun := vx_runV (l := l) (e := e) (R := R) (below := below) (meth := meth) (H := H) (locs := locs) (cells := cells) (slots := slots) (Ts := zG) (own := μ.1.cls) (C := μ'.1.cls) (index := idx) (b := ad o) (As := as.map (zv ad)) (rest := st.map (zv ad)) (g := F0 m pc ls (st0.map (zv ad))) (nL := μ.2.2.1) (n := n)
    ⟨hF.1, hF.2.1, hF.2.2.1, hF.2.2.2.1, hts⟩ (zMet (vs := .ref o :: as) l hF.2.2.2.2.2.2.2.2.2.1 K.2.2.2.2.2.1 K.2.2.2.2.1 hlen hL' hZ X D aC ad)
    ⟨zCB (d := d) hts K hlink (by omega) (by omega), hts _ KV.1, hts _ KV.2.1⟩ ⟨zPc_blind, by rw [← hq1]; exact va_recv hB.2.1 hH.1 hq0 he, zPre hB hH hS⟩
    rfl (by rw [List.length_map]; exact hn) hL.1 (by rw [hst]; simp [F0, zv]) (by show 2 * 0 + _ ≤ 8; rw [zcat]; omega) hd ⟨by omega, by omega⟩
  intro T hT X0
  rcases hrun T hT X0 with ⟨v, st₀, t, T', L0, h0, X', hL0, e1, e2, ⟨⟨v', S', I', J', ad', hv, hq, hH', hG'⟩, hFr⟩, stp⟩ | ⟨q, st₀, t, T', L0, E, ce, h0, X', hL0, e1, e2, ⟨⟨S', I', J', ad', hq, hH', hG'⟩, hFr⟩, hce, hcv, hcl, stp⟩
  · obtain ⟨k1, k2, k3⟩ := vx_keep (A0 := zA X.1) (A1 := zA X.1) (free := zA X.1) h0 e1 hS (fun _ _ h => h) (fun _ h => h) hL0 hFr
    obtain ⟨s1, s2⟩ := zkeep_st hkeep hq hH hH' hG' hL
    have hv2 : v = v'.map (zv ad') := by
      have := congrArg (fun o : Outcome => match o with | .returned w => w | _ => none) hv
      exact this
    subst hv2
    have K := kk v' S' I' J' hq p l e R s m args below meth c X D aC ad' ad0 n0 ls T'.heap (locs ++ L0) (cells + kc') (slots + ks') mc ms hF hB (by rw [e1]; exact hH') (hG.tr hG') k3 s2 (by omega) (by omega)
    rw [List.map_append, s1] at K
    have e3 : (v'.toList.map (zv ad')) = (v'.map (zv ad')).toList := by cases v' <;> rfl
    rw [e3] at K
    obtain ⟨t2, a1, b1⟩ := K T' rfl X'
    exact ⟨t2, stp t2 a1, b1⟩
  · obtain ⟨k1, k2, k3⟩ := vx_keep (A0 := zA X.1) (A1 := zA X.1) (free := zA X.1) h0 e1 hS (fun _ _ h => h) (fun _ h => h) hL0 hFr
    obtain ⟨s1, s2⟩ := zkeep_st hkeep hq hH hH' hG' hL
    obtain ⟨i, nx2, ⟨pre, x, suf, x1, x2, x3, x4, x5, x6, x7, x8⟩, kz⟩ := kx E S' I' J' hq
    have KZ : ∀ ls2, lv_has ls2 μ.2.2.1 ((i, .ref q) :: (zlv ad' L).filter (fun q => !(q.1 == i) && !(q.1 + 1 == i && q.2.category == 2))) → W p l e R s m args below meth c T'.heap (locs ++ L0) (cells + kc') (slots + ks') (vx_MQ below (zQc X D aC ad0 n0 Q) (zXc X D aC ad0 n0 Q) args s mc ms (zA X.1)) (F0 m nx2 ls2 []) := fun ls2 hl2 =>
      kz p l e R s m args below meth c X D aC ad' ad0 n0 ls2 T'.heap (locs ++ L0) (cells + kc') (slots + ks') mc ms hF hB (by rw [e1]; exact hH') (hG.tr hG') k3 (zLv.out hlw hl2) (by omega) (by omega)
    have KW : W p l e R s m args below meth c T'.heap (locs ++ L0) (cells + kc') (slots + ks') (vx_MQ below (zQc X D aC ad0 n0 Q) (zXc X D aC ad0 n0 Q) args s mc ms (zA X.1)) (F0 m x.handlerPc ls [.ref q]) := by
      rcases x8 with ⟨j, d1, d2, d3⟩ | ⟨d1, d3⟩
      · subst d2; subst d3
        exact lv_astore_n (nL := μ.2.2.1) hF.1 hF.2.1 d1 rfl s2.has x7 rfl KZ
      · subst d3
        exact lv_astore (nL := μ.2.2.1) hF.1 hF.2.1 d1 s2.has x7 rfl KZ
    have KX := zx_catch (E := E) (own := μ.1.cls) (name := E) (ls := ls) (pc := pc) (rest := st.map (zv ad)) hF.2.2.2.1 pre x suf (hF.2.2.2.2.2.2.2.1.trans x1)
      (fun z hz => by
        rcases x2 z hz with h | ⟨h1, nm, h2, h3⟩
        · exact Or.inl h
        · exact Or.inr ⟨h1, nm, hts _ h2, hB.2.2.2.2.2.2.2.2.2.2 (E, nm) h3⟩) x3 x4 (hts _ x5) (va_Nw.use rfl (hB.2.2.2.2.2.2.2.2.2.1.1 (E, E) x6)) (by rw [e1]; exact hce) hcv hcl KW
    obtain ⟨t2, a1, b1⟩ := KX T' rfl X'
    exact ⟨t2, stp.trans a1, b1⟩
end
