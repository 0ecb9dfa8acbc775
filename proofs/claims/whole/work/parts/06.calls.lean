/-! rules of Z for calls: a method's body once proved as Z is its contract -/
def zin : List Value → Nat → zL
  | [], n => List.replicate n none
  | v :: vs, n => if v.category = 2 then some v :: none :: zin vs (n - 2) else some v :: zin vs (n - 1)
theorem zin_args {ad : Nat → Nat} : ∀ (vs : List Value) (n b j : Nat) (v : Value), (zin vs n)[j]? = some (some v) → (b + j, zv ad v) ∈ lv_args b (vs.map (zv ad))
  | [], n, b, j, v, h => by
    simp only [zin, List.getElem?_replicate] at h
    split at h <;> simp at h
  | w :: vs, n, b, j, v, h => by
    simp only [List.map_cons, lv_args, zv_cat]
    by_cases hc : w.category = 2
    · simp only [zin, hc, if_true] at h ⊢
      match j, h with
      | 0, h => simp only [List.getElem?_cons_zero, Option.some.injEq] at h; subst h; exact List.mem_cons_self
      | 1, h => simp at h
      | j + 2, h =>
        simp only [List.getElem?_cons_succ] at h
        have := zin_args (ad := ad) vs (n - 2) (b + 2) j v h
        rw [show b + 2 + j = b + (j + 2) by omega] at this
        exact List.mem_cons_of_mem _ this
    · simp only [zin, hc, if_false] at h ⊢
      match j, h with
      | 0, h => simp only [List.getElem?_cons_zero, Option.some.injEq] at h; subst h; exact List.mem_cons_self
      | j + 1, h =>
        simp only [List.getElem?_cons_succ] at h
        have := zin_args (ad := ad) vs (n - 1) (b + 1) j v h
        rw [show b + 1 + j = b + (j + 1) by omega] at this
        exact List.mem_cons_of_mem _ this
theorem lg_sl_len (ad : Nat → Nat) (vs : List Value) : (lg_sl (vs.map (zv ad))).length = (lg_sl vs).length := by
  induction vs with
  | nil => rfl
  | cons v t ih =>
    simp only [lg_sl, List.map_cons, List.flatMap_cons, List.length_append, zv_cat] at ih ⊢
    rw [ih]
    by_cases h : v.category = 2 <;> simp [h]
def zRm (d mc ms : Nat) : Room := { frames := d + 10, cells := mc, slots := ms, locals := 45 * d + 200 }
abbrev zws (μ : zM) : List Cond := (match μ.2.2.2.2 with | [] => Cond.code μ.1 μ.2.1 μ.2.2.1 μ.2.2.2.1 | hh => Cond.codeWith μ.1 μ.2.1 μ.2.2.1 μ.2.2.2.1 hh) :: zG
abbrev zPc (X : zX) (D : va_G) (aC : Nat → ClassId) (ad : Nat → Nat) (S : zS) (I : zI) (J : zJ) (vs : List Value) : Array Value → State → Prop := va_Pc (vs.map (zv ad)) (fun U => zBs X D aC U ∧ zHp X D aC ad S I J U.heap)
/-- a method without a table of handlers -/
theorem zMet {μ : zM} {d kc ks : Nat} {vs : List Value} {L : zL} {S : zS} {I : zI} {J : zJ} {Q : zQ} (l : Launch) (hl : l.stackTraces = false) (hh : μ.2.2.2.2 = []) (hp : plainName μ.1.cls = true) (hlen : (lg_sl vs).length ≤ μ.2.2.1) (hL : zin vs μ.2.2.1 = L) (hZ : Z μ d kc ks 0 L [] S I J Q) (X : zX) (D : va_G) (aC : Nat → ClassId) (ad : Nat → Nat) :
    vx_Met l μ.1 (Cond.code μ.1 μ.2.1 μ.2.2.1 μ.2.2.2.1 :: zG) (zRm d kc ks) (zPc X D aC ad S I J vs) (zQc X D aC ad S.2.2 Q) (zXc X D aC ad S.2.2 Q) kc ks (zA X.1) := by
  refine vx_ofW (cc := μ.2.1) (maxL := μ.2.2.1) (ret := μ.2.2.2.1) hp rfl ?_
  intro p e s m args below meth c s₁ B hml htb hv
  obtain ⟨rfl, hB, hH⟩ := hv
  have hts := atoms_spec (ws := Cond.code μ.1 μ.2.1 μ.2.2.1 μ.2.2.2.1 :: zG) B.pre
  have hlv := lv_entry (vs.map (zv ad)) (n := μ.2.2.1) (by rw [lg_sl_len]; exact hlen)
  rw [lg_entry_eq]
  refine hZ p l e (headSpec (Cond.code μ.1 μ.2.1 μ.2.2.1 μ.2.2.2.1 :: zG) (zRm d kc ks)).room s m _ below meth c X D aC ad ad S.2.2 _ s.heap [] 0 0 kc ks ?_ hB hH (zAg.rf _ _) va_S.rf ?_ (by omega) (by omega)
  · refine ⟨B.exec, B.bytes, hml, findClass_of_methodNamed B.named, fun w hw => hts w (List.mem_cons_of_mem _ hw), B.returns, B.notSynchronized, ?_, (name_of_methodNamed B.named B.method).1, hl, Nat.le_refl _, Nat.le_refl _, rfl, rfl⟩
    rw [hh]
    cases hx : c.exceptionTable.toList with
    | nil => rfl
    | cons a t => exact (htb a (by rw [hx]; exact List.mem_cons_self)).elim
  · refine ⟨hlv.1, hlv.2.1, fun j v hj => ?_⟩
    rw [← hL] at hj
    have := zin_args (ad := ad) vs μ.2.2.1 0 j v hj
    rw [Nat.zero_add] at this
    exact hlv.2.2 _ this
theorem zPc_blind {X : zX} {D : va_G} {aC : Nat → ClassId} {ad : Nat → Nat} {S : zS} {I : zI} {J : zJ} {vs : List Value} : FrameBlind (zPc X D aC ad S I J vs) := by
  intro a U g mk h
  obtain ⟨h1, h2, h3⟩ := h
  exact ⟨h1, h2.mv (U := U.calling g mk a) (State.WarmedH.refl U) (Nat.le_refl _) (fun _ _ _ => rfl), h3⟩
/-- what is known of a method by its name -/
def zKm (μ : zM) (n : Nat) : Prop := Cond.code μ.1 μ.2.1 μ.2.2.1 μ.2.2.2.1 ∈ zG ∧ Cond.initialized μ.1.cls ∈ zG ∧ (μ.1.cls ≠ "java/lang/invoke/MethodHandle" ∧ μ.1.cls ≠ "java/lang/invoke/VarHandle") ∧ (parseMethodDescriptor μ.1.desc).map (fun d => d.parameters.length) = some n ∧ plainName μ.1.cls = true ∧ μ.2.2.2.2 = [] ∧ μ.2.2.1 ≤ 20
def zKv (μ : zM) (ci : Nat) : Prop := Cond.instanceMethod μ.1 ∈ zG ∧ Cond.selects μ.1.cls μ.1 μ.1 ∈ zG ∧ ∃ q, vwCl[ci]? = some q ∧ q.1 = μ.1.cls ∧ ci < 100
/-- every reference in hand is to what was there before -/
def zrb (n : Nat) (v : Value) : Bool := match v with
  | .ref i => decide (i < n) || decide (zXB ≤ i)
  | _ => true
def zRb (n : Nat) (L : zL) (st : List Value) : Prop := (∀ (j : Nat) (v : Value), L[j]? = some (some v) → zrb n v = true) ∧ ∀ v ∈ st, zrb n v = true
theorem zv_eq {X : zX} {ad ad' : Nat → Nat} {n : Nat} (h : ∀ i, i < n → ad' i = ad i) (h1 : ∀ e, ad (zXB + e) = X.2 e) (h2 : ∀ e, ad' (zXB + e) = X.2 e) {v : Value} (hv : zrb n v = true) : zv ad' v = zv ad v := by
  cases v with
  | ref i =>
    simp only [zrb, Bool.or_eq_true, decide_eq_true_eq] at hv
    rcases hv with hv | hv
    · exact congrArg Value.ref (h i hv)
    · have e : i = zXB + (i - zXB) := (Nat.add_sub_cancel' hv).symm
      show Value.ref (ad' i) = Value.ref (ad i)
      rw [e, h1, h2]
  | _ => rfl
section
variable {μ μ' : zM} {d kc ks kc' ks' pc nx k : Nat} {L L' : zL} {st as : List Value} {S : zS} {I : zI} {J : zJ} {Q Q' : zQ} {tb : zTb}
/-- the callee keeps all references, or those in hand are old -/
def zkeep (Q' : zQ) (S : zS) (L : zL) (st : List Value) : Prop := (∀ o S' I' J', Q' o S' I' J' → S'.2.2 = S.2.2) ∨ zRb S.2.2 L st
theorem zkeep_st {X : zX} {D : va_G} {aC : Nat → ClassId} {ad ad' : Nat → Nat} {S' : zS} {I' : zI} {J' : zJ} {H H' : Heap} {o : Option Value ⊕ String} (h : zkeep Q' S L st) (hq : Q' o S' I' J') (hH : zHp X D aC ad S I J H) (hH' : zHp X D aC ad' S' I' J' H') (hG : zAg ad' ad S.2.2 S'.2.2) {ls : Array Slot} {n : Nat} (hL : zLv ad ls n L) :
    st.map (zv ad') = st.map (zv ad) ∧ zLv ad' ls n L := by
  rcases h with h | ⟨h1, h2⟩
  · have e := hG.2.2 (h _ _ _ _ hq)
    subst e
    exact ⟨rfl, hL⟩
  · refine ⟨List.map_congr_left fun v hv => zv_eq hG.2.1 hH.2.2.1 hH'.2.2.1 (h2 v hv), hL.1, hL.2.1, fun j v hj => ?_⟩
    rw [zv_eq hG.2.1 hH.2.2.1 hH'.2.2.1 (h1 j v hj)]
    exact hL.2.2 j v hj
theorem zcat {ad : Nat → Nat} (st : List Value) : ((st.map (zv ad)).map fun v => v.category).sum = (st.map fun v => v.category).sum := by
  rw [List.map_map]
  congr 1
  exact List.map_congr_left fun v _ => zv_cat ad v
/-- behind a call, whatever kind it was -/
theorem zBehind {p : Program} {l : Launch} {e : Env} {R : Room} {s : State} {m : MethodId} {args : Array Value} {below : List Frame} {meth : Method} {c : Code} {X : zX} {D : va_G} {aC : Nat → ClassId} {ad ad0 : Nat → Nat} {n0 : Nat} {ls : Array Slot} {H : Heap} {locs : List Loc} {cells slots mc ms : Nat} {a : Array Value} {st0 : List Value}
    (hF : zFix μ p l R s m args meth c (d + 1) mc ms) (hB : zBs X D aC s) (hH : zHp X D aC ad S I J H) (hG : zAg ad ad0 n0 S.2.2) (hS : va_S (zA X.1) s.heap H locs) (hL : zLv ad ls μ.2.2.1 L) (hc : cells + kc ≤ mc) (hs : slots + ks ≤ ms) (hkc : kc' ≤ kc) (hks : ks' ≤ ks)
    (hno : μ.2.2.2.2 = []) (hkeep : zkeep Q' S L st)
    (hr : vx_Run p l e R s m args below meth c H locs cells slots kc' ks' (F0 m pc ls st0) (st.map (zv ad)) (zQc X D aC ad S.2.2 Q' a) (zXc X D aC ad S.2.2 Q') (zA X.1))
    (kx : ∀ E S' I' J', Q' (.inr E) S' I' J' → Q (.inr E) S' I' J')
    (kk : ∀ v S' I' J', Q' (.inl v) S' I' J' → Z μ (d + 1) (kc - kc') (ks - ks') (pc + 3) L (v.toList ++ st) S' I' J' Q) :
    W p l e R s m args below meth c H locs cells slots (vx_MQ below (zQc X D aC ad0 n0 Q) (zXc X D aC ad0 n0 Q) args s mc ms (zA X.1)) (F0 m pc ls st0) := by
  intro T hT X0
  rcases hr T hT X0 with ⟨v, st₀, t, T', L0, h0, X', hL0, e1, e2, ⟨⟨v', S', I', J', ad', hv, hq, hH', hG'⟩, hFr⟩, stp⟩ | ⟨q, st₀, t, T', L0, E, ce, h0, X', hL0, e1, e2, ⟨⟨S', I', J', ad', hq, hH', hG'⟩, hFr⟩, hce, hcv, hcl, stp⟩
  · obtain ⟨k1, k2, k3⟩ := vx_keep (A0 := zA X.1) (A1 := zA X.1) (free := zA X.1) h0 e1 hS (fun _ _ h => h) (fun _ h => h) hL0 hFr
    obtain ⟨s1, s2⟩ := zkeep_st hkeep hq hH hH' hG' hL
    have hv2 : v = v'.map (zv ad') := by
      have := congrArg (fun o : Outcome => match o with | .returned w => w | _ => none) hv
      exact this
    subst hv2
    have K := kk v' S' I' J' hq p l e R s m args below meth c X D aC ad' ad0 n0 ls T'.heap (locs ++ L0) (cells + kc') (slots + ks') mc ms hF hB (by rw [e1]; exact hH') (hG.tr hG') k3 s2 (by omega) (by omega)
    rw [List.map_append, s1] at K
    have e3 : (v'.toList.map (zv ad')) = (v'.map (zv ad')).toList := by cases v' <;> rfl
    rw [e3] at K
    obtain ⟨t2, a1, b1⟩ := K T' rfl X'
    exact ⟨t2, stp t2 a1, b1⟩
  · obtain ⟨k1, k2, k3⟩ := vx_keep (A0 := zA X.1) (A1 := zA X.1) (free := zA X.1) h0 e1 hS (fun _ _ h => h) (fun _ h => h) hL0 hFr
    have K : vx_W p l e R s m args below meth c T'.heap (locs ++ L0) (cells + kc') (slots + ks') (vx_MQ below (zQc X D aC ad0 n0 Q) (zXc X D aC ad0 n0 Q) args s mc ms (zA X.1)) (F0 m pc ls (st.map (zv ad))) q :=
      vx_out (E := E) (ce := ce) (by rw [hF.2.2.2.2.2.2.2.1, hno]; intro x hx; cases hx) hF.2.2.2.2.2.2.1 (by rw [e1]; exact hce) hcv hcl
        (fun u hu hvm => ⟨⟨S', I', J', ad', kx E S' I' J' hq, by rw [hu, e1]; exact hH', hG.tr hG'⟩, k3.F hu⟩) k3.2.2 (by omega) (by omega)
    obtain ⟨t2, a1, b1⟩ := K T' rfl X'
    exact ⟨t2, stp.trans a1, b1⟩
theorem zPre {X : zX} {D : va_G} {aC : Nat → ClassId} {ad : Nat → Nat} {s : State} {H : Heap} {locs : List Loc} {vs : List Value} (hB : zBs X D aC s) (hH : zHp X D aC ad S I J H) (hS : va_S (zA X.1) s.heap H locs) : ∀ U : State, U.heap = H → s.WarmedH U.vm → zPc X D aC ad S I J vs (vs.map (zv ad)).toArray U := by
  intro U hU hW
  exact ⟨rfl, hB.mv hW (by rw [hU]; exact hS.1) (fun q h1 h2 => by rw [hU]; exact hS.2.1 q h1 h2), by rw [hU]; exact hH⟩
theorem zCB {R : Room} {s : State} {args : Array Value} {own : String} {index n : Nat} (hts : ∀ w ∈ zG, w.before args s = true) (K : zKm μ' n) (hlink : Cond.methodLink own index μ'.1 ∈ zG) (h1 : d + 11 ≤ R.frames) (h2 : 45 * d + 245 ≤ R.locals) :
    CallB R s args own index μ'.1 μ'.2.1 μ'.2.2.1 μ'.2.2.2.1 (Cond.code μ'.1 μ'.2.1 μ'.2.2.1 μ'.2.2.2.1 :: zG) (zRm d kc' ks') kc' ks' n := by
  obtain ⟨k1, k2, k3, k4, k5, k6, k7⟩ := K
  refine ⟨rfl, rfl, h1, by show 8 + (_ + 11) + (45 * d + 200) ≤ _; omega, fun w hw a' U hW => ?_, List.mem_cons_self, hts _ k1, hts _ k2, k3, fun sig h => ?_, hts _ hlink⟩
  · have hw2 : w ∈ zG := by
      rcases List.mem_cons.mp hw with rfl | h
      · exact k1
      · exact h
    exact word_at hW (zG_good hw2) (hts w hw2)
  · rw [h] at k4
    exact (Option.some.inj k4).symm
/-- a virtual call of a method of the system -/
theorem z_callV {idx o n ci : Nat} (ht : zT μ tb) (hk : zat tb k = some (pc, .invokevirtual idx, 3, nx)) (hno : μ.2.2.2.2 = []) (K : zKm μ' n) (KV : zKv μ' ci) (hlink : Cond.methodLink μ.1.cls idx μ'.1 ∈ zG) (ho : o < S.2.2) (hkd : (S.2.1 o).1 = ci) {st0 : List Value} (hst : st0 = as.reverse ++ .ref o :: st) (hn : as.length = n)
    (hlen : (lg_sl (.ref o :: as)).length ≤ μ'.2.2.1) (hL' : zin (.ref o :: as) μ'.2.2.1 = L') (hroom : (st.map fun v => v.category).sum ≤ 8) (hkc : kc' ≤ kc) (hks : ks' ≤ ks) (hkeep : zkeep Q' S L st)
    (hZ : Z μ' d kc' ks' 0 L' [] S I J Q') (kx : ∀ E S' I' J', Q' (.inr E) S' I' J' → Q (.inr E) S' I' J')
    (kk : ∀ v S' I' J', Q' (.inl v) S' I' J' → Z μ (d + 1) (kc - kc') (ks - ks') nx L (v.toList ++ st) S' I' J' Q) : Z μ (d + 1) kc ks pc L st0 S I J Q := by
  intro p l e R s m args below meth c X D aC ad ad0 n0 ls H locs cells slots mc ms hF hB hH hG hS hL hc hs
  obtain ⟨hd, rfl⟩ := ht.at hk
  have hts := hF.2.2.2.2.1
  have hfr := hF.2.2.2.2.2.2.2.2.2.2
  obtain ⟨q0, hq0, hq1, hci⟩ := KV.2.2
  have he : (zW aC ad S I J)[o]? = some (ad o, .inr (ci, zFd ad S I o ci)) := by rw [zW_get ho, zE_o hkd hci]
  have hrun := vx_runV (l := l) (e := e) (R := R) (below := below) (meth := meth) (H := H) (locs := locs) (cells := cells) (slots := slots) (Ts := zG) (own := μ.1.cls) (C := μ'.1.cls) (index := idx) (b := ad o) (As := as.map (zv ad)) (rest := st.map (zv ad)) (g := F0 m pc ls (st0.map (zv ad))) (nL := μ.2.2.1) (n := n)
    ⟨hF.1, hF.2.1, hF.2.2.1, hF.2.2.2.1, hts⟩ (zMet (vs := .ref o :: as) l hF.2.2.2.2.2.2.2.2.2.1 K.2.2.2.2.2.1 K.2.2.2.2.1 hlen hL' hZ X D aC ad)
    ⟨zCB (d := d) hts K hlink (by omega) (by omega), hts _ KV.1, hts _ KV.2.1⟩ ⟨zPc_blind, by rw [← hq1]; exact va_recv hB.2.1 hH.1 hq0 he, zPre hB hH hS⟩
    rfl (by rw [List.length_map]; exact hn) hL.1 (by rw [hst]; simp [F0, zv]) (by show 2 * 0 + _ ≤ 8; rw [zcat]; omega) hd ⟨by omega, by omega⟩
  exact zBehind hF hB hH hG hS hL hc hs hkc hks hno hkeep hrun kx kk
theorem z_callS {idx n : Nat} (ht : zT μ tb) (hk : zat tb k = some (pc, .invokestatic idx, 3, nx)) (hno : μ.2.2.2.2 = []) (K : zKm μ' n) (KS : Cond.static μ'.1 ∈ zG) (hlink : Cond.methodLink μ.1.cls idx μ'.1 ∈ zG) {st0 : List Value} (hst : st0 = as.reverse ++ st) (hn : as.length = n)
    (hlen : (lg_sl as).length ≤ μ'.2.2.1) (hL' : zin as μ'.2.2.1 = L') (hroom : (st.map fun v => v.category).sum ≤ 8) (hkc : kc' ≤ kc) (hks : ks' ≤ ks) (hkeep : zkeep Q' S L st)
    (hZ : Z μ' d kc' ks' 0 L' [] S I J Q') (kx : ∀ E S' I' J', Q' (.inr E) S' I' J' → Q (.inr E) S' I' J')
    (kk : ∀ v S' I' J', Q' (.inl v) S' I' J' → Z μ (d + 1) (kc - kc') (ks - ks') nx L (v.toList ++ st) S' I' J' Q) : Z μ (d + 1) kc ks pc L st0 S I J Q := by
  intro p l e R s m args below meth c X D aC ad ad0 n0 ls H locs cells slots mc ms hF hB hH hG hS hL hc hs
  obtain ⟨hd, rfl⟩ := ht.at hk
  have hts := hF.2.2.2.2.1
  have hfr := hF.2.2.2.2.2.2.2.2.2.2
  have hrun := vx_runS (l := l) (e := e) (R := R) (below := below) (meth := meth) (H := H) (locs := locs) (cells := cells) (slots := slots) (Ts := zG) (own := μ.1.cls) (index := idx) (As := as.map (zv ad)) (rest := st.map (zv ad)) (g := F0 m pc ls (st0.map (zv ad))) (nL := μ.2.2.1) (n := n)
    ⟨hF.1, hF.2.1, hF.2.2.1, hF.2.2.2.1, hts⟩ (zMet (vs := as) l hF.2.2.2.2.2.2.2.2.2.1 K.2.2.2.2.2.1 K.2.2.2.2.1 hlen hL' hZ X D aC ad)
    ⟨zCB (d := d) hts K hlink (by omega) (by omega), hts _ KS⟩ ⟨zPc_blind, zPre hB hH hS⟩
    rfl (by rw [List.length_map]; exact hn) hL.1 (by rw [hst]; simp [F0]) (by show 2 * 0 + _ ≤ 8; rw [zcat]; omega) hd ⟨by omega, by omega⟩
  exact zBehind hF hB hH hG hS hL hc hs hkc hks hno hkeep hrun kx kk
end
