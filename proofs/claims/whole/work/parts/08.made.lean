/-! rules of Z for what is made, for Math and arraycopy -/
section
variable {μ μ' : zM} {d kc ks kc' ks' pc nx k : Nat} {L L' : zL} {st as : List Value} {S : zS} {I : zI} {J : zJ} {Q Q' : zQ} {tb : zTb}
theorem z_max {idx : Nat} {x y : Int32} (ht : zT μ tb) (hk : zat tb k = some (pc, .invokestatic idx, 3, nx)) (hlink : Cond.methodLink μ.1.cls idx Lib.Math.max.name ∈ zG) (hstt : Cond.static Lib.Math.max.name ∈ zG) (hini : Cond.initialized "java/lang/Math" ∈ zG) (hcode : Cond.code Lib.Math.max.name Lib.Math.max.code 2 (some .int) ∈ zG) (hst : (st.map fun v => v.category).sum ≤ 50) (kk : Z μ d kc ks nx L (.int (if x < y then y else x) :: st) S I J Q) : Z μ d kc ks pc L (.int y :: .int x :: st) S I J Q := by
  intro p l e R s m args below meth c X D aC ad ad0 n0 ls H locs cells slots mc ms hF hB hH hG hS hL hc hs
  obtain ⟨hd, rfl⟩ := ht.at hk
  have hts := hF.2.2.2.2.1
  have hfr := hF.2.2.2.2.2.2.2.2.2.2
  exact va_mmax hF.1 hF.2.1 (hF.2.2.1.trans hL.1.symm) hF.2.2.2.1 (hts _ hlink) (hts _ hstt) (hts _ hini) (hts _ hcode) (by omega) (by rw [zcat]; omega) (by omega) (by omega) hd (kk p l e R s m args below meth c X D aC ad ad0 n0 ls H locs cells slots mc ms hF hB hH hG hS hL hc hs)
theorem z_min {idx : Nat} {x y : Int32} (ht : zT μ tb) (hk : zat tb k = some (pc, .invokestatic idx, 3, nx)) (hlink : Cond.methodLink μ.1.cls idx Lib.Math.min.name ∈ zG) (hstt : Cond.static Lib.Math.min.name ∈ zG) (hini : Cond.initialized "java/lang/Math" ∈ zG) (hcode : Cond.code Lib.Math.min.name Lib.Math.min.code 2 (some .int) ∈ zG) (hst : (st.map fun v => v.category).sum ≤ 50) (kk : Z μ d kc ks nx L (.int (if y < x then y else x) :: st) S I J Q) : Z μ d kc ks pc L (.int y :: .int x :: st) S I J Q := by
  intro p l e R s m args below meth c X D aC ad ad0 n0 ls H locs cells slots mc ms hF hB hH hG hS hL hc hs
  obtain ⟨hd, rfl⟩ := ht.at hk
  have hts := hF.2.2.2.2.1
  have hfr := hF.2.2.2.2.2.2.2.2.2.2
  exact va_mmin hF.1 hF.2.1 (hF.2.2.1.trans hL.1.symm) hF.2.2.2.1 (hts _ hlink) (hts _ hstt) (hts _ hini) (hts _ hcode) (by omega) (by rw [zcat]; omega) (by omega) (by omega) hd (kk p l e R s m args below meth c X D aC ad ad0 n0 ls H locs cells slots mc ms hF hB hH hG hS hL hc hs)
theorem z_object {idx o : Nat} (ht : zT μ tb) (hk : zat tb k = some (pc, .invokespecial idx, 3, nx)) (hlink : Cond.methodLink μ.1.cls idx objectInit ∈ zG) (hin : Cond.instanceMethod objectInit ∈ zG) (hcode : Cond.code objectInit ⟨#[0xb1]⟩ 1 none ∈ zG) (hst : (st.map fun v => v.category).sum ≤ 50) (kk : Z μ d kc ks nx L st S I J Q) : Z μ d kc ks pc L (.ref o :: st) S I J Q := by
  intro p l e R s m args below meth c X D aC ad ad0 n0 ls H locs cells slots mc ms hF hB hH hG hS hL hc hs
  obtain ⟨hd, rfl⟩ := ht.at hk
  have hts := hF.2.2.2.2.1
  have hfr := hF.2.2.2.2.2.2.2.2.2.2
  exact W.objInit (a := ad o) (rest := st.map (zv ad)) (g := F0 m pc ls ((Value.ref o :: st).map (zv ad))) hF.1 hF.2.1 hF.2.2.2.1 (hts _ hlink) (hts _ hin) (hts _ hcode) rfl (hL.1.trans hF.2.2.1.symm) rfl hd (by omega) (by rw [zcat]; show 2 * 0 + _ + 12 ≤ _; omega) (kk p l e R s m args below meth c X D aC ad ad0 n0 ls H locs cells slots mc ms hF hB hH hG hS hL hc hs)
/-- one object more -/
def zNew (S : zS) (c n : Nat) : zS := (fun i j => if i = S.2.2 then none else S.1 i j, fun i => if i = S.2.2 then (c, n) else S.2.1 i, S.2.2 + 1)
def zI0 (S : zS) (I : zI) : zI := fun i j => if i = S.2.2 then 0 else I i j
def zJ0 (S : zS) (J : zJ) : zJ := fun i j => if i = S.2.2 then 0 else J i j
theorem zW_push {aC : Nat → ClassId} {ad : Nat → Nat} {q c n : Nat} {e : va_E} (hb : ∀ i k v, S.1 i k = some v → i < S.2.2 → v < S.2.2 ∨ zXB ≤ v) (hz : S.2.2 < zXB) (he : zE aC (va_up ad S.2.2 q) (zNew S c n) (zI0 S I) (zJ0 S J) S.2.2 = e) :
    zW aC (va_up ad S.2.2 q) (zNew S c n) (zI0 S I) (zJ0 S J) = zW aC ad S I J ++ [(q, e)] := by
  have h0 : (zNew S c n).2.2 = S.2.2 + 1 := rfl
  rw [zW, h0, List.range_succ, List.map_append, List.map_singleton, he, va_up_self]
  congr 1
  apply List.map_congr_left
  intro i hi
  have hi2 : i < S.2.2 := List.mem_range.mp hi
  have hne : i ≠ S.2.2 := by omega
  rw [va_up_ne _ _ hne]
  have hm : ∀ j, (S.1 i j).map (va_up ad S.2.2 q) = (S.1 i j).map ad := by
    intro j
    cases hr : S.1 i j with
    | none => rfl
    | some v =>
      have h1 : v ≠ S.2.2 := by have := hb i j v hr hi2; omega
      simp [va_up_ne _ _ h1]
  have hi0 : zI0 S I i = I i := by funext j; simp [zI0, hne]
  have hj0 : zJ0 S J i = J i := by funext j; simp [zJ0, hne]
  simp only [zE, zNew, zFd, hne, if_false, hm, hi0, hj0]
theorem zScr.nw {X : zX} {c n : Nat} (hz : S.2.2 < zXB) (h : zScr X S) : zScr X (zNew S c n) := by
  have hne : zXB + 4 ≠ S.2.2 := by omega
  exact ⟨by simp only [zNew, hne, if_false]; exact h.1, fun j => by simp only [zNew, hne, if_false]; exact h.2 j⟩
theorem zAg.push {ad ad0 : Nat → Nat} {n0 n q : Nat} (h : zAg ad ad0 n0 n) : zAg (va_up ad n q) ad0 n0 (n + 1) := by
  obtain ⟨h1, h2, h3⟩ := h
  refine ⟨by omega, fun i hi => ?_, fun e => by omega⟩
  rw [va_up_ne _ _ (by omega)]
  exact h2 i hi
theorem zUpv {X : zX} {ad : Nat → Nat} {q : Nat} (hx : ∀ e, ad (zXB + e) = X.2 e) (hz : S.2.2 < zXB) (e : Nat) : va_up ad S.2.2 q (zXB + e) = X.2 e := by
  rw [va_up_ne _ _ (by omega)]
  exact hx e
theorem zLv.push {ad : Nat → Nat} {ls : Array Slot} {n q : Nat} (h : zLv ad ls n L) (hb : zRb S.2.2 L st) (hz : S.2.2 < zXB) : zLv (va_up ad S.2.2 q) ls n L ∧ st.map (zv (va_up ad S.2.2 q)) = st.map (zv ad) := by
  have hv : ∀ v, zrb S.2.2 v = true → zv (va_up ad S.2.2 q) v = zv ad v := by
    intro v hv
    cases v with
    | ref i =>
      simp only [zrb, Bool.or_eq_true, decide_eq_true_eq] at hv
      have hne : i ≠ S.2.2 := by
        intro e
        subst e
        rcases hv with hv | hv
        · exact Nat.lt_irrefl _ hv
        · exact absurd hz (Nat.not_lt.mpr hv)
      show Value.ref _ = Value.ref _
      rw [va_up_ne _ _ hne]
    | _ => rfl
  refine ⟨⟨h.1, h.2.1, fun j v hj => ?_⟩, List.map_congr_left fun v hm => hv v (hb.2 v hm)⟩
  rw [hv v (hb.1 j v hj)]
  exact h.2.2 j v hj
/-- all references lead to what is there -/
def zRi (S : zS) : Prop := ∀ i k v, S.1 i k = some v → i < S.2.2 → v < S.2.2 ∨ zXB ≤ v
theorem zFd0 {ad : Nat → Nat} {I' : zI} {i c j : Nat} (hr : ∀ j, S.1 i j = none) (hi : ∀ j, I' i j = 0) (hj : j < (zsh c).length) : vp_V (zFd ad S I' i c) j = if (zsh c)[j]? = some true then .null else .int 0 := by
  obtain ⟨b, hb⟩ : ∃ b, (zsh c)[j]? = some b := ⟨_, List.getElem?_eq_getElem hj⟩
  have h := zFd_get (ad := ad) (S := S) (I := I') (i := i) hb
  rw [vp_V, List.getD_eq_getElem?_getD, h, hr, hi, hb]
  cases b <;> rfl
theorem z_new {idx ci N : Nat} {C : String} {T : u_T} {ty : Nat → FieldType} (ht : zT μ tb) (hk : zat tb k = some (pc, .new idx, 3, nx)) (CK : zCk ci C T N ty) (hdef : ∀ j, j < N → defaultValue (ty j) = if (zsh ci)[j]? = some true then .null else .int 0) (hcl : Cond.classLink μ.1.cls idx C ∈ zG) (hins : Cond.instantiable C N ∈ zG) (hini : Cond.initialized C ∈ zG)
    (hb : zRi S) (hrb : zRb S.2.2 L st) (hz : S.2.2 < zXB) (hkc : 1 ≤ kc) (hks : N ≤ ks) (kk : Z μ d (kc - 1) (ks - N) nx L (.ref S.2.2 :: st) (zNew S ci 0) (zI0 S I) (zJ0 S J) Q) : Z μ d kc ks pc L st S I J Q := by
  intro p l e R s m args below meth c X D aC ad ad0 n0 ls H locs cells slots mc ms hF hB hH hG hS hL hc hs
  obtain ⟨hd, rfl⟩ := ht.at hk
  have hts := hF.2.2.2.2.1
  have hfr := hF.2.2.2.2.2.2.2.2.2.2
  obtain ⟨c1, c2, c3, c4, c5, c6, c7⟩ := CK
  refine va_new (ci := ci) (fs := zFd ad (zNew S ci 0) (zI0 S I) S.2.2 ci) hF.1 hF.2.1 hts c2 ty c3 hF.2.2.2.1 (hts _ hcl) (hts _ hins) (hts _ hini) hB.2.1 hH.1 hH.2.1 hS (fun q h => Nat.le_trans hB.1 h) c1 (fun j hj => ?_) (by omega) (by omega) hd (fun q H1 hP1 hD1 hS1 => ?_)
  · rw [zFd0 (fun _ => by simp [zNew]) (fun _ => by simp [zI0]) (by rw [c6]; exact hj)]
    exact hdef j hj
  · have hnone : ∀ j, (zNew S ci 0).1 S.2.2 j = none := fun j => by simp [zNew]
    have he : zE aC (va_up ad S.2.2 q) (zNew S ci 0) (zI0 S I) (zJ0 S J) S.2.2 = .inr (ci, zFd ad (zNew S ci 0) (zI0 S I) S.2.2 ci) := by
      rw [zE_o (c := ci) (by simp [zNew]) c7]
      simp only [zFd, hnone]
      rfl
    have hw := zW_push (aC := aC) (ad := ad) (q := q) (c := ci) (n := 0) (I := I) (J := J) hb hz he
    rw [← hw] at hP1 hD1
    obtain ⟨l1, l2⟩ := hL.push (q := q) (st := st) hrb hz
    have K := kk p l e R s m args below meth c X D aC (va_up ad S.2.2 q) ad0 n0 ls H1 locs (cells + 1) (slots + N) mc ms hF hB ⟨hP1, hD1, fun e => zUpv hH.2.2.1 hz e, hz, zScr.nw hz hH.2.2.2.2⟩ hG.push hS1 l1 (by omega) (by omega)
    rw [List.map_cons, l2] at K
    have hq : zv (va_up ad S.2.2 q) (.ref S.2.2) = .ref q := by show Value.ref _ = _; rw [va_up_self]
    rw [hq] at K
    exact K
theorem z_newa {at' : ArrayType} {t n : Nat} {i : Int32} {ty : FieldType} (ht : zT μ tb) (hk : zat tb k = some (pc, .newarray at', 2, nx)) (hty : newarray.typeOf at' = ty) (htt : zty[t]? = some ty) (ht4 : t < 4) (harr : Cond.arrayClass ty ∈ zG) (hdf : defaultValue ty = if t = 1 then .long 0 else .int 0) (hi : i = nI n) (hn : n ≤ 1000000) (hcb : componentBytes ty ≤ 8)
    (hb : zRi S) (hrb : zRb S.2.2 L st) (hz : S.2.2 < zXB) (hkc : 1 ≤ kc) (hks : n ≤ ks) (kk : Z μ d (kc - 1) (ks - n) nx L (.ref S.2.2 :: st) (zNew S (100 + t) n) (zI0 S I) (zJ0 S J) Q) : Z μ d kc ks pc L (.int i :: st) S I J Q := by
  intro p l e R s m args below meth c X D aC ad ad0 n0 ls H locs cells slots mc ms hF hB hH hG hS hL hc hs
  obtain ⟨hd, rfl⟩ := ht.at hk
  have hts := hF.2.2.2.2.1
  have hfr := hF.2.2.2.2.2.2.2.2.2.2
  have ha0 : ∀ cA : ClassId, vp_cell cA (if t = 1 then (n, .inr (.inl fun _ => 0)) else (n, .inl fun _ => 0)) = arrV cA n (fun _ => defaultValue ty) := by
    intro cA
    rw [hdf]
    by_cases h1 : t = 1
    · simp only [h1, if_true]; rfl
    · simp only [h1, if_false]; rfl
  refine va_newa (a0 := if t = 1 then (n, .inr (.inl fun _ => 0)) else (n, .inl fun _ => 0)) hF.1 hF.2.1 (by rw [hty]; exact hts _ harr) hty hB.2.1 hH.1 hH.2.1 hS (fun q h => Nat.le_trans hB.1 h) ha0 (by rw [hi]; exact nI_pos (by omega)) (by rw [hi]; exact nI_clamp (by omega)) (by
      have := Nat.mul_le_mul hn hcb
      omega) (by omega) (by omega) hd (fun q cA H1 hK1 hP1 hD1 hS1 => ?_)
  have hcA : cA = aC t := by
    have h1 := (hK1.2 (zTy aC).length (cA, ty) (by simp)).2
    have h2 := (hB.2.1.2 t (aC t, ty) (zTy_get htt)).2
    have hp : va_RA s cA ty = (s.vm.findClass ("[" ++ ty.toString) = some cA) ∧ va_RA s (aC t) ty = (s.vm.findClass ("[" ++ ty.toString) = some (aC t)) := by
      rcases (show t = 0 ∨ t = 1 ∨ t = 2 ∨ t = 3 by omega) with rfl | rfl | rfl | rfl <;> (cases htt; exact ⟨rfl, rfl⟩)
    rw [hp.1] at h1
    rw [hp.2] at h2
    exact Option.some.inj (h1.symm.trans h2)
  subst hcA
  have hkn : (zNew S (100 + t) n).2.1 S.2.2 = (100 + t, n) := by simp [zNew]
  have he : zE aC (va_up ad S.2.2 q) (zNew S (100 + t) n) (zI0 S I) (zJ0 S J) S.2.2 = .inl (aC t, if t = 1 then (n, .inr (.inl fun _ => 0)) else (n, .inl fun _ => 0)) := by
    by_cases h1 : t = 1
    · subst h1
      have hz0 : zJ0 S J S.2.2 = fun _ => 0 := by funext j; simp [zJ0]
      rw [zE_l hkn, hz0]
      simp only [if_true]
    · have hz0 : zI0 S I S.2.2 = fun _ => 0 := by funext j; simp [zI0]
      rw [zE_i hkn (by omega), hz0]
      simp only [h1, if_false]
  have hw := zW_push (aC := aC) (ad := ad) (q := q) (c := 100 + t) (n := n) (I := I) (J := J) hb hz he
  rw [← hw] at hP1 hD1
  obtain ⟨l1, l2⟩ := hL.push (q := q) (st := st) hrb hz
  have K := kk p l e R s m args below meth c X D aC (va_up ad S.2.2 q) ad0 n0 ls H1 locs (cells + 1) (slots + n) mc ms hF hB ⟨hP1, hD1, fun e => zUpv hH.2.2.1 hz e, hz, zScr.nw hz hH.2.2.2.2⟩ hG.push hS1 l1 (by omega) (by omega)
  rw [List.map_cons, l2] at K
  have hq : zv (va_up ad S.2.2 q) (.ref S.2.2) = .ref q := by show Value.ref _ = _; rw [va_up_self]
  rw [hq] at K
  exact K
theorem z_newq {idx t n : Nat} {i : Int32} {C : String} (ht : zT μ tb) (hk : zat tb k = some (pc, .anewarray idx, 3, nx)) (htt : zty[t]? = some (.object C)) (ht4 : 4 ≤ t) (hao : C ∈ zAO) (hcl : Cond.classLink μ.1.cls idx C ∈ zG) (hi : i = nI n) (hn : n ≤ 1000000)
    (hb : zRi S) (hrb : zRb S.2.2 L st) (hz : S.2.2 < zXB) (hkc : 1 ≤ kc) (hks : n ≤ ks) (kk : Z μ d (kc - 1) (ks - n) nx L (.ref S.2.2 :: st) (zNew S (100 + t) n) (zI0 S I) (zJ0 S J) Q) : Z μ d kc ks pc L (.int i :: st) S I J Q := by
  intro p l e R s m args below meth c X D aC ad ad0 n0 ls H locs cells slots mc ms hF hB hH hG hS hL hc hs
  obtain ⟨hd, rfl⟩ := ht.at hk
  have hts := hF.2.2.2.2.1
  have hfr := hF.2.2.2.2.2.2.2.2.2.2
  refine va_newq (C := C) (N' := n) hF.1 hF.2.1 hF.2.2.2.1 (hts _ hcl) (hB.2.2.2.2.2.2.2.2.1 C hao) hB.2.1 hH.1 hH.2.1 hS (fun q h => Nat.le_trans hB.1 h) (by rw [hi]; exact nI_pos (by omega)) (by rw [hi]; exact nI_clamp (by omega)) (by omega) (by omega) (by omega) hd (fun q cA H1 hK1 hP1 hD1 hS1 => ?_)
  have hcA : cA = aC t := by
    have h1 := (hK1.2 (zTy aC).length (cA, .object C) (by simp)).2
    have h2 := (hB.2.1.2 t (aC t, .object C) (zTy_get htt)).2
    obtain ⟨k1, k2, -, -, -, k5⟩ := h1
    obtain ⟨j1, j2, -, -, -, j5⟩ := h2
    exact Option.some.inj (k5.symm.trans j5)
  subst hcA
  have hkn : (zNew S (100 + t) n).2.1 S.2.2 = (100 + t, n) := by simp [zNew]
  have he : zE aC (va_up ad S.2.2 q) (zNew S (100 + t) n) (zI0 S I) (zJ0 S J) S.2.2 = .inl (aC t, n, .inr (.inr (.inr (.inr (fun _ => none))))) := by
    have hz0 : (fun j => ((zNew S (100 + t) n).1 S.2.2 j).map (va_up ad S.2.2 q)) = fun _ => none := by funext j; simp [zNew]
    rw [zE_r hkn ht4, hz0]
  have hw := zW_push (aC := aC) (ad := ad) (q := q) (c := 100 + t) (n := n) (I := I) (J := J) hb hz he
  rw [← hw] at hP1 hD1
  obtain ⟨l1, l2⟩ := hL.push (q := q) (st := st) hrb hz
  have K := kk p l e R s m args below meth c X D aC (va_up ad S.2.2 q) ad0 n0 ls H1 locs (cells + 1) (slots + n) mc ms hF hB ⟨hP1, hD1, fun e => zUpv hH.2.2.1 hz e, hz, zScr.nw hz hH.2.2.2.2⟩ hG.push hS1 l1 (by omega) (by omega)
  rw [List.map_cons, l2] at K
  have hq : zv (va_up ad S.2.2 q) (.ref S.2.2) = .ref q := by show Value.ref _ = _; rw [va_up_self]
  rw [hq] at K
  exact K
theorem z_aast {a t j n b ci : Nat} {i : Int32} {C : String} {T : u_T} {N : Nat} (ht : zT μ tb) (hk : zat tb k = some (pc, .aastore, 1, nx)) (ha : a < S.2.2) (hkd : S.2.1 a = (100 + t, n)) (h4 : 4 ≤ t) (htt : zty[t]? = some (.object C)) (hj : i = nI j) (hjn : j < n) (hn : n ≤ 1000000) (hb : b < S.2.2) (hkb : (S.2.1 b).1 = ci) (hci : ci < 100) (hcl : vwCl[ci]? = some (C, T, N)) (kk : Z μ d kc ks nx L st (zuR S a j (some b)) I J Q) : Z μ d kc ks pc L (.ref b :: .int i :: .ref a :: st) S I J Q := by
  intro p l e R s m args below meth c X D aC ad ad0 n0 ls H locs cells slots mc ms hF hB hH hG hS hL hc hs
  obtain ⟨hd, rfl⟩ := ht.at hk
  obtain ⟨hi, hcl2⟩ := z_clamp hj hjn hn
  have he : (zW aC ad S I J)[a]? = some (ad a, .inl (aC t, n, .inr (.inr (.inr (.inr fun j => (S.1 a j).map ad))))) := by rw [zW_get ha, zE_r hkd h4]
  have hv : (zW aC ad S I J)[b]? = some (ad b, .inr (ci, zFd ad S I b ci)) := by rw [zW_get hb, zE_o hkb hci]
  refine va_astq hF.1 hF.2.1 hB.2.1 hH.1 hH.2.1 hS a t b ci he (r := (C, T, N)) (zTy_get htt) hv hcl hi hd (fun H1 locs1 hP1 hD1 hS1 => ?_)
  rw [hcl2] at hP1 hD1
  refine kk p l e R s m args below meth c X D aC ad ad0 n0 ls H1 locs1 cells slots mc ms hF hB (hH.setI rfl hP1 hD1 ?_ (fun z hz => zE_S (zu_o S.1 (some b) hz) rfl) (zScr.uR ha hH.2.2.2.1)) hG hS1 hL hc hs
  have hz0 : (fun z => ((zuR S a j (some b)).1 a z).map ad) = va_up (fun z => (S.1 a z).map ad) j (some (ad b)) := by
    funext z
    by_cases hz : z = j
    · subst hz; simp [zuR, zu, va_up]
    · simp [zuR, zu, va_up, hz]
  rw [zE_r (show (zuR S a j (some b)).2.1 a = (100 + t, n) from hkd) h4, hz0]
end
