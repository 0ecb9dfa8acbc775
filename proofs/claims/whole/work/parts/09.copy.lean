/-! rules of Z for arraycopy, and for the one text of the class -/
section
variable {μ μ' : zM} {d kc ks kc' ks' pc nx k : Nat} {L L' : zL} {st as : List Value} {S : zS} {I : zI} {J : zJ} {Q Q' : zQ} {tb : zTb}
/-- row a becomes f up to n -/
def zcp {α : Type} (I : Nat → Nat → α) (b a n : Nat) : Nat → Nat → α := fun i j => if i = a then (if j < n then I b j else I a j) else I i j
theorem zcp_o {α : Type} (I : Nat → Nat → α) {b a n i : Nat} (h : i ≠ a) : zcp I b a n i = I i := by funext j; simp [zcp, h]
theorem zcp_a {α : Type} (I : Nat → Nat → α) {b a n : Nat} : zcp I b a n a = va_cpy (I b) (I a) 0 0 n := by
  funext j
  by_cases h : j < n <;> simp [zcp, va_cpy, h]
theorem z_copyi {idx a b n na nb : Nat} {i0 i1 x : Int32} (ht : zT μ tb) (hk : zat tb k = some (pc, .invokestatic idx, 3, nx)) (hlink : Cond.methodLink μ.1.cls idx arraycopyName ∈ zG) (hnat : Cond.native arraycopyName ∈ zG) (hstt : Cond.static arraycopyName ∈ zG) (hini : Cond.initialized "java/lang/System" ∈ zG) (h0 : i0 = 0) (h1 : i1 = 0) (hx : x = nI n) (hn : n ≤ 1000000)
    (ha : a < S.2.2) (hka : S.2.1 a = (100, na)) (hb : b < S.2.2) (hkb : S.2.1 b = (100, nb)) (hna : n ≤ na) (hnb : n ≤ nb) (hst : (st.map fun v => v.category).sum ≤ 50) (kk : Z μ d kc ks nx L st S (zcp I b a n) J Q) : Z μ d kc ks pc L (.int x :: .int i1 :: .ref a :: .int i0 :: .ref b :: st) S I J Q := by
  intro p l e R s m args below meth c X D aC ad ad0 n0 ls H locs cells slots mc ms hF hB hH hG hS hL hc hs
  obtain ⟨hd, rfl⟩ := ht.at hk
  have hts := hF.2.2.2.2.1
  have hfr := hF.2.2.2.2.2.2.2.2.2.2
  subst h0; subst h1; subst hx
  have hx2 : (nI n).toNatClampNeg = n := nI_clamp (by omega)
  have h02 : (0 : Int32).toNatClampNeg = 0 := sb_cl0
  have hea : (zW aC ad S I J)[a]? = some (ad a, .inl (aC 0, na, .inl (I a))) := by rw [zW_get ha, zE_i (t := 0) hka (by decide)]
  have heb : (zW aC ad S I J)[b]? = some (ad b, .inl (aC 0, nb, .inl (I b))) := by rw [zW_get hb, zE_i (t := 0) hkb (by decide)]
  refine va_copyi hF.1 hF.2.1 (hF.2.2.1.trans hL.1.symm) hF.2.2.2.1 (hts _ hlink) (hts _ hnat) (hts _ hstt) (hts _ hini) hB.2.1 hH.1 hH.2.1 hS b a 0 0 (ty := .int) heb hea (zTy_get rfl) (zTy_get rfl) rfl (by decide) (by decide) (nI_pos (by omega)) (by rw [hx2, h02]; omega) (by rw [hx2, h02]; omega) (fun _ _ => rfl) (by omega) (by
      rw [zcat]
      have : nativeFrameWords "java/lang/System" "arraycopy" 5 + 11 ≤ 100 := by decide +kernel
      omega) hd (fun H1 locs1 hP1 hD1 hS1 => ?_)
  rw [hx2, h02] at hP1 hD1
  exact kk p l e R s m args below meth c X D aC ad ad0 n0 ls H1 locs1 cells slots mc ms hF hB (hH.setI rfl hP1 hD1 (by rw [zE_i (t := 0) hka (by decide), zcp_a]) (fun z hz => zE_I (zcp_o I hz) rfl)) hG hS1 hL hc hs
theorem z_copyl {idx a b n na nb : Nat} {i0 i1 x : Int32} (ht : zT μ tb) (hk : zat tb k = some (pc, .invokestatic idx, 3, nx)) (hlink : Cond.methodLink μ.1.cls idx arraycopyName ∈ zG) (hnat : Cond.native arraycopyName ∈ zG) (hstt : Cond.static arraycopyName ∈ zG) (hini : Cond.initialized "java/lang/System" ∈ zG) (h0 : i0 = 0) (h1 : i1 = 0) (hx : x = nI n) (hn : n ≤ 1000000)
    (ha : a < S.2.2) (hka : S.2.1 a = (101, na)) (hb : b < S.2.2) (hkb : S.2.1 b = (101, nb)) (hna : n ≤ na) (hnb : n ≤ nb) (hst : (st.map fun v => v.category).sum ≤ 50) (kk : Z μ d kc ks nx L st S I (zcp J b a n) Q) : Z μ d kc ks pc L (.int x :: .int i1 :: .ref a :: .int i0 :: .ref b :: st) S I J Q := by
  intro p l e R s m args below meth c X D aC ad ad0 n0 ls H locs cells slots mc ms hF hB hH hG hS hL hc hs
  obtain ⟨hd, rfl⟩ := ht.at hk
  have hts := hF.2.2.2.2.1
  have hfr := hF.2.2.2.2.2.2.2.2.2.2
  subst h0; subst h1; subst hx
  have hx2 : (nI n).toNatClampNeg = n := nI_clamp (by omega)
  have h02 : (0 : Int32).toNatClampNeg = 0 := sb_cl0
  have hea : (zW aC ad S I J)[a]? = some (ad a, .inl (aC 1, na, .inr (.inl (J a)))) := by rw [zW_get ha, zE_l hka]
  have heb : (zW aC ad S I J)[b]? = some (ad b, .inl (aC 1, nb, .inr (.inl (J b)))) := by rw [zW_get hb, zE_l hkb]
  refine va_copyl hF.1 hF.2.1 (hF.2.2.1.trans hL.1.symm) hF.2.2.2.1 (hts _ hlink) (hts _ hnat) (hts _ hstt) (hts _ hini) hB.2.1 hH.1 hH.2.1 hS b a 1 1 (ty := .long) heb hea (zTy_get rfl) (zTy_get rfl) rfl (by decide) (by decide) (nI_pos (by omega)) (by rw [hx2, h02]; omega) (by rw [hx2, h02]; omega) (fun _ _ => rfl) (by omega) (by
      rw [zcat]
      have : nativeFrameWords "java/lang/System" "arraycopy" 5 + 11 ≤ 100 := by decide +kernel
      omega) hd (fun H1 locs1 hP1 hD1 hS1 => ?_)
  rw [hx2, h02] at hP1 hD1
  exact kk p l e R s m args below meth c X D aC ad ad0 n0 ls H1 locs1 cells slots mc ms hF hB (hH.setI rfl hP1 hD1 (by rw [zE_l hka, zcp_a]) (fun z hz => zE_I rfl (zcp_o J hz))) hG hS1 hL hc hs
/-- the text itself -/
theorem z_ldcT (ht : zT μ tb) (hk : zat tb k = some (pc, .ldc 173, 2, nx)) (hown : μ.1.cls = "FoundThings$Reader") (kk : Z μ d kc ks nx L (.ref (zXB + 2) :: st) S I J Q) : Z μ d kc ks pc L st S I J Q := by
  intro p l e R s m args below meth c X D aC ad ad0 n0 ls H locs cells slots mc ms hF hB hH hG hS hL hc hs
  obtain ⟨hd, rfl⟩ := ht.at hk
  have kk' := kk p l e R s m args below meth c X D aC ad ad0 n0 ls H locs cells slots mc ms hF hB hH hG hS hL hc hs
  rw [List.map_cons, show zv ad (.ref (zXB + 2)) = .ref (X.2 2) from congrArg Value.ref (hH.2.2.1 2)] at kk'
  intro T hT X0
  obtain ⟨t, a1, b1⟩ := kk' T hT X0
  have hR := hB.2.2.2.2.2.2.2.1.2.2.2.2.2.2.1
  exact ⟨t, X0.ldcString hF.1 (own := "FoundThings$Reader") (index := 173) (a := X.2 2) (by rw [← hown]; exact hF.2.2.2.1) hR.1 hR.2 (g := F0 m pc ls (st.map (zv ad))) rfl (by rw [hF.2.1]; exact hd) t a1, b1⟩
/-- the script -/
theorem z_sld {x j : Nat} {i : Int32} (ht : zT μ tb) (hk : zat tb k = some (pc, .iaload, 1, nx)) (hj : i = nI j) (hjn : j < (S.2.1 (zXB + 4)).2) (hn : (S.2.1 (zXB + 4)).2 ≤ 1000000) (hx : S.1 (zXB + 4) j = some x) (kk : Z μ d kc ks nx L (.int (Int32.ofNat x) :: st) S I J Q) : Z μ d kc ks pc L (.int i :: .ref (zXB + 4) :: st) S I J Q := by
  intro p l e R s m args below meth c X D aC ad ad0 n0 ls H locs cells slots mc ms hF hB hH hG hS hL hc hs
  obtain ⟨hd, rfl⟩ := ht.at hk
  obtain ⟨hi, hcl⟩ := z_clamp hj hjn hn
  have hX := hB.2.2.2.2.2.2.2.1.2.2.2.2.2.2.2
  obtain ⟨q1, q2⟩ := hH.2.2.2.2
  rw [List.map_cons, List.map_cons, show zv ad (.ref (zXB + 4)) = .ref (X.2 4) from congrArg Value.ref (hH.2.2.1 4)]
  refine va_sld hF.1 hF.2.1 hX.1 (Nat.lt_of_lt_of_le hX.2 hB.1) (Nat.not_le.mpr hX.2) hS (by rw [← q1]; exact hi) hd ?_
  have e1 : Int32.ofNat (X.2 (6 + i.toNatClampNeg)) = Int32.ofNat x := by
    rw [hcl, Option.some.inj ((q2 j).symm.trans hx)]
  rw [e1]
  exact kk p l e R s m args below meth c X D aC ad ad0 n0 ls H locs cells slots mc ms hF hB hH hG hS hL hc hs
theorem z_slen (ht : zT μ tb) (hk : zat tb k = some (pc, .arraylength, 1, nx)) (kk : Z μ d kc ks nx L (.int (nI (S.2.1 (zXB + 4)).2) :: st) S I J Q) : Z μ d kc ks pc L (.ref (zXB + 4) :: st) S I J Q := by
  intro p l e R s m args below meth c X D aC ad ad0 n0 ls H locs cells slots mc ms hF hB hH hG hS hL hc hs
  obtain ⟨hd, rfl⟩ := ht.at hk
  have hX := hB.2.2.2.2.2.2.2.1.2.2.2.2.2.2.2
  obtain ⟨q1, q2⟩ := hH.2.2.2.2
  rw [List.map_cons, show zv ad (.ref (zXB + 4)) = .ref (X.2 4) from congrArg Value.ref (hH.2.2.1 4)]
  refine va_slen hF.1 hF.2.1 hX.1 (Nat.lt_of_lt_of_le hX.2 hB.1) (Nat.not_le.mpr hX.2) hS hd ?_
  rw [← q1]
  exact kk p l e R s m args below meth c X D aC ad ad0 n0 ls H locs cells slots mc ms hF hB hH hG hS hL hc hs
end
