/-! rules of Z for arrays, and the ends of a method -/
section
variable {μ : zM} {d kc ks pc nx k : Nat} {L : zL} {st : List Value} {S : zS} {I : zI} {J : zJ} {Q : zQ} {tb : zTb}

theorem z_iald {a j n : Nat} {i : Int32} (ht : zT μ tb) (hk : zat tb k = some (pc, .iaload, 1, nx)) (ha : a < S.2.2) (hkd : S.2.1 a = (100, n)) (hj : i = nI j) (hjn : j < n) (hn : n ≤ 1000000) (kk : Z μ d kc ks nx L (.int (I a j) :: st) S I J Q) : Z μ d kc ks pc L (.int i :: .ref a :: st) S I J Q := by
  intro p l e R s m args below meth c X D aC ad ad0 n0 ls H locs cells slots mc ms hF hB hH hG hS hL hc hs
  obtain ⟨hd, rfl⟩ := ht.at hk
  obtain ⟨hi, hcl⟩ := z_clamp hj hjn hn
  have he : (zW aC ad S I J)[a]? = some (ad a, .inl (aC 0, n, .inl (I a))) := by rw [zW_get ha, zE_i (t := 0) hkd (by decide)]
  refine va_iald hF.1 hF.2.1 hB.2.1 hH.1 a 0 he (zTy_get rfl) hi hd ?_
  rw [hcl]
  exact kk p l e R s m args below meth c X D aC ad ad0 n0 ls H locs cells slots mc ms hF hB hH hG hS hL hc hs

theorem z_bald {a j n : Nat} {i : Int32} (ht : zT μ tb) (hk : zat tb k = some (pc, .baload, 1, nx)) (ha : a < S.2.2) (hkd : S.2.1 a = (102, n)) (hj : i = nI j) (hjn : j < n) (hn : n ≤ 1000000) (kk : Z μ d kc ks nx L (.int (I a j) :: st) S I J Q) : Z μ d kc ks pc L (.int i :: .ref a :: st) S I J Q := by
  intro p l e R s m args below meth c X D aC ad ad0 n0 ls H locs cells slots mc ms hF hB hH hG hS hL hc hs
  obtain ⟨hd, rfl⟩ := ht.at hk
  obtain ⟨hi, hcl⟩ := z_clamp hj hjn hn
  have he : (zW aC ad S I J)[a]? = some (ad a, .inl (aC 2, n, .inl (I a))) := by rw [zW_get ha, zE_i (t := 2) hkd (by decide)]
  refine va_bald hF.1 hF.2.1 hB.2.1 hH.1 a 2 he (zTy_get rfl) hi hd ?_
  rw [hcl]
  exact kk p l e R s m args below meth c X D aC ad ad0 n0 ls H locs cells slots mc ms hF hB hH hG hS hL hc hs

theorem z_zald {a j n : Nat} {i : Int32} (ht : zT μ tb) (hk : zat tb k = some (pc, .baload, 1, nx)) (ha : a < S.2.2) (hkd : S.2.1 a = (103, n)) (hj : i = nI j) (hjn : j < n) (hn : n ≤ 1000000) (kk : Z μ d kc ks nx L (.int (I a j) :: st) S I J Q) : Z μ d kc ks pc L (.int i :: .ref a :: st) S I J Q := by
  intro p l e R s m args below meth c X D aC ad ad0 n0 ls H locs cells slots mc ms hF hB hH hG hS hL hc hs
  obtain ⟨hd, rfl⟩ := ht.at hk
  obtain ⟨hi, hcl⟩ := z_clamp hj hjn hn
  have he : (zW aC ad S I J)[a]? = some (ad a, .inl (aC 3, n, .inl (I a))) := by rw [zW_get ha, zE_i (t := 3) hkd (by decide)]
  refine va_zald hF.1 hF.2.1 hB.2.1 hH.1 a 3 he (zTy_get rfl) hi hd ?_
  rw [hcl]
  exact kk p l e R s m args below meth c X D aC ad ad0 n0 ls H locs cells slots mc ms hF hB hH hG hS hL hc hs

theorem z_lald {a j n : Nat} {i : Int32} (ht : zT μ tb) (hk : zat tb k = some (pc, .laload, 1, nx)) (ha : a < S.2.2) (hkd : S.2.1 a = (101, n)) (hj : i = nI j) (hjn : j < n) (hn : n ≤ 1000000) (kk : Z μ d kc ks nx L (.long (J a j) :: st) S I J Q) : Z μ d kc ks pc L (.int i :: .ref a :: st) S I J Q := by
  intro p l e R s m args below meth c X D aC ad ad0 n0 ls H locs cells slots mc ms hF hB hH hG hS hL hc hs
  obtain ⟨hd, rfl⟩ := ht.at hk
  obtain ⟨hi, hcl⟩ := z_clamp hj hjn hn
  have he : (zW aC ad S I J)[a]? = some (ad a, .inl (aC 1, n, .inr (.inl (J a)))) := by rw [zW_get ha, zE_l hkd]
  refine va_lald hF.1 hF.2.1 hB.2.1 hH.1 a 1 he (zTy_get rfl) hi hd ?_
  rw [hcl]
  exact kk p l e R s m args below meth c X D aC ad ad0 n0 ls H locs cells slots mc ms hF hB hH hG hS hL hc hs

theorem z_iast {a j n : Nat} {i : Int32} {v : Int32} (ht : zT μ tb) (hk : zat tb k = some (pc, .iastore, 1, nx)) (ha : a < S.2.2) (hkd : S.2.1 a = (100, n)) (hj : i = nI j) (hjn : j < n) (hn : n ≤ 1000000) (kk : Z μ d kc ks nx L st S (zu I a j (v)) J Q) : Z μ d kc ks pc L (.int v :: .int i :: .ref a :: st) S I J Q := by
  intro p l e R s m args below meth c X D aC ad ad0 n0 ls H locs cells slots mc ms hF hB hH hG hS hL hc hs
  obtain ⟨hd, rfl⟩ := ht.at hk
  obtain ⟨hi, hcl⟩ := z_clamp hj hjn hn
  have he : (zW aC ad S I J)[a]? = some (ad a, .inl (aC 0, n, .inl (I a))) := by rw [zW_get ha, zE_i (t := 0) hkd (by decide)]
  refine va_iast hF.1 hF.2.1 hB.2.1 hH.1 hH.2.1 hS a 0 he (zTy_get rfl) hi hd (fun H1 locs1 hP1 hD1 hS1 => ?_)
  · rw [hcl] at hP1 hD1
    exact kk p l e R s m args below meth c X D aC ad ad0 n0 ls H1 locs1 cells slots mc ms hF hB (hH.setI rfl hP1 hD1 (by rw [zE_i (t := 0) hkd (by decide), zu_i]) (fun z hz => zE_I (zu_o I _ hz) rfl)) hG hS1 hL hc hs

theorem z_bast {a j n : Nat} {i : Int32} {v : Int32} (ht : zT μ tb) (hk : zat tb k = some (pc, .bastore, 1, nx)) (ha : a < S.2.2) (hkd : S.2.1 a = (102, n)) (hj : i = nI j) (hjn : j < n) (hn : n ≤ 1000000) (kk : Z μ d kc ks nx L st S (zu I a j (v.toInt8.toInt32)) J Q) : Z μ d kc ks pc L (.int v :: .int i :: .ref a :: st) S I J Q := by
  intro p l e R s m args below meth c X D aC ad ad0 n0 ls H locs cells slots mc ms hF hB hH hG hS hL hc hs
  obtain ⟨hd, rfl⟩ := ht.at hk
  obtain ⟨hi, hcl⟩ := z_clamp hj hjn hn
  have he : (zW aC ad S I J)[a]? = some (ad a, .inl (aC 2, n, .inl (I a))) := by rw [zW_get ha, zE_i (t := 2) hkd (by decide)]
  refine va_bast hF.1 hF.2.1 hB.2.1 hH.1 hH.2.1 hS a 2 he (zTy_get rfl) hi hd (fun H1 locs1 hP1 hD1 hS1 => ?_)
  · rw [hcl] at hP1 hD1
    rw [vp_nar_byte] at hP1 hD1
    exact kk p l e R s m args below meth c X D aC ad ad0 n0 ls H1 locs1 cells slots mc ms hF hB (hH.setI rfl hP1 hD1 (by rw [zE_i (t := 2) hkd (by decide), zu_i]) (fun z hz => zE_I (zu_o I _ hz) rfl)) hG hS1 hL hc hs

theorem z_zast {a j n : Nat} {i : Int32} {v : Int32} (ht : zT μ tb) (hk : zat tb k = some (pc, .bastore, 1, nx)) (ha : a < S.2.2) (hkd : S.2.1 a = (103, n)) (hj : i = nI j) (hjn : j < n) (hn : n ≤ 1000000) (hv : v = 0 ∨ v = 1) (kk : Z μ d kc ks nx L st S (zu I a j (v)) J Q) : Z μ d kc ks pc L (.int v :: .int i :: .ref a :: st) S I J Q := by
  intro p l e R s m args below meth c X D aC ad ad0 n0 ls H locs cells slots mc ms hF hB hH hG hS hL hc hs
  obtain ⟨hd, rfl⟩ := ht.at hk
  obtain ⟨hi, hcl⟩ := z_clamp hj hjn hn
  have he : (zW aC ad S I J)[a]? = some (ad a, .inl (aC 3, n, .inl (I a))) := by rw [zW_get ha, zE_i (t := 3) hkd (by decide)]
  refine va_zast hF.1 hF.2.1 hB.2.1 hH.1 hH.2.1 hS a 3 he (zTy_get rfl) hi hd (fun H1 locs1 hP1 hD1 hS1 => ?_)
  · rw [hcl] at hP1 hD1
    have hvn : vp_nar .boolean v = v := by rcases hv with rfl | rfl <;> rfl
    rw [hvn] at hP1 hD1
    exact kk p l e R s m args below meth c X D aC ad ad0 n0 ls H1 locs1 cells slots mc ms hF hB (hH.setI rfl hP1 hD1 (by rw [zE_i (t := 3) hkd (by decide), zu_i]) (fun z hz => zE_I (zu_o I _ hz) rfl)) hG hS1 hL hc hs

theorem z_last {a j n : Nat} {i : Int32} {v : Int64} (ht : zT μ tb) (hk : zat tb k = some (pc, .lastore, 1, nx)) (ha : a < S.2.2) (hkd : S.2.1 a = (101, n)) (hj : i = nI j) (hjn : j < n) (hn : n ≤ 1000000) (kk : Z μ d kc ks nx L st S I (zu J a j (v)) Q) : Z μ d kc ks pc L (.long v :: .int i :: .ref a :: st) S I J Q := by
  intro p l e R s m args below meth c X D aC ad ad0 n0 ls H locs cells slots mc ms hF hB hH hG hS hL hc hs
  obtain ⟨hd, rfl⟩ := ht.at hk
  obtain ⟨hi, hcl⟩ := z_clamp hj hjn hn
  have he : (zW aC ad S I J)[a]? = some (ad a, .inl (aC 1, n, .inr (.inl (J a)))) := by rw [zW_get ha, zE_l hkd]
  refine va_last hF.1 hF.2.1 hB.2.1 hH.1 hH.2.1 hS a 1 he (zTy_get rfl) hi hd (fun H1 locs1 hP1 hD1 hS1 => ?_)
  · rw [hcl] at hP1 hD1
    exact kk p l e R s m args below meth c X D aC ad ad0 n0 ls H1 locs1 cells slots mc ms hF hB (hH.setI rfl hP1 hD1 (by rw [zE_l hkd, zu_l]) (fun z hz => zE_I rfl (zu_o J _ hz))) hG hS1 hL hc hs

theorem z_alen {a t n : Nat} {ty : FieldType} (ht : zT μ tb) (hk : zat tb k = some (pc, .arraylength, 1, nx)) (ha : a < S.2.2) (hkd : S.2.1 a = (100 + t, n)) (hty : zty[t]? = some ty) (kk : Z μ d kc ks nx L (.int (nI n) :: st) S I J Q) : Z μ d kc ks pc L (.ref a :: st) S I J Q := by
  intro p l e R s m args below meth c X D aC ad ad0 n0 ls H locs cells slots mc ms hF hB hH hG hS hL hc hs
  obtain ⟨hd, rfl⟩ := ht.at hk
  have he : ∃ x : vp_A, x.1 = n ∧ (zW aC ad S I J)[a]? = some (ad a, .inl (aC t, x)) := by
    rw [zW_get ha]
    by_cases h1 : t = 1
    · subst h1
      rw [zE_l hkd]
      exact ⟨(n, .inr (.inl (J a))), rfl, rfl⟩
    · by_cases h4 : 4 ≤ t
      · rw [zE_r hkd h4]
        exact ⟨(n, .inr (.inr (.inr (.inr fun j => (S.1 a j).map ad)))), rfl, rfl⟩
      · rw [zE_i hkd (by omega)]
        exact ⟨(n, .inl (I a)), rfl, rfl⟩
  obtain ⟨x, hx, he⟩ := he
  exact va_alen hF.1 hF.2.1 hB.2.1 hH.1 a t he (zTy_get hty) (v := nI n) (by rw [hx]; rfl) hd (kk p l e R s m args below meth c X D aC ad ad0 n0 ls H locs cells slots mc ms hF hB hH hG hS hL hc hs)
theorem z_aald {a t j n b : Nat} {C : String} {i : Int32} (ht : zT μ tb) (hk : zat tb k = some (pc, .aaload, 1, nx)) (ha : a < S.2.2) (hkd : S.2.1 a = (100 + t, n)) (h4 : 4 ≤ t) (hty : zty[t]? = some (.object C)) (hj : i = nI j) (hjn : j < n) (hn : n ≤ 1000000) (hr : S.1 a j = some b) (kk : Z μ d kc ks nx L (.ref b :: st) S I J Q) : Z μ d kc ks pc L (.int i :: .ref a :: st) S I J Q := by
  intro p l e R s m args below meth c X D aC ad ad0 n0 ls H locs cells slots mc ms hF hB hH hG hS hL hc hs
  obtain ⟨hd, rfl⟩ := ht.at hk
  obtain ⟨hi, hcl⟩ := z_clamp hj hjn hn
  have he : (zW aC ad S I J)[a]? = some (ad a, .inl (aC t, n, .inr (.inr (.inr (.inr fun j => (S.1 a j).map ad))))) := by rw [zW_get ha, zE_r hkd h4]
  refine va_aldq hF.1 hF.2.1 hB.2.1 hH.1 a t he (zTy_get hty) hi hd ?_
  rw [hcl]
  show W p l e R s m args below meth c H locs cells slots _ (F0 m (pc + 1) ls (va_rf ((S.1 a j).map ad) :: st.map (zv ad)))
  rw [hr]
  exact kk p l e R s m args below meth c X D aC ad ad0 n0 ls H locs cells slots mc ms hF hB hH hG hS hL hc hs

theorem z_iret {v : Int32} (ht : zT μ tb) (hk : zat tb k = some (pc, .ireturn, 1, nx)) (hr : μ.2.2.2.1 = some .int) (hq : Q (.inl (some (.int v))) S I J) : Z μ d kc ks pc L [.int v] S I J Q := by
  intro p l e R s m args below meth c X D aC ad ad0 n0 ls H locs cells slots mc ms hF hB hH hG hS hL hc hs
  obtain ⟨hd, rfl⟩ := ht.at hk
  refine W.widen (k := mc) (n := ms) (by omega) (by omega) (vx_ret ?_)
  exact W.iret hF.1 hF.2.1 (hF.2.2.2.2.2.1.trans hr) (fun t hth hw => ⟨⟨_, S, I, J, ad, rfl, hq, by rw [hth]; exact hH, hG⟩, hS.F hth⟩) (fun q hq => hS.2.2 q hq) hd hF.2.2.2.2.2.2.1

theorem z_zret {v : Int32} (ht : zT μ tb) (hk : zat tb k = some (pc, .ireturn, 1, nx)) (hr : μ.2.2.2.1 = some .boolean) (hv : v = 0 ∨ v = 1) (hq : Q (.inl (some (.int v))) S I J) : Z μ d kc ks pc L [.int v] S I J Q := by
  intro p l e R s m args below meth c X D aC ad ad0 n0 ls H locs cells slots mc ms hF hB hH hG hS hL hc hs
  obtain ⟨hd, rfl⟩ := ht.at hk
  refine W.widen (k := mc) (n := ms) (by omega) (by omega) (vx_ret ?_)
  exact W.zret (ty := .boolean) hF.1 hF.2.1 (hF.2.2.2.2.2.1.trans hr) (by rcases hv with rfl | rfl <;> rfl) (fun t hth hw => ⟨⟨_, S, I, J, ad, rfl, hq, by rw [hth]; exact hH, hG⟩, hS.F hth⟩) (fun q hq => hS.2.2 q hq) hd hF.2.2.2.2.2.2.1

theorem z_lret {v : Int64} (ht : zT μ tb) (hk : zat tb k = some (pc, .lreturn, 1, nx)) (hr : μ.2.2.2.1 = some .long) (hq : Q (.inl (some (.long v))) S I J) : Z μ d kc ks pc L [.long v] S I J Q := by
  intro p l e R s m args below meth c X D aC ad ad0 n0 ls H locs cells slots mc ms hF hB hH hG hS hL hc hs
  obtain ⟨hd, rfl⟩ := ht.at hk
  refine W.widen (k := mc) (n := ms) (by omega) (by omega) (vx_ret ?_)
  exact W.lret hF.1 hF.2.1 (hF.2.2.2.2.2.1.trans hr) (fun t hth hw => ⟨⟨_, S, I, J, ad, rfl, hq, by rw [hth]; exact hH, hG⟩, hS.F hth⟩) (fun q hq => hS.2.2 q hq) hd hF.2.2.2.2.2.2.1

theorem z_vret  (ht : zT μ tb) (hk : zat tb k = some (pc, .return_, 1, nx)) (hr : μ.2.2.2.1 = none) (hq : Q (.inl (none)) S I J) : Z μ d kc ks pc L [] S I J Q := by
  intro p l e R s m args below meth c X D aC ad ad0 n0 ls H locs cells slots mc ms hF hB hH hG hS hL hc hs
  obtain ⟨hd, rfl⟩ := ht.at hk
  refine W.widen (k := mc) (n := ms) (by omega) (by omega) (vx_ret ?_)
  exact W.vret hF.1 hF.2.1 (hF.2.2.2.2.2.1.trans hr) (fun t hth hw => ⟨⟨_, S, I, J, ad, rfl, hq, by rw [hth]; exact hH, hG⟩, hS.F hth⟩) (fun q hq => hS.2.2 q hq) hd hF.2.2.2.2.2.2.1

theorem z_aret {b : Nat} {rt : FieldType} (ht : zT μ tb) (hk : zat tb k = some (pc, .areturn, 1, nx)) (hr : μ.2.2.2.1 = some rt) (hrt : (∃ n, rt = .object n) ∨ ∃ t, rt = .array t) (hq : Q (.inl (some (.ref b))) S I J) : Z μ d kc ks pc L [.ref b] S I J Q := by
  intro p l e R s m args below meth c X D aC ad ad0 n0 ls H locs cells slots mc ms hF hB hH hG hS hL hc hs
  obtain ⟨hd, rfl⟩ := ht.at hk
  refine W.widen (k := mc) (n := ms) (by omega) (by omega) (vx_ret ?_)
  exact W.aret hF.1 hF.2.1 (hF.2.2.2.2.2.1.trans hr) hrt (Or.inr ⟨_, rfl⟩) (fun t hth hw => ⟨⟨some (.ref b), S, I, J, ad, rfl, hq, by rw [hth]; exact hH, hG⟩, hS.F hth⟩) (fun q hq => hS.2.2 q hq) hd hF.2.2.2.2.2.2.1
/-- constants of the pool -/
theorem z_ldcw {idx : Nat} {v : Int32} (ht : zT μ tb) (hk : zat tb k = some (pc, .ldc_w idx, 3, nx)) (hw : Cond.constant μ.1.cls idx v ∈ zG) (kk : Z μ d kc ks nx L (.int v :: st) S I J Q) : Z μ d kc ks pc L st S I J Q := by
  intro p l e R s m args below meth c X D aC ad ad0 n0 ls H locs cells slots mc ms hF hB hH hG hS hL hc hs
  obtain ⟨hd, rfl⟩ := ht.at hk
  exact lv_ldcw hF.1 hF.2.1 hF.2.2.2.1 (hF.2.2.2.2.1 _ hw) hd (kk p l e R s m args below meth c X D aC ad ad0 n0 ls H locs cells slots mc ms hF hB hH hG hS hL hc hs)
theorem z_ldc {idx : Nat} {v : Int32} (ht : zT μ tb) (hk : zat tb k = some (pc, .ldc idx, 2, nx)) (hw : Cond.constant μ.1.cls idx v ∈ zG) (kk : Z μ d kc ks nx L (.int v :: st) S I J Q) : Z μ d kc ks pc L st S I J Q := by
  intro p l e R s m args below meth c X D aC ad ad0 n0 ls H locs cells slots mc ms hF hB hH hG hS hL hc hs
  obtain ⟨hd, rfl⟩ := ht.at hk
  exact lv_ldc hF.1 hF.2.1 hF.2.2.2.1 (hF.2.2.2.2.1 _ hw) hd (kk p l e R s m args below meth c X D aC ad ad0 n0 ls H locs cells slots mc ms hF hB hH hG hS hL hc hs)
theorem z_ldc2 {idx : Nat} {v : Int64} (ht : zT μ tb) (hk : zat tb k = some (pc, .ldc2_w idx, 3, nx)) (hw : Cond.constantLong μ.1.cls idx v ∈ zG) (kk : Z μ d kc ks nx L (.long v :: st) S I J Q) : Z μ d kc ks pc L st S I J Q := by
  intro p l e R s m args below meth c X D aC ad ad0 n0 ls H locs cells slots mc ms hF hB hH hG hS hL hc hs
  obtain ⟨hd, rfl⟩ := ht.at hk
  exact lv_ldc2 hF.1 hF.2.1 hF.2.2.2.1 (hF.2.2.2.2.1 _ hw) hd (kk p l e R s m args below meth c X D aC ad ad0 n0 ls H locs cells slots mc ms hF hB hH hG hS hL hc hs)
/-- the two static rows of the class -/
theorem z_getsT {idx : Nat} (ht : zT μ tb) (hk : zat tb k = some (pc, .getstatic idx, 3, nx)) (hw : Cond.fieldLink μ.1.cls idx "FoundThings" "TRUE_BITS" "[J" ∈ zG) (kk : Z μ d kc ks nx L (.ref (zXB + 0) :: st) S I J Q) : Z μ d kc ks pc L st S I J Q := by
  intro p l e R s m args below meth c X D aC ad ad0 n0 ls H locs cells slots mc ms hF hB hH hG hS hL hc hs
  obtain ⟨hd, rfl⟩ := ht.at hk
  have kk' := kk p l e R s m args below meth c X D aC ad ad0 n0 ls H locs cells slots mc ms hF hB hH hG hS hL hc hs
  rw [List.map_cons, show zv ad (.ref (zXB + 0)) = .ref (X.2 0) from congrArg Value.ref (hH.2.2.1 0)] at kk'
  exact va_gets hF.1 hF.2.1 hB.2.2.2.2.2.2.2.1.1 hS hF.2.2.2.1 (hF.2.2.2.2.1 _ hw) (fun _ h => h) hd kk'
theorem z_getsN {idx : Nat} (ht : zT μ tb) (hk : zat tb k = some (pc, .getstatic idx, 3, nx)) (hw : Cond.fieldLink μ.1.cls idx "FoundThings" "NO_NAMES" "[I" ∈ zG) (kk : Z μ d kc ks nx L (.ref (zXB + 1) :: st) S I J Q) : Z μ d kc ks pc L st S I J Q := by
  intro p l e R s m args below meth c X D aC ad ad0 n0 ls H locs cells slots mc ms hF hB hH hG hS hL hc hs
  obtain ⟨hd, rfl⟩ := ht.at hk
  have kk' := kk p l e R s m args below meth c X D aC ad ad0 n0 ls H locs cells slots mc ms hF hB hH hG hS hL hc hs
  rw [List.map_cons, show zv ad (.ref (zXB + 1)) = .ref (X.2 1) from congrArg Value.ref (hH.2.2.1 1)] at kk'
  exact va_gets hF.1 hF.2.1 hB.2.2.2.2.2.2.2.1.2.2.1 hS hF.2.2.2.1 (hF.2.2.2.2.1 _ hw) (fun _ h => h) hd kk'
theorem z_tlen (ht : zT μ tb) (hk : zat tb k = some (pc, .arraylength, 1, nx)) (kk : Z μ d kc ks nx L (.int 6 :: st) S I J Q) : Z μ d kc ks pc L (.ref (zXB + 0) :: st) S I J Q := by
  intro p l e R s m args below meth c X D aC ad ad0 n0 ls H locs cells slots mc ms hF hB hH hG hS hL hc hs
  obtain ⟨hd, rfl⟩ := ht.at hk
  rw [List.map_cons, show zv ad (.ref (zXB + 0)) = .ref (X.2 0) from congrArg Value.ref (hH.2.2.1 0)]
  exact va_tlen hF.1 hF.2.1 hB.2.2.2.2.2.2.2.1.2.1 hS (v := 6) rfl hd (kk p l e R s m args below meth c X D aC ad ad0 n0 ls H locs cells slots mc ms hF hB hH hG hS hL hc hs)
theorem z_nlen (ht : zT μ tb) (hk : zat tb k = some (pc, .arraylength, 1, nx)) (kk : Z μ d kc ks nx L (.int 10 :: st) S I J Q) : Z μ d kc ks pc L (.ref (zXB + 1) :: st) S I J Q := by
  intro p l e R s m args below meth c X D aC ad ad0 n0 ls H locs cells slots mc ms hF hB hH hG hS hL hc hs
  obtain ⟨hd, rfl⟩ := ht.at hk
  rw [List.map_cons, show zv ad (.ref (zXB + 1)) = .ref (X.2 1) from congrArg Value.ref (hH.2.2.1 1)]
  exact va_tlen hF.1 hF.2.1 hB.2.2.2.2.2.2.2.1.2.2.2.1 hS (v := 10) rfl hd (kk p l e R s m args below meth c X D aC ad ad0 n0 ls H locs cells slots mc ms hF hB hH hG hS hL hc hs)
theorem z_tald {j : Nat} {i : Int32} {v : Int64} (ht : zT μ tb) (hk : zat tb k = some (pc, .laload, 1, nx)) (hj : i = nI j) (hjn : j < 6) (hv : zTB j = .long v) (kk : Z μ d kc ks nx L (.long v :: st) S I J Q) : Z μ d kc ks pc L (.int i :: .ref (zXB + 0) :: st) S I J Q := by
  intro p l e R s m args below meth c X D aC ad ad0 n0 ls H locs cells slots mc ms hF hB hH hG hS hL hc hs
  obtain ⟨hd, rfl⟩ := ht.at hk
  obtain ⟨hi, hcl⟩ := z_clamp hj hjn (by decide)
  rw [List.map_cons, List.map_cons, show zv ad (.ref (zXB + 0)) = .ref (X.2 0) from congrArg Value.ref (hH.2.2.1 0)]
  exact va_tl hF.1 hF.2.1 hB.2.2.2.2.2.2.2.1.2.1 hS hi (v := .long v) (by rw [hcl]; exact hv) hd (kk p l e R s m args below meth c X D aC ad ad0 n0 ls H locs cells slots mc ms hF hB hH hG hS hL hc hs)
theorem z_nald {j : Nat} {i : Int32} (ht : zT μ tb) (hk : zat tb k = some (pc, .iaload, 1, nx)) (hj : i = nI j) (hjn : j < 10) (kk : Z μ d kc ks nx L (.int 0 :: st) S I J Q) : Z μ d kc ks pc L (.int i :: .ref (zXB + 1) :: st) S I J Q := by
  intro p l e R s m args below meth c X D aC ad ad0 n0 ls H locs cells slots mc ms hF hB hH hG hS hL hc hs
  obtain ⟨hd, rfl⟩ := ht.at hk
  obtain ⟨hi, hcl⟩ := z_clamp hj hjn (by decide)
  rw [List.map_cons, List.map_cons, show zv ad (.ref (zXB + 1)) = .ref (X.2 1) from congrArg Value.ref (hH.2.2.1 1)]
  exact va_ti hF.1 hF.2.1 hB.2.2.2.2.2.2.2.1.2.2.2.1 hS hi (v := .int 0) rfl hd (kk p l e R s m args below meth c X D aC ad ad0 n0 ls H locs cells slots mc ms hF hB hH hG hS hL hc hs)
end
