/-! rules of Z for fields and arrays, and the ends of a method -/
def zCk (ci : Nat) (C : String) (T : u_T) (N : Nat) (ty : Nat → FieldType) : Prop := vwCl[ci]? = some (C, T, N) ∧ (∀ w ∈ u_ws C T N, w ∈ zG) ∧ (∀ k, k < N → parseFieldDescriptor (T k).2.2.1 = some (ty k)) ∧ (∀ a, a < N → ∀ b, b < N → a ≠ b → (T a).2.1 ≠ (T b).2.1) ∧ (∀ k, k < N → (T k).1 = C) ∧ (zsh ci).length = N ∧ ci < 100
/-- field k of class ci, as entry idx of own's pool -/
def zFk (own : String) (idx ci k : Nat) (ty : FieldType) (fin : Bool) : Prop := ∃ (C : String) (T : u_T) (N : Nat) (tyf : Nat → FieldType), zCk ci C T N tyf ∧ k < N ∧ tyf k = ty ∧ (T k).2.2.2 = fin ∧ ((Cond.fieldLink own idx C (T k).2.1 (T k).2.2.1 ∈ zG) ∨ ((own, idx, C, (T k).2.1, (T k).2.2.1) ∈ zNF))
theorem zE_o {aC : Nat → ClassId} {ad : Nat → Nat} {S : zS} {I : zI} {J : zJ} {i c : Nat} (h : (S.2.1 i).1 = c) (hc : c < 100) : zE aC ad S I J i = .inr (c, zFd ad S I i c) := by
  rw [zE, h, if_pos hc]
theorem zE_i {aC : Nat → ClassId} {ad : Nat → Nat} {S : zS} {I : zI} {J : zJ} {i t n : Nat} (h : S.2.1 i = (100 + t, n)) (ht : t = 0 ∨ t = 2 ∨ t = 3) : zE aC ad S I J i = .inl (aC t, n, .inl (I i)) := by
  rw [zE, h, if_neg (by show ¬ 100 + t < 100; omega), if_neg (by show ¬ 100 + t = 101; omega), if_pos (by show 100 + t < 104; omega)]
  show Sum.inl (aC (100 + t - 100), _) = _
  rw [Nat.add_sub_cancel_left]
theorem zE_l {aC : Nat → ClassId} {ad : Nat → Nat} {S : zS} {I : zI} {J : zJ} {i n : Nat} (h : S.2.1 i = (101, n)) : zE aC ad S I J i = .inl (aC 1, n, .inr (.inl (J i))) := by
  rw [zE, h, if_neg (by show ¬ 101 < 100; decide), if_pos rfl]
theorem zE_r {aC : Nat → ClassId} {ad : Nat → Nat} {S : zS} {I : zI} {J : zJ} {i t n : Nat} (h : S.2.1 i = (100 + t, n)) (ht : 4 ≤ t) : zE aC ad S I J i = .inl (aC t, n, .inr (.inr (.inr (.inr fun j => (S.1 i j).map ad)))) := by
  rw [zE, h, if_neg (by show ¬ 100 + t < 100; omega), if_neg (by show ¬ 100 + t = 101; omega), if_neg (by show ¬ 100 + t < 104; omega)]
  show Sum.inl (aC (100 + t - 100), _) = _
  rw [Nat.add_sub_cancel_left]
theorem zE_I {aC : Nat → ClassId} {ad : Nat → Nat} {S : zS} {I I' : zI} {J J' : zJ} {i : Nat} (h : I' i = I i) (hj : J' i = J i) : zE aC ad S I' J' i = zE aC ad S I J i := by
  simp only [zE, zFd, h, hj]
theorem zE_S {aC : Nat → ClassId} {ad : Nat → Nat} {S S' : zS} {I : zI} {J : zJ} {i : Nat} (h : S'.1 i = S.1 i) (h2 : S'.2.1 i = S.2.1 i) : zE aC ad S' I J i = zE aC ad S I J i := by
  simp only [zE, zFd, h, h2]
theorem zNF_own {own : String} {i : Nat} {C n d : String} (h : (own, i, C, n, d) ∈ zNF) (hc : C = own) : False := by
  have h2 : zNF.all (fun q => decide (q.2.2.1 ≠ q.1)) = true := by decide +kernel
  have h3 := List.all_eq_true.mp h2 _ h
  simp [hc] at h3
section
variable {μ : zM} {d kc ks pc nx k : Nat} {L : zL} {st : List Value} {S : zS} {I : zI} {J : zJ} {Q : zQ} {tb : zTb}
theorem z_getI {idx ci f a : Nat} {ty : FieldType} {fin : Bool} (ht : zT μ tb) (hk : zat tb k = some (pc, .getfield idx, 3, nx)) (F : zFk μ.1.cls idx ci f ty fin) (hsh : (zsh ci)[f]? = some false) (ha : a < S.2.2) (hkd : (S.2.1 a).1 = ci) (kk : Z μ d kc ks nx L (.int (I a f) :: st) S I J Q) : Z μ d kc ks pc L (.ref a :: st) S I J Q := by
  intro p l e R s m args below meth c X D aC ad ad0 n0 ls H locs cells slots mc ms hF hB hH hG hS hL hc hs
  obtain ⟨hd, rfl⟩ := ht.at hk
  obtain ⟨C, T, N, tyf, ⟨hcl, hws, hty, hnm, hdc, hln, hci⟩, hN, -, -, hlk⟩ := F
  have he : (zW aC ad S I J)[a]? = some (ad a, .inr (ci, zFd ad S I a ci)) := by rw [zW_get ha, zE_o hkd hci]
  have hv : (zFd ad S I a ci)[f]? = some (.int (I a f)) := by rw [zFd_get hsh]; rfl
  have kk' := kk p l e R s m args below meth c X D aC ad ad0 n0 ls H locs cells slots mc ms hF hB hH hG hS hL hc hs
  rcases hlk with hlk | hlk
  · exact va_get hF.1 hF.2.1 (ref := C) hF.2.2.2.2.1 hws hF.2.2.2.1 hB.2.1 hH.1 a he hcl f hN (hF.2.2.2.2.1 _ hlk) (by rw [hdc f hN]; exact fun _ h => h) hv hd kk'
  · exact va_getN hF.1 hF.2.1 (ref := C) (host := "FoundThings") hF.2.2.2.2.1 hws hF.2.2.2.1 hB.2.1 hH.1 a he hcl f hN (va_Nw.use rfl (hB.2.2.1 _ hlk)) (by rw [hdc f hN]; exact fun _ h => h) hv hd kk'
theorem z_getR {idx ci f a b : Nat} {ty : FieldType} {fin : Bool} (ht : zT μ tb) (hk : zat tb k = some (pc, .getfield idx, 3, nx)) (F : zFk μ.1.cls idx ci f ty fin) (hsh : (zsh ci)[f]? = some true) (ha : a < S.2.2) (hkd : (S.2.1 a).1 = ci) (hr : S.1 a f = some b) (kk : Z μ d kc ks nx L (.ref b :: st) S I J Q) : Z μ d kc ks pc L (.ref a :: st) S I J Q := by
  intro p l e R s m args below meth c X D aC ad ad0 n0 ls H locs cells slots mc ms hF hB hH hG hS hL hc hs
  obtain ⟨hd, rfl⟩ := ht.at hk
  obtain ⟨C, T, N, tyf, ⟨hcl, hws, hty, hnm, hdc, hln, hci⟩, hN, -, -, hlk⟩ := F
  have he : (zW aC ad S I J)[a]? = some (ad a, .inr (ci, zFd ad S I a ci)) := by rw [zW_get ha, zE_o hkd hci]
  have hv : (zFd ad S I a ci)[f]? = some (.ref (ad b)) := by rw [zFd_get hsh, hr]; rfl
  have kk' := kk p l e R s m args below meth c X D aC ad ad0 n0 ls H locs cells slots mc ms hF hB hH hG hS hL hc hs
  rcases hlk with hlk | hlk
  · exact va_get hF.1 hF.2.1 (ref := C) hF.2.2.2.2.1 hws hF.2.2.2.1 hB.2.1 hH.1 a he hcl f hN (hF.2.2.2.2.1 _ hlk) (by rw [hdc f hN]; exact fun _ h => h) hv hd kk'
  · exact va_getN hF.1 hF.2.1 (ref := C) (host := "FoundThings") hF.2.2.2.2.1 hws hF.2.2.2.1 hB.2.1 hH.1 a he hcl f hN (va_Nw.use rfl (hB.2.2.1 _ hlk)) (by rw [hdc f hN]; exact fun _ h => h) hv hd kk'
theorem zHp.setI {X : zX} {D : va_G} {aC : Nat → ClassId} {ad : Nat → Nat} {I' : zI} {J' : zJ} {S' : zS} {H H1 : Heap} {a : Nat} {e : va_E} (h : zHp X D aC ad S I J H) (hn : S'.2.2 = S.2.2) (hP : va_P D vwCl ((zW aC ad S I J).set a (ad a, e)) H1) (hD : va_D (zA X.1) ((zW aC ad S I J).set a (ad a, e))) (he : zE aC ad S' I' J' a = e) (ho : ∀ i, i ≠ a → zE aC ad S' I' J' i = zE aC ad S I J i) (hq : zScr X S → zScr X S' := by exact id) : zHp X D aC ad S' I' J' H1 := by
  rw [zW_set hn he ho] at hP hD
  exact ⟨hP, hD, h.2.2.1, by rw [hn]; exact h.2.2.2.1, hq h.2.2.2.2⟩
theorem zScr.uR {X : zX} {a k : Nat} {v : Option Nat} (ha : a < S.2.2) (hz : S.2.2 ≤ zXB) (h : zScr X S) : zScr X (zuR S a k v) := ⟨h.1, fun j => by show zu S.1 a k v (zXB + 4) j = _; rw [zu_o _ _ (by omega)]; exact h.2 j⟩
theorem z_putI {idx ci f a : Nat} {ty : FieldType} {v : Int32} (ht : zT μ tb) (hk : zat tb k = some (pc, .putfield idx, 3, nx)) (F : zFk μ.1.cls idx ci f ty false) (hsh : (zsh ci)[f]? = some false) (hn : narrow ty (.int v) = .int v) (hfit : fits ty (.int v) = true) (ha : a < S.2.2) (hkd : (S.2.1 a).1 = ci) (kk : Z μ d kc ks nx L st S (zu I a f v) J Q) : Z μ d kc ks pc L (.int v :: .ref a :: st) S I J Q := by
  intro p l e R s m args below meth c X D aC ad ad0 n0 ls H locs cells slots mc ms hF hB hH hG hS hL hc hs
  obtain ⟨hd, rfl⟩ := ht.at hk
  obtain ⟨C, T, N, tyf, ⟨hcl, hws, hty, hnm, hdc, hln, hci⟩, hN, htk, hfin, hlk⟩ := F
  have he : (zW aC ad S I J)[a]? = some (ad a, .inr (ci, zFd ad S I a ci)) := by rw [zW_get ha, zE_o hkd hci]
  have hl : f < (zFd ad S I a ci).length := by rw [zFd_len, hln]; exact hN
  have hpd : parseFieldDescriptor (T f).2.2.1 = some ty := by rw [hty f hN, htk]
  have fin : ∀ (H1 : Heap) (locs1 : List Loc), va_P D vwCl ((zW aC ad S I J).set a (ad a, .inr (ci, (zFd ad S I a ci).set f (.int v)))) H1 → va_D (zA X.1) ((zW aC ad S I J).set a (ad a, .inr (ci, (zFd ad S I a ci).set f (.int v)))) → va_S (zA X.1) s.heap H1 locs1 → W p l e R s m args below meth c H1 locs1 cells slots (vx_MQ below (zQc X D aC ad0 n0 Q) (zXc X D aC ad0 n0 Q) args s mc ms (zA X.1)) (F0 m (pc + 3) ls (st.map (zv ad))) := fun H1 locs1 hP1 hD1 hS1 =>
    kk p l e R s m args below meth c X D aC ad ad0 n0 ls H1 locs1 cells slots mc ms hF hB (hH.setI rfl hP1 hD1 (by rw [zE_o hkd hci, zFd_setI hsh]) (fun i hi => zE_I (zu_o I v hi) rfl)) hG hS1 hL hc hs
  rcases hlk with hlk | hlk
  · exact va_put hF.1 hF.2.1 (ref := C) hF.2.2.2.2.1 hws tyf hty hnm hF.2.2.2.1 hB.2.1 hH.1 hH.2.1 hS a he hcl f hN (hF.2.2.2.2.1 _ hlk) (by rw [hdc f hN]; exact fun _ h => h) hfin hpd hn hfit hl hd fin
  · exact va_putN hF.1 hF.2.1 (ref := C) (host := "FoundThings") hF.2.2.2.2.1 hws tyf hty hnm hF.2.2.2.1 hB.2.1 hH.1 hH.2.1 hS a he hcl f hN (va_Nw.use rfl (hB.2.2.1 _ hlk)) (by rw [hdc f hN]; exact fun _ h => h) hfin hpd hn hfit hl hd fin
theorem z_putR {idx ci f a b : Nat} {ty : FieldType} {fn : Bool} (ht : zT μ tb) (hk : zat tb k = some (pc, .putfield idx, 3, nx)) (F : zFk μ.1.cls idx ci f ty fn) (hsh : (zsh ci)[f]? = some true) (hn : ∀ z, narrow ty (.ref z) = .ref z) (hfit : ∀ z, fits ty (.ref z) = true) (hfn : fn = false ∨ (μ.1.name = "<init>" ∧ vwCl[ci]?.map (·.1) = some μ.1.cls)) (ha : a < S.2.2) (hkd : (S.2.1 a).1 = ci) (kk : Z μ d kc ks nx L st (zuR S a f (some b)) I J Q) : Z μ d kc ks pc L (.ref b :: .ref a :: st) S I J Q := by
  intro p l e R s m args below meth c X D aC ad ad0 n0 ls H locs cells slots mc ms hF hB hH hG hS hL hc hs
  obtain ⟨hd, rfl⟩ := ht.at hk
  obtain ⟨C, T, N, tyf, ⟨hcl, hws, hty, hnm, hdc, hln, hci⟩, hN, htk, hfin, hlk⟩ := F
  have he : (zW aC ad S I J)[a]? = some (ad a, .inr (ci, zFd ad S I a ci)) := by rw [zW_get ha, zE_o hkd hci]
  have hl : f < (zFd ad S I a ci).length := by rw [zFd_len, hln]; exact hN
  have hpd : parseFieldDescriptor (T f).2.2.1 = some ty := by rw [hty f hN, htk]
  have fin : ∀ (H1 : Heap) (locs1 : List Loc), va_P D vwCl ((zW aC ad S I J).set a (ad a, .inr (ci, (zFd ad S I a ci).set f (.ref (ad b))))) H1 → va_D (zA X.1) ((zW aC ad S I J).set a (ad a, .inr (ci, (zFd ad S I a ci).set f (.ref (ad b))))) → va_S (zA X.1) s.heap H1 locs1 → W p l e R s m args below meth c H1 locs1 cells slots (vx_MQ below (zQc X D aC ad0 n0 Q) (zXc X D aC ad0 n0 Q) args s mc ms (zA X.1)) (F0 m (pc + 3) ls (st.map (zv ad))) := fun H1 locs1 hP1 hD1 hS1 =>
    kk p l e R s m args below meth c X D aC ad ad0 n0 ls H1 locs1 cells slots mc ms hF hB (hH.setI rfl hP1 hD1 (by rw [zE_o (show ((zuR S a f (some b)).2.1 a).1 = ci from hkd) hci, ← zFd_setR hsh]; rfl) (fun i hi => zE_S (zu_o S.1 (some b) hi) rfl) (zScr.uR ha hH.2.2.2.1)) hG hS1 hL hc hs
  rcases hfn with rfl | ⟨h1, h2⟩
  · rcases hlk with hlk | hlk
    · exact va_put hF.1 hF.2.1 (ref := C) hF.2.2.2.2.1 hws tyf hty hnm hF.2.2.2.1 hB.2.1 hH.1 hH.2.1 hS a he hcl f hN (hF.2.2.2.2.1 _ hlk) (by rw [hdc f hN]; exact fun _ h => h) hfin hpd (hn _) (hfit _) hl hd fin
    · exact va_putN hF.1 hF.2.1 (ref := C) (host := "FoundThings") hF.2.2.2.2.1 hws tyf hty hnm hF.2.2.2.1 hB.2.1 hH.1 hH.2.1 hS a he hcl f hN (va_Nw.use rfl (hB.2.2.1 _ hlk)) (by rw [hdc f hN]; exact fun _ h => h) hfin hpd (hn _) (hfit _) hl hd fin
  · have hCm : C = μ.1.cls := by rw [hcl] at h2; exact Option.some.inj h2
    cases fn with
    | false =>
      rcases hlk with hlk | hlk
      · exact va_put hF.1 hF.2.1 (ref := C) hF.2.2.2.2.1 hws tyf hty hnm hF.2.2.2.1 hB.2.1 hH.1 hH.2.1 hS a he hcl f hN (hF.2.2.2.2.1 _ hlk) (by rw [hdc f hN]; exact fun _ h => h) hfin hpd (hn _) (hfit _) hl hd fin
      · exact va_putN hF.1 hF.2.1 (ref := C) (host := "FoundThings") hF.2.2.2.2.1 hws tyf hty hnm hF.2.2.2.1 hB.2.1 hH.1 hH.2.1 hS a he hcl f hN (va_Nw.use rfl (hB.2.2.1 _ hlk)) (by rw [hdc f hN]; exact fun _ h => h) hfin hpd (hn _) (hfit _) hl hd fin
    | true =>
      rcases hlk with hlk | hlk
      · exact va_putF hF.1 hF.2.1 (ref := C) hF.2.2.2.2.1 hws tyf hty hnm hF.2.2.2.1 hB.2.1 hH.1 hH.2.1 hS a he hcl f hN (hF.2.2.2.2.1 _ hlk) (by rw [hdc f hN]; exact fun _ h => h) hfin (hF.2.2.2.2.2.2.2.2.1.trans h1) ((hdc f hN).trans hCm) hpd (hn _) (hfit _) hl hd fin
      · exact (zNF_own hlk hCm).elim
theorem z_clamp {i : Int32} {j n : Nat} (hj : i = nI j) (hjn : j < n) (hn : n ≤ 1000000) : vp_in i n ∧ i.toNatClampNeg = j := by
  subst hj
  exact ⟨vp_in_nI hjn (by omega), nI_clamp (by omega)⟩
end
