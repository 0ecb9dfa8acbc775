theorem z_iconst {μ : zM} {d kc ks pc nx k : Nat} {L : zL} {st : List Value} {S : zS} {I : zI} {J : zJ} {Q : zQ} {tb : zTb} {n : Int} (ht : zT μ tb) (hk : zat tb k = some (pc, .iconst n, 1, nx)) (kk : Z μ d kc ks nx L (.int (Int32.ofInt n) :: st) S I J Q) : Z μ d kc ks pc L (st) S I J Q := by
  intro p l e R s m args below meth c X D aC ad ad0 n0 ls H locs cells slots mc ms hF hB hH hG hS hL hc hs
  obtain ⟨hd, rfl⟩ := ht.at hk
  exact lv_iconst hF.1 hF.2.1 hd rfl (kk p l e R s m args below meth c X D aC ad ad0 n0 ls H locs cells slots mc ms hF hB hH hG hS hL hc hs)

theorem z_bipush {μ : zM} {d kc ks pc nx k : Nat} {L : zL} {st : List Value} {S : zS} {I : zI} {J : zJ} {Q : zQ} {tb : zTb} {n : Int} (ht : zT μ tb) (hk : zat tb k = some (pc, .bipush n, 2, nx)) (kk : Z μ d kc ks nx L (.int (Int8.ofInt n).toInt32 :: st) S I J Q) : Z μ d kc ks pc L (st) S I J Q := by
  intro p l e R s m args below meth c X D aC ad ad0 n0 ls H locs cells slots mc ms hF hB hH hG hS hL hc hs
  obtain ⟨hd, rfl⟩ := ht.at hk
  exact lv_bipush hF.1 hF.2.1 hd rfl (kk p l e R s m args below meth c X D aC ad ad0 n0 ls H locs cells slots mc ms hF hB hH hG hS hL hc hs)

theorem z_sipush {μ : zM} {d kc ks pc nx k : Nat} {L : zL} {st : List Value} {S : zS} {I : zI} {J : zJ} {Q : zQ} {tb : zTb} {n : Int} (ht : zT μ tb) (hk : zat tb k = some (pc, .sipush n, 3, nx)) (kk : Z μ d kc ks nx L (.int (Int16.ofInt n).toInt32 :: st) S I J Q) : Z μ d kc ks pc L (st) S I J Q := by
  intro p l e R s m args below meth c X D aC ad ad0 n0 ls H locs cells slots mc ms hF hB hH hG hS hL hc hs
  obtain ⟨hd, rfl⟩ := ht.at hk
  exact lv_sipush hF.1 hF.2.1 hd rfl (kk p l e R s m args below meth c X D aC ad ad0 n0 ls H locs cells slots mc ms hF hB hH hG hS hL hc hs)

theorem z_iconst_ {μ : zM} {d kc ks pc nx k : Nat} {L : zL} {st : List Value} {S : zS} {I : zI} {J : zJ} {Q : zQ} {tb : zTb} {n : Int} {v : Int32} (ht : zT μ tb) (hk : zat tb k = some (pc, .iconst n, 1, nx)) (hv : Int32.ofInt n = v) (kk : Z μ d kc ks nx L (.int v :: st) S I J Q) : Z μ d kc ks pc L (st) S I J Q := by
  intro p l e R s m args below meth c X D aC ad ad0 n0 ls H locs cells slots mc ms hF hB hH hG hS hL hc hs
  obtain ⟨hd, rfl⟩ := ht.at hk
  exact lv_iconst hF.1 hF.2.1 hd hv (kk p l e R s m args below meth c X D aC ad ad0 n0 ls H locs cells slots mc ms hF hB hH hG hS hL hc hs)

theorem z_bipush_ {μ : zM} {d kc ks pc nx k : Nat} {L : zL} {st : List Value} {S : zS} {I : zI} {J : zJ} {Q : zQ} {tb : zTb} {n : Int} {v : Int32} (ht : zT μ tb) (hk : zat tb k = some (pc, .bipush n, 2, nx)) (hv : (Int8.ofInt n).toInt32 = v) (kk : Z μ d kc ks nx L (.int v :: st) S I J Q) : Z μ d kc ks pc L (st) S I J Q := by
  intro p l e R s m args below meth c X D aC ad ad0 n0 ls H locs cells slots mc ms hF hB hH hG hS hL hc hs
  obtain ⟨hd, rfl⟩ := ht.at hk
  exact lv_bipush hF.1 hF.2.1 hd hv (kk p l e R s m args below meth c X D aC ad ad0 n0 ls H locs cells slots mc ms hF hB hH hG hS hL hc hs)

theorem z_sipush_ {μ : zM} {d kc ks pc nx k : Nat} {L : zL} {st : List Value} {S : zS} {I : zI} {J : zJ} {Q : zQ} {tb : zTb} {n : Int} {v : Int32} (ht : zT μ tb) (hk : zat tb k = some (pc, .sipush n, 3, nx)) (hv : (Int16.ofInt n).toInt32 = v) (kk : Z μ d kc ks nx L (.int v :: st) S I J Q) : Z μ d kc ks pc L (st) S I J Q := by
  intro p l e R s m args below meth c X D aC ad ad0 n0 ls H locs cells slots mc ms hF hB hH hG hS hL hc hs
  obtain ⟨hd, rfl⟩ := ht.at hk
  exact lv_sipush hF.1 hF.2.1 hd hv (kk p l e R s m args below meth c X D aC ad ad0 n0 ls H locs cells slots mc ms hF hB hH hG hS hL hc hs)

theorem z_lconst_ {μ : zM} {d kc ks pc nx k : Nat} {L : zL} {st : List Value} {S : zS} {I : zI} {J : zJ} {Q : zQ} {tb : zTb} {n : Fin 2} {v : Int64} (ht : zT μ tb) (hk : zat tb k = some (pc, .lconst n, 1, nx)) (hv : Int64.ofNat (n : Nat) = v) (kk : Z μ d kc ks nx L (.long v :: st) S I J Q) : Z μ d kc ks pc L (st) S I J Q := by
  intro p l e R s m args below meth c X D aC ad ad0 n0 ls H locs cells slots mc ms hF hB hH hG hS hL hc hs
  obtain ⟨hd, rfl⟩ := ht.at hk
  exact lv_lconst hF.1 hF.2.1 hd hv (kk p l e R s m args below meth c X D aC ad ad0 n0 ls H locs cells slots mc ms hF hB hH hG hS hL hc hs)

theorem z_iload_n {μ : zM} {d kc ks pc nx k : Nat} {L : zL} {st : List Value} {S : zS} {I : zI} {J : zJ} {Q : zQ} {tb : zTb} {i : Fin 4} {x : Int32} (ht : zT μ tb) (hk : zat tb k = some (pc, .iload_n i, 1, nx)) (hl : L[(i : Nat)]? = some (some (.int x))) (kk : Z μ d kc ks nx L (.int x :: st) S I J Q) : Z μ d kc ks pc L (st) S I J Q := by
  intro p l e R s m args below meth c X D aC ad ad0 n0 ls H locs cells slots mc ms hF hB hH hG hS hL hc hs
  obtain ⟨hd, rfl⟩ := ht.at hk
  exact lv_iload_n hF.1 hF.2.1 hd rfl (hL.2.2 _ _ hl) (kk p l e R s m args below meth c X D aC ad ad0 n0 ls H locs cells slots mc ms hF hB hH hG hS hL hc hs)

theorem z_iload {μ : zM} {d kc ks pc nx k : Nat} {L : zL} {st : List Value} {S : zS} {I : zI} {J : zJ} {Q : zQ} {tb : zTb} {i : Nat} {x : Int32} (ht : zT μ tb) (hk : zat tb k = some (pc, .iload i, 2, nx)) (hl : L[i]? = some (some (.int x))) (kk : Z μ d kc ks nx L (.int x :: st) S I J Q) : Z μ d kc ks pc L (st) S I J Q := by
  intro p l e R s m args below meth c X D aC ad ad0 n0 ls H locs cells slots mc ms hF hB hH hG hS hL hc hs
  obtain ⟨hd, rfl⟩ := ht.at hk
  exact lv_iload hF.1 hF.2.1 hd (hL.2.2 _ _ hl) (kk p l e R s m args below meth c X D aC ad ad0 n0 ls H locs cells slots mc ms hF hB hH hG hS hL hc hs)

theorem z_lload_n {μ : zM} {d kc ks pc nx k : Nat} {L : zL} {st : List Value} {S : zS} {I : zI} {J : zJ} {Q : zQ} {tb : zTb} {i : Fin 4} {x : Int64} (ht : zT μ tb) (hk : zat tb k = some (pc, .lload_n i, 1, nx)) (hl : L[(i : Nat)]? = some (some (.long x))) (kk : Z μ d kc ks nx L (.long x :: st) S I J Q) : Z μ d kc ks pc L (st) S I J Q := by
  intro p l e R s m args below meth c X D aC ad ad0 n0 ls H locs cells slots mc ms hF hB hH hG hS hL hc hs
  obtain ⟨hd, rfl⟩ := ht.at hk
  exact lv_lload_n hF.1 hF.2.1 hd rfl (hL.2.2 _ _ hl) (kk p l e R s m args below meth c X D aC ad ad0 n0 ls H locs cells slots mc ms hF hB hH hG hS hL hc hs)

theorem z_lload {μ : zM} {d kc ks pc nx k : Nat} {L : zL} {st : List Value} {S : zS} {I : zI} {J : zJ} {Q : zQ} {tb : zTb} {i : Nat} {x : Int64} (ht : zT μ tb) (hk : zat tb k = some (pc, .lload i, 2, nx)) (hl : L[i]? = some (some (.long x))) (kk : Z μ d kc ks nx L (.long x :: st) S I J Q) : Z μ d kc ks pc L (st) S I J Q := by
  intro p l e R s m args below meth c X D aC ad ad0 n0 ls H locs cells slots mc ms hF hB hH hG hS hL hc hs
  obtain ⟨hd, rfl⟩ := ht.at hk
  exact lv_lload hF.1 hF.2.1 hd (hL.2.2 _ _ hl) (kk p l e R s m args below meth c X D aC ad ad0 n0 ls H locs cells slots mc ms hF hB hH hG hS hL hc hs)

theorem z_aload_n {μ : zM} {d kc ks pc nx k : Nat} {L : zL} {st : List Value} {S : zS} {I : zI} {J : zJ} {Q : zQ} {tb : zTb} {i : Fin 4} {x : Nat} (ht : zT μ tb) (hk : zat tb k = some (pc, .aload_n i, 1, nx)) (hl : L[(i : Nat)]? = some (some (.ref x))) (kk : Z μ d kc ks nx L (.ref x :: st) S I J Q) : Z μ d kc ks pc L (st) S I J Q := by
  intro p l e R s m args below meth c X D aC ad ad0 n0 ls H locs cells slots mc ms hF hB hH hG hS hL hc hs
  obtain ⟨hd, rfl⟩ := ht.at hk
  exact lv_aload_n hF.1 hF.2.1 hd rfl (hL.2.2 _ _ hl) (kk p l e R s m args below meth c X D aC ad ad0 n0 ls H locs cells slots mc ms hF hB hH hG hS hL hc hs)

theorem z_aload {μ : zM} {d kc ks pc nx k : Nat} {L : zL} {st : List Value} {S : zS} {I : zI} {J : zJ} {Q : zQ} {tb : zTb} {i x : Nat} (ht : zT μ tb) (hk : zat tb k = some (pc, .aload i, 2, nx)) (hl : L[i]? = some (some (.ref x))) (kk : Z μ d kc ks nx L (.ref x :: st) S I J Q) : Z μ d kc ks pc L (st) S I J Q := by
  intro p l e R s m args below meth c X D aC ad ad0 n0 ls H locs cells slots mc ms hF hB hH hG hS hL hc hs
  obtain ⟨hd, rfl⟩ := ht.at hk
  exact lv_aload hF.1 hF.2.1 hd (hL.2.2 _ _ hl) (kk p l e R s m args below meth c X D aC ad ad0 n0 ls H locs cells slots mc ms hF hB hH hG hS hL hc hs)

theorem z_iadd {μ : zM} {d kc ks pc nx k : Nat} {L : zL} {st : List Value} {S : zS} {I : zI} {J : zJ} {Q : zQ} {tb : zTb} {x y : Int32} (ht : zT μ tb) (hk : zat tb k = some (pc, .iadd, 1, nx)) (kk : Z μ d kc ks nx L (.int (x + y) :: st) S I J Q) : Z μ d kc ks pc L (.int y :: .int x :: st) S I J Q := by
  intro p l e R s m args below meth c X D aC ad ad0 n0 ls H locs cells slots mc ms hF hB hH hG hS hL hc hs
  obtain ⟨hd, rfl⟩ := ht.at hk
  exact lv_iadd hF.1 hF.2.1 hd  (kk p l e R s m args below meth c X D aC ad ad0 n0 ls H locs cells slots mc ms hF hB hH hG hS hL hc hs)

theorem z_isub {μ : zM} {d kc ks pc nx k : Nat} {L : zL} {st : List Value} {S : zS} {I : zI} {J : zJ} {Q : zQ} {tb : zTb} {x y : Int32} (ht : zT μ tb) (hk : zat tb k = some (pc, .isub, 1, nx)) (kk : Z μ d kc ks nx L (.int (x - y) :: st) S I J Q) : Z μ d kc ks pc L (.int y :: .int x :: st) S I J Q := by
  intro p l e R s m args below meth c X D aC ad ad0 n0 ls H locs cells slots mc ms hF hB hH hG hS hL hc hs
  obtain ⟨hd, rfl⟩ := ht.at hk
  exact lv_isub hF.1 hF.2.1 hd  (kk p l e R s m args below meth c X D aC ad ad0 n0 ls H locs cells slots mc ms hF hB hH hG hS hL hc hs)

theorem z_imul {μ : zM} {d kc ks pc nx k : Nat} {L : zL} {st : List Value} {S : zS} {I : zI} {J : zJ} {Q : zQ} {tb : zTb} {x y : Int32} (ht : zT μ tb) (hk : zat tb k = some (pc, .imul, 1, nx)) (kk : Z μ d kc ks nx L (.int (x * y) :: st) S I J Q) : Z μ d kc ks pc L (.int y :: .int x :: st) S I J Q := by
  intro p l e R s m args below meth c X D aC ad ad0 n0 ls H locs cells slots mc ms hF hB hH hG hS hL hc hs
  obtain ⟨hd, rfl⟩ := ht.at hk
  exact lv_imul hF.1 hF.2.1 hd  (kk p l e R s m args below meth c X D aC ad ad0 n0 ls H locs cells slots mc ms hF hB hH hG hS hL hc hs)

theorem z_iand {μ : zM} {d kc ks pc nx k : Nat} {L : zL} {st : List Value} {S : zS} {I : zI} {J : zJ} {Q : zQ} {tb : zTb} {x y : Int32} (ht : zT μ tb) (hk : zat tb k = some (pc, .iand, 1, nx)) (kk : Z μ d kc ks nx L (.int (x &&& y) :: st) S I J Q) : Z μ d kc ks pc L (.int y :: .int x :: st) S I J Q := by
  intro p l e R s m args below meth c X D aC ad ad0 n0 ls H locs cells slots mc ms hF hB hH hG hS hL hc hs
  obtain ⟨hd, rfl⟩ := ht.at hk
  exact lv_iand hF.1 hF.2.1 hd  (kk p l e R s m args below meth c X D aC ad ad0 n0 ls H locs cells slots mc ms hF hB hH hG hS hL hc hs)

theorem z_ior {μ : zM} {d kc ks pc nx k : Nat} {L : zL} {st : List Value} {S : zS} {I : zI} {J : zJ} {Q : zQ} {tb : zTb} {x y : Int32} (ht : zT μ tb) (hk : zat tb k = some (pc, .ior, 1, nx)) (kk : Z μ d kc ks nx L (.int (x ||| y) :: st) S I J Q) : Z μ d kc ks pc L (.int y :: .int x :: st) S I J Q := by
  intro p l e R s m args below meth c X D aC ad ad0 n0 ls H locs cells slots mc ms hF hB hH hG hS hL hc hs
  obtain ⟨hd, rfl⟩ := ht.at hk
  exact lv_ior hF.1 hF.2.1 hd  (kk p l e R s m args below meth c X D aC ad ad0 n0 ls H locs cells slots mc ms hF hB hH hG hS hL hc hs)

theorem z_ixor {μ : zM} {d kc ks pc nx k : Nat} {L : zL} {st : List Value} {S : zS} {I : zI} {J : zJ} {Q : zQ} {tb : zTb} {x y : Int32} (ht : zT μ tb) (hk : zat tb k = some (pc, .ixor, 1, nx)) (kk : Z μ d kc ks nx L (.int (x ^^^ y) :: st) S I J Q) : Z μ d kc ks pc L (.int y :: .int x :: st) S I J Q := by
  intro p l e R s m args below meth c X D aC ad ad0 n0 ls H locs cells slots mc ms hF hB hH hG hS hL hc hs
  obtain ⟨hd, rfl⟩ := ht.at hk
  exact lv_ixor hF.1 hF.2.1 hd  (kk p l e R s m args below meth c X D aC ad ad0 n0 ls H locs cells slots mc ms hF hB hH hG hS hL hc hs)

theorem z_ishl {μ : zM} {d kc ks pc nx k : Nat} {L : zL} {st : List Value} {S : zS} {I : zI} {J : zJ} {Q : zQ} {tb : zTb} {x y : Int32} (ht : zT μ tb) (hk : zat tb k = some (pc, .ishl, 1, nx)) (kk : Z μ d kc ks nx L (.int (x <<< (y &&& 31)) :: st) S I J Q) : Z μ d kc ks pc L (.int y :: .int x :: st) S I J Q := by
  intro p l e R s m args below meth c X D aC ad ad0 n0 ls H locs cells slots mc ms hF hB hH hG hS hL hc hs
  obtain ⟨hd, rfl⟩ := ht.at hk
  exact lv_ishl hF.1 hF.2.1 hd  (kk p l e R s m args below meth c X D aC ad ad0 n0 ls H locs cells slots mc ms hF hB hH hG hS hL hc hs)

theorem z_ishr {μ : zM} {d kc ks pc nx k : Nat} {L : zL} {st : List Value} {S : zS} {I : zI} {J : zJ} {Q : zQ} {tb : zTb} {x y : Int32} (ht : zT μ tb) (hk : zat tb k = some (pc, .ishr, 1, nx)) (kk : Z μ d kc ks nx L (.int (x >>> (y &&& 31)) :: st) S I J Q) : Z μ d kc ks pc L (.int y :: .int x :: st) S I J Q := by
  intro p l e R s m args below meth c X D aC ad ad0 n0 ls H locs cells slots mc ms hF hB hH hG hS hL hc hs
  obtain ⟨hd, rfl⟩ := ht.at hk
  exact lv_ishr hF.1 hF.2.1 hd  (kk p l e R s m args below meth c X D aC ad ad0 n0 ls H locs cells slots mc ms hF hB hH hG hS hL hc hs)

theorem z_iushr {μ : zM} {d kc ks pc nx k : Nat} {L : zL} {st : List Value} {S : zS} {I : zI} {J : zJ} {Q : zQ} {tb : zTb} {x y : Int32} (ht : zT μ tb) (hk : zat tb k = some (pc, .iushr, 1, nx)) (kk : Z μ d kc ks nx L (.int ((x.toUInt32 >>> (y.toUInt32 &&& Int32.toUInt32 31)).toInt32) :: st) S I J Q) : Z μ d kc ks pc L (.int y :: .int x :: st) S I J Q := by
  intro p l e R s m args below meth c X D aC ad ad0 n0 ls H locs cells slots mc ms hF hB hH hG hS hL hc hs
  obtain ⟨hd, rfl⟩ := ht.at hk
  exact lv_iushr hF.1 hF.2.1 hd rfl (kk p l e R s m args below meth c X D aC ad ad0 n0 ls H locs cells slots mc ms hF hB hH hG hS hL hc hs)

theorem z_idiv {μ : zM} {d kc ks pc nx k : Nat} {L : zL} {st : List Value} {S : zS} {I : zI} {J : zJ} {Q : zQ} {tb : zTb} {x y : Int32} (ht : zT μ tb) (hk : zat tb k = some (pc, .idiv, 1, nx)) (hne : ¬ y = 0) (kk : Z μ d kc ks nx L (.int (x / y) :: st) S I J Q) : Z μ d kc ks pc L (.int y :: .int x :: st) S I J Q := by
  intro p l e R s m args below meth c X D aC ad ad0 n0 ls H locs cells slots mc ms hF hB hH hG hS hL hc hs
  obtain ⟨hd, rfl⟩ := ht.at hk
  exact lv_idiv hF.1 hF.2.1 hd hne (kk p l e R s m args below meth c X D aC ad ad0 n0 ls H locs cells slots mc ms hF hB hH hG hS hL hc hs)

theorem z_irem {μ : zM} {d kc ks pc nx k : Nat} {L : zL} {st : List Value} {S : zS} {I : zI} {J : zJ} {Q : zQ} {tb : zTb} {x y : Int32} (ht : zT μ tb) (hk : zat tb k = some (pc, .irem, 1, nx)) (hne : ¬ y = 0) (kk : Z μ d kc ks nx L (.int (x - x / y * y) :: st) S I J Q) : Z μ d kc ks pc L (.int y :: .int x :: st) S I J Q := by
  intro p l e R s m args below meth c X D aC ad ad0 n0 ls H locs cells slots mc ms hF hB hH hG hS hL hc hs
  obtain ⟨hd, rfl⟩ := ht.at hk
  exact lv_irem hF.1 hF.2.1 hd hne (kk p l e R s m args below meth c X D aC ad ad0 n0 ls H locs cells slots mc ms hF hB hH hG hS hL hc hs)

theorem z_ineg {μ : zM} {d kc ks pc nx k : Nat} {L : zL} {st : List Value} {S : zS} {I : zI} {J : zJ} {Q : zQ} {tb : zTb} {x : Int32} (ht : zT μ tb) (hk : zat tb k = some (pc, .ineg, 1, nx)) (kk : Z μ d kc ks nx L (.int (-x) :: st) S I J Q) : Z μ d kc ks pc L (.int x :: st) S I J Q := by
  intro p l e R s m args below meth c X D aC ad ad0 n0 ls H locs cells slots mc ms hF hB hH hG hS hL hc hs
  obtain ⟨hd, rfl⟩ := ht.at hk
  exact lv_ineg hF.1 hF.2.1 hd  (kk p l e R s m args below meth c X D aC ad ad0 n0 ls H locs cells slots mc ms hF hB hH hG hS hL hc hs)

theorem z_ladd {μ : zM} {d kc ks pc nx k : Nat} {L : zL} {st : List Value} {S : zS} {I : zI} {J : zJ} {Q : zQ} {tb : zTb} {x y : Int64} (ht : zT μ tb) (hk : zat tb k = some (pc, .ladd, 1, nx)) (kk : Z μ d kc ks nx L (.long (x + y) :: st) S I J Q) : Z μ d kc ks pc L (.long y :: .long x :: st) S I J Q := by
  intro p l e R s m args below meth c X D aC ad ad0 n0 ls H locs cells slots mc ms hF hB hH hG hS hL hc hs
  obtain ⟨hd, rfl⟩ := ht.at hk
  exact lv_ladd hF.1 hF.2.1 hd  (kk p l e R s m args below meth c X D aC ad ad0 n0 ls H locs cells slots mc ms hF hB hH hG hS hL hc hs)

theorem z_lsub {μ : zM} {d kc ks pc nx k : Nat} {L : zL} {st : List Value} {S : zS} {I : zI} {J : zJ} {Q : zQ} {tb : zTb} {x y : Int64} (ht : zT μ tb) (hk : zat tb k = some (pc, .lsub, 1, nx)) (kk : Z μ d kc ks nx L (.long (x - y) :: st) S I J Q) : Z μ d kc ks pc L (.long y :: .long x :: st) S I J Q := by
  intro p l e R s m args below meth c X D aC ad ad0 n0 ls H locs cells slots mc ms hF hB hH hG hS hL hc hs
  obtain ⟨hd, rfl⟩ := ht.at hk
  exact lv_lsub hF.1 hF.2.1 hd  (kk p l e R s m args below meth c X D aC ad ad0 n0 ls H locs cells slots mc ms hF hB hH hG hS hL hc hs)

theorem z_lmul {μ : zM} {d kc ks pc nx k : Nat} {L : zL} {st : List Value} {S : zS} {I : zI} {J : zJ} {Q : zQ} {tb : zTb} {x y : Int64} (ht : zT μ tb) (hk : zat tb k = some (pc, .lmul, 1, nx)) (kk : Z μ d kc ks nx L (.long (x * y) :: st) S I J Q) : Z μ d kc ks pc L (.long y :: .long x :: st) S I J Q := by
  intro p l e R s m args below meth c X D aC ad ad0 n0 ls H locs cells slots mc ms hF hB hH hG hS hL hc hs
  obtain ⟨hd, rfl⟩ := ht.at hk
  exact lv_lmul hF.1 hF.2.1 hd  (kk p l e R s m args below meth c X D aC ad ad0 n0 ls H locs cells slots mc ms hF hB hH hG hS hL hc hs)

theorem z_land {μ : zM} {d kc ks pc nx k : Nat} {L : zL} {st : List Value} {S : zS} {I : zI} {J : zJ} {Q : zQ} {tb : zTb} {x y : Int64} (ht : zT μ tb) (hk : zat tb k = some (pc, .land, 1, nx)) (kk : Z μ d kc ks nx L (.long (x &&& y) :: st) S I J Q) : Z μ d kc ks pc L (.long y :: .long x :: st) S I J Q := by
  intro p l e R s m args below meth c X D aC ad ad0 n0 ls H locs cells slots mc ms hF hB hH hG hS hL hc hs
  obtain ⟨hd, rfl⟩ := ht.at hk
  exact lv_land hF.1 hF.2.1 hd  (kk p l e R s m args below meth c X D aC ad ad0 n0 ls H locs cells slots mc ms hF hB hH hG hS hL hc hs)

theorem z_lor {μ : zM} {d kc ks pc nx k : Nat} {L : zL} {st : List Value} {S : zS} {I : zI} {J : zJ} {Q : zQ} {tb : zTb} {x y : Int64} (ht : zT μ tb) (hk : zat tb k = some (pc, .lor, 1, nx)) (kk : Z μ d kc ks nx L (.long (x ||| y) :: st) S I J Q) : Z μ d kc ks pc L (.long y :: .long x :: st) S I J Q := by
  intro p l e R s m args below meth c X D aC ad ad0 n0 ls H locs cells slots mc ms hF hB hH hG hS hL hc hs
  obtain ⟨hd, rfl⟩ := ht.at hk
  exact lv_lor hF.1 hF.2.1 hd  (kk p l e R s m args below meth c X D aC ad ad0 n0 ls H locs cells slots mc ms hF hB hH hG hS hL hc hs)

theorem z_lxor {μ : zM} {d kc ks pc nx k : Nat} {L : zL} {st : List Value} {S : zS} {I : zI} {J : zJ} {Q : zQ} {tb : zTb} {x y : Int64} (ht : zT μ tb) (hk : zat tb k = some (pc, .lxor, 1, nx)) (kk : Z μ d kc ks nx L (.long (x ^^^ y) :: st) S I J Q) : Z μ d kc ks pc L (.long y :: .long x :: st) S I J Q := by
  intro p l e R s m args below meth c X D aC ad ad0 n0 ls H locs cells slots mc ms hF hB hH hG hS hL hc hs
  obtain ⟨hd, rfl⟩ := ht.at hk
  exact lv_lxor hF.1 hF.2.1 hd  (kk p l e R s m args below meth c X D aC ad ad0 n0 ls H locs cells slots mc ms hF hB hH hG hS hL hc hs)

theorem z_lshl {μ : zM} {d kc ks pc nx k : Nat} {L : zL} {st : List Value} {S : zS} {I : zI} {J : zJ} {Q : zQ} {tb : zTb} {x : Int64} {y : Int32} (ht : zT μ tb) (hk : zat tb k = some (pc, .lshl, 1, nx)) (kk : Z μ d kc ks nx L (.long (x <<< (y.toInt64 &&& 63)) :: st) S I J Q) : Z μ d kc ks pc L (.int y :: .long x :: st) S I J Q := by
  intro p l e R s m args below meth c X D aC ad ad0 n0 ls H locs cells slots mc ms hF hB hH hG hS hL hc hs
  obtain ⟨hd, rfl⟩ := ht.at hk
  exact lv_lshl hF.1 hF.2.1 hd rfl (kk p l e R s m args below meth c X D aC ad ad0 n0 ls H locs cells slots mc ms hF hB hH hG hS hL hc hs)

theorem z_lshr {μ : zM} {d kc ks pc nx k : Nat} {L : zL} {st : List Value} {S : zS} {I : zI} {J : zJ} {Q : zQ} {tb : zTb} {x : Int64} {y : Int32} (ht : zT μ tb) (hk : zat tb k = some (pc, .lshr, 1, nx)) (kk : Z μ d kc ks nx L (.long (x >>> (y.toInt64 &&& 63)) :: st) S I J Q) : Z μ d kc ks pc L (.int y :: .long x :: st) S I J Q := by
  intro p l e R s m args below meth c X D aC ad ad0 n0 ls H locs cells slots mc ms hF hB hH hG hS hL hc hs
  obtain ⟨hd, rfl⟩ := ht.at hk
  exact lv_lshr hF.1 hF.2.1 hd rfl (kk p l e R s m args below meth c X D aC ad ad0 n0 ls H locs cells slots mc ms hF hB hH hG hS hL hc hs)

theorem z_lushr {μ : zM} {d kc ks pc nx k : Nat} {L : zL} {st : List Value} {S : zS} {I : zI} {J : zJ} {Q : zQ} {tb : zTb} {x : Int64} {y : Int32} (ht : zT μ tb) (hk : zat tb k = some (pc, .lushr, 1, nx)) (kk : Z μ d kc ks nx L (.long ((x.toUInt64 >>> (y.toInt64.toUInt64 &&& Int64.toUInt64 63)).toInt64) :: st) S I J Q) : Z μ d kc ks pc L (.int y :: .long x :: st) S I J Q := by
  intro p l e R s m args below meth c X D aC ad ad0 n0 ls H locs cells slots mc ms hF hB hH hG hS hL hc hs
  obtain ⟨hd, rfl⟩ := ht.at hk
  exact lv_lushr hF.1 hF.2.1 hd rfl (kk p l e R s m args below meth c X D aC ad ad0 n0 ls H locs cells slots mc ms hF hB hH hG hS hL hc hs)

theorem z_i2l {μ : zM} {d kc ks pc nx k : Nat} {L : zL} {st : List Value} {S : zS} {I : zI} {J : zJ} {Q : zQ} {tb : zTb} {x : Int32} (ht : zT μ tb) (hk : zat tb k = some (pc, .i2l, 1, nx)) (kk : Z μ d kc ks nx L (.long x.toInt64 :: st) S I J Q) : Z μ d kc ks pc L (.int x :: st) S I J Q := by
  intro p l e R s m args below meth c X D aC ad ad0 n0 ls H locs cells slots mc ms hF hB hH hG hS hL hc hs
  obtain ⟨hd, rfl⟩ := ht.at hk
  exact lv_i2l hF.1 hF.2.1 hd rfl (kk p l e R s m args below meth c X D aC ad ad0 n0 ls H locs cells slots mc ms hF hB hH hG hS hL hc hs)

theorem z_l2i {μ : zM} {d kc ks pc nx k : Nat} {L : zL} {st : List Value} {S : zS} {I : zI} {J : zJ} {Q : zQ} {tb : zTb} {x : Int64} (ht : zT μ tb) (hk : zat tb k = some (pc, .l2i, 1, nx)) (kk : Z μ d kc ks nx L (.int x.toInt32 :: st) S I J Q) : Z μ d kc ks pc L (.long x :: st) S I J Q := by
  intro p l e R s m args below meth c X D aC ad ad0 n0 ls H locs cells slots mc ms hF hB hH hG hS hL hc hs
  obtain ⟨hd, rfl⟩ := ht.at hk
  exact lv_l2i hF.1 hF.2.1 hd rfl (kk p l e R s m args below meth c X D aC ad ad0 n0 ls H locs cells slots mc ms hF hB hH hG hS hL hc hs)

theorem z_i2b {μ : zM} {d kc ks pc nx k : Nat} {L : zL} {st : List Value} {S : zS} {I : zI} {J : zJ} {Q : zQ} {tb : zTb} {x : Int32} (ht : zT μ tb) (hk : zat tb k = some (pc, .i2b, 1, nx)) (kk : Z μ d kc ks nx L (.int x.toInt8.toInt32 :: st) S I J Q) : Z μ d kc ks pc L (.int x :: st) S I J Q := by
  intro p l e R s m args below meth c X D aC ad ad0 n0 ls H locs cells slots mc ms hF hB hH hG hS hL hc hs
  obtain ⟨hd, rfl⟩ := ht.at hk
  exact lv_i2b hF.1 hF.2.1 hd rfl (kk p l e R s m args below meth c X D aC ad ad0 n0 ls H locs cells slots mc ms hF hB hH hG hS hL hc hs)

theorem z_lcmp {μ : zM} {d kc ks pc nx k : Nat} {L : zL} {st : List Value} {S : zS} {I : zI} {J : zJ} {Q : zQ} {tb : zTb} {x y : Int64} (ht : zT μ tb) (hk : zat tb k = some (pc, .lcmp, 1, nx)) (kk : Z μ d kc ks nx L (.int (lg_cmp x y) :: st) S I J Q) : Z μ d kc ks pc L (.long y :: .long x :: st) S I J Q := by
  intro p l e R s m args below meth c X D aC ad ad0 n0 ls H locs cells slots mc ms hF hB hH hG hS hL hc hs
  obtain ⟨hd, rfl⟩ := ht.at hk
  exact W.lcmp hF.1 hF.2.1 hd  (kk p l e R s m args below meth c X D aC ad ad0 n0 ls H locs cells slots mc ms hF hB hH hG hS hL hc hs)

theorem zv_cat (ad : Nat → Nat) (v : Value) : (zv ad v).category = v.category := by cases v <;> rfl

theorem z_dup {μ : zM} {d kc ks pc nx k : Nat} {L : zL} {st : List Value} {S : zS} {I : zI} {J : zJ} {Q : zQ} {tb : zTb} {va : Value} (ht : zT μ tb) (hk : zat tb k = some (pc, .dup, 1, nx)) (hva : va.category = 1) (kk : Z μ d kc ks nx L (va :: va :: st) S I J Q) : Z μ d kc ks pc L (va :: st) S I J Q := by
  intro p l e R s m args below meth c X D aC ad ad0 n0 ls H locs cells slots mc ms hF hB hH hG hS hL hc hs
  obtain ⟨hd, rfl⟩ := ht.at hk
  exact lv_dup hF.1 hF.2.1 hd ((zv_cat ad va).trans hva) (kk p l e R s m args below meth c X D aC ad ad0 n0 ls H locs cells slots mc ms hF hB hH hG hS hL hc hs)

theorem z_pop {μ : zM} {d kc ks pc nx k : Nat} {L : zL} {st : List Value} {S : zS} {I : zI} {J : zJ} {Q : zQ} {tb : zTb} {va : Value} (ht : zT μ tb) (hk : zat tb k = some (pc, .pop, 1, nx)) (hva : va.category = 1) (kk : Z μ d kc ks nx L (st) S I J Q) : Z μ d kc ks pc L (va :: st) S I J Q := by
  intro p l e R s m args below meth c X D aC ad ad0 n0 ls H locs cells slots mc ms hF hB hH hG hS hL hc hs
  obtain ⟨hd, rfl⟩ := ht.at hk
  exact lv_pop hF.1 hF.2.1 hd ((zv_cat ad va).trans hva) (kk p l e R s m args below meth c X D aC ad ad0 n0 ls H locs cells slots mc ms hF hB hH hG hS hL hc hs)

theorem z_dup_x1 {μ : zM} {d kc ks pc nx k : Nat} {L : zL} {st : List Value} {S : zS} {I : zI} {J : zJ} {Q : zQ} {tb : zTb} {va vb : Value} (ht : zT μ tb) (hk : zat tb k = some (pc, .dup_x1, 1, nx)) (hva : va.category = 1) (hvb : vb.category = 1) (kk : Z μ d kc ks nx L (va :: vb :: va :: st) S I J Q) : Z μ d kc ks pc L (va :: vb :: st) S I J Q := by
  intro p l e R s m args below meth c X D aC ad ad0 n0 ls H locs cells slots mc ms hF hB hH hG hS hL hc hs
  obtain ⟨hd, rfl⟩ := ht.at hk
  exact lv_dup_x1 hF.1 hF.2.1 hd ((zv_cat ad va).trans hva) ((zv_cat ad vb).trans hvb) (kk p l e R s m args below meth c X D aC ad ad0 n0 ls H locs cells slots mc ms hF hB hH hG hS hL hc hs)

theorem z_dup2 {μ : zM} {d kc ks pc nx k : Nat} {L : zL} {st : List Value} {S : zS} {I : zI} {J : zJ} {Q : zQ} {tb : zTb} {va vb : Value} (ht : zT μ tb) (hk : zat tb k = some (pc, .dup2, 1, nx)) (hva : va.category = 1) (hvb : vb.category = 1) (kk : Z μ d kc ks nx L (va :: vb :: va :: vb :: st) S I J Q) : Z μ d kc ks pc L (va :: vb :: st) S I J Q := by
  intro p l e R s m args below meth c X D aC ad ad0 n0 ls H locs cells slots mc ms hF hB hH hG hS hL hc hs
  obtain ⟨hd, rfl⟩ := ht.at hk
  exact lv_dup2_11 hF.1 hF.2.1 hd ((zv_cat ad va).trans hva) ((zv_cat ad vb).trans hvb) (kk p l e R s m args below meth c X D aC ad ad0 n0 ls H locs cells slots mc ms hF hB hH hG hS hL hc hs)

theorem z_dup2_2 {μ : zM} {d kc ks pc nx k : Nat} {L : zL} {st : List Value} {S : zS} {I : zI} {J : zJ} {Q : zQ} {tb : zTb} {va : Value} (ht : zT μ tb) (hk : zat tb k = some (pc, .dup2, 1, nx)) (hva : va.category = 2) (kk : Z μ d kc ks nx L (va :: va :: st) S I J Q) : Z μ d kc ks pc L (va :: st) S I J Q := by
  intro p l e R s m args below meth c X D aC ad ad0 n0 ls H locs cells slots mc ms hF hB hH hG hS hL hc hs
  obtain ⟨hd, rfl⟩ := ht.at hk
  exact lv_dup2_2 hF.1 hF.2.1 hd ((zv_cat ad va).trans hva) (kk p l e R s m args below meth c X D aC ad ad0 n0 ls H locs cells slots mc ms hF hB hH hG hS hL hc hs)

theorem z_if_eq {μ : zM} {d kc ks pc nx k : Nat} {L : zL} {st : List Value} {S : zS} {I : zI} {J : zJ} {Q : zQ} {tb : zTb} {x : Int32} {off : Int} {tgt : Nat} (ht : zT μ tb) (hk : zat tb k = some (pc, .ifCond .eq off, 3, nx)) (hg : (pc : Int) + off = (tgt : Int)) (kt : x = 0 → Z μ d kc ks tgt L st S I J Q) (kf : ¬ x = 0 → Z μ d kc ks nx L st S I J Q) : Z μ d kc ks pc L (.int x :: st) S I J Q := by
  intro p l e R s m args below meth c X D aC ad ad0 n0 ls H locs cells slots mc ms hF hB hH hG hS hL hc hs
  obtain ⟨hd, rfl⟩ := ht.at hk
  exact lv_if_eq hF.1 hF.2.1 hd hg (fun q => (kt q p l e R s m args below meth c X D aC ad ad0 n0 ls H locs cells slots mc ms hF hB hH hG hS hL hc hs)) (fun q => (kf q p l e R s m args below meth c X D aC ad ad0 n0 ls H locs cells slots mc ms hF hB hH hG hS hL hc hs))

theorem z_icmp_eq {μ : zM} {d kc ks pc nx k : Nat} {L : zL} {st : List Value} {S : zS} {I : zI} {J : zJ} {Q : zQ} {tb : zTb} {x y : Int32} {off : Int} {tgt : Nat} (ht : zT μ tb) (hk : zat tb k = some (pc, .if_icmp .eq off, 3, nx)) (hg : (pc : Int) + off = (tgt : Int)) (kt : x = y → Z μ d kc ks tgt L st S I J Q) (kf : ¬ x = y → Z μ d kc ks nx L st S I J Q) : Z μ d kc ks pc L (.int y :: .int x :: st) S I J Q := by
  intro p l e R s m args below meth c X D aC ad ad0 n0 ls H locs cells slots mc ms hF hB hH hG hS hL hc hs
  obtain ⟨hd, rfl⟩ := ht.at hk
  exact lv_icmp_eq hF.1 hF.2.1 hd hg (fun q => (kt q p l e R s m args below meth c X D aC ad ad0 n0 ls H locs cells slots mc ms hF hB hH hG hS hL hc hs)) (fun q => (kf q p l e R s m args below meth c X D aC ad ad0 n0 ls H locs cells slots mc ms hF hB hH hG hS hL hc hs))

theorem z_if_ne {μ : zM} {d kc ks pc nx k : Nat} {L : zL} {st : List Value} {S : zS} {I : zI} {J : zJ} {Q : zQ} {tb : zTb} {x : Int32} {off : Int} {tgt : Nat} (ht : zT μ tb) (hk : zat tb k = some (pc, .ifCond .ne off, 3, nx)) (hg : (pc : Int) + off = (tgt : Int)) (kt : ¬ x = 0 → Z μ d kc ks tgt L st S I J Q) (kf : x = 0 → Z μ d kc ks nx L st S I J Q) : Z μ d kc ks pc L (.int x :: st) S I J Q := by
  intro p l e R s m args below meth c X D aC ad ad0 n0 ls H locs cells slots mc ms hF hB hH hG hS hL hc hs
  obtain ⟨hd, rfl⟩ := ht.at hk
  exact lv_if_ne hF.1 hF.2.1 hd hg (fun q => (kt q p l e R s m args below meth c X D aC ad ad0 n0 ls H locs cells slots mc ms hF hB hH hG hS hL hc hs)) (fun q => (kf q p l e R s m args below meth c X D aC ad ad0 n0 ls H locs cells slots mc ms hF hB hH hG hS hL hc hs))

theorem z_icmp_ne {μ : zM} {d kc ks pc nx k : Nat} {L : zL} {st : List Value} {S : zS} {I : zI} {J : zJ} {Q : zQ} {tb : zTb} {x y : Int32} {off : Int} {tgt : Nat} (ht : zT μ tb) (hk : zat tb k = some (pc, .if_icmp .ne off, 3, nx)) (hg : (pc : Int) + off = (tgt : Int)) (kt : ¬ x = y → Z μ d kc ks tgt L st S I J Q) (kf : x = y → Z μ d kc ks nx L st S I J Q) : Z μ d kc ks pc L (.int y :: .int x :: st) S I J Q := by
  intro p l e R s m args below meth c X D aC ad ad0 n0 ls H locs cells slots mc ms hF hB hH hG hS hL hc hs
  obtain ⟨hd, rfl⟩ := ht.at hk
  exact lv_icmp_ne hF.1 hF.2.1 hd hg (fun q => (kt q p l e R s m args below meth c X D aC ad ad0 n0 ls H locs cells slots mc ms hF hB hH hG hS hL hc hs)) (fun q => (kf q p l e R s m args below meth c X D aC ad ad0 n0 ls H locs cells slots mc ms hF hB hH hG hS hL hc hs))

theorem z_if_lt {μ : zM} {d kc ks pc nx k : Nat} {L : zL} {st : List Value} {S : zS} {I : zI} {J : zJ} {Q : zQ} {tb : zTb} {x : Int32} {off : Int} {tgt : Nat} (ht : zT μ tb) (hk : zat tb k = some (pc, .ifCond .lt off, 3, nx)) (hg : (pc : Int) + off = (tgt : Int)) (kt : x < 0 → Z μ d kc ks tgt L st S I J Q) (kf : ¬ x < 0 → Z μ d kc ks nx L st S I J Q) : Z μ d kc ks pc L (.int x :: st) S I J Q := by
  intro p l e R s m args below meth c X D aC ad ad0 n0 ls H locs cells slots mc ms hF hB hH hG hS hL hc hs
  obtain ⟨hd, rfl⟩ := ht.at hk
  exact lv_if_lt hF.1 hF.2.1 hd hg (fun q => (kt q p l e R s m args below meth c X D aC ad ad0 n0 ls H locs cells slots mc ms hF hB hH hG hS hL hc hs)) (fun q => (kf q p l e R s m args below meth c X D aC ad ad0 n0 ls H locs cells slots mc ms hF hB hH hG hS hL hc hs))

theorem z_icmp_lt {μ : zM} {d kc ks pc nx k : Nat} {L : zL} {st : List Value} {S : zS} {I : zI} {J : zJ} {Q : zQ} {tb : zTb} {x y : Int32} {off : Int} {tgt : Nat} (ht : zT μ tb) (hk : zat tb k = some (pc, .if_icmp .lt off, 3, nx)) (hg : (pc : Int) + off = (tgt : Int)) (kt : x < y → Z μ d kc ks tgt L st S I J Q) (kf : ¬ x < y → Z μ d kc ks nx L st S I J Q) : Z μ d kc ks pc L (.int y :: .int x :: st) S I J Q := by
  intro p l e R s m args below meth c X D aC ad ad0 n0 ls H locs cells slots mc ms hF hB hH hG hS hL hc hs
  obtain ⟨hd, rfl⟩ := ht.at hk
  exact lv_icmp_lt hF.1 hF.2.1 hd hg (fun q => (kt q p l e R s m args below meth c X D aC ad ad0 n0 ls H locs cells slots mc ms hF hB hH hG hS hL hc hs)) (fun q => (kf q p l e R s m args below meth c X D aC ad ad0 n0 ls H locs cells slots mc ms hF hB hH hG hS hL hc hs))

theorem z_if_ge {μ : zM} {d kc ks pc nx k : Nat} {L : zL} {st : List Value} {S : zS} {I : zI} {J : zJ} {Q : zQ} {tb : zTb} {x : Int32} {off : Int} {tgt : Nat} (ht : zT μ tb) (hk : zat tb k = some (pc, .ifCond .ge off, 3, nx)) (hg : (pc : Int) + off = (tgt : Int)) (kt : 0 ≤ x → Z μ d kc ks tgt L st S I J Q) (kf : ¬ 0 ≤ x → Z μ d kc ks nx L st S I J Q) : Z μ d kc ks pc L (.int x :: st) S I J Q := by
  intro p l e R s m args below meth c X D aC ad ad0 n0 ls H locs cells slots mc ms hF hB hH hG hS hL hc hs
  obtain ⟨hd, rfl⟩ := ht.at hk
  exact lv_if_ge hF.1 hF.2.1 hd hg (fun q => (kt q p l e R s m args below meth c X D aC ad ad0 n0 ls H locs cells slots mc ms hF hB hH hG hS hL hc hs)) (fun q => (kf q p l e R s m args below meth c X D aC ad ad0 n0 ls H locs cells slots mc ms hF hB hH hG hS hL hc hs))

theorem z_icmp_ge {μ : zM} {d kc ks pc nx k : Nat} {L : zL} {st : List Value} {S : zS} {I : zI} {J : zJ} {Q : zQ} {tb : zTb} {x y : Int32} {off : Int} {tgt : Nat} (ht : zT μ tb) (hk : zat tb k = some (pc, .if_icmp .ge off, 3, nx)) (hg : (pc : Int) + off = (tgt : Int)) (kt : y ≤ x → Z μ d kc ks tgt L st S I J Q) (kf : ¬ y ≤ x → Z μ d kc ks nx L st S I J Q) : Z μ d kc ks pc L (.int y :: .int x :: st) S I J Q := by
  intro p l e R s m args below meth c X D aC ad ad0 n0 ls H locs cells slots mc ms hF hB hH hG hS hL hc hs
  obtain ⟨hd, rfl⟩ := ht.at hk
  exact lv_icmp_ge hF.1 hF.2.1 hd hg (fun q => (kt q p l e R s m args below meth c X D aC ad ad0 n0 ls H locs cells slots mc ms hF hB hH hG hS hL hc hs)) (fun q => (kf q p l e R s m args below meth c X D aC ad ad0 n0 ls H locs cells slots mc ms hF hB hH hG hS hL hc hs))

theorem z_if_gt {μ : zM} {d kc ks pc nx k : Nat} {L : zL} {st : List Value} {S : zS} {I : zI} {J : zJ} {Q : zQ} {tb : zTb} {x : Int32} {off : Int} {tgt : Nat} (ht : zT μ tb) (hk : zat tb k = some (pc, .ifCond .gt off, 3, nx)) (hg : (pc : Int) + off = (tgt : Int)) (kt : 0 < x → Z μ d kc ks tgt L st S I J Q) (kf : ¬ 0 < x → Z μ d kc ks nx L st S I J Q) : Z μ d kc ks pc L (.int x :: st) S I J Q := by
  intro p l e R s m args below meth c X D aC ad ad0 n0 ls H locs cells slots mc ms hF hB hH hG hS hL hc hs
  obtain ⟨hd, rfl⟩ := ht.at hk
  exact lv_if_gt hF.1 hF.2.1 hd hg (fun q => (kt q p l e R s m args below meth c X D aC ad ad0 n0 ls H locs cells slots mc ms hF hB hH hG hS hL hc hs)) (fun q => (kf q p l e R s m args below meth c X D aC ad ad0 n0 ls H locs cells slots mc ms hF hB hH hG hS hL hc hs))

theorem z_icmp_gt {μ : zM} {d kc ks pc nx k : Nat} {L : zL} {st : List Value} {S : zS} {I : zI} {J : zJ} {Q : zQ} {tb : zTb} {x y : Int32} {off : Int} {tgt : Nat} (ht : zT μ tb) (hk : zat tb k = some (pc, .if_icmp .gt off, 3, nx)) (hg : (pc : Int) + off = (tgt : Int)) (kt : y < x → Z μ d kc ks tgt L st S I J Q) (kf : ¬ y < x → Z μ d kc ks nx L st S I J Q) : Z μ d kc ks pc L (.int y :: .int x :: st) S I J Q := by
  intro p l e R s m args below meth c X D aC ad ad0 n0 ls H locs cells slots mc ms hF hB hH hG hS hL hc hs
  obtain ⟨hd, rfl⟩ := ht.at hk
  exact lv_icmp_gt hF.1 hF.2.1 hd hg (fun q => (kt q p l e R s m args below meth c X D aC ad ad0 n0 ls H locs cells slots mc ms hF hB hH hG hS hL hc hs)) (fun q => (kf q p l e R s m args below meth c X D aC ad ad0 n0 ls H locs cells slots mc ms hF hB hH hG hS hL hc hs))

theorem z_if_le {μ : zM} {d kc ks pc nx k : Nat} {L : zL} {st : List Value} {S : zS} {I : zI} {J : zJ} {Q : zQ} {tb : zTb} {x : Int32} {off : Int} {tgt : Nat} (ht : zT μ tb) (hk : zat tb k = some (pc, .ifCond .le off, 3, nx)) (hg : (pc : Int) + off = (tgt : Int)) (kt : x ≤ 0 → Z μ d kc ks tgt L st S I J Q) (kf : ¬ x ≤ 0 → Z μ d kc ks nx L st S I J Q) : Z μ d kc ks pc L (.int x :: st) S I J Q := by
  intro p l e R s m args below meth c X D aC ad ad0 n0 ls H locs cells slots mc ms hF hB hH hG hS hL hc hs
  obtain ⟨hd, rfl⟩ := ht.at hk
  exact lv_if_le hF.1 hF.2.1 hd hg (fun q => (kt q p l e R s m args below meth c X D aC ad ad0 n0 ls H locs cells slots mc ms hF hB hH hG hS hL hc hs)) (fun q => (kf q p l e R s m args below meth c X D aC ad ad0 n0 ls H locs cells slots mc ms hF hB hH hG hS hL hc hs))

theorem z_icmp_le {μ : zM} {d kc ks pc nx k : Nat} {L : zL} {st : List Value} {S : zS} {I : zI} {J : zJ} {Q : zQ} {tb : zTb} {x y : Int32} {off : Int} {tgt : Nat} (ht : zT μ tb) (hk : zat tb k = some (pc, .if_icmp .le off, 3, nx)) (hg : (pc : Int) + off = (tgt : Int)) (kt : x ≤ y → Z μ d kc ks tgt L st S I J Q) (kf : ¬ x ≤ y → Z μ d kc ks nx L st S I J Q) : Z μ d kc ks pc L (.int y :: .int x :: st) S I J Q := by
  intro p l e R s m args below meth c X D aC ad ad0 n0 ls H locs cells slots mc ms hF hB hH hG hS hL hc hs
  obtain ⟨hd, rfl⟩ := ht.at hk
  exact lv_icmp_le hF.1 hF.2.1 hd hg (fun q => (kt q p l e R s m args below meth c X D aC ad ad0 n0 ls H locs cells slots mc ms hF hB hH hG hS hL hc hs)) (fun q => (kf q p l e R s m args below meth c X D aC ad ad0 n0 ls H locs cells slots mc ms hF hB hH hG hS hL hc hs))

theorem z_goto {μ : zM} {d kc ks pc nx k : Nat} {L : zL} {st : List Value} {S : zS} {I : zI} {J : zJ} {Q : zQ} {tb : zTb} {off : Int} {tgt : Nat} (ht : zT μ tb) (hk : zat tb k = some (pc, .goto off, 3, nx)) (hg : (pc : Int) + off = (tgt : Int)) (kk : Z μ d kc ks tgt L st S I J Q) : Z μ d kc ks pc L st S I J Q := by
  intro p l e R s m args below meth c X D aC ad ad0 n0 ls H locs cells slots mc ms hF hB hH hG hS hL hc hs
  obtain ⟨hd, rfl⟩ := ht.at hk
  exact lv_goto hF.1 hF.2.1 hd hg (kk p l e R s m args below meth c X D aC ad ad0 n0 ls H locs cells slots mc ms hF hB hH hG hS hL hc hs)

theorem z_switch {μ : zM} {d kc ks pc nx k : Nat} {L : zL} {st : List Value} {S : zS} {I : zI} {J : zJ} {Q : zQ} {tb : zTb} {dflt lo hi : Int} {offs : Array Int} {len : Nat} {x : Int32} (ht : zT μ tb) (hk : zat tb k = some (pc, .tableswitch dflt lo hi offs, len, nx)) (tgt : Nat → Nat) (tgd : Nat)
    (hsz : ∀ j : Nat, lo + (j : Int) ≤ hi → ∃ off, offs[j]? = some off ∧ (pc : Int) + off = (tgt j : Int)) (hdf : (pc : Int) + dflt = (tgd : Int))
    (kt : ∀ j : Nat, lo + (j : Int) ≤ hi → x.toInt = lo + (j : Int) → Z μ d kc ks (tgt j) L st S I J Q) (kf : x.toInt < lo ∨ hi < x.toInt → Z μ d kc ks tgd L st S I J Q) : Z μ d kc ks pc L (.int x :: st) S I J Q := by
  intro p l e R s m args below meth c X D aC ad ad0 n0 ls H locs cells slots mc ms hF hB hH hG hS hL hc hs
  obtain ⟨hd, rfl⟩ := ht.at hk
  by_cases q : x.toInt < lo ∨ hi < x.toInt
  · exact lv_tableOut hF.1 hF.2.1 hd q hdf (kf q p l e R s m args below meth c X D aC ad ad0 n0 ls H locs cells slots mc ms hF hB hH hG hS hL hc hs)
  · have h1 : ¬ x.toInt < lo := fun z => q (Or.inl z)
    have h2 : ¬ hi < x.toInt := fun z => q (Or.inr z)
    have hj : lo + ((x.toInt - lo).toNat : Int) = x.toInt := by omega
    obtain ⟨off, ho, hg2⟩ := hsz (x.toInt - lo).toNat (by omega)
    exact lv_tableIn hF.1 hF.2.1 hd h1 h2 ho hg2 (kt _ (by omega) hj.symm p l e R s m args below meth c X D aC ad ad0 n0 ls H locs cells slots mc ms hF hB hH hG hS hL hc hs)

/-- the locals behind a store -/
def zw2 (o : Option (Option Value)) : Bool := match o with
  | some (some v) => v.category == 2
  | _ => false
def zk (L : zL) (i : Nat) (w : Bool) (v : Value) : zL := (List.range L.length).map fun j => if j = i then some v else bif (Nat.beq (j + 1) i && zw2 L[j]?) || (w && Nat.beq j (i + 1)) then none else (L[j]?).getD none
def zlv (ad : Nat → Nat) (L : zL) : List (Nat × Value) := (List.range L.length).filterMap fun j => ((L[j]?).getD none).map fun v => (j, zv ad v)
theorem zlv_mem {ad : Nat → Nat} {L : zL} {q : Nat × Value} : q ∈ zlv ad L ↔ ∃ v, L[q.1]? = some (some v) ∧ q.2 = zv ad v := by
  simp only [zlv, List.mem_filterMap, List.mem_range]
  constructor
  · rintro ⟨j, hj, h⟩
    rw [List.getElem?_eq_getElem hj] at h
    simp only [Option.getD_some, Option.map_eq_some_iff] at h
    obtain ⟨v, hv, rfl⟩ := h
    exact ⟨v, by rw [List.getElem?_eq_getElem hj, hv], rfl⟩
  · rintro ⟨v, hv, h2⟩
    have hj := (List.getElem?_eq_some_iff.mp hv).1
    exact ⟨q.1, hj, by rw [hv]; simp [← h2]⟩
theorem zLv.has {ad : Nat → Nat} {ls : Array Slot} {n : Nat} {L : zL} (h : zLv ad ls n L) : lv_has ls n (zlv ad L) := by
  refine ⟨h.1, h.2.1, fun q hq => ?_⟩
  obtain ⟨v, h1, h2⟩ := zlv_mem.mp hq
  rw [h2]
  exact h.2.2 _ _ h1
theorem zk_get {L : zL} {i j : Nat} {w : Bool} {v u : Value} (h : (zk L i w v)[j]? = some (some u)) : (j = i ∧ u = v) ∨ (j ≠ i ∧ L[j]? = some (some u) ∧ ¬ (j + 1 = i ∧ u.category = 2) ∧ ¬ (w = true ∧ j = i + 1)) := by
  simp only [zk, List.getElem?_map, Option.map_eq_some_iff] at h
  obtain ⟨j', hj', h⟩ := h
  have e : j' = j := by
    have := List.getElem?_range (n := L.length) (i := j) (by have := (List.getElem?_eq_some_iff.mp hj').1; simpa using this)
    rw [this] at hj'
    exact (Option.some.inj hj').symm
  subst e
  by_cases hi : j' = i
  · rw [if_pos hi] at h
    exact Or.inl ⟨hi, (Option.some.inj h).symm⟩
  · rw [if_neg hi] at h
    refine Or.inr ⟨hi, ?_⟩
    cases hb : (Nat.beq (j' + 1) i && zw2 L[j']?) || (w && Nat.beq j' (i + 1)) with
    | true => rw [hb] at h; cases h
    | false =>
      rw [hb] at h
      have hl : L[j']? = some (some u) := by
        cases hx : L[j']? with
        | none => rw [hx] at h; cases h
        | some o => rw [hx] at h; exact congrArg some h
      rw [hl, Bool.or_eq_false_iff, Bool.and_eq_false_iff, Bool.and_eq_false_iff] at hb
      refine ⟨hl, fun ⟨h1, h2⟩ => ?_, fun ⟨h1, h2⟩ => ?_⟩
      · subst h1
        rcases hb.1 with z | z
        · rw [Nat.beq_refl] at z; cases z
        · have z2 : (u.category == 2) = false := z
          rw [h2] at z2; cases z2
      · subst h2
        rcases hb.2 with z | z
        · rw [h1] at z; cases z
        · rw [Nat.beq_refl] at z; cases z
theorem zLv.st1 {ad : Nat → Nat} {ls' : Array Slot} {n i : Nat} {L : zL} {v : Value} (h : lv_has ls' n ((i, zv ad v) :: (zlv ad L).filter (fun q => !(q.1 == i) && !(q.1 + 1 == i && q.2.category == 2)))) : zLv ad ls' n (zk L i false v) := by
  refine ⟨h.1, h.2.1, fun j u hu => ?_⟩
  rcases zk_get hu with ⟨rfl, rfl⟩ | ⟨h1, h2, h3, -⟩
  · exact h.2.2 _ List.mem_cons_self
  · refine h.2.2 (j, zv ad u) (List.mem_cons_of_mem _ (List.mem_filter.mpr ⟨zlv_mem.mpr ⟨u, h2, rfl⟩, ?_⟩))
    simp only [zv_cat, Bool.and_eq_true, Bool.not_eq_true', beq_eq_false_iff_ne, ne_eq, Bool.and_eq_false_iff]
    refine ⟨h1, ?_⟩
    by_cases hq : j + 1 = i
    · exact Or.inr (fun hc => h3 ⟨hq, hc⟩)
    · exact Or.inl hq
theorem zLv.st2 {ad : Nat → Nat} {ls' : Array Slot} {n i : Nat} {L : zL} {v : Value} (h : lv_has ls' n ((i, zv ad v) :: (zlv ad L).filter (fun q => !(q.1 == i) && (!(q.1 == i + 1) && !(q.1 + 1 == i && q.2.category == 2))))) : zLv ad ls' n (zk L i true v) := by
  refine ⟨h.1, h.2.1, fun j u hu => ?_⟩
  rcases zk_get hu with ⟨rfl, rfl⟩ | ⟨h1, h2, h3, h4⟩
  · exact h.2.2 _ List.mem_cons_self
  · refine h.2.2 (j, zv ad u) (List.mem_cons_of_mem _ (List.mem_filter.mpr ⟨zlv_mem.mpr ⟨u, h2, rfl⟩, ?_⟩))
    simp only [zv_cat, Bool.and_eq_true, Bool.not_eq_true', beq_eq_false_iff_ne, ne_eq, Bool.and_eq_false_iff]
    refine ⟨h1, fun z => h4 ⟨rfl, z⟩, ?_⟩
    by_cases hq : j + 1 = i
    · exact Or.inr (fun hc => h3 ⟨hq, hc⟩)
    · exact Or.inl hq

theorem z_istore_n {μ : zM} {d kc ks pc nx k : Nat} {L : zL} {st : List Value} {S : zS} {I : zI} {J : zJ} {Q : zQ} {tb : zTb} {i : Fin 4} {x : Int32} (ht : zT μ tb) (hk : zat tb k = some (pc, .istore_n i, 1, nx)) (hn : (i : Nat) < μ.2.2.1) (L' : Int32 → zL) (hl : ∀ y, zk L (i : Nat) false (.int y) = L' y) (kk : ∀ y : Int32, y = x → Z μ d kc ks nx (L' y) st S I J Q) : Z μ d kc ks pc L (.int x :: st) S I J Q := by
  intro p l e R s m args below meth c X D aC ad ad0 n0 ls H locs cells slots mc ms hF hB hH hG hS hL hc hs
  obtain ⟨hd, rfl⟩ := ht.at hk
  exact lv_istore_n (nL := μ.2.2.1) hF.1 hF.2.1 hd rfl hL.has hn rfl (fun ls1 hL1 => by
    have hL2 := (zLv.st1 (v := .int x) (L := L) (ad := ad) hL1)
    rw [hl x] at hL2
    exact kk x rfl p l e R s m args below meth c X D aC ad ad0 n0 ls1 H locs cells slots mc ms hF hB hH hG hS hL2 hc hs)

theorem z_istore {μ : zM} {d kc ks pc nx k : Nat} {L : zL} {st : List Value} {S : zS} {I : zI} {J : zJ} {Q : zQ} {tb : zTb} {i : Nat} {x : Int32} (ht : zT μ tb) (hk : zat tb k = some (pc, .istore i, 2, nx)) (hn : i < μ.2.2.1) (L' : Int32 → zL) (hl : ∀ y, zk L i false (.int y) = L' y) (kk : ∀ y : Int32, y = x → Z μ d kc ks nx (L' y) st S I J Q) : Z μ d kc ks pc L (.int x :: st) S I J Q := by
  intro p l e R s m args below meth c X D aC ad ad0 n0 ls H locs cells slots mc ms hF hB hH hG hS hL hc hs
  obtain ⟨hd, rfl⟩ := ht.at hk
  exact lv_istore (nL := μ.2.2.1) hF.1 hF.2.1 hd hL.has hn rfl (fun ls1 hL1 => by
    have hL2 := (zLv.st1 (v := .int x) (L := L) (ad := ad) hL1)
    rw [hl x] at hL2
    exact kk x rfl p l e R s m args below meth c X D aC ad ad0 n0 ls1 H locs cells slots mc ms hF hB hH hG hS hL2 hc hs)

theorem z_lstore_n {μ : zM} {d kc ks pc nx k : Nat} {L : zL} {st : List Value} {S : zS} {I : zI} {J : zJ} {Q : zQ} {tb : zTb} {i : Fin 4} {x : Int64} (ht : zT μ tb) (hk : zat tb k = some (pc, .lstore_n i, 1, nx)) (hn : (i : Nat) + 1 < μ.2.2.1) (L' : Int64 → zL) (hl : ∀ y, zk L (i : Nat) true (.long y) = L' y) (kk : ∀ y : Int64, y = x → Z μ d kc ks nx (L' y) st S I J Q) : Z μ d kc ks pc L (.long x :: st) S I J Q := by
  intro p l e R s m args below meth c X D aC ad ad0 n0 ls H locs cells slots mc ms hF hB hH hG hS hL hc hs
  obtain ⟨hd, rfl⟩ := ht.at hk
  exact lv_lstore_n (nL := μ.2.2.1) hF.1 hF.2.1 hd rfl hL.has hn rfl (fun ls1 hL1 => by
    have hL2 := (zLv.st2 (v := .long x) (L := L) (ad := ad) hL1)
    rw [hl x] at hL2
    exact kk x rfl p l e R s m args below meth c X D aC ad ad0 n0 ls1 H locs cells slots mc ms hF hB hH hG hS hL2 hc hs)

theorem z_lstore {μ : zM} {d kc ks pc nx k : Nat} {L : zL} {st : List Value} {S : zS} {I : zI} {J : zJ} {Q : zQ} {tb : zTb} {i : Nat} {x : Int64} (ht : zT μ tb) (hk : zat tb k = some (pc, .lstore i, 2, nx)) (hn : i + 1 < μ.2.2.1) (L' : Int64 → zL) (hl : ∀ y, zk L i true (.long y) = L' y) (kk : ∀ y : Int64, y = x → Z μ d kc ks nx (L' y) st S I J Q) : Z μ d kc ks pc L (.long x :: st) S I J Q := by
  intro p l e R s m args below meth c X D aC ad ad0 n0 ls H locs cells slots mc ms hF hB hH hG hS hL hc hs
  obtain ⟨hd, rfl⟩ := ht.at hk
  exact lv_lstore (nL := μ.2.2.1) hF.1 hF.2.1 hd hL.has hn rfl (fun ls1 hL1 => by
    have hL2 := (zLv.st2 (v := .long x) (L := L) (ad := ad) hL1)
    rw [hl x] at hL2
    exact kk x rfl p l e R s m args below meth c X D aC ad ad0 n0 ls1 H locs cells slots mc ms hF hB hH hG hS hL2 hc hs)

theorem z_astore_n {μ : zM} {d kc ks pc nx k : Nat} {L : zL} {st : List Value} {S : zS} {I : zI} {J : zJ} {Q : zQ} {tb : zTb} {i : Fin 4} {x : Nat} (ht : zT μ tb) (hk : zat tb k = some (pc, .astore_n i, 1, nx)) (hn : (i : Nat) < μ.2.2.1) (L' : Nat → zL) (hl : ∀ y, zk L (i : Nat) false (.ref y) = L' y) (kk : ∀ y : Nat, y = x → Z μ d kc ks nx (L' y) st S I J Q) : Z μ d kc ks pc L (.ref x :: st) S I J Q := by
  intro p l e R s m args below meth c X D aC ad ad0 n0 ls H locs cells slots mc ms hF hB hH hG hS hL hc hs
  obtain ⟨hd, rfl⟩ := ht.at hk
  exact lv_astore_n (nL := μ.2.2.1) hF.1 hF.2.1 hd rfl hL.has hn rfl (fun ls1 hL1 => by
    have hL2 := (zLv.st1 (v := .ref x) (L := L) (ad := ad) hL1)
    rw [hl x] at hL2
    exact kk x rfl p l e R s m args below meth c X D aC ad ad0 n0 ls1 H locs cells slots mc ms hF hB hH hG hS hL2 hc hs)

theorem z_astore {μ : zM} {d kc ks pc nx k : Nat} {L : zL} {st : List Value} {S : zS} {I : zI} {J : zJ} {Q : zQ} {tb : zTb} {i : Nat} {x : Nat} (ht : zT μ tb) (hk : zat tb k = some (pc, .astore i, 2, nx)) (hn : i < μ.2.2.1) (L' : Nat → zL) (hl : ∀ y, zk L i false (.ref y) = L' y) (kk : ∀ y : Nat, y = x → Z μ d kc ks nx (L' y) st S I J Q) : Z μ d kc ks pc L (.ref x :: st) S I J Q := by
  intro p l e R s m args below meth c X D aC ad ad0 n0 ls H locs cells slots mc ms hF hB hH hG hS hL hc hs
  obtain ⟨hd, rfl⟩ := ht.at hk
  exact lv_astore (nL := μ.2.2.1) hF.1 hF.2.1 hd hL.has hn rfl (fun ls1 hL1 => by
    have hL2 := (zLv.st1 (v := .ref x) (L := L) (ad := ad) hL1)
    rw [hl x] at hL2
    exact kk x rfl p l e R s m args below meth c X D aC ad ad0 n0 ls1 H locs cells slots mc ms hF hB hH hG hS hL2 hc hs)

theorem z_iinc {μ : zM} {d kc ks pc nx k : Nat} {L : zL} {st : List Value} {S : zS} {I : zI} {J : zJ} {Q : zQ} {tb : zTb} {i : Nat} {n : Int} {x : Int32} (ht : zT μ tb) (hk : zat tb k = some (pc, .iinc i n, 3, nx)) (hn : i < μ.2.2.1) (hx : L[i]? = some (some (.int x))) (L' : Int32 → zL) (hl : ∀ y, zk L i false (.int y) = L' y) (kk : ∀ y : Int32, y = x + Int32.ofInt n → Z μ d kc ks nx (L' y) st S I J Q) : Z μ d kc ks pc L st S I J Q := by
  intro p l e R s m args below meth c X D aC ad ad0 n0 ls H locs cells slots mc ms hF hB hH hG hS hL hc hs
  obtain ⟨hd, rfl⟩ := ht.at hk
  obtain ⟨j, hj⟩ := List.getElem?_of_mem (zlv_mem (ad := ad) (L := L) (q := (i, .int x)) |>.mpr ⟨.int x, hx, rfl⟩)
  exact lv_iinc (nL := μ.2.2.1) (k := j) hF.1 hF.2.1 hd hL.has hj rfl hn rfl (fun ls1 hL1 => by
    have hL2 := zLv.st1 (v := .int (x + Int32.ofInt n)) (L := L) (ad := ad) hL1
    rw [hl] at hL2
    exact kk _ rfl p l e R s m args below meth c X D aC ad ad0 n0 ls1 H locs cells slots mc ms hF hB hH hG hS hL2 hc hs)
