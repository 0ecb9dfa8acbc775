/-! the text of all words: its length and its chars, by the JDK's own code -/
section
variable {μ μ' : zM} {d kc ks kc' ks' pc nx k : Nat} {L L' : zL} {st as : List Value} {S : zS} {I : zI} {J : zJ} {Q Q' : zQ} {tb : zTb}
theorem z_xval {idx : Nat} (ht : zT μ tb) (hk : zat tb k = some (pc, .getfield idx, 3, nx)) (hw : Cond.fieldLink μ.1.cls idx "java/lang/String" "value" "[B" ∈ zG) (kk : Z μ d kc ks nx L (.ref (zXB + 3) :: st) S I J Q) : Z μ d kc ks pc L (.ref (zXB + 2) :: st) S I J Q := by
  intro p l e R s m args below meth c X D aC ad ad0 n0 ls H locs cells slots mc ms hF hB hH hG hS hL hc hs
  obtain ⟨hd, rfl⟩ := ht.at hk
  have kk' := kk p l e R s m args below meth c X D aC ad ad0 n0 ls H locs cells slots mc ms hF hB hH hG hS hL hc hs
  rw [List.map_cons, show zv ad (.ref (zXB + 3)) = .ref (X.2 3) from congrArg Value.ref (hH.2.2.1 3)] at kk'
  rw [List.map_cons, show zv ad (.ref (zXB + 2)) = .ref (X.2 2) from congrArg Value.ref (hH.2.2.1 2)]
  exact vk_getf hF.1 hF.2.1 (hB.2.2.2.2.2.2.2.1.2.2.2.2.1.1 0 (by decide)).2.2.1 hS hF.2.2.2.1 (hF.2.2.2.2.1 _ hw) (fun _ h => h) hd kk'
theorem z_xcod {idx : Nat} (ht : zT μ tb) (hk : zat tb k = some (pc, .getfield idx, 3, nx)) (hw : Cond.fieldLink μ.1.cls idx "java/lang/String" "coder" "B" ∈ zG) (kk : Z μ d kc ks nx L (.int 0 :: st) S I J Q) : Z μ d kc ks pc L (.ref (zXB + 2) :: st) S I J Q := by
  intro p l e R s m args below meth c X D aC ad ad0 n0 ls H locs cells slots mc ms hF hB hH hG hS hL hc hs
  obtain ⟨hd, rfl⟩ := ht.at hk
  rw [List.map_cons, show zv ad (.ref (zXB + 2)) = .ref (X.2 2) from congrArg Value.ref (hH.2.2.1 2)]
  exact vk_getf hF.1 hF.2.1 (hB.2.2.2.2.2.2.2.1.2.2.2.2.1.1 0 (by decide)).2.1 hS hF.2.2.2.1 (hF.2.2.2.2.1 _ hw) (fun _ h => h) hd (kk p l e R s m args below meth c X D aC ad ad0 n0 ls H locs cells slots mc ms hF hB hH hG hS hL hc hs)
theorem z_xcmp {idx : Nat} (ht : zT μ tb) (hk : zat tb k = some (pc, .getstatic idx, 3, nx)) (hw : Cond.fieldLink μ.1.cls idx "java/lang/String" "COMPACT_STRINGS" "Z" ∈ zG) (kk : Z μ d kc ks nx L (.int 1 :: st) S I J Q) : Z μ d kc ks pc L st S I J Q := by
  intro p l e R s m args below meth c X D aC ad ad0 n0 ls H locs cells slots mc ms hF hB hH hG hS hL hc hs
  obtain ⟨hd, rfl⟩ := ht.at hk
  exact va_gets hF.1 hF.2.1 hB.2.2.2.2.2.2.2.1.2.2.2.2.2.1.1 hS hF.2.2.2.1 (hF.2.2.2.2.1 _ hw) (fun _ h => h) hd (kk p l e R s m args below meth c X D aC ad ad0 n0 ls H locs cells slots mc ms hF hB hH hG hS hL hc hs)
theorem z_xsio {idx : Nat} (ht : zT μ tb) (hk : zat tb k = some (pc, .getstatic idx, 3, nx)) (hw : Cond.fieldLink μ.1.cls idx "jdk/internal/util/Preconditions" "SIOOBE_FORMATTER" "Ljava/util/function/BiFunction;" ∈ zG) (kk : ∀ v : Value, v = .null ∨ v = .ref (zXB + 100000) → Z μ d kc ks nx L (v :: st) S I J Q) : Z μ d kc ks pc L st S I J Q := by
  intro p l e R s m args below meth c X D aC ad ad0 n0 ls H locs cells slots mc ms hF hB hH hG hS hL hc hs
  obtain ⟨hd, rfl⟩ := ht.at hk
  have hz := hB.2.2.2.2.2.2.2.1.2.2.2.2.2.1.2
  by_cases h0 : X.2 100001 = 0
  · rw [if_pos h0] at hz
    have kk' := kk .null (Or.inl rfl) p l e R s m args below meth c X D aC ad ad0 n0 ls H locs cells slots mc ms hF hB hH hG hS hL hc hs
    rw [List.map_cons, show zv ad .null = .null from rfl] at kk'
    exact va_gets hF.1 hF.2.1 hz hS hF.2.2.2.1 (hF.2.2.2.2.1 _ hw) (fun _ h => h) hd kk'
  · rw [if_neg h0] at hz
    have kk' := kk (.ref (zXB + 100000)) (Or.inr rfl) p l e R s m args below meth c X D aC ad ad0 n0 ls H locs cells slots mc ms hF hB hH hG hS hL hc hs
    rw [List.map_cons, show zv ad (.ref (zXB + 100000)) = .ref (X.2 100000) from congrArg Value.ref (hH.2.2.1 100000)] at kk'
    exact va_gets hF.1 hF.2.1 hz hS hF.2.2.2.1 (hF.2.2.2.2.1 _ hw) (fun _ h => h) hd kk'
theorem z_xlen (ht : zT μ tb) (hk : zat tb k = some (pc, .arraylength, 1, nx)) (kk : Z μ d kc ks nx L (.int 105 :: st) S I J Q) : Z μ d kc ks pc L (.ref (zXB + 3) :: st) S I J Q := by
  intro p l e R s m args below meth c X D aC ad ad0 n0 ls H locs cells slots mc ms hF hB hH hG hS hL hc hs
  obtain ⟨hd, rfl⟩ := ht.at hk
  rw [List.map_cons, show zv ad (.ref (zXB + 3)) = .ref (X.2 3) from congrArg Value.ref (hH.2.2.1 3)]
  exact va_tlen hF.1 hF.2.1 (hB.2.2.2.2.2.2.2.1.2.2.2.2.1.1 0 (by decide)).2.2.2 hS (v := 105) rfl hd (kk p l e R s m args below meth c X D aC ad ad0 n0 ls H locs cells slots mc ms hF hB hH hG hS hL hc hs)
theorem z_xbal {j : Nat} {i : Int32} (ht : zT μ tb) (hk : zat tb k = some (pc, .baload, 1, nx)) (hj : i = nI j) (hjn : j < 105) (kk : Z μ d kc ks nx L (.int (zByt.getD j 0) :: st) S I J Q) : Z μ d kc ks pc L (.int i :: .ref (zXB + 3) :: st) S I J Q := by
  intro p l e R s m args below meth c X D aC ad ad0 n0 ls H locs cells slots mc ms hF hB hH hG hS hL hc hs
  obtain ⟨hd, rfl⟩ := ht.at hk
  obtain ⟨hi, hcl⟩ := z_clamp hj hjn (by decide)
  rw [List.map_cons, List.map_cons, show zv ad (.ref (zXB + 3)) = .ref (X.2 3) from congrArg Value.ref (hH.2.2.1 3)]
  exact va_tb hF.1 hF.2.1 (hB.2.2.2.2.2.2.2.1.2.2.2.2.1.1 0 (by decide)).2.2.2 hS hi (v := .int (zByt.getD j 0)) (by rw [hcl]; rfl) hd (kk p l e R s m args below meth c X D aC ad ad0 n0 ls H locs cells slots mc ms hF hB hH hG hS hL hc hs)
theorem z_i2c {x : Int32} (ht : zT μ tb) (hk : zat tb k = some (pc, .i2c, 1, nx)) (kk : Z μ d kc ks nx L (.int (x.toUInt32 % 65536).toInt32 :: st) S I J Q) : Z μ d kc ks pc L (.int x :: st) S I J Q := by
  intro p l e R s m args below meth c X D aC ad ad0 n0 ls H locs cells slots mc ms hF hB hH hG hS hL hc hs
  obtain ⟨hd, rfl⟩ := ht.at hk
  exact lv_i2c hF.1 hF.2.1 hd rfl (kk p l e R s m args below meth c X D aC ad ad0 n0 ls H locs cells slots mc ms hF hB hH hG hS hL hc hs)
theorem z_nret {v : Int32} {ty : FieldType} (ht : zT μ tb) (hk : zat tb k = some (pc, .ireturn, 1, nx)) (hr : μ.2.2.2.1 = some ty) (hv : narrow ty (.int v) = .int v) (hq : Q (.inl (some (.int v))) S I J) : Z μ d kc ks pc L [.int v] S I J Q := by
  intro p l e R s m args below meth c X D aC ad ad0 n0 ls H locs cells slots mc ms hF hB hH hG hS hL hc hs
  obtain ⟨hd, rfl⟩ := ht.at hk
  refine W.widen (k := mc) (n := ms) (by omega) (by omega) (vx_ret ?_)
  exact W.zret (ty := ty) hF.1 hF.2.1 (hF.2.2.2.2.2.1.trans hr) hv (fun t hth hw => ⟨⟨_, S, I, J, ad, rfl, hq, by rw [hth]; exact hH, hG⟩, hS.F hth⟩) (fun q hq => hS.2.2 q hq) hd hF.2.2.2.2.2.2.1
theorem z_callVX {idx n : Nat} (ht : zT μ tb) (hk : zat tb k = some (pc, .invokevirtual idx, 3, nx)) (hno : μ.2.2.2.2 = []) (K : zKm μ' n) (KI : Cond.instanceMethod μ'.1 ∈ zG) (KS : Cond.selects μ'.1.cls μ'.1 μ'.1 ∈ zG) (hcs : μ'.1.cls = "java/lang/String") (hlink : Cond.methodLink μ.1.cls idx μ'.1 ∈ zG) {st0 : List Value} (hst : st0 = as.reverse ++ .ref (zXB + 2) :: st) (hn : as.length = n)
    (hlen : (lg_sl (.ref (zXB + 2) :: as)).length ≤ μ'.2.2.1) (hL' : zin (.ref (zXB + 2) :: as) μ'.2.2.1 = L') (hroom : (st.map fun v => v.category).sum ≤ 8) (hkc : kc' ≤ kc) (hks : ks' ≤ ks) (hkeep : zkeep Q' S L st)
    (hZ : Z μ' d kc' ks' 0 L' [] S I J Q') (kx : ∀ E S' I' J', Q' (.inr E) S' I' J' → Q (.inr E) S' I' J')
    (kk : ∀ v S' I' J', Q' (.inl v) S' I' J' → Z μ (d + 1) (kc - kc') (ks - ks') nx L (v.toList ++ st) S' I' J' Q) : Z μ (d + 1) kc ks pc L st0 S I J Q := by
  intro p l e R s m args below meth c X D aC ad ad0 n0 ls H locs cells slots mc ms hF hB hH hG hS hL hc hs
  obtain ⟨hd, rfl⟩ := ht.at hk
  have hts := hF.2.2.2.2.1
  have hfr := hF.2.2.2.2.2.2.2.2.2.2
  have hrun := vx_runV (l := l) (e := e) (R := R) (below := below) (meth := meth) (H := H) (locs := locs) (cells := cells) (slots := slots) (Ts := zG) (own := μ.1.cls) (C := μ'.1.cls) (index := idx) (b := ad (zXB + 2)) (As := as.map (zv ad)) (rest := st.map (zv ad)) (g := F0 m pc ls (st0.map (zv ad))) (nL := μ.2.2.1) (n := n)
    ⟨hF.1, hF.2.1, hF.2.2.1, hF.2.2.2.1, hts⟩ (zMet (vs := .ref (zXB + 2) :: as) l hF.2.2.2.2.2.2.2.2.2.1 K.2.2.2.2.2.1 K.2.2.2.2.1 hlen hL' hZ X D aC ad)
    ⟨zCB (d := d) hts K hlink (by omega) (by omega), hts _ KI, hts _ KS⟩ ⟨zPc_blind, by rw [hcs, hH.2.2.1 2]; exact vk_recv (i := 0) hB.2.2.2.2.2.2.2.1.2.2.2.2.1 (by decide) hS, zPre hB hH hS⟩
    rfl (by rw [List.length_map]; exact hn) hL.1 (by rw [hst]; simp [F0, zv]) (by show 2 * 0 + _ ≤ 8; rw [zcat]; omega) hd ⟨by omega, by omega⟩
  exact zBehind hF hB hH hG hS hL hc hs hkc hks hno hkeep hrun kx kk
theorem y_callVX {idx n : Nat} {v : Option Value} (ht : zT μ tb) (hk : zat tb k = some (pc, .invokevirtual idx, 3, nx)) (hno : μ.2.2.2.2 = []) (K : zKm μ' n) (KI : Cond.instanceMethod μ'.1 ∈ zG) (KS : Cond.selects μ'.1.cls μ'.1 μ'.1 ∈ zG) (hcs : μ'.1.cls = "java/lang/String") (hlink : Cond.methodLink μ.1.cls idx μ'.1 ∈ zG) {st0 : List Value} (hst : st0 = as.reverse ++ .ref (zXB + 2) :: st) (hn : as.length = n)
    (hlen : (lg_sl (.ref (zXB + 2) :: as)).length ≤ μ'.2.2.1) (hL' : zin (.ref (zXB + 2) :: as) μ'.2.2.1 = L') (hroom : (st.map fun v => v.category).sum ≤ 8)
    (hZ : Z μ' d 0 0 0 L' [] S I J (zRt v S I J)) (kk : Z μ (d + 1) kc ks nx L (v.toList ++ st) S I J Q) : Z μ (d + 1) kc ks pc L st0 S I J Q :=
  z_callVX ht hk hno K KI KS hcs hlink hst hn hlen hL' hroom (Nat.zero_le _) (Nat.zero_le _) (Or.inl fun o S' I' J' h => by obtain ⟨-, rfl, -⟩ := h; rfl) hZ (fun E S' I' J' h => by obtain ⟨h1, -⟩ := h; cases h1) (fun w S' I' J' h => by obtain ⟨h1, rfl, rfl, rfl⟩ := h; cases h1; exact kk)
theorem zw_val : Cond.fieldLink RJ0 9 "java/lang/String" "value" "[B" ∈ zG := by decide +kernel
theorem zw_cod : Cond.fieldLink RJ0 15 "java/lang/String" "coder" "B" ∈ zG := by decide +kernel
theorem zw_cmp : Cond.fieldLink RJ0 38 "java/lang/String" "COMPACT_STRINGS" "Z" ∈ zG := by decide +kernel
theorem zw_sio : Cond.fieldLink RJ0 1053 "jdk/internal/util/Preconditions" "SIOOBE_FORMATTER" "Ljava/util/function/BiFunction;" ∈ zG := by decide +kernel
theorem zw_1 : Cond.instanceMethod yJ0_coder_7d493 ∈ zG ∧ Cond.selects RJ0 yJ0_coder_7d493 yJ0_coder_7d493 ∈ zG := by decide +kernel
theorem zw_2 : Cond.instanceMethod yJ0_isLatin1_aae02 ∈ zG ∧ Cond.selects RJ0 yJ0_isLatin1_aae02 yJ0_isLatin1_aae02 ∈ zG := by decide +kernel
theorem zw_3 : Cond.instanceMethod yJ0_length_8abf5 ∈ zG ∧ Cond.selects RJ0 yJ0_length_8abf5 yJ0_length_8abf5 ∈ zG := by decide +kernel
theorem zw_4 : Cond.instanceMethod yJ0_charAt_5068e ∈ zG ∧ Cond.selects RJ0 yJ0_charAt_5068e yJ0_charAt_5068e ∈ zG := by decide +kernel
theorem c_coder : Z M_J0_coder_7d493 d 0 0 0 [some (.ref (zXB + 2))] [] S I J (zRt (some (.int 0)) S I J) := by
  refine z_xcmp Q_J0_coder_7d493 (k := 0) rfl zw_cmp ?_
  refine z_if_eq (tgt := 13) Q_J0_coder_7d493 (k := 1) rfl (by decide) (fun h => absurd h (by decide)) (fun _ => ?_)
  refine z_aload_n Q_J0_coder_7d493 (k := 2) rfl rfl ?_
  refine z_xcod Q_J0_coder_7d493 (k := 3) rfl zw_cod ?_
  refine z_goto (tgt := 14) Q_J0_coder_7d493 (k := 4) rfl (by decide) ?_
  exact z_nret Q_J0_coder_7d493 (k := 6) rfl rfl rfl ⟨rfl, rfl, rfl, rfl⟩
theorem c_isLatin1 : Z M_J0_isLatin1_aae02 d 0 0 0 [some (.ref (zXB + 2))] [] S I J (zRt (some (.int 1)) S I J) := by
  refine z_xcmp Q_J0_isLatin1_aae02 (k := 0) rfl zw_cmp ?_
  refine z_if_eq (tgt := 17) Q_J0_isLatin1_aae02 (k := 1) rfl (by decide) (fun h => absurd h (by decide)) (fun _ => ?_)
  refine z_aload_n Q_J0_isLatin1_aae02 (k := 2) rfl rfl ?_
  refine z_xcod Q_J0_isLatin1_aae02 (k := 3) rfl zw_cod ?_
  refine z_if_ne (tgt := 17) Q_J0_isLatin1_aae02 (k := 4) rfl (by decide) (fun h => absurd rfl h) (fun _ => ?_)
  refine z_iconst_ (v := 1) Q_J0_isLatin1_aae02 (k := 5) rfl rfl ?_
  refine z_goto (tgt := 18) Q_J0_isLatin1_aae02 (k := 6) rfl (by decide) ?_
  exact z_zret Q_J0_isLatin1_aae02 (k := 8) rfl rfl (Or.inr rfl) ⟨rfl, rfl, rfl, rfl⟩
theorem c_length : Z M_J0_length_8abf5 (d + 1) 0 0 0 [some (.ref (zXB + 2))] [] S I J (zRt (some (.int 105)) S I J) := by
  refine z_aload_n Q_J0_length_8abf5 (k := 0) rfl rfl ?_
  refine z_xval Q_J0_length_8abf5 (k := 1) rfl zw_val ?_
  refine z_xlen Q_J0_length_8abf5 (k := 2) rfl ?_
  refine z_aload_n Q_J0_length_8abf5 (k := 3) rfl rfl ?_
  refine y_callVX (as := []) Q_J0_length_8abf5 (k := 4) rfl rfl K_J0_coder_7d493 zw_1.1 zw_1.2 rfl L_J0_335 rfl rfl (Nat.le_of_ble_eq_true rfl) rfl (by decide) c_coder ?_
  refine z_ishr Q_J0_length_8abf5 (k := 5) rfl ?_
  exact z_iret Q_J0_length_8abf5 (k := 6) rfl rfl ⟨rfl, rfl, rfl, rfl⟩
theorem c_pre {z : Int} {v : Value} (hz : 0 ≤ z ∧ z < 105) : Z M_J3_checkIndex_8e157 d 0 0 0 [some (.int (iI z)), some (.int (iI 105)), some v] [] S I J (zRt (some (.int (iI z))) S I J) := by
  have hr : zr z := ⟨by omega, by omega⟩
  refine z_iload_n Q_J3_checkIndex_8e157 (k := 0) rfl rfl ?_
  refine y_if_lt 9 Q_J3_checkIndex_8e157 (k := 1) rfl (by decide) hr (fun h => absurd h (by omega)) (fun _ => ?_)
  refine z_iload_n Q_J3_checkIndex_8e157 (k := 2) rfl rfl ?_
  refine z_iload_n Q_J3_checkIndex_8e157 (k := 3) rfl rfl ?_
  refine y_icmp_lt 16 Q_J3_checkIndex_8e157 (k := 4) rfl (by decide) hr ⟨by decide, by decide⟩ (fun _ => ?_) (fun h => absurd hz.2 h)
  refine z_iload_n Q_J3_checkIndex_8e157 (k := 10) rfl rfl ?_
  exact z_iret Q_J3_checkIndex_8e157 (k := 11) rfl rfl ⟨rfl, rfl, rfl, rfl⟩
theorem c_chk {z : Int} (hz : 0 ≤ z ∧ z < 105) : Z M_J0_checkIndex_df160 (d + 1) 0 0 0 [some (.int (iI z)), some (.int (iI 105))] [] S I J (zRt none S I J) := by
  refine z_iload_n Q_J0_checkIndex_df160 (k := 0) rfl rfl ?_
  refine z_iload_n Q_J0_checkIndex_df160 (k := 1) rfl rfl ?_
  refine z_xsio Q_J0_checkIndex_df160 (k := 2) rfl zw_sio (fun v hv => ?_)
  rcases hv with rfl | rfl
  · refine y_callS3 Q_J0_checkIndex_df160 (k := 3) rfl rfl K_J3_checkIndex_8e157 S_J3_checkIndex_8e157 L_J0_1059 (by decide) (Nat.le_of_ble_eq_true rfl) rfl (Nat.zero_le _) (Nat.zero_le _) rfl (c_pre hz) ?_
    refine z_pop Q_J0_checkIndex_df160 (k := 4) rfl rfl ?_
    exact z_vret Q_J0_checkIndex_df160 (k := 5) rfl rfl ⟨rfl, rfl, rfl, rfl⟩
  · refine y_callS3 Q_J0_checkIndex_df160 (k := 3) rfl rfl K_J3_checkIndex_8e157 S_J3_checkIndex_8e157 L_J0_1059 (by decide) (Nat.le_of_ble_eq_true rfl) rfl (Nat.zero_le _) (Nat.zero_le _) rfl (c_pre hz) ?_
    refine z_pop Q_J0_checkIndex_df160 (k := 4) rfl rfl ?_
    exact z_vret Q_J0_checkIndex_df160 (k := 5) rfl rfl ⟨rfl, rfl, rfl, rfl⟩
def zCh (j : Nat) : Int32 := ((zByt.getD j 0 &&& 255).toUInt32 % 65536).toInt32
theorem zCh_ok : ∀ j, j < 105 → zCh j = zByt.getD j 0 ∧ ((zCh j).toUInt32 % 65536).toInt32 = zCh j := by decide +kernel
theorem c_latAt {z : Int} (hz : 0 ≤ z ∧ z < 105) : Z M_J1_charAt_3b067 (d + 2) 0 0 0 [some (.ref (zXB + 3)), some (.int (iI z))] [] S I J (zRt (some (.int (zByt.getD z.toNat 0))) S I J) := by
  refine z_iload_n Q_J1_charAt_3b067 (k := 0) rfl rfl ?_
  refine z_aload_n Q_J1_charAt_3b067 (k := 1) rfl rfl ?_
  refine z_xlen Q_J1_charAt_3b067 (k := 2) rfl ?_
  refine y_callS2 Q_J1_charAt_3b067 (k := 3) rfl rfl K_J0_checkIndex_df160 S_J0_checkIndex_df160 L_J1_9 (by decide) (Nat.le_of_ble_eq_true rfl) rfl (Nat.zero_le _) (Nat.zero_le _) rfl (c_chk hz) ?_
  refine z_aload_n Q_J1_charAt_3b067 (k := 4) rfl rfl ?_
  refine z_iload_n Q_J1_charAt_3b067 (k := 5) rfl rfl ?_
  refine z_xbal (j := z.toNat) Q_J1_charAt_3b067 (k := 6) rfl (iI_idx hz.1) (by omega) ?_
  refine z_sipush_ (v := 255) Q_J1_charAt_3b067 (k := 7) rfl (by decide) ?_
  refine z_iand Q_J1_charAt_3b067 (k := 8) rfl ?_
  refine z_i2c Q_J1_charAt_3b067 (k := 9) rfl ?_
  have h := zCh_ok z.toNat (by omega)
  rw [show (((zByt.getD z.toNat 0 &&& 255).toUInt32 % 65536).toInt32) = zCh z.toNat from rfl, ← h.1]
  exact z_nret Q_J1_charAt_3b067 (k := 10) rfl rfl (congrArg Value.int h.2) ⟨rfl, rfl, rfl, rfl⟩
theorem c_charAt {z : Int} (hz : 0 ≤ z ∧ z < 105) : Z M_J0_charAt_5068e (d + 3) 0 0 0 [some (.ref (zXB + 2)), some (.int (iI z))] [] S I J (zRt (some (.int (zByt.getD z.toNat 0))) S I J) := by
  refine z_aload_n Q_J0_charAt_5068e (k := 0) rfl rfl ?_
  refine y_callVX (as := []) Q_J0_charAt_5068e (k := 1) rfl rfl K_J0_isLatin1_aae02 zw_2.1 zw_2.2 rfl L_J0_492 rfl rfl (Nat.le_of_ble_eq_true rfl) rfl (by decide) c_isLatin1 ?_
  refine z_if_eq (tgt := 16) Q_J0_charAt_5068e (k := 2) rfl (by decide) (fun h => absurd h (by decide)) (fun _ => ?_)
  refine z_aload_n Q_J0_charAt_5068e (k := 3) rfl rfl ?_
  refine z_xval Q_J0_charAt_5068e (k := 4) rfl zw_val ?_
  refine z_iload_n Q_J0_charAt_5068e (k := 5) rfl rfl ?_
  refine y_callS2 Q_J0_charAt_5068e (k := 6) rfl rfl K_J1_charAt_3b067 S_J1_charAt_3b067 L_J0_495 (by decide) (Nat.le_of_ble_eq_true rfl) rfl (Nat.zero_le _) (Nat.zero_le _) rfl (c_latAt hz) ?_
  have h := zCh_ok z.toNat (by omega)
  exact z_nret Q_J0_charAt_5068e (k := 7) rfl rfl (congrArg Value.int (by rw [← h.1]; exact h.2)) ⟨rfl, rfl, rfl, rfl⟩
theorem q_txlen {idx : Nat} (ht : zT μ tb) (hk : zat tb k = some (pc, .invokevirtual idx, 3, nx)) (hno : μ.2.2.2.2 = []) (hlink : Cond.methodLink μ.1.cls idx yJ0_length_8abf5 ∈ zG) (hroom : (st.map fun v => v.category).sum ≤ 8) (kk : Z μ (d + 4) kc ks nx L (.int (iI 105) :: st) S I J Q) : Z μ (d + 4) kc ks pc L (.ref (zXB + 2) :: st) S I J Q :=
  y_callVX (d := d + 3) (as := []) ht hk hno K_J0_length_8abf5 zw_3.1 zw_3.2 rfl hlink rfl rfl (Nat.le_of_ble_eq_true rfl) rfl hroom (c_length (d := d + 2)) kk
theorem q_txch {idx : Nat} {z : Int} (ht : zT μ tb) (hk : zat tb k = some (pc, .invokevirtual idx, 3, nx)) (hno : μ.2.2.2.2 = []) (hlink : Cond.methodLink μ.1.cls idx yJ0_charAt_5068e ∈ zG) (hroom : (st.map fun v => v.category).sum ≤ 8) (hz : 0 ≤ z ∧ z < 105) (kk : Z μ (d + 4) kc ks nx L (.int (iI (qtx z)) :: st) S I J Q) : Z μ (d + 4) kc ks pc L (.int (iI z) :: .ref (zXB + 2) :: st) S I J Q :=
  y_callVX (d := d + 3) (as := [.int (iI z)]) ht hk hno K_J0_charAt_5068e zw_4.1 zw_4.2 rfl hlink rfl rfl (Nat.le_of_ble_eq_true rfl) rfl hroom (c_charAt (d := d) hz) (y_raw (y := qtx z) (iI_of _) kk)
end
theorem y_iushr {μ : zM} {d kc ks pc nx k : Nat} {L : zL} {st : List Value} {S : zS} {I : zI} {J : zJ} {Q : zQ} {tb : zTb} {x y : Int} (ht : zT μ tb) (hk : zat tb k = some (pc, .iushr, 1, nx)) (kk : Z μ d kc ks nx L (.int (iI (zushr x y)) :: st) S I J Q) : Z μ d kc ks pc L (.int (iI y) :: .int (iI x) :: st) S I J Q := z_iushr ht hk (y_raw (iI_of _) kk)
theorem y_l2i {μ : zM} {d kc ks pc nx k : Nat} {L : zL} {st : List Value} {S : zS} {I : zI} {J : zJ} {Q : zQ} {tb : zTb} {x : Int64} (ht : zT μ tb) (hk : zat tb k = some (pc, .l2i, 1, nx)) (kk : Z μ d kc ks nx L (.int (iI x.toInt32.toInt) :: st) S I J Q) : Z μ d kc ks pc L (.long x :: st) S I J Q := z_l2i ht hk (y_raw (iI_of _) kk)
