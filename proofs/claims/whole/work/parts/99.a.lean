/-! from the law's entry to Z: what the Statement gives of the start -/
def gFl : List Cond := flatC (Jvm.Cond.and given_1 narrow_1)
theorem e_Kc {args : Array Value} {s : State} {i N : Nat} {C : String} {T : u_T} {ty : Nat → FieldType} (hts : ∀ w ∈ zG, w.before args s = true) (CK : zCk i C T N ty) (hN : Cond.instantiable C N ∈ zG) : ∃ x : ClassId × (Nat → Nat), ∀ q : vw_C, vwCl[i]? = some q → u_Kn s q.1 q.2.1 q.2.2 x.1 x.2 := by
  obtain ⟨a, b, h⟩ := u_known (C := C) (T := T) (N := N) (n := N) hts CK.2.1 (hts _ hN)
  exact ⟨(a, b), fun q hq => by rw [CK.1] at hq; cases hq; exact h⟩
theorem e_Ka {args : Array Value} {s : State} {t : Nat} {ty : FieldType} (htt : zty[t]? = some ty) (hp : ∀ c, va_RA s c ty = (s.vm.findClass ("[" ++ ty.toString) = some c)) (h : (Cond.arrayClass ty).before args s = true) : ∃ a : ClassId, ∀ ty, zty[t]? = some ty → ArrOfT s a ty ∧ va_RA s a ty := by
  obtain ⟨c, k, comp, a1, a2, a3⟩ := Cond.arrayClass_spec h
  refine ⟨c, fun ty' hty => ?_⟩
  rw [htt] at hty; cases hty
  exact ⟨fun N z => ⟨(fun k h => by cases h), k, a2, comp, a3⟩, by rw [hp]; exact a1⟩
theorem e_Ko {s : State} {t : Nat} {C : String} (htt : zty[t]? = some (.object C)) (h : va_AO C s) : ∃ a : ClassId, ∀ ty, zty[t]? = some ty → ArrOfT s a ty ∧ va_RA s a ty := by
  obtain ⟨comp, c, k, b1, b2, b3, b4, b5⟩ := Cond.arrayOver_spec (va_AO.use (A := #[]) h)
  refine ⟨c, fun ty' hty => ?_⟩
  rw [htt] at hty; cases hty
  exact ⟨fun N z => ⟨(fun k h => by cases h), k, b3, comp, b4⟩, k, comp, b3, b4, b1, b5⟩
theorem e_K {args : Array Value} {s : State} (hts : ∀ w ∈ zG, w.before args s = true) (hao : ∀ C ∈ zAO, va_AO C s) : ∃ (D : va_G) (aC : Nat → ClassId), va_K D vwCl (zTy aC) s := by
  have h0 : ∀ c : Nat, ∃ x : ClassId × (Nat → Nat), ∀ q : vw_C, vwCl[c]? = some q → u_Kn s q.1 q.2.1 q.2.2 x.1 x.2 := by
    intro c
    match c with
    | 0 => exact e_Kc hts CK_0 N_X0
    | 1 => exact e_Kc hts CK_1 N_X1
    | 2 => exact e_Kc hts CK_2 N_X2
    | 3 => exact e_Kc hts CK_3 N_X3
    | 4 => exact e_Kc hts CK_4 N_X4
    | 5 => exact e_Kc hts CK_5 N_X5
    | 6 => exact e_Kc hts CK_6 N_X6
    | 7 => exact e_Kc hts CK_7 N_X7
    | 8 => exact e_Kc hts CK_8 N_X8
    | 9 => exact e_Kc hts CK_9 N_X9
    | 10 => exact e_Kc hts CK_10 N_X10
    | 11 => exact e_Kc hts CK_11 N_X11
    | c + 12 => exact ⟨(0, fun _ => 0), fun q hq => by simp [vwCl] at hq⟩
  have h1 : ∀ t : Nat, ∃ a : ClassId, ∀ ty, zty[t]? = some ty → ArrOfT s a ty ∧ va_RA s a ty := by
    intro t
    match t with
    | 0 => exact e_Ka rfl (fun _ => rfl) (hts _ A_int)
    | 1 => exact e_Ka rfl (fun _ => rfl) (hts _ A_long)
    | 2 => exact e_Ka rfl (fun _ => rfl) (hts _ A_byte)
    | 3 => exact e_Ka rfl (fun _ => rfl) (hts _ A_boolean)
    | 4 => exact e_Ko rfl (hao "FoundThings$Law" (by decide))
    | 5 => exact e_Ko rfl (hao "FoundThings$Told" (by decide))
    | 6 => exact e_Ko rfl (hao "FoundThings$Person" (by decide))
    | 7 => exact e_Ko rfl (hao "FoundThings$Find" (by decide))
    | 8 => exact e_Ko rfl (hao "FoundThings$Claim" (by decide))
    | 9 => exact e_Ko rfl (hao "FoundThings$Passing" (by decide))
    | t + 10 => exact ⟨0, fun ty h => by simp [zty] at h⟩
  obtain ⟨x, hx⟩ := Classical.axiomOfChoice h0
  obtain ⟨aC, ha⟩ := Classical.axiomOfChoice h1
  refine ⟨(fun c => (x c).1, fun c => (x c).2), aC, fun c q hq => hx c q hq, fun k q hk => ?_⟩
  simp only [zTy, List.getElem?_map, List.getElem?_zipIdx, Option.map_map, Option.map_eq_some_iff, Function.comp] at hk
  obtain ⟨ty, h2, rfl⟩ := hk
  have := ha k ty h2
  simpa using this
theorem gIn {α : Type} {l : List α} {f : α → Cond} {T : List Cond} (ps : List Nat) (h : (l.map fun x => some (f x)) = ps.map (fun i => T[i]?)) : ∀ q ∈ l, f q ∈ T := by
  intro q hq
  have h1 : some (f q) ∈ l.map (fun x => some (f x)) := List.mem_map.mpr ⟨q, hq, rfl⟩
  rw [h] at h1
  obtain ⟨i, _, hi⟩ := List.mem_map.mp h1
  exact List.mem_of_getElem? hi
theorem gS_1 : ∀ q ∈ zStr, Cond.stringRef q.1 q.2.1 q.2.2 ∈ lw_tbl := gIn [728, 795, 1019, 1029, 1069, 1100, 1126, 1187, 1363, 1369] (by decide +kernel)
theorem gS_2 : ∀ q ∈ zStr, Cond.exactly (.string q.1 q.2.1) "java/lang/String" ∈ gFl := gIn [195, 230, 340, 361, 395, 417, 445, 467, 489, 514] (by decide +kernel)
theorem gS_3 : ∀ q ∈ zCas, Cond.castable q.1 q.2 ∈ lw_tbl := gIn [688, 1012, 1062, 1093, 2013, 2014, 2015, 2016, 2017, 2018, 2019, 2020, 2021, 2022, 2023, 2024, 2025, 2026, 2027, 2028, 2029, 2030] (by decide +kernel)
theorem gS_4 : ∀ y ∈ zDc, Cond.declares y ∈ lw_tbl := by decide +kernel
theorem gS_5 : ∀ q ∈ zNc, Cond.not (.castable q.1 q.2) ∈ gFl := gIn [90, 60, 75, 47, 62, 77, 45, 91, 76, 46, 92, 61] (by decide +kernel)
theorem gS_6 : ∀ q ∈ zNF, Cond.fieldLinkNest q.1 q.2.1 q.2.2.1 q.2.2.2.1 q.2.2.2.2 "FoundThings" ∈ lw_tbl := gIn [161, 162, 164, 166, 169, 172, 191, 202, 205, 207, 263, 265, 267, 268, 270, 287, 289, 291, 292, 294, 295, 297, 299, 300, 302, 303, 305, 307, 345, 346, 348, 349, 351, 352, 366, 367, 369, 370, 372, 373, 375, 376, 387, 389, 391, 393, 395, 397, 399, 401, 403, 405, 407, 409, 411, 413, 415, 477, 478, 480, 481, 483, 484] (by decide +kernel)
theorem gS_7 : ∀ q ∈ zNM, Cond.methodLinkNest q.1 q.2.1 q.2.2 "FoundThings" ∈ lw_tbl := by decide +kernel
theorem gS_8 : ∀ C ∈ zAO, Cond.arrayOver (.object C) ∈ lw_tbl := by decide +kernel
theorem gS_9' : ∀ j, j < 105 → gFl[234 + j]? = some (Cond.eq (.elem (.field (.string "FoundThings$Reader" 173) "java/lang/String" "value" "[B") (.int (Int32.ofNat j))) (.int (zByt.getD j 0))) := by decide +kernel
theorem gS_9 (j : Nat) (h : j < 105) : Cond.eq (.elem (.field (.string "FoundThings$Reader" 173) "java/lang/String" "value" "[B") (.int (Int32.ofNat j))) (.int (zByt.getD j 0)) ∈ gFl := List.mem_of_getElem? (gS_9' j h)
theorem gS_N : ∀ j, j < 10 → Cond.eq (.elem (.static "FoundThings" "NO_NAMES" "[I") (.int (Int32.ofNat j))) (.int 0) ∈ gFl := by decide +kernel
def zTBl (j : Nat) : Int64 := match zTB j with
  | .long v => v
  | _ => 0
theorem zTB_l (j : Nat) : zTB j = .long (zTBl j) := by
  unfold zTBl zTB
  split <;> rfl
theorem gS_T : ∀ j, j < 6 → Cond.eq (.elem (.static "FoundThings" "TRUE_BITS" "[J") (.int (Int32.ofNat j))) (.long (zTBl j)) ∈ gFl := by decide +kernel
theorem e_ofN (x : Int32) : Int32.ofNat x.toBitVec.toNat = x := by
  apply Int32.toBitVec_inj.mp
  show BitVec.ofNat 32 x.toBitVec.toNat = x.toBitVec
  simp
theorem e_Bs {s : State} {b L : Nat} {xs : Nat → Int32} (hts : ∀ w ∈ lw_tbl, w.before #[Value.ref b] s = true) (hgv : (Jvm.Cond.and given_1 narrow_1).before #[Value.ref b] s = true) (hX : va_X b L xs s s.heap) (hb : b < s.heap.size) (hL : L ≤ 3072) : ∃ (X : zX) (D : va_G) (aC : Nat → ClassId), X.1 = s.heap.size ∧ X.2 4 = b ∧ X.2 5 = L ∧ zBs X D aC s := by
  have hs : ∀ w ∈ gFl, w.before #[Value.ref b] s = true := flat_of_before _ hgv
  have hA : ∀ a : Nat, a < s.heap.size → ¬ zA s.heap.size a := fun a h => Nat.not_le.mpr h
  have hG : ∀ w ∈ zG, w.before #[Value.ref b] s = true := fun w hw => hts w (List.mem_filter.mp hw).1
  have hao : ∀ C ∈ zAO, va_AO C s := fun C hC => va_AO.of (hts _ (gS_8 C hC))
  obtain ⟨D, aC, hK⟩ := e_K hG hao
  obtain ⟨tB, hB1, hB2⟩ := va_Tof (tm := .static "FoundThings" "TRUE_BITS" "[J") (ty := .long) (N := 6) (f := zTB) (A := zA s.heap.size) (by decide) (hs _ (by decide +kernel)) (va_eqt (hs _ (by decide +kernel))) (fun j hj => by rw [zTB_l]; exact va_eqtl (hs _ (gS_T j hj))) hA
  obtain ⟨tN, hN1, hN2⟩ := va_Tof (tm := .static "FoundThings" "NO_NAMES" "[I") (ty := .int) (N := 10) (f := fun _ => .int 0) (A := zA s.heap.size) (by decide) (hs _ (by decide +kernel)) (va_eqt (hs _ (by decide +kernel))) (fun j hj => va_eqt (hs _ (gS_N j hj))) hA
  obtain ⟨aK, aV, hS1, hS2⟩ := vk_Sof (args := #[Value.ref b]) (s := s) (N := 1) (tm := fun _ => .string "FoundThings$Reader" 173) (len := [105]) (byt := [zByt]) (A := zA s.heap.size) (by decide) (fun i hi => hs _ (by decide +kernel)) (fun i hi => hs _ (by decide +kernel)) (fun i hi => hs _ (by decide +kernel))
    (fun i hi => by
      have e : i = 0 := by omega
      subst e
      exact hs _ (by decide +kernel))
    (fun i hi j hj => by
      have e : i = 0 := by omega
      subst e
      exact hs _ (gS_9 j hj))
    (fun i j hi hj hij => absurd (show i = j by omega) hij) hA
  obtain ⟨v, hv1, hv2⟩ := Cond.isRef_spec (hs (.isRef (.static "jdk/internal/util/Preconditions" "SIOOBE_FORMATTER" "Ljava/util/function/BiFunction;")) (by decide +kernel))
  obtain ⟨fl, fm, rfl⟩ : ∃ fl fm : Nat, v = (if fl = 0 then Value.null else Value.ref fm) := by
    cases v with
    | ref a => exact ⟨1, a, rfl⟩
    | null => exact ⟨0, 0, rfl⟩
    | _ => cases hv2
  refine ⟨(s.heap.size, fun i => if i = 100000 then fm else if i = 100001 then fl else if i = 0 then tB else if i = 1 then tN else if i = 2 then aK 0 else if i = 3 then aV 0 else if i = 4 then b else if i = 5 then L else (xs (i - 6)).toBitVec.toNat), D, aC, rfl, rfl, rfl, Nat.le_refl _, hK, ?_, ?_, ?_, ?_, ?_, ⟨?_, ?_, ?_, ?_, ?_, ⟨?_, ?_⟩, ?_, ?_, ?_⟩, hao, ⟨?_, ?_⟩, ?_⟩
  · exact fun q hq => va_Nw.of rfl (hts _ (gS_6 q hq))
  · exact fun q hq => va_Nw.of rfl (hts _ (gS_7 q hq))
  · intro q hq
    obtain ⟨a, c, cA, kA, q1, -⟩ := Cond.exactly_spec (hs _ (gS_2 q hq))
    exact ⟨a, vk_R.of (hts _ (gS_1 q hq)) q1⟩
  · exact vx_Zqof (hts _ (by decide +kernel)) (hts _ (by decide +kernel)) (hs _ (by decide +kernel)) hA
  · exact vx_Zqof (hts _ (by decide +kernel)) (hts _ (by decide +kernel)) (hs _ (by decide +kernel)) hA
  · exact va_Zref (hts _ (by decide +kernel)) (hts _ (by decide +kernel)) hB1 hA
  · exact hB2
  · exact va_Zref (hts _ (by decide +kernel)) (hts _ (by decide +kernel)) hN1 hA
  · exact hN2
  · refine ⟨fun i hi => ?_, fun i j hi hj _ => by omega⟩
    have e : i = 0 := by omega
    subst e
    exact hS1.1 0 (by omega)
  · exact va_Zof (hts _ (by decide +kernel)) (hts _ (by decide +kernel)) (va_eqt (hs _ (by decide +kernel))) hA
  · exact va_Zof (hts _ (by decide +kernel)) (hts _ (by decide +kernel)) hv1 hA
  · exact vk_R.of (hts _ (by decide +kernel)) (hS2 0 (by omega))
  · obtain ⟨scr, a1, a2, a3, a4, a5⟩ := hX
    refine ⟨scr, a1, a2, a3, a4, fun j hj => ?_⟩
    have hj' : j < L := hj
    rw [a5 j hj']
    show some (Value.int (xs j)) = some (Value.int (Int32.ofNat (if 6 + j = 100000 then fm else _)))
    rw [if_neg (by omega), if_neg (by omega), if_neg (by omega), if_neg (by omega), if_neg (by omega), if_neg (by omega), if_neg (by omega), if_neg (by omega), show 6 + j - 6 = j by omega, e_ofN]
  · exact hb
  · exact fun q hq => va_Nw.of rfl (hts _ (gS_3 q hq))
  · exact fun y hy => va_Nw.of rfl (hts _ (gS_4 y hy))
  · exact fun q hq => va_Nc.of (hs _ (gS_5 q hq))
