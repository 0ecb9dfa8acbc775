/-! the judgement Z: a method of the system at a point of its code, over a memory of numbered objects; all of the machine is hidden in it -/
abbrev zI : Type := Nat → Nat → Int32
abbrev zJ : Type := Nat → Nat → Int64
/-- references held, kinds (class number, or 100 + number of the array's type) and lengths, how many objects there are -/
abbrev zS : Type := (Nat → Nat → Option Nat) × (Nat → Nat × Nat) × Nat
abbrev zQ : Type := (Option Value ⊕ String) → zS → zI → zJ → Prop
abbrev zM : Type := MethodName × ByteArray × Nat × Option FieldType × List (Nat × Nat × Nat × Nat)
abbrev zX : Type := Nat × (Nat → Nat)
abbrev zL : Type := List (Option Value)
def zXB : Nat := 1000000
def zu {α : Type} (f : Nat → Nat → α) (a k : Nat) (v : α) : Nat → Nat → α := fun i j => if i = a then (if j = k then v else f i j) else f i j
theorem zu_s {α : Type} (f : Nat → Nat → α) (a k : Nat) (v : α) : zu f a k v a k = v := by simp [zu]
theorem zu_o {α : Type} (f : Nat → Nat → α) {a k i : Nat} (v : α) (h : i ≠ a) : zu f a k v i = f i := by funext j; simp [zu, h]
theorem zu_j {α : Type} (f : Nat → Nat → α) {a k i j : Nat} (v : α) (h : j ≠ k) : zu f a k v i j = f i j := by simp [zu, h]
theorem zu_i (f : zI) (a k : Nat) (v : Int32) : zu f a k v a = upd (f a) k v := by funext j; simp [zu, upd]
theorem zu_l (f : zJ) (a k : Nat) (v : Int64) : zu f a k v a = vp_updL (f a) k v := by funext j; simp [zu, vp_updL]
def zv (ad : Nat → Nat) (v : Value) : Value := match v with
  | .ref i => .ref (ad i)
  | w => w
/-- the fields of class c: is it a reference -/
def zsh : Nat → List Bool := fun c => match c with
  | 0 => [false, false, false]
  | 1 => [false, false, false, false, false, false, false, false, false, false, true, true, true]
  | 2 => [true, true, true, false, false]
  | 3 => [false, true, true, true, true, false, false]
  | 4 => [false, false, false, false]
  | 5 => [false, false, true, false]
  | 6 => [true, false, false, true, true, true, false, false, false, false, false, false, false, true, true]
  | 7 => [true, true, false, false, false, true, false, true, false, true, true]
  | 8 => [false, true, true, true, false, true, true, true, false, true, false, true, false, true, false]
  | 9 => [true, false, false]
  | 10 => [true, true, false, true, true, false, true, true, true, true, true, true, true, true]
  | 11 => [false, true, true, true, true, true, true, true, true, true, true, false, false, false, false, false, false, false, false, false, false, true, true, true, true, false, true, false, true, true, true, true, true, false, true]
  | _ => []
def zFd (ad : Nat → Nat) (S : zS) (I : zI) (i c : Nat) : List Value := (zsh c).zipIdx.map fun q => if q.1 then va_rf ((S.1 i q.2).map ad) else .int (I i q.2)
def zE (aC : Nat → ClassId) (ad : Nat → Nat) (S : zS) (I : zI) (J : zJ) (i : Nat) : va_E :=
  if (S.2.1 i).1 < 100 then .inr ((S.2.1 i).1, zFd ad S I i (S.2.1 i).1)
  else if (S.2.1 i).1 = 101 then .inl (aC 1, (S.2.1 i).2, .inr (.inl (J i)))
  else if (S.2.1 i).1 < 104 then .inl (aC ((S.2.1 i).1 - 100), (S.2.1 i).2, .inl (I i))
  else .inl (aC ((S.2.1 i).1 - 100), (S.2.1 i).2, .inr (.inr (.inr (.inr fun j => (S.1 i j).map ad))))
def zW (aC : Nat → ClassId) (ad : Nat → Nat) (S : zS) (I : zI) (J : zJ) : va_W := (List.range S.2.2).map fun i => (ad i, zE aC ad S I J i)
theorem zW_get {aC : Nat → ClassId} {ad : Nat → Nat} {S : zS} {I : zI} {J : zJ} {i : Nat} (h : i < S.2.2) : (zW aC ad S I J)[i]? = some (ad i, zE aC ad S I J i) := by
  simp [zW, h]
theorem zW_set {aC : Nat → ClassId} {ad : Nat → Nat} {S S' : zS} {I I' : zI} {J J' : zJ} {a : Nat} {e : va_E} (hn : S'.2.2 = S.2.2) (he : zE aC ad S' I' J' a = e) (ho : ∀ i, i ≠ a → zE aC ad S' I' J' i = zE aC ad S I J i) :
    (zW aC ad S I J).set a (ad a, e) = zW aC ad S' I' J' := by
  apply List.ext_getElem?
  intro j
  by_cases hj : j < S.2.2
  · have h2 : (zW aC ad S' I' J')[j]? = some (ad j, zE aC ad S' I' J' j) := zW_get (by rw [hn]; exact hj)
    rw [h2]
    by_cases hja : j = a
    · subst hja
      rw [List.getElem?_set_self (by simp [zW, hj]), he]
    · rw [List.getElem?_set_ne (Ne.symm hja), zW_get hj, ho j hja]
  · have h1 : ((zW aC ad S I J).set a (ad a, e))[j]? = none := by rw [List.getElem?_eq_none_iff]; simp [zW]; omega
    have h2 : (zW aC ad S' I' J')[j]? = none := by rw [List.getElem?_eq_none_iff]; simp [zW]; omega
    rw [h1, h2]
theorem zFd_get {ad : Nat → Nat} {S : zS} {I : zI} {i c k : Nat} {b : Bool} (h : (zsh c)[k]? = some b) : (zFd ad S I i c)[k]? = some (if b then va_rf ((S.1 i k).map ad) else .int (I i k)) := by
  simp [zFd, List.getElem?_map, List.getElem?_zipIdx, h]
theorem zFd_len {ad : Nat → Nat} {S : zS} {I : zI} {i c : Nat} : (zFd ad S I i c).length = (zsh c).length := by simp [zFd]
theorem zFd_setI {ad : Nat → Nat} {S : zS} {I : zI} {i c k : Nat} {v : Int32} (h : (zsh c)[k]? = some false) : (zFd ad S I i c).set k (.int v) = zFd ad S (zu I i k v) i c := by
  apply List.ext_getElem?
  intro j
  by_cases hj : j = k
  · subst hj
    have hl : j < (zFd ad S I i c).length := by rw [zFd_len]; exact (List.getElem?_eq_some_iff.mp h).1
    rw [List.getElem?_set_self hl, zFd_get h]
    simp [zu]
  · rw [List.getElem?_set_ne (Ne.symm hj)]
    cases hb : (zsh c)[j]? with
    | none =>
      have h0 : (zsh c).length ≤ j := List.getElem?_eq_none_iff.mp hb
      rw [List.getElem?_eq_none_iff.mpr (by rw [zFd_len]; exact h0), List.getElem?_eq_none_iff.mpr (by rw [zFd_len]; exact h0)]
    | some b =>
      rw [zFd_get hb, zFd_get hb]
      simp [zu, hj]
def zuR (S : zS) (a k : Nat) (v : Option Nat) : zS := (zu S.1 a k v, S.2)
theorem zFd_setR {ad : Nat → Nat} {S : zS} {I : zI} {i c k : Nat} {v : Option Nat} (h : (zsh c)[k]? = some true) : (zFd ad S I i c).set k (va_rf (v.map ad)) = zFd ad (zuR S i k v) I i c := by
  apply List.ext_getElem?
  intro j
  by_cases hj : j = k
  · subst hj
    have hl : j < (zFd ad S I i c).length := by rw [zFd_len]; exact (List.getElem?_eq_some_iff.mp h).1
    rw [List.getElem?_set_self hl, zFd_get h]
    simp [zu, zuR]
  · rw [List.getElem?_set_ne (Ne.symm hj)]
    cases hb : (zsh c)[j]? with
    | none =>
      have h0 : (zsh c).length ≤ j := List.getElem?_eq_none_iff.mp hb
      rw [List.getElem?_eq_none_iff.mpr (by rw [zFd_len]; exact h0), List.getElem?_eq_none_iff.mpr (by rw [zFd_len]; exact h0)]
    | some b =>
      rw [zFd_get hb, zFd_get hb]
      simp [zu, zuR, hj]
def zA (b : Nat) : Nat → Prop := fun q => b ≤ q
def zG : List Cond := lw_tbl.filter goodWord
theorem zmem {w : Cond} (i : Nat) (h : lw_tbl[i]? = some w) (hg : goodWord w = true) : w ∈ zG := List.mem_filter.mpr ⟨List.mem_of_getElem? h, hg⟩
theorem zG_good {w : Cond} (h : w ∈ zG) : (w.onTables && w.keeps) = true ∨ ∃ ty, w = .arrayClass ty := good_of_word (List.mem_filter.mp h).2
def zty : List FieldType := [.int, .long, .byte, .boolean, .object "FoundThings$Law", .object "FoundThings$Told", .object "FoundThings$Person", .object "FoundThings$Find", .object "FoundThings$Claim", .object "FoundThings$Passing"]
def zTy (aC : Nat → ClassId) : List (ClassId × FieldType) := zty.zipIdx.map fun q => (aC q.2, q.1)
theorem zTy_get {aC : Nat → ClassId} {t : Nat} {ty : FieldType} (h : zty[t]? = some ty) : (zTy aC)[t]? = some (aC t, ty) := by
  simp [zTy, List.getElem?_map, List.getElem?_zipIdx, h]
def zNF : List (String × Nat × String × String × String) := [("FoundThings$Judge", 31, "FoundThings$Law", "rules", "I"), ("FoundThings$Reader", 98, "FoundThings$Law", "rules", "I"), ("FoundThings$Judge", 37, "FoundThings$Law", "who", "[I"), ("FoundThings$Judge", 50, "FoundThings$Law", "cries", "[I"), ("FoundThings$Judge", 84, "FoundThings$Law", "code", "[I"), ("FoundThings", 395, "FoundThings$Law", "uses", "I"), ("FoundThings", 76, "FoundThings$Reader", "tapeBytes", "I"), ("FoundThings", 94, "FoundThings$Reader", "faultNumber", "I"), ("FoundThings", 128, "FoundThings$Reader", "faultPlace", "I"), ("FoundThings", 104, "FoundThings$Reader", "condition", "LFoundThings$Law;"), ("FoundThings$Told", 159, "FoundThings$Person", "kind", "I"), ("FoundThings$Told", 162, "FoundThings$Person", "marks", "I"), ("FoundThings$Told", 156, "FoundThings$Person", "passes", "[I"), ("FoundThings", 197, "FoundThings$Person", "passes", "[I"), ("FoundThings", 373, "FoundThings$Person", "gone", "Z"), ("FoundThings$Told", 116, "FoundThings$Find", "way", "I"), ("FoundThings$Told", 119, "FoundThings$Find", "place", "I"), ("FoundThings$Told", 122, "FoundThings$Find", "worth", "I"), ("FoundThings", 354, "FoundThings$Find", "worth", "I"), ("FoundThings$Told", 125, "FoundThings$Find", "marks", "I"), ("FoundThings", 229, "FoundThings$Find", "marks", "I"), ("FoundThings", 232, "FoundThings$Find", "keep", "I"), ("FoundThings$Told", 138, "FoundThings$Find", "day", "I"), ("FoundThings", 348, "FoundThings$Find", "day", "I"), ("FoundThings$Told", 141, "FoundThings$Find", "cried", "I"), ("FoundThings", 336, "FoundThings$Find", "cried", "I"), ("FoundThings", 333, "FoundThings$Find", "criedOn", "I"), ("FoundThings", 370, "FoundThings$Find", "holder", "I"), ("FoundThings$Told", 90, "FoundThings$Claim", "find", "I"), ("FoundThings", 317, "FoundThings$Claim", "find", "I"), ("FoundThings$Told", 93, "FoundThings$Claim", "person", "I"), ("FoundThings", 320, "FoundThings$Claim", "person", "I"), ("FoundThings$Told", 96, "FoundThings$Claim", "marks", "I"), ("FoundThings", 323, "FoundThings$Claim", "marks", "I"), ("FoundThings$Told", 103, "FoundThings$Passing", "find", "I"), ("FoundThings", 377, "FoundThings$Passing", "find", "I"), ("FoundThings$Told", 104, "FoundThings$Passing", "from", "I"), ("FoundThings", 378, "FoundThings$Passing", "from", "I"), ("FoundThings$Told", 107, "FoundThings$Passing", "to", "I"), ("FoundThings", 381, "FoundThings$Passing", "to", "I"), ("FoundThings$Told", 110, "FoundThings$Passing", "price", "I"), ("FoundThings", 384, "FoundThings$Passing", "price", "I"), ("FoundThings", 97, "FoundThings$Told", "conditions", "I"), ("FoundThings", 111, "FoundThings$Told", "allowed", "[J"), ("FoundThings", 138, "FoundThings$Told", "known", "[I"), ("FoundThings", 141, "FoundThings$Told", "weight", "[I"), ("FoundThings", 211, "FoundThings$Told", "today", "I"), ("FoundThings", 203, "FoundThings$Told", "walled", "[I"), ("FoundThings", 200, "FoundThings$Told", "ground", "[I"), ("FoundThings", 183, "FoundThings$Told", "persons", "[LFoundThings$Person;"), ("FoundThings", 180, "FoundThings$Told", "personCount", "I"), ("FoundThings", 222, "FoundThings$Told", "finds", "[LFoundThings$Find;"), ("FoundThings", 219, "FoundThings$Told", "findCount", "I"), ("FoundThings", 307, "FoundThings$Told", "claims", "[LFoundThings$Claim;"), ("FoundThings", 304, "FoundThings$Told", "claimCount", "I"), ("FoundThings", 363, "FoundThings$Told", "passings", "[LFoundThings$Passing;"), ("FoundThings", 357, "FoundThings$Told", "passingCount", "I"), ("FoundThings$Judge", 67, "FoundThings$Verdict", "who", "[J"), ("FoundThings", 283, "FoundThings$Verdict", "who", "[J"), ("FoundThings$Judge", 44, "FoundThings$Verdict", "rule", "I"), ("FoundThings", 265, "FoundThings$Verdict", "rule", "I"), ("FoundThings$Judge", 47, "FoundThings$Verdict", "cry", "I"), ("FoundThings", 272, "FoundThings$Verdict", "cry", "I")]
def zNM : List (String × Nat × MethodName) := [("FoundThings$Judge", 77, ⟨"FoundThings$Law", "startOf", "(I)I"⟩), ("FoundThings$Judge", 81, ⟨"FoundThings$Law", "endOf", "(I)I"⟩), ("FoundThings$Judge", 112, ⟨"FoundThings", "trueBits", "(II)J"⟩), ("FoundThings$Verdict", 22, ⟨"FoundThings", "hasWorld", "([JII)Z"⟩)]
def zStr : List (String × Nat × String) := [("FoundThings", 120, "not that many bytes on the tape"), ("FoundThings$Reader", 173, "finder owner ground halves crown way place worth walled marks rare own age cried claims cry if or and not"), ("FoundThings", 146, "no such unknown"), ("FoundThings", 149, "a number that can't be told"), ("FoundThings", 208, "no such person"), ("FoundThings", 216, "behind the last day"), ("FoundThings", 235, "no such find"), ("FoundThings", 275, "no such law"), ("FoundThings", 315, "no such claim"), ("FoundThings", 331, "a claim tells no such thing")]
def zCas : List (String × String) := [("java/lang/IllegalArgumentException", "java/lang/IllegalArgumentException"), ("java/lang/IndexOutOfBoundsException", "java/lang/IndexOutOfBoundsException"), ("java/util/NoSuchElementException", "java/util/NoSuchElementException"), ("java/lang/IllegalStateException", "java/lang/IllegalStateException"), ("FoundThings", "java/lang/Object"), ("FoundThings$Reader", "java/lang/Object"), ("FoundThings$Law", "java/lang/Object"), ("FoundThings$Told", "java/lang/Object"), ("FoundThings$Person", "java/lang/Object"), ("FoundThings$Find", "java/lang/Object"), ("FoundThings$Claim", "java/lang/Object"), ("FoundThings$Passing", "java/lang/Object"), ("FoundThings$Judge", "java/lang/Object"), ("FoundThings$Verdict", "java/lang/Object"), ("FoundThings$Riddle", "java/lang/Object"), ("FoundThingsModel", "java/lang/Object"), ("java/lang/IllegalArgumentException", "java/lang/Object"), ("java/lang/IndexOutOfBoundsException", "java/lang/Object"), ("java/util/NoSuchElementException", "java/lang/Object"), ("java/lang/IllegalStateException", "java/lang/Object"), ("java/lang/Throwable", "java/lang/Object"), ("java/lang/String", "java/lang/Object")]
def zNc : List (String × String) := [("java/lang/IllegalArgumentException", "java/lang/IllegalStateException"), ("java/lang/IllegalArgumentException", "java/lang/IndexOutOfBoundsException"), ("java/lang/IllegalArgumentException", "java/util/NoSuchElementException"), ("java/lang/IllegalStateException", "java/lang/IllegalArgumentException"), ("java/lang/IllegalStateException", "java/lang/IndexOutOfBoundsException"), ("java/lang/IllegalStateException", "java/util/NoSuchElementException"), ("java/lang/IndexOutOfBoundsException", "java/lang/IllegalArgumentException"), ("java/lang/IndexOutOfBoundsException", "java/lang/IllegalStateException"), ("java/lang/IndexOutOfBoundsException", "java/util/NoSuchElementException"), ("java/util/NoSuchElementException", "java/lang/IllegalArgumentException"), ("java/util/NoSuchElementException", "java/lang/IllegalStateException"), ("java/util/NoSuchElementException", "java/lang/IndexOutOfBoundsException")]
def zDc : List MethodName := [Bundle.initS "java/lang/RuntimeException", Bundle.initS "java/lang/Exception", Bundle.initS Bundle.tN]
def zAO : List String := ["FoundThings$Law", "FoundThings$Person", "FoundThings$Find", "FoundThings$Claim", "FoundThings$Passing", "FoundThings$Told"]
def zTB : Nat → Value := fun j => match j with
  | 0 => .long (-6148914691236517206) | 1 => .long (-3689348814741910324) | 2 => .long (-1085102592571150096) | 3 => .long (-71777214294589696) | 4 => .long (-281470681808896) | _ => .long (-4294967296)
def zEx (X : zX) (U : State) : Prop :=
  va_Z "FoundThings" "TRUE_BITS" "[J" (.ref (X.2 0)) (zA X.1) U U.heap ∧ va_T .long (X.2 0) 6 zTB (zA X.1) U U.heap ∧
  va_Z "FoundThings" "NO_NAMES" "[I" (.ref (X.2 1)) (zA X.1) U U.heap ∧ va_T .int (X.2 1) 10 (fun _ => .int 0) (zA X.1) U U.heap ∧
  vk_S 1 [105] [zByt] (fun _ => X.2 2) (fun _ => X.2 3) (zA X.1) U U.heap ∧ (va_Z "java/lang/String" "COMPACT_STRINGS" "Z" (.int 1) (zA X.1) U U.heap ∧ va_Z "jdk/internal/util/Preconditions" "SIOOBE_FORMATTER" "Ljava/util/function/BiFunction;" (if X.2 100001 = 0 then .null else .ref (X.2 100000)) (zA X.1) U U.heap) ∧ vk_R "FoundThings$Reader" 173 "finder owner ground halves crown way place worth walled marks rare own age cried claims cry if or and not" (X.2 2) U ∧
  va_X (X.2 4) (X.2 5) (fun j => Int32.ofNat (X.2 (6 + j))) U U.heap ∧ X.2 4 < X.1
/-- what stays as it was at the law's start -/
def zBs (X : zX) (D : va_G) (aC : Nat → ClassId) (U : State) : Prop :=
  X.1 ≤ U.heap.size ∧ va_K D vwCl (zTy aC) U ∧ (∀ q ∈ zNF, va_Nw (.fieldLinkNest q.1 q.2.1 q.2.2.1 q.2.2.2.1 q.2.2.2.2 "FoundThings") U) ∧ (∀ q ∈ zNM, va_Nw (.methodLinkNest q.1 q.2.1 q.2.2 "FoundThings") U) ∧
  (∀ q ∈ zStr, ∃ sa, vk_R q.1 q.2.1 q.2.2 sa U) ∧ vx_Zq Bundle.tN "UNASSIGNED_STACK" Bundle.steD (zA X.1) U U.heap ∧ vx_Zq Bundle.tN "SUPPRESSED_SENTINEL" Bundle.listD (zA X.1) U U.heap ∧ zEx X U ∧ (∀ C ∈ zAO, va_AO C U) ∧ ((∀ q ∈ zCas, va_Nw (.castable q.1 q.2) U) ∧ ∀ y ∈ zDc, va_Nw (.declares y) U) ∧ (∀ q ∈ zNc, va_Nc q.1 q.2 U)
theorem zBs.mv {X : zX} {D : va_G} {aC : Nat → ClassId} {s U : State} (h : zBs X D aC s) (hW : s.WarmedH U.vm) (hz : s.heap.size ≤ U.heap.size) (hq : ∀ q : Nat, q < s.heap.size → ¬ zA X.1 q → U.heap[q]? = s.heap[q]?) : zBs X D aC U := by
  obtain ⟨h1, h2, h3, h4, h5, h6, h7, ⟨e1, e2, e3, e4, e5, e6, e7, e8, e9⟩, h9, h10, h11⟩ := h
  have hv := hW.alike
  refine ⟨Nat.le_trans h1 hz, h2.moved hv, fun q hm => (h3 q hm).warmF hW, fun q hm => (h4 q hm).warmM hW, fun q hm => ?_, (h6.moved hv).kept hq, (h7.moved hv).kept hq, ⟨(e1.moved hv).kept hq, (e2.moved hv).kept hq, (e3.moved hv).kept hq, (e4.moved hv).kept hq, (e5.moved hv).kept hq, ⟨(e6.1.moved hv).kept hq, (e6.2.moved hv).kept hq⟩, e7.warm hW, (e8.moved hv).kept (hq _ (Nat.lt_of_lt_of_le e9 h1) (Nat.not_le.mpr e9)), e9⟩, fun C hm => (h9 C hm).moved hv, ⟨fun q hm => (h10.1 q hm).warmC hW, fun y hm => va_tabs rfl (rfl : (s.setVm U.vm).vm = U.vm) (by rw [Cond.declares_setVm hW.alike]; exact h10.2 y hm)⟩, fun q hm => ?_⟩
  · obtain ⟨sa, hs⟩ := h5 q hm
    exact ⟨sa, hs.warm hW⟩
  · obtain ⟨c, u, n1, n2, n3⟩ := h11 q hm
    exact ⟨c, u, by rw [hv.findClass]; exact n1, by rw [hv.findClass]; exact n2, by rw [hv.assignable]; exact n3⟩
/-- the script, as S tells it -/
def zScr (X : zX) (S : zS) : Prop := (S.2.1 (zXB + 4)).2 = X.2 5 ∧ ∀ j, S.1 (zXB + 4) j = some (X.2 (6 + j))
def zHp (X : zX) (D : va_G) (aC : Nat → ClassId) (ad : Nat → Nat) (S : zS) (I : zI) (J : zJ) (H : Heap) : Prop :=
  va_P D vwCl (zW aC ad S I J) H ∧ va_D (zA X.1) (zW aC ad S I J) ∧ (∀ e, ad (zXB + e) = X.2 e) ∧ S.2.2 ≤ zXB ∧ zScr X S
def zAg (ad ad0 : Nat → Nat) (n0 n : Nat) : Prop := n0 ≤ n ∧ (∀ i, i < n0 → ad i = ad0 i) ∧ (n = n0 → ad = ad0)
theorem zAg.rf (ad : Nat → Nat) (n : Nat) : zAg ad ad n n := ⟨Nat.le_refl n, fun _ _ => rfl, fun _ => rfl⟩
theorem zAg.tr {a b c : Nat → Nat} {n1 n2 n3 : Nat} (h : zAg b a n1 n2) (k : zAg c b n2 n3) : zAg c a n1 n3 := by
  obtain ⟨h1, h2, h3⟩ := h
  obtain ⟨k1, k2, k3⟩ := k
  refine ⟨Nat.le_trans h1 k1, fun i hi => (k2 i (by omega)).trans (h2 i hi), fun e => ?_⟩
  have e1 : n3 = n2 := by omega
  have e2 : n2 = n1 := by omega
  rw [k3 e1, h3 e2]
def zFix (μ : zM) (p : Program) (l : Launch) (R : Room) (s : State) (m : MethodId) (args : Array Value) (meth : Method) (c : Code) (d mc ms : Nat) : Prop :=
  p.tables.exec = Jvm.exec ∧ c.code = μ.2.1 ∧ c.maxLocals = μ.2.2.1 ∧ s.vm.findClass μ.1.cls = some m.cls ∧ (∀ w ∈ zG, w.before args s = true) ∧ meth.sig.returnType = μ.2.2.2.1 ∧ meth.locks = false ∧
  c.exceptionTable.toList = tableOf μ.2.2.2.2 ∧ meth.name = μ.1.name ∧ l.stackTraces = false ∧ d + 10 ≤ R.frames ∧ 45 * d + 200 ≤ R.locals ∧ R.cells = mc ∧ R.slots = ms
def zLv (ad : Nat → Nat) (ls : Array Slot) (n : Nat) (L : zL) : Prop := ls.size = n ∧ lv_wf ls ∧ ∀ (j : Nat) (v : Value), L[j]? = some (some v) → ls[j]? = some (.val (zv ad v))
def zQc (X : zX) (D : va_G) (aC : Nat → ClassId) (ad0 : Nat → Nat) (n0 : Nat) (Q : zQ) : Array Value → State → Outcome → State → Prop := fun _ st o t =>
  (∃ (v : Option Value) (S : zS) (I : zI) (J : zJ) (ad : Nat → Nat), o = .returned (v.map (zv ad)) ∧ Q (.inl v) S I J ∧ zHp X D aC ad S I J t.heap ∧ zAg ad ad0 n0 S.2.2) ∧ va_F (zA X.1) st t
def zXc (X : zX) (D : va_G) (aC : Nat → ClassId) (ad0 : Nat → Nat) (n0 : Nat) (Q : zQ) : String → State → State → Prop := fun E st t =>
  (∃ (S : zS) (I : zI) (J : zJ) (ad : Nat → Nat), Q (.inr E) S I J ∧ zHp X D aC ad S I J t.heap ∧ zAg ad ad0 n0 S.2.2) ∧ va_F (zA X.1) st t
def Z (μ : zM) (d kc ks pc : Nat) (L : zL) (st : List Value) (S : zS) (I : zI) (J : zJ) (Q : zQ) : Prop :=
  ∀ (p : Program) (l : Launch) (e : Env) (R : Room) (s : State) (m : MethodId) (args : Array Value) (below : List Frame) (meth : Method) (c : Code) (X : zX) (D : va_G) (aC : Nat → ClassId) (ad ad0 : Nat → Nat) (n0 : Nat) (ls : Array Slot) (H : Heap) (locs : List Loc) (cells slots mc ms : Nat),
    zFix μ p l R s m args meth c d mc ms → zBs X D aC s → zHp X D aC ad S I J H → zAg ad ad0 n0 S.2.2 → va_S (zA X.1) s.heap H locs → zLv ad ls μ.2.2.1 L → cells + kc ≤ mc → slots + ks ≤ ms →
    W p l e R s m args below meth c H locs cells slots (vx_MQ below (zQc X D aC ad0 n0 Q) (zXc X D aC ad0 n0 Q) args s mc ms (zA X.1)) (F0 m pc ls (st.map (zv ad)))
abbrev zTb : Type := List (Nat × Instr × Nat × Nat)
def zat {α : Type} : List α → Nat → Option α
  | [], _ => none
  | a :: _, 0 => some a
  | _ :: l, n + 1 => zat l n
theorem zat_mem {α : Type} : ∀ {l : List α} {n : Nat} {a : α}, zat l n = some a → a ∈ l
  | [], _, _, h => by simp [zat] at h
  | b :: l, 0, a, h => by simp only [zat, Option.some.injEq] at h; subst h; exact List.mem_cons_self
  | b :: l, n + 1, a, h => List.mem_cons_of_mem _ (zat_mem (l := l) (n := n) h)
def zT (μ : zM) (tb : zTb) : Prop := ∀ q ∈ tb, decode μ.2.1 q.1 = .ok (q.2.1, q.2.2.1) ∧ q.2.2.2 = q.1 + q.2.2.1
def zTc (μ : zM) (tb : zTb) : Bool := tb.all fun q => decide (decode μ.2.1 q.1 = .ok (q.2.1, q.2.2.1)) && Nat.beq q.2.2.2 (q.1 + q.2.2.1)
theorem zT_of {μ : zM} {tb : zTb} (h : zTc μ tb = true) : zT μ tb := fun q hq => by
  have h1 := List.all_eq_true.mp h q hq
  simp only [Bool.and_eq_true, decide_eq_true_eq] at h1
  exact ⟨h1.1, Nat.eq_of_beq_eq_true h1.2⟩
theorem zT.at {μ : zM} {tb : zTb} (h : zT μ tb) {k pc len nx : Nat} {i : Instr} (hk : zat tb k = some (pc, i, len, nx)) : decode μ.2.1 pc = .ok (i, len) ∧ nx = pc + len := by
  have h1 := h (pc, i, len, nx) (zat_mem hk)
  dsimp only at h1
  exact h1
