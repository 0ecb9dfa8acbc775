/-! what the constructors make, written down: how many, of which kind, which leads to which, numbers, longs; newest first -/
abbrev bS : Type := Nat × List (Nat × Nat × Nat) × List (Nat × Nat × Nat) × List (Nat × Nat × Int32) × List (Nat × Nat × Int64)
def al1 : List (Nat × Nat × Nat) → Nat → Option (Nat × Nat)
  | [], _ => none
  | q :: l, i => bif Nat.beq q.1 i then some q.2 else al1 l i
def al2 {α : Type} : List (Nat × Nat × α) → Nat → Nat → Option α
  | [], _, _ => none
  | q :: l, i, j => bif Nat.beq q.1 i && Nat.beq q.2.1 j then some q.2.2 else al2 l i j
theorem nbq (a b : Nat) : Nat.beq a b = decide (a = b) := by
  by_cases h : a = b
  · subst h; simp
  · rw [decide_eq_false h]; exact Bool.eq_false_iff.mpr (fun e => h (Nat.eq_of_beq_eq_true e))
theorem al1_c (q : Nat × Nat × Nat) (l : List (Nat × Nat × Nat)) (i : Nat) : al1 (q :: l) i = if q.1 = i then some q.2 else al1 l i := by
  rw [al1, nbq]
  by_cases h : q.1 = i <;> simp [h]
theorem al2_c {α : Type} (q : Nat × Nat × α) (l : List (Nat × Nat × α)) (i j : Nat) : al2 (q :: l) i j = if q.1 = i ∧ q.2.1 = j then some q.2.2 else al2 l i j := by
  rw [al2, nbq, nbq]
  by_cases h : q.1 = i <;> by_cases h2 : q.2.1 = j <;> simp [h, h2]
theorem al2_0 {α : Type} {n : Nat} : ∀ {l : List (Nat × Nat × α)}, (∀ q ∈ l, q.1 < n) → ∀ j, al2 l n j = none
  | [], _, _ => rfl
  | q :: l, h, j => by
    have h1 := h q List.mem_cons_self
    rw [al2_c, if_neg (by omega)]
    exact al2_0 (fun q hq => h q (List.mem_cons_of_mem _ hq)) j
theorem al2_m {α : Type} : ∀ {l : List (Nat × Nat × α)} {i j : Nat} {v : α}, al2 l i j = some v → (i, j, v) ∈ l
  | [], _, _, _, h => by simp [al2] at h
  | q :: l, i, j, v, h => by
    rw [al2_c] at h
    split at h
    · rename_i e
      obtain ⟨e1, e2⟩ := e
      cases h; subst e1; subst e2
      exact List.mem_cons_self
    · exact List.mem_cons_of_mem _ (al2_m h)
theorem al1_m : ∀ {l : List (Nat × Nat × Nat)} {i : Nat} {v : Nat × Nat}, al1 l i = some v → (i, v) ∈ l
  | [], _, _, h => by simp [al1] at h
  | q :: l, i, v, h => by
    rw [al1_c] at h
    split at h
    · rename_i e
      cases h; subst e
      exact List.mem_cons_self
    · exact List.mem_cons_of_mem _ (al1_m h)
def bnew (c n : Nat) (s : bS) : bS := (s.1 + 1, (s.1, c, n) :: s.2.1, s.2.2)
def bref (o f b : Nat) (s : bS) : bS := (s.1, s.2.1, (o, f, b) :: s.2.2.1, s.2.2.2)
def bint (o f : Nat) (x : Int32) (s : bS) : bS := (s.1, s.2.1, s.2.2.1, (o, f, x) :: s.2.2.2.1, s.2.2.2.2)
def blng (o f : Nat) (x : Int64) (s : bS) : bS := (s.1, s.2.1, s.2.2.1, s.2.2.2.1, (o, f, x) :: s.2.2.2.2)
def bK (s : bS) (i : Nat) (k : Nat × Nat) : Prop := al1 s.2.1 i = some k
def bR (s : bS) (i f b : Nat) : Prop := al2 s.2.2.1 i f = some b
def bAt (S0 : zS) (s : bS) (S : zS) (I : zI) (J : zJ) : Prop :=
  (S.2.2 = s.1 ∧ ∀ i, zXB ≤ i → S.1 i = S0.1 i ∧ S.2.1 i = S0.2.1 i) ∧ ((∀ i, i < s.1 → al1 s.2.1 i = some (S.2.1 i)) ∧ ∀ q ∈ s.2.1, q.1 < s.1) ∧ ((∀ i, i < s.1 → ∀ j, S.1 i j = al2 s.2.2.1 i j) ∧ ∀ q ∈ s.2.2.1, q.1 < s.1 ∧ q.2.2 < s.1) ∧
  ((∀ i, i < s.1 → ∀ j, I i j = (al2 s.2.2.2.1 i j).getD 0) ∧ ∀ q ∈ s.2.2.2.1, q.1 < s.1) ∧ ((∀ i, i < s.1 → ∀ j, J i j = (al2 s.2.2.2.2 i j).getD 0) ∧ ∀ q ∈ s.2.2.2.2, q.1 < s.1)
section
variable {S0 S : zS} {s : bS} {I : zI} {J : zJ} {i o f b c n : Nat} {k : Nat × Nat}
theorem b_lt (h : bAt S0 s S I J) (hk : bK s o k) : o < s.1 := h.2.1.2 _ (al1_m hk)
theorem b_kd (h : bAt S0 s S I J) (hk : bK s o k) : o < S.2.2 ∧ S.2.1 o = k := by
  have h1 := b_lt h hk
  exact ⟨by rw [h.1.1]; exact h1, Option.some.inj ((h.2.1.1 o h1).symm.trans hk)⟩
theorem b_rf (h : bAt S0 s S I J) (hr : bR s o f b) : S.1 o f = some b ∧ b < s.1 := by
  have h1 := h.2.2.1.2 _ (al2_m hr)
  exact ⟨(h.2.2.1.1 o h1.1 f).trans hr, h1.2⟩
theorem b_ri (h : bAt S0 s S I J) : zRi S := by
  intro i k v hv hi
  rw [h.1.1] at hi ⊢
  rw [h.2.2.1.1 i hi] at hv
  exact Or.inl (h.2.2.1.2 _ (al2_m hv)).2
theorem bK.nw (h : bK s o k) (ho : o < s.1) : bK (bnew c n s) o k := by
  show al1 ((s.1, c, n) :: s.2.1) o = some k
  rw [al1_c, if_neg (by show ¬ s.1 = o; omega)]
  exact h
theorem bK.me : bK (bnew c n s) s.1 (c, n) := by
  show al1 ((s.1, c, n) :: s.2.1) s.1 = some (c, n)
  rw [al1_c, if_pos rfl]
theorem bR.me : bR (bref o f b s) o f b := by
  show al2 ((o, f, b) :: s.2.2.1) o f = some b
  rw [al2_c, if_pos ⟨rfl, rfl⟩]
theorem bR.rf {o' f' b' : Nat} (h : bR s o f b) (hn : o' ≠ o ∨ f' ≠ f) : bR (bref o' f' b' s) o f b := by
  show al2 ((o', f', b') :: s.2.2.1) o f = some b
  rw [al2_c, if_neg (by show ¬ (o' = o ∧ f' = f); omega)]
  exact h
theorem bAt.new (h : bAt S0 s S I J) (hz : s.1 < zXB) : bAt S0 (bnew c n s) (zNew S c n) (zI0 S I) (zJ0 S J) := by
  obtain ⟨⟨h1, h2⟩, ⟨h3, h4⟩, ⟨h5, h6⟩, ⟨h7, h8⟩, h9, h10⟩ := h
  have hn : ∀ i, i < s.1 → i ≠ S.2.2 := fun i hi => by omega
  refine ⟨⟨by show S.2.2 + 1 = s.1 + 1; rw [h1], fun i hi => ?_⟩, ⟨fun i hi => ?_, fun q hq => ?_⟩, ⟨fun i hi j => ?_, fun q hq => ?_⟩, ⟨fun i hi j => ?_, fun q hq => ?_⟩, fun i hi j => ?_, fun q hq => ?_⟩
  · have hne : i ≠ S.2.2 := by omega
    refine ⟨?_, ?_⟩
    · funext j; simp only [zNew, hne, if_false]; rw [(h2 i hi).1]
    · simp only [zNew, hne, if_false]; exact (h2 i hi).2
  · show al1 ((s.1, c, n) :: s.2.1) i = some (if i = S.2.2 then (c, n) else S.2.1 i)
    rw [al1_c]
    by_cases e : i = s.1
    · rw [if_pos e.symm, if_pos (by omega)]
    · have hi' : i < s.1 := by have : i < s.1 + 1 := hi; omega
      rw [if_neg (by show ¬ s.1 = i; omega), if_neg (by omega)]
      exact h3 i hi'
  · show q.1 < s.1 + 1
    rcases List.mem_cons.mp hq with rfl | hq
    · exact Nat.lt_succ_self _
    · exact Nat.lt_succ_of_lt (h4 q hq)
  · show (if i = S.2.2 then none else S.1 i j) = al2 s.2.2.1 i j
    by_cases e : i = s.1
    · rw [if_pos (by omega), e, al2_0 (fun q hq => (h6 q hq).1)]
    · have hi' : i < s.1 := by have : i < s.1 + 1 := hi; omega
      rw [if_neg (by omega)]; exact h5 i hi' j
  · exact ⟨Nat.lt_succ_of_lt (h6 q hq).1, Nat.lt_succ_of_lt (h6 q hq).2⟩
  · show (if i = S.2.2 then 0 else I i j) = (al2 s.2.2.2.1 i j).getD 0
    by_cases e : i = s.1
    · rw [if_pos (by omega), e, al2_0 h8]; rfl
    · have hi' : i < s.1 := by have : i < s.1 + 1 := hi; omega
      rw [if_neg (by omega)]; exact h7 i hi' j
  · exact Nat.lt_succ_of_lt (h8 q hq)
  · show (if i = S.2.2 then 0 else J i j) = (al2 s.2.2.2.2 i j).getD 0
    by_cases e : i = s.1
    · rw [if_pos (by omega), e, al2_0 h10]; rfl
    · have hi' : i < s.1 := by have : i < s.1 + 1 := hi; omega
      rw [if_neg (by omega)]; exact h9 i hi' j
  · exact Nat.lt_succ_of_lt (h10 q hq)
theorem bAt.ref (h : bAt S0 s S I J) (hz : s.1 ≤ zXB) (ho : o < s.1) (hb : b < s.1) : bAt S0 (bref o f b s) (zuR S o f (some b)) I J := by
  obtain ⟨⟨h1, h2⟩, h34, ⟨h5, h6⟩, h78⟩ := h
  refine ⟨⟨h1, fun i hi => ⟨?_, (h2 i hi).2⟩⟩, h34, ⟨fun i hi j => ?_, fun q hq => ?_⟩, h78⟩
  · show zu S.1 o f (some b) i = S0.1 i
    rw [zu_o _ _ (by omega)]; exact (h2 i hi).1
  · show (if i = o then (if j = f then some b else S.1 i j) else S.1 i j) = al2 ((o, f, b) :: s.2.2.1) i j
    rw [al2_c]
    by_cases e : i = o
    · by_cases e2 : j = f
      · rw [if_pos e, if_pos e2, if_pos ⟨e.symm, e2.symm⟩]
      · rw [if_pos e, if_neg e2, if_neg (fun q => e2 q.2.symm)]; exact h5 i hi j
    · rw [if_neg e, if_neg (fun q => e q.1.symm)]; exact h5 i hi j
  · rcases List.mem_cons.mp hq with rfl | hq
    · exact ⟨ho, hb⟩
    · exact h6 q hq
theorem bAt.int {x : Int32} (h : bAt S0 s S I J) (ho : o < s.1) : bAt S0 (bint o f x s) S (zu I o f x) J := by
  obtain ⟨h12, h34, h56, ⟨h7, h8⟩, h9⟩ := h
  refine ⟨h12, h34, h56, ⟨fun i hi j => ?_, fun q hq => ?_⟩, h9⟩
  · show (if i = o then (if j = f then x else I i j) else I i j) = (al2 ((o, f, x) :: s.2.2.2.1) i j).getD 0
    rw [al2_c]
    by_cases e : i = o
    · by_cases e2 : j = f
      · rw [if_pos e, if_pos e2, if_pos ⟨e.symm, e2.symm⟩]; rfl
      · rw [if_pos e, if_neg e2, if_neg (fun q => e2 q.2.symm)]; exact h7 i hi j
    · rw [if_neg e, if_neg (fun q => e q.1.symm)]; exact h7 i hi j
  · rcases List.mem_cons.mp hq with rfl | hq
    · exact ho
    · exact h8 q hq
theorem bAt.lng {x : Int64} (h : bAt S0 s S I J) (ho : o < s.1) : bAt S0 (blng o f x s) S I (zu J o f x) := by
  obtain ⟨h12, h34, h56, h78, h9, h10⟩ := h
  refine ⟨h12, h34, h56, h78, fun i hi j => ?_, fun q hq => ?_⟩
  · show (if i = o then (if j = f then x else J i j) else J i j) = (al2 ((o, f, x) :: s.2.2.2.2) i j).getD 0
    rw [al2_c]
    by_cases e : i = o
    · by_cases e2 : j = f
      · rw [if_pos e, if_pos e2, if_pos ⟨e.symm, e2.symm⟩]; rfl
      · rw [if_pos e, if_neg e2, if_neg (fun q => e2 q.2.symm)]; exact h9 i hi j
    · rw [if_neg e, if_neg (fun q => e q.1.symm)]; exact h9 i hi j
  · rcases List.mem_cons.mp hq with rfl | hq
    · exact ho
    · exact h10 q hq
end
/-- what a constructor leaves -/
def bQ (S0 : zS) (s : bS) : zQ := fun o S' I' J' => o = .inl none ∧ bAt S0 s S' I' J'
def bls (n : Nat) (L : zL) (st : List Value) : Bool := (L.all fun x => match x with | none => true | some v => zrb n v) && st.all (zrb n)
theorem bls_ {n : Nat} {L : zL} {st : List Value} (h : bls n L st = true) : zRb n L st := by
  simp only [bls, Bool.and_eq_true] at h
  refine ⟨fun j v hj => ?_, fun v hv => List.all_eq_true.mp h.2 v hv⟩
  exact List.all_eq_true.mp h.1 _ (List.mem_of_getElem? hj)
section
variable {μ μ' : zM} {d kc ks kc' ks' pc nx k : Nat} {L L' : zL} {st as : List Value} {S S0 : zS} {I : zI} {J : zJ} {Q Q' : zQ} {tb : zTb} {s s' : bS}
theorem b_new {idx ci N : Nat} {C : String} {T : u_T} {ty : Nat → FieldType} (h : bAt S0 s S I J) (ht : zT μ tb) (hk : zat tb k = some (pc, .new idx, 3, nx)) (CK : zCk ci C T N ty) (hdef : ∀ j, j < N → defaultValue (ty j) = if (zsh ci)[j]? = some true then .null else .int 0) (hcl : Cond.classLink μ.1.cls idx C ∈ zG) (hins : Cond.instantiable C N ∈ zG) (hini : Cond.initialized C ∈ zG)
    (hrb : bls s.1 L st = true) (hz : s.1 < zXB) (hkc : 1 ≤ kc) (hks : N ≤ ks) (kk : ∀ S' I' J', bAt S0 (bnew ci 0 s) S' I' J' → Z μ d (kc - 1) (ks - N) nx L (.ref s.1 :: st) S' I' J' Q) : Z μ d kc ks pc L st S I J Q :=
  z_new ht hk CK hdef hcl hins hini (b_ri h) (by rw [h.1.1]; exact bls_ hrb) (by rw [h.1.1]; exact hz) hkc hks (by rw [h.1.1]; exact kk _ _ _ (h.new hz))
theorem b_newa {at' : ArrayType} {t n : Nat} {i : Int32} {ty : FieldType} (h : bAt S0 s S I J) (ht : zT μ tb) (hk : zat tb k = some (pc, .newarray at', 2, nx)) (hty : newarray.typeOf at' = ty) (htt : zty[t]? = some ty) (ht4 : t < 4) (harr : Cond.arrayClass ty ∈ zG) (hdf : defaultValue ty = if t = 1 then .long 0 else .int 0) (hi : i = nI n) (hn : n ≤ 1000000) (hcb : componentBytes ty ≤ 8)
    (hrb : bls s.1 L st = true) (hz : s.1 < zXB) (hkc : 1 ≤ kc) (hks : n ≤ ks) (kk : ∀ S' I' J', bAt S0 (bnew (100 + t) n s) S' I' J' → Z μ d (kc - 1) (ks - n) nx L (.ref s.1 :: st) S' I' J' Q) : Z μ d kc ks pc L (.int i :: st) S I J Q :=
  z_newa ht hk hty htt ht4 harr hdf hi hn hcb (b_ri h) (by rw [h.1.1]; exact bls_ hrb) (by rw [h.1.1]; exact hz) hkc hks (by rw [h.1.1]; exact kk _ _ _ (h.new hz))
theorem b_newq {idx t n : Nat} {i : Int32} {C : String} (h : bAt S0 s S I J) (ht : zT μ tb) (hk : zat tb k = some (pc, .anewarray idx, 3, nx)) (htt : zty[t]? = some (.object C)) (ht4 : 4 ≤ t) (hao : C ∈ zAO) (hcl : Cond.classLink μ.1.cls idx C ∈ zG) (hi : i = nI n) (hn : n ≤ 1000000)
    (hrb : bls s.1 L st = true) (hz : s.1 < zXB) (hkc : 1 ≤ kc) (hks : n ≤ ks) (kk : ∀ S' I' J', bAt S0 (bnew (100 + t) n s) S' I' J' → Z μ d (kc - 1) (ks - n) nx L (.ref s.1 :: st) S' I' J' Q) : Z μ d kc ks pc L (.int i :: st) S I J Q :=
  z_newq ht hk htt ht4 hao hcl hi hn (b_ri h) (by rw [h.1.1]; exact bls_ hrb) (by rw [h.1.1]; exact hz) hkc hks (by rw [h.1.1]; exact kk _ _ _ (h.new hz))
theorem b_putR {idx ci m f a b : Nat} {ty : FieldType} {fn : Bool} (h : bAt S0 s S I J) (hkd : bK s a (ci, m)) (hb : b < s.1) (hz : s.1 ≤ zXB) (ht : zT μ tb) (hk : zat tb k = some (pc, .putfield idx, 3, nx)) (F : zFk μ.1.cls idx ci f ty fn) (hsh : (zsh ci)[f]? = some true) (hn : ∀ z, narrow ty (.ref z) = .ref z) (hfit : ∀ z, fits ty (.ref z) = true) (hfn : fn = false ∨ (μ.1.name = "<init>" ∧ vwCl[ci]?.map (·.1) = some μ.1.cls))
    (kk : ∀ S' I' J', bAt S0 (bref a f b s) S' I' J' → Z μ d kc ks nx L st S' I' J' Q) : Z μ d kc ks pc L (.ref b :: .ref a :: st) S I J Q :=
  z_putR ht hk F hsh hn hfit hfn (b_kd h hkd).1 (by rw [(b_kd h hkd).2]) (kk _ _ _ (h.ref hz (b_lt h hkd) hb))
theorem b_putI {idx ci m f a : Nat} {ty : FieldType} {v : Int32} (h : bAt S0 s S I J) (hkd : bK s a (ci, m)) (ht : zT μ tb) (hk : zat tb k = some (pc, .putfield idx, 3, nx)) (F : zFk μ.1.cls idx ci f ty false) (hsh : (zsh ci)[f]? = some false) (hn : narrow ty (.int v) = .int v) (hfit : fits ty (.int v) = true)
    (kk : ∀ S' I' J', bAt S0 (bint a f v s) S' I' J' → Z μ d kc ks nx L st S' I' J' Q) : Z μ d kc ks pc L (.int v :: .ref a :: st) S I J Q :=
  z_putI ht hk F hsh hn hfit (b_kd h hkd).1 (by rw [(b_kd h hkd).2]) (kk _ _ _ (h.int (b_lt h hkd)))
theorem b_getR {idx ci m f a b : Nat} {ty : FieldType} {fin : Bool} (h : bAt S0 s S I J) (hkd : bK s a (ci, m)) (hr : bR s a f b) (ht : zT μ tb) (hk : zat tb k = some (pc, .getfield idx, 3, nx)) (F : zFk μ.1.cls idx ci f ty fin) (hsh : (zsh ci)[f]? = some true) (kk : Z μ d kc ks nx L (.ref b :: st) S I J Q) : Z μ d kc ks pc L (.ref a :: st) S I J Q :=
  z_getR ht hk F hsh (b_kd h hkd).1 (by rw [(b_kd h hkd).2]) (b_rf h hr).1 kk
theorem b_iast {a j n : Nat} {i : Int32} {v : Int32} (h : bAt S0 s S I J) (hkd : bK s a (100, n)) (ht : zT μ tb) (hk : zat tb k = some (pc, .iastore, 1, nx)) (hj : i = nI j) (hjn : j < n) (hn : n ≤ 1000000) (kk : ∀ S' I' J', bAt S0 (bint a j v s) S' I' J' → Z μ d kc ks nx L st S' I' J' Q) : Z μ d kc ks pc L (.int v :: .int i :: .ref a :: st) S I J Q :=
  z_iast ht hk (b_kd h hkd).1 (b_kd h hkd).2 hj hjn hn (kk _ _ _ (h.int (b_lt h hkd)))
theorem b_last {a j n : Nat} {i : Int32} {v : Int64} (h : bAt S0 s S I J) (hkd : bK s a (101, n)) (ht : zT μ tb) (hk : zat tb k = some (pc, .lastore, 1, nx)) (hj : i = nI j) (hjn : j < n) (hn : n ≤ 1000000) (kk : ∀ S' I' J', bAt S0 (blng a j v s) S' I' J' → Z μ d kc ks nx L st S' I' J' Q) : Z μ d kc ks pc L (.long v :: .int i :: .ref a :: st) S I J Q :=
  z_last ht hk (b_kd h hkd).1 (b_kd h hkd).2 hj hjn hn (kk _ _ _ (h.lng (b_lt h hkd)))
theorem b_aast {a t j n b ci m : Nat} {i : Int32} {C : String} {T : u_T} {N : Nat} (h : bAt S0 s S I J) (hkd : bK s a (100 + t, n)) (hkb : bK s b (ci, m)) (hz : s.1 ≤ zXB) (ht : zT μ tb) (hk : zat tb k = some (pc, .aastore, 1, nx)) (h4 : 4 ≤ t) (htt : zty[t]? = some (.object C)) (hj : i = nI j) (hjn : j < n) (hn : n ≤ 1000000) (hci : ci < 100) (hcl : vwCl[ci]? = some (C, T, N))
    (kk : ∀ S' I' J', bAt S0 (bref a j b s) S' I' J' → Z μ d kc ks nx L st S' I' J' Q) : Z μ d kc ks pc L (.ref b :: .int i :: .ref a :: st) S I J Q :=
  z_aast ht hk (b_kd h hkd).1 (b_kd h hkd).2 h4 htt hj hjn hn (b_kd h hkb).1 (by rw [(b_kd h hkb).2]) hci hcl (kk _ _ _ (h.ref hz (b_lt h hkd) (b_lt h hkb)))
theorem b_call {idx o : Nat} (h : bAt S0 s S I J) (ht : zT μ tb) (hk : zat tb k = some (pc, .invokespecial idx, 3, nx)) (hno : μ.2.2.2.2 = []) (K : zKm μ' 0) (hret : μ'.2.2.2.1 = none) (hnm : μ'.1.name = "<init>") (KI : Cond.instanceMethod μ'.1 ∈ zG) (hlink : Cond.methodLink μ.1.cls idx μ'.1 ∈ zG)
    (hlen : (lg_sl [.ref o]).length ≤ μ'.2.2.1) (hL' : zin [.ref o] μ'.2.2.1 = L') (hroom : (st.map fun v => v.category).sum ≤ 8) (hkc : kc' ≤ kc) (hks : ks' ≤ ks) (hrb : bls s.1 L st = true)
    (hZ : Z μ' d kc' ks' 0 L' [] S I J (bQ S0 s')) (kk : ∀ S' I' J', bAt S0 s' S' I' J' → Z μ (d + 1) (kc - kc') (ks - ks') nx L st S' I' J' Q) : Z μ (d + 1) kc ks pc L (.ref o :: st) S I J Q :=
  z_callI (as := []) ht hk hno K hret hnm KI hlink rfl rfl hlen hL' hroom hkc hks (Or.inr (by rw [h.1.1]; exact bls_ hrb)) hZ (fun E S' I' J' q => by cases q.1) (fun v S' I' J' q => by
    obtain ⟨q1, q2⟩ := q
    cases q1
    exact kk S' I' J' q2)
end
