/-! memory by whole numbers: V for ints, bytes, booleans and the two references that change; J for longs -/
def zsb : zL → zL → Prop
  | [], _ => True
  | none :: a, _ :: b => zsb a b
  | none :: a, [] => zsb a []
  | some v :: a, o :: b => o = some v ∧ zsb a b
  | some _ :: _, [] => False
theorem zsb_at : ∀ {a b : zL} {j : Nat} {v : Value}, zsb a b → a[j]? = some (some v) → b[j]? = some (some v)
  | [], _, j, v, _, h => by simp at h
  | none :: a, [], 0, v, _, h => by simp at h
  | none :: a, [], j + 1, v, hs, h => by
    have := zsb_at (a := a) (b := []) (j := j) (v := v) hs (by simpa using h)
    simp at this
  | none :: a, o :: b, 0, v, _, h => by simp at h
  | none :: a, o :: b, j + 1, v, hs, h => by
    have := zsb_at (a := a) (b := b) (j := j) (v := v) hs (by simpa using h)
    simpa using this
  | some w :: a, [], _, v, hs, _ => hs.elim
  | some w :: a, o :: b, 0, v, hs, h => by
    simp only [List.getElem?_cons_zero, Option.some.injEq] at h ⊢
    rw [hs.1, h]
  | some w :: a, o :: b, j + 1, v, hs, h => by
    have := zsb_at (a := a) (b := b) (j := j) (v := v) hs.2 (by simpa using h)
    simpa using this
theorem zsb_c {v : Value} {o : Option Value} {a b : zL} (h : o = some v) (h2 : zsb a b) : zsb (some v :: a) (o :: b) := ⟨h, h2⟩
theorem zsb_n {o : Option Value} {a b : zL} (h2 : zsb a b) : zsb (none :: a) (o :: b) := h2
theorem zsb_e {b : zL} : zsb [] b := trivial
theorem zie {x y : Int} (h : x = y) : some (Value.int (iI x)) = some (Value.int (iI y)) := by rw [h]
theorem y_fg {μ : zM} {d kc ks pc : Nat} {L L' : zL} {st : List Value} {S : zS} {I : zI} {J : zJ} {Q : zQ} (h : zsb L' L) (kk : Z μ d kc ks pc L' st S I J Q) : Z μ d kc ks pc L st S I J Q := by
  intro p l e R s m args below meth c X D aC ad ad0 n0 ls H locs cells slots mc ms hF hB hH hG hS hL hc hs
  exact kk p l e R s m args below meth c X D aC ad ad0 n0 ls H locs cells slots mc ms hF hB hH hG hS ⟨hL.1, hL.2.1, fun j v hj => hL.2.2 j v (zsb_at h hj)⟩ hc hs
def qi (V : qV) : zI := fun a j => iI (V a j)
def qj (J : qJ) : zJ := fun a j => J a j
theorem qi_qu (V : qV) (a k : Nat) (v : Int) : zu (qi V) a k (iI v) = qi (qu V (a : Int) (k : Int) v) := by
  funext i j
  by_cases h : i = a
  · by_cases h2 : j = k
    · subst h; subst h2; simp [zu, qi, qu]
    · subst h; simp [Int.ofNat_inj, zu, qi, qu, h2]
  · simp [Int.ofNat_inj, zu, qi, qu, h]
theorem qj_qu (J : qJ) (a k : Nat) (v : Int64) : zu (qj J) a k v = qj (qu J (a : Int) (k : Int) v) := by
  funext i j
  by_cases h : i = a
  · by_cases h2 : j = k
    · subst h; subst h2; simp [zu, qj, qu]
    · subst h; simp [Int.ofNat_inj, zu, qj, qu, h2]
  · simp [Int.ofNat_inj, zu, qj, qu, h]
theorem qi_cp (V : qV) (b a n : Nat) : zcp (qi V) b a n = qi (qcp V (b : Int) (a : Int) (n : Int)) := by
  funext i j
  by_cases h : i = a
  · by_cases h2 : j < n
    · subst h; simp [zcp, qi, qcp, h2]
    · subst h; simp [zcp, qi, qcp, h2]
  · simp [Int.ofNat_inj, zcp, qi, qcp, h]
theorem qj_cp (J : qJ) (b a n : Nat) : zcp (qj J) b a n = qj (qcp J (b : Int) (a : Int) (n : Int)) := by
  funext i j
  by_cases h : i = a
  · by_cases h2 : j < n
    · subst h; simp [zcp, qj, qcp, h2]
    · subst h; simp [zcp, qj, qcp, h2]
  · simp [Int.ofNat_inj, zcp, qj, qcp, h]
/-- may be written: it is none of the cells that tell of references -/
def qSp (a j : Int) : Prop := (a ≠ 1 ∧ a ≠ 159 ∧ a < 1000000) ∨ (a = 1 ∧ j ≠ 14) ∨ (a = 159 ∧ j ≠ 7 ∧ j ≠ 100)
def qOb (S : zS) (o : Int) (c : Nat) : Prop := 0 ≤ o ∧ o.toNat < S.2.2 ∧ (S.2.1 o.toNat).1 = c ∧ (o ≠ 1 ∧ o ≠ 159 ∧ o < 1000000)
def qAr (S : zS) (o : Int) (k n : Nat) : Prop := 0 ≤ o ∧ o.toNat < S.2.2 ∧ S.2.1 o.toNat = (k, n) ∧ (o ≠ 1 ∧ o ≠ 159 ∧ o < 1000000)
def qRf (S : zS) (o : Int) (f : Nat) (b : Int) : Prop := S.1 o.toNat f = some b.toNat
def qFi (S : zS) (o : Int) : Prop := qOb S o 1 ∧ (qRf S o 10 (o + 1) ∧ qRf S o 11 (o + 2) ∧ qRf S o 12 (o + 3)) ∧ qAr S (o + 1) 100 6 ∧ qAr S (o + 2) 100 6 ∧ qAr S (o + 3) 100 6
def qPe (S : zS) (o : Int) : Prop := qOb S o 5 ∧ qRf S o 2 (o + 1) ∧ qAr S (o + 1) 100 4
def qCl (S : zS) (o : Int) : Prop := qOb S o 0
def qPa (S : zS) (o : Int) : Prop := qOb S o 4
def qLa (S : zS) (o : Int) : Prop := qOb S o 3 ∧ (qRf S o 1 (o + 1) ∧ qRf S o 2 (o + 2) ∧ qRf S o 3 (o + 3) ∧ qRf S o 4 (o + 4)) ∧ qAr S (o + 1) 100 12 ∧ qAr S (o + 2) 100 12 ∧ qAr S (o + 3) 100 12 ∧ qAr S (o + 4) 100 400
def qVe (S : zS) (o : Int) : Prop := qOb S o 9 ∧ qRf S o 0 (o + 1) ∧ qAr S (o + 1) 101 80 ∧ (o = 155 ∨ o = 157)
def zok (a k n : Nat) : Bool := Nat.ble (a + 1) 625 && (zat zKl a == some (k, n)) && !(a == 1) && !(a == 159)
def zor' (a f b : Nat) : Bool := zRl.any fun q => q.1 == a && q.2.1 == f && q.2.2 == b
theorem zok_n {S : zS} (h : zSh S) {a k n : Nat} (hk : zok a k n = true) : a < S.2.2 ∧ S.2.1 a = (k, n) ∧ a ≠ 1 ∧ a ≠ 159 ∧ a < 625 := by
  simp only [zok, Bool.and_eq_true, beq_iff_eq, Bool.not_eq_true', beq_eq_false_iff_ne] at hk
  obtain ⟨⟨⟨h1, h2⟩, h3⟩, h4⟩ := hk
  exact ⟨n_ h h1, k_ h h1 h2, h3, h4, Nat.le_of_ble_eq_true h1⟩
theorem zor_n {S : zS} (h : zSh S) {a f b : Nat} (hk : zor' a f b = true) : S.1 a f = some b := by
  simp only [zor', List.any_eq_true, Bool.and_eq_true, beq_iff_eq] at hk
  obtain ⟨⟨x, y, z⟩, hm, ⟨h1, h2⟩, h3⟩ := hk
  dsimp only at h1 h2 h3
  subst h1; subst h2; subst h3
  exact r_ h hm
theorem qOb_ {S : zS} (h : zSh S) {a c : Nat} {o : Int} (ho : (a : Int) = o) (hk : zok a c 0 = true) : qOb S o c := by
  subst ho
  obtain ⟨h1, h2, h3, h4, h5⟩ := zok_n h hk
  refine ⟨by omega, ?_, ?_, by omega, by omega, by omega⟩
  · rw [Int.toNat_natCast]; exact h1
  · rw [Int.toNat_natCast, h2]
theorem qAr_ {S : zS} (h : zSh S) {a k n : Nat} {o : Int} (ho : (a : Int) = o) (hk : zok a k n = true) : qAr S o k n := by
  subst ho
  obtain ⟨h1, h2, h3, h4, h5⟩ := zok_n h hk
  refine ⟨by omega, ?_, ?_, by omega, by omega, by omega⟩
  · rw [Int.toNat_natCast]; exact h1
  · rw [Int.toNat_natCast]; exact h2
theorem qRf_ {S : zS} (h : zSh S) {a f b : Nat} {o e : Int} (ho : (a : Int) = o) (he : (b : Int) = e) (hk : zor' a f b = true) : qRf S o f e := by
  subst ho; subst he
  show S.1 _ f = some _
  rw [Int.toNat_natCast, Int.toNat_natCast]; exact zor_n h hk
def pok (a : Nat) : Bool := zok a 5 0 && zor' a 2 (a + 1) && zok (a + 1) 100 4
def fok (a : Nat) : Bool := zok a 1 0 && (zor' a 10 (a + 1) && zor' a 11 (a + 2) && zor' a 12 (a + 3)) && zok (a + 1) 100 6 && zok (a + 2) 100 6 && zok (a + 3) 100 6
def lok (a : Nat) : Bool := zok a 3 0 && (zor' a 1 (a + 1) && zor' a 2 (a + 2) && zor' a 3 (a + 3) && zor' a 4 (a + 4)) && zok (a + 1) 100 12 && zok (a + 2) 100 12 && zok (a + 3) 100 12 && zok (a + 4) 100 400
theorem qPe_ {S : zS} (h : zSh S) {a : Nat} {o : Int} (ho : (a : Int) = o) (hk : pok a = true) : qPe S o := by
  simp only [pok, Bool.and_eq_true] at hk
  exact ⟨qOb_ h ho hk.1.1, qRf_ h ho (by omega) hk.1.2, qAr_ h (by omega) hk.2⟩
theorem qFi_ {S : zS} (h : zSh S) {a : Nat} {o : Int} (ho : (a : Int) = o) (hk : fok a = true) : qFi S o := by
  simp only [fok, Bool.and_eq_true] at hk
  exact ⟨qOb_ h ho hk.1.1.1.1, ⟨qRf_ h ho (by omega) hk.1.1.1.2.1.1, qRf_ h ho (by omega) hk.1.1.1.2.1.2, qRf_ h ho (by omega) hk.1.1.1.2.2⟩, qAr_ h (by omega) hk.1.1.2, qAr_ h (by omega) hk.1.2, qAr_ h (by omega) hk.2⟩
theorem qLa_ {S : zS} (h : zSh S) {a : Nat} {o : Int} (ho : (a : Int) = o) (hk : lok a = true) : qLa S o := by
  simp only [lok, Bool.and_eq_true] at hk
  exact ⟨qOb_ h ho hk.1.1.1.1.1, ⟨qRf_ h ho (by omega) hk.1.1.1.1.2.1.1.1, qRf_ h ho (by omega) hk.1.1.1.1.2.1.1.2, qRf_ h ho (by omega) hk.1.1.1.1.2.1.2, qRf_ h ho (by omega) hk.1.1.1.1.2.2⟩, qAr_ h (by omega) hk.1.1.1.2, qAr_ h (by omega) hk.1.1.2, qAr_ h (by omega) hk.1.2, qAr_ h (by omega) hk.2⟩
theorem qVe_155 {S : zS} (h : zSh S) : qVe S 155 := ⟨qOb_ (a := 155) h rfl (by decide +kernel), qRf_ (a := 155) (b := 156) h rfl rfl (by decide +kernel), qAr_ (a := 156) h rfl (by decide +kernel), Or.inl rfl⟩
theorem qVe_157 {S : zS} (h : zSh S) : qVe S 157 := ⟨qOb_ (a := 157) h rfl (by decide +kernel), qRf_ (a := 157) (b := 158) h rfl rfl (by decide +kernel), qAr_ (a := 158) h rfl (by decide +kernel), Or.inr rfl⟩
theorem qFi_169 {S : zS} (h : zSh S) : qFi S 169 := qFi_ (a := 169) h rfl (by decide +kernel)
theorem qLa_6 {S : zS} (h : zSh S) : qLa S 6 := qLa_ (a := 6) h rfl (by decide +kernel)
def qT (t : Int) : Prop := t = 12 ∨ t = 188 ∨ t = 326 ∨ t = 464
def tNs : List Nat := [12, 188, 326, 464]
theorem qT_n {t : Int} (h : qT t) : ∃ n : Nat, n ∈ tNs ∧ (n : Int) = t := by
  rcases h with rfl | rfl | rfl | rfl
  · exact ⟨12, by decide, rfl⟩
  · exact ⟨188, by decide, rfl⟩
  · exact ⟨326, by decide, rfl⟩
  · exact ⟨464, by decide, rfl⟩
theorem qTo_ob {S : zS} (h : zSh S) {t : Int} (ht : qT t) : qOb S t 8 := by
  obtain ⟨n, hn, ho⟩ := qT_n ht
  exact qOb_ h ho ((show ∀ n ∈ tNs, zok n 8 0 = true by decide +kernel) n hn)
theorem qTo_1 {S : zS} (h : zSh S) {t : Int} (ht : qT t) : qRf S t 1 (t + 1) ∧ qAr S (t + 1) 101 16 := by
  obtain ⟨n, hn, ho⟩ := qT_n ht
  exact ⟨qRf_ h ho (b := n + 1) (by omega) ((show ∀ n ∈ tNs, zor' n 1 (n + 1) = true by decide +kernel) n hn), qAr_ h (a := n + 1) (by omega) ((show ∀ n ∈ tNs, zok (n + 1) 101 16 = true by decide +kernel) n hn)⟩
theorem qTo_2 {S : zS} (h : zSh S) {t : Int} (ht : qT t) : qRf S t 2 (t + 2) ∧ qAr S (t + 2) 100 10 := by
  obtain ⟨n, hn, ho⟩ := qT_n ht
  exact ⟨qRf_ h ho (b := n + 2) (by omega) ((show ∀ n ∈ tNs, zor' n 2 (n + 2) = true by decide +kernel) n hn), qAr_ h (a := n + 2) (by omega) ((show ∀ n ∈ tNs, zok (n + 2) 100 10 = true by decide +kernel) n hn)⟩
theorem qTo_3 {S : zS} (h : zSh S) {t : Int} (ht : qT t) : qRf S t 3 (t + 3) ∧ qAr S (t + 3) 100 10 := by
  obtain ⟨n, hn, ho⟩ := qT_n ht
  exact ⟨qRf_ h ho (b := n + 3) (by omega) ((show ∀ n ∈ tNs, zor' n 3 (n + 3) = true by decide +kernel) n hn), qAr_ h (a := n + 3) (by omega) ((show ∀ n ∈ tNs, zok (n + 3) 100 10 = true by decide +kernel) n hn)⟩
theorem qTo_5 {S : zS} (h : zSh S) {t : Int} (ht : qT t) : qRf S t 5 (t + 4) ∧ qAr S (t + 4) 100 4 := by
  obtain ⟨n, hn, ho⟩ := qT_n ht
  exact ⟨qRf_ h ho (b := n + 4) (by omega) ((show ∀ n ∈ tNs, zor' n 5 (n + 4) = true by decide +kernel) n hn), qAr_ h (a := n + 4) (by omega) ((show ∀ n ∈ tNs, zok (n + 4) 100 4 = true by decide +kernel) n hn)⟩
theorem qTo_6 {S : zS} (h : zSh S) {t : Int} (ht : qT t) : qRf S t 6 (t + 5) ∧ qAr S (t + 5) 100 4 := by
  obtain ⟨n, hn, ho⟩ := qT_n ht
  exact ⟨qRf_ h ho (b := n + 5) (by omega) ((show ∀ n ∈ tNs, zor' n 6 (n + 5) = true by decide +kernel) n hn), qAr_ h (a := n + 5) (by omega) ((show ∀ n ∈ tNs, zok (n + 5) 100 4 = true by decide +kernel) n hn)⟩
theorem qTo_7 {S : zS} (h : zSh S) {t : Int} (ht : qT t) : qRf S t 7 (t + 6) ∧ qAr S (t + 6) 106 16 := by
  obtain ⟨n, hn, ho⟩ := qT_n ht
  exact ⟨qRf_ h ho (b := n + 6) (by omega) ((show ∀ n ∈ tNs, zor' n 7 (n + 6) = true by decide +kernel) n hn), qAr_ h (a := n + 6) (by omega) ((show ∀ n ∈ tNs, zok (n + 6) 106 16 = true by decide +kernel) n hn)⟩
theorem qTo_9 {S : zS} (h : zSh S) {t : Int} (ht : qT t) : qRf S t 9 (t + 7) ∧ qAr S (t + 7) 107 8 := by
  obtain ⟨n, hn, ho⟩ := qT_n ht
  exact ⟨qRf_ h ho (b := n + 7) (by omega) ((show ∀ n ∈ tNs, zor' n 9 (n + 7) = true by decide +kernel) n hn), qAr_ h (a := n + 7) (by omega) ((show ∀ n ∈ tNs, zok (n + 7) 107 8 = true by decide +kernel) n hn)⟩
theorem qTo_11 {S : zS} (h : zSh S) {t : Int} (ht : qT t) : qRf S t 11 (t + 8) ∧ qAr S (t + 8) 108 24 := by
  obtain ⟨n, hn, ho⟩ := qT_n ht
  exact ⟨qRf_ h ho (b := n + 8) (by omega) ((show ∀ n ∈ tNs, zor' n 11 (n + 8) = true by decide +kernel) n hn), qAr_ h (a := n + 8) (by omega) ((show ∀ n ∈ tNs, zok (n + 8) 108 24 = true by decide +kernel) n hn)⟩
theorem qTo_13 {S : zS} (h : zSh S) {t : Int} (ht : qT t) : qRf S t 13 (t + 9) ∧ qAr S (t + 9) 109 40 := by
  obtain ⟨n, hn, ho⟩ := qT_n ht
  exact ⟨qRf_ h ho (b := n + 9) (by omega) ((show ∀ n ∈ tNs, zor' n 13 (n + 9) = true by decide +kernel) n hn), qAr_ h (a := n + 9) (by omega) ((show ∀ n ∈ tNs, zok (n + 9) 109 40 = true by decide +kernel) n hn)⟩
theorem qE_person {S : zS} (h : zSh S) {t i : Int} (ht : qT t) (hi : 0 ≤ i ∧ i < 16) : qPe S (t + 10 + 2 * i) ∧ qRf S (t + 6) i.toNat (t + 10 + 2 * i) := by
  obtain ⟨n, hn, ho⟩ := qT_n ht
  have h1 := (show ∀ n ∈ tNs, ∀ j, j < 16 → (pok) (n + 10 + 2 * j) = true by decide +kernel) n hn i.toNat (by omega)
  have h2 := (show ∀ n ∈ tNs, ∀ j, j < 16 → zor' (n + 6) j (n + 10 + 2 * j) = true by decide +kernel) n hn i.toNat (by omega)
  exact ⟨qPe_ h (by omega) h1, qRf_ h (by omega) (by omega) h2⟩
theorem qe_person {S : zS} (h : zSh S) {i : Int} (hi : 0 ≤ i ∧ i < 16) : qPe S (22 + 2 * i) ∧ S.1 18 i.toNat = some (22 + 2 * i).toNat := qE_person (t := 12) h (Or.inl rfl) hi
theorem qE_find {S : zS} (h : zSh S) {t i : Int} (ht : qT t) (hi : 0 ≤ i ∧ i < 8) : qFi S (t + 42 + 4 * i) ∧ qRf S (t + 7) i.toNat (t + 42 + 4 * i) := by
  obtain ⟨n, hn, ho⟩ := qT_n ht
  have h1 := (show ∀ n ∈ tNs, ∀ j, j < 8 → (fok) (n + 42 + 4 * j) = true by decide +kernel) n hn i.toNat (by omega)
  have h2 := (show ∀ n ∈ tNs, ∀ j, j < 8 → zor' (n + 7) j (n + 42 + 4 * j) = true by decide +kernel) n hn i.toNat (by omega)
  exact ⟨qFi_ h (by omega) h1, qRf_ h (by omega) (by omega) h2⟩
theorem qe_find {S : zS} (h : zSh S) {i : Int} (hi : 0 ≤ i ∧ i < 8) : qFi S (54 + 4 * i) ∧ S.1 19 i.toNat = some (54 + 4 * i).toNat := qE_find (t := 12) h (Or.inl rfl) hi
theorem qE_claim {S : zS} (h : zSh S) {t i : Int} (ht : qT t) (hi : 0 ≤ i ∧ i < 24) : qCl S (t + 74 + 1 * i) ∧ qRf S (t + 8) i.toNat (t + 74 + 1 * i) := by
  obtain ⟨n, hn, ho⟩ := qT_n ht
  have h1 := (show ∀ n ∈ tNs, ∀ j, j < 24 → (fun a => zok a 0 0) (n + 74 + 1 * j) = true by decide +kernel) n hn i.toNat (by omega)
  have h2 := (show ∀ n ∈ tNs, ∀ j, j < 24 → zor' (n + 8) j (n + 74 + 1 * j) = true by decide +kernel) n hn i.toNat (by omega)
  exact ⟨qOb_ h (by omega) h1, qRf_ h (by omega) (by omega) h2⟩
theorem qe_claim {S : zS} (h : zSh S) {i : Int} (hi : 0 ≤ i ∧ i < 24) : qCl S (86 + 1 * i) ∧ S.1 20 i.toNat = some (86 + 1 * i).toNat := qE_claim (t := 12) h (Or.inl rfl) hi
theorem qE_passing {S : zS} (h : zSh S) {t i : Int} (ht : qT t) (hi : 0 ≤ i ∧ i < 40) : qPa S (t + 98 + 1 * i) ∧ qRf S (t + 9) i.toNat (t + 98 + 1 * i) := by
  obtain ⟨n, hn, ho⟩ := qT_n ht
  have h1 := (show ∀ n ∈ tNs, ∀ j, j < 40 → (fun a => zok a 4 0) (n + 98 + 1 * j) = true by decide +kernel) n hn i.toNat (by omega)
  have h2 := (show ∀ n ∈ tNs, ∀ j, j < 40 → zor' (n + 9) j (n + 98 + 1 * j) = true by decide +kernel) n hn i.toNat (by omega)
  exact ⟨qOb_ h (by omega) h1, qRf_ h (by omega) (by omega) h2⟩
theorem qe_passing {S : zS} (h : zSh S) {i : Int} (hi : 0 ≤ i ∧ i < 40) : qPa S (110 + 1 * i) ∧ S.1 21 i.toNat = some (110 + 1 * i).toNat := qE_passing (t := 12) h (Or.inl rfl) hi
theorem qe_law {S : zS} (h : zSh S) {i : Int} (hi : 0 ≤ i ∧ i < 3) : qLa S (173 + 5 * i) ∧ S.1 11 i.toNat = some (173 + 5 * i).toNat := by
  have h1 := (show ∀ j, j < 3 → lok (173 + 5 * j) = true by decide +kernel) i.toNat (by omega)
  have h2 := (show ∀ j, j < 3 → zor' 11 j (173 + 5 * j) = true by decide +kernel) i.toNat (by omega)
  refine ⟨qLa_ h (by omega) h1, ?_⟩
  have h3 := zor_n h h2
  rw [h3]
  exact congrArg some (by omega)
theorem qe_image {S : zS} (h : zSh S) {i : Int} (hi : 0 ≤ i ∧ i < 3) : qT (188 + 138 * i) ∧ S.1 150 i.toNat = some (188 + 138 * i).toNat := by
  have h2 := (show ∀ j, j < 3 → zor' 150 j (188 + 138 * j) = true by decide +kernel) i.toNat (by omega)
  have h3 := zor_n h h2
  refine ⟨?_, ?_⟩
  · have : i = 0 ∨ i = 1 ∨ i = 2 := by omega
    rcases this with rfl | rfl | rfl
    · exact Or.inr (Or.inl rfl)
    · exact Or.inr (Or.inr (Or.inl rfl))
    · exact Or.inr (Or.inr (Or.inr rfl))
  · rw [h3]
    exact congrArg some (by omega)
/-- the memory's shape, and its numbers -/
def qB (S : zS) (V : qV) : Prop := zSh S ∧ (∀ a j, zr (V a j)) ∧ (qLa S (V 1 14) ∧ qRf S 1 14 (V 1 14)) ∧ (qAr S (V 159 7) 102 (V 159 100).toNat ∧ qRf S 159 7 (V 159 7) ∧ 1 ≤ V 159 100 ∧ V 159 100 ≤ 59049 ∧ (S.2.2 : Int) ≤ 624 + V 159 100) ∧ zRi S ∧ (∀ j, V 1000001 j = 0) ∧ (∀ j : Nat, ∃ x : Nat, S.1 (zXB + 4) j = some x ∧ iI (V 1000004 j) = Int32.ofNat x) ∧ (0 ≤ V 1000005 0 ∧ V 1000005 0 ≤ 3072 ∧ (S.2.1 (zXB + 4)).2 = (V 1000005 0).toNat)
theorem qB.u {S : zS} {V : qV} (h : qB S V) {a j x : Int} (hx : zr x) (hs : qSp a j) : qB S (qu V a j x) := by
  obtain ⟨h1, h2, h3, h4, h5, h6, h7, h8⟩ := h
  have e1 : qu V a j x 1 14 = V 1 14 := by simp only [qu]; unfold qSp at hs; split; (split; (exfalso; omega); rfl); rfl
  have e2 : qu V a j x 159 7 = V 159 7 := by simp only [qu]; unfold qSp at hs; split; (split; (exfalso; omega); rfl); rfl
  have e3 : qu V a j x 159 100 = V 159 100 := by simp only [qu]; unfold qSp at hs; split; (split; (exfalso; omega); rfl); rfl
  have e4 : ∀ b : Int, 1000000 ≤ b → ∀ k, qu V a j x b k = V b k := fun b hb k => by simp only [qu]; unfold qSp at hs; split; (split; (exfalso; omega); rfl); rfl
  refine ⟨h1, fun b k => ?_, by rw [e1]; exact h3, by rw [e2, e3]; exact h4, h5, fun k => by rw [e4 _ (by decide)]; exact h6 k, fun k => by rw [e4 _ (by decide)]; exact h7 k, by rw [e4 _ (by decide)]; exact h8⟩
  simp only [qu]
  split
  · split
    · exact hx
    · exact h2 _ _
  · exact h2 _ _
theorem qB.cp {S : zS} {V : qV} (h : qB S V) {b a n : Int} (hs : a ≠ 1 ∧ a ≠ 159 ∧ a < 1000000) : qB S (qcp V b a n) := by
  obtain ⟨h1, h2, h3, h4, h5, h6, h7, h8⟩ := h
  have e4 : ∀ c : Int, (c = 1 ∨ c = 159 ∨ 1000000 ≤ c) → ∀ k, qcp V b a n c k = V c k := fun c hc k => by simp only [qcp]; rw [if_neg (fun h => by omega)]
  refine ⟨h1, fun c k => ?_, by rw [e4 1 (by decide)]; exact h3, by rw [e4 159 (by decide), e4 159 (by decide)]; exact h4, h5, fun k => by rw [e4 _ (by decide)]; exact h6 k, fun k => by rw [e4 _ (by decide)]; exact h7 k, by rw [e4 _ (by decide)]; exact h8⟩
  simp only [qcp]
  split <;> exact h2 _ _
section
variable {μ μ' : zM} {d kc ks kc' ks' pc nx k : Nat} {L L' : zL} {st : List Value} {S : zS} {V : qV} {J : qJ} {I : zI} {Jz : zJ} {Q : zQ} {tb : zTb}
theorem q_getI {idx ci f a : Nat} {o z : Int} {ty : FieldType} {fin : Bool} (ht : zT μ tb) (hk : zat tb k = some (pc, .getfield idx, 3, nx)) (F : zFk μ.1.cls idx ci f ty fin) (hsh : (zsh ci)[f]? = some false) (ho : (a : Int) = o) (hf : (f : Int) = z) (ha : a < S.2.2) (hkd : (S.2.1 a).1 = ci) (kk : Z μ d kc ks nx L (.int (iI (V o z)) :: st) S (qi V) Jz Q) : Z μ d kc ks pc L (.ref a :: st) S (qi V) Jz Q := z_getI ht hk F hsh ha hkd (by subst ho; subst hf; exact kk)
theorem q_putI {idx ci f a : Nat} {o z v : Int} (ht : zT μ tb) (hk : zat tb k = some (pc, .putfield idx, 3, nx)) (F : zFk μ.1.cls idx ci f .int false) (hsh : (zsh ci)[f]? = some false) (ho : (a : Int) = o) (hf : (f : Int) = z) (ha : a < S.2.2) (hkd : (S.2.1 a).1 = ci) (kk : Z μ d kc ks nx L st S (qi (qu V o z v)) Jz Q) : Z μ d kc ks pc L (.int (iI v) :: .ref a :: st) S (qi V) Jz Q := z_putI ht hk F hsh rfl rfl ha hkd (by subst ho; subst hf; rw [qi_qu]; exact kk)
theorem q_putZ {idx ci f a : Nat} {o z v : Int} (ht : zT μ tb) (hk : zat tb k = some (pc, .putfield idx, 3, nx)) (F : zFk μ.1.cls idx ci f .boolean false) (hsh : (zsh ci)[f]? = some false) (hv : v = 0 ∨ v = 1) (ho : (a : Int) = o) (hf : (f : Int) = z) (ha : a < S.2.2) (hkd : (S.2.1 a).1 = ci) (kk : Z μ d kc ks nx L st S (qi (qu V o z v)) Jz Q) : Z μ d kc ks pc L (.int (iI v) :: .ref a :: st) S (qi V) Jz Q := z_putI ht hk F hsh (by rcases hv with rfl | rfl <;> rfl) (by rcases hv with rfl | rfl <;> rfl) ha hkd (by subst ho; subst hf; rw [qi_qu]; exact kk)
theorem q_iald {a n : Nat} {o z N : Int} (ht : zT μ tb) (hk : zat tb k = some (pc, .iaload, 1, nx)) (ho : (a : Int) = o) (ha : a < S.2.2) (hkd : S.2.1 a = (100, n)) (hN : (n : Int) = N) (hi : 0 ≤ z ∧ z < N) (hn : n ≤ 1000000) (kk : Z μ d kc ks nx L (.int (iI (V o z)) :: st) S (qi V) Jz Q) : Z μ d kc ks pc L (.int (iI z) :: .ref a :: st) S (qi V) Jz Q := z_iald ht hk ha hkd (iI_idx hi.1) (by omega) hn (by subst ho; rw [show qi V a z.toNat = iI (V (a : Int) z) by unfold qi; rw [Int.toNat_of_nonneg hi.1]]; exact kk)
theorem q_bald {a n : Nat} {o z N : Int} (ht : zT μ tb) (hk : zat tb k = some (pc, .baload, 1, nx)) (ho : (a : Int) = o) (ha : a < S.2.2) (hkd : S.2.1 a = (102, n)) (hN : (n : Int) = N) (hi : 0 ≤ z ∧ z < N) (hn : n ≤ 1000000) (kk : Z μ d kc ks nx L (.int (iI (V o z)) :: st) S (qi V) Jz Q) : Z μ d kc ks pc L (.int (iI z) :: .ref a :: st) S (qi V) Jz Q := z_bald ht hk ha hkd (iI_idx hi.1) (by omega) hn (by subst ho; rw [show qi V a z.toNat = iI (V (a : Int) z) by unfold qi; rw [Int.toNat_of_nonneg hi.1]]; exact kk)
theorem q_zald {a n : Nat} {o z N : Int} (ht : zT μ tb) (hk : zat tb k = some (pc, .baload, 1, nx)) (ho : (a : Int) = o) (ha : a < S.2.2) (hkd : S.2.1 a = (103, n)) (hN : (n : Int) = N) (hi : 0 ≤ z ∧ z < N) (hn : n ≤ 1000000) (kk : Z μ d kc ks nx L (.int (iI (V o z)) :: st) S (qi V) Jz Q) : Z μ d kc ks pc L (.int (iI z) :: .ref a :: st) S (qi V) Jz Q := z_zald ht hk ha hkd (iI_idx hi.1) (by omega) hn (by subst ho; rw [show qi V a z.toNat = iI (V (a : Int) z) by unfold qi; rw [Int.toNat_of_nonneg hi.1]]; exact kk)
theorem q_lald {a n : Nat} {o z N : Int} (ht : zT μ tb) (hk : zat tb k = some (pc, .laload, 1, nx)) (ho : (a : Int) = o) (ha : a < S.2.2) (hkd : S.2.1 a = (101, n)) (hN : (n : Int) = N) (hi : 0 ≤ z ∧ z < N) (hn : n ≤ 1000000) (kk : Z μ d kc ks nx L (.long (J o z) :: st) S I (qj J) Q) : Z μ d kc ks pc L (.int (iI z) :: .ref a :: st) S I (qj J) Q := z_lald ht hk ha hkd (iI_idx hi.1) (by omega) hn (by subst ho; rw [show qj J a z.toNat = J (a : Int) z by unfold qj; rw [Int.toNat_of_nonneg hi.1]]; exact kk)
theorem q_iast {a n : Nat} {o z v N : Int} (ht : zT μ tb) (hk : zat tb k = some (pc, .iastore, 1, nx)) (ho : (a : Int) = o) (ha : a < S.2.2) (hkd : S.2.1 a = (100, n)) (hN : (n : Int) = N) (hi : 0 ≤ z ∧ z < N) (hn : n ≤ 1000000) (kk : Z μ d kc ks nx L st S (qi (qu V o z v)) Jz Q) : Z μ d kc ks pc L (.int (iI v) :: .int (iI z) :: .ref a :: st) S (qi V) Jz Q := z_iast ht hk ha hkd (iI_idx hi.1) (by omega) hn (by subst ho; rw [qi_qu, Int.toNat_of_nonneg hi.1]; exact kk)
theorem q_last {a n : Nat} {o z N : Int} {v : Int64} (ht : zT μ tb) (hk : zat tb k = some (pc, .lastore, 1, nx)) (ho : (a : Int) = o) (ha : a < S.2.2) (hkd : S.2.1 a = (101, n)) (hN : (n : Int) = N) (hi : 0 ≤ z ∧ z < N) (hn : n ≤ 1000000) (kk : Z μ d kc ks nx L st S I (qj (qu J o z v)) Q) : Z μ d kc ks pc L (.long v :: .int (iI z) :: .ref a :: st) S I (qj J) Q := z_last ht hk ha hkd (iI_idx hi.1) (by omega) hn (by subst ho; rw [qj_qu, Int.toNat_of_nonneg hi.1]; exact kk)
theorem q_zast {a n : Nat} {o z v N : Int} (ht : zT μ tb) (hk : zat tb k = some (pc, .bastore, 1, nx)) (ho : (a : Int) = o) (ha : a < S.2.2) (hkd : S.2.1 a = (103, n)) (hN : (n : Int) = N) (hi : 0 ≤ z ∧ z < N) (hn : n ≤ 1000000) (hv : v = 0 ∨ v = 1) (kk : Z μ d kc ks nx L st S (qi (qu V o z v)) Jz Q) : Z μ d kc ks pc L (.int (iI v) :: .int (iI z) :: .ref a :: st) S (qi V) Jz Q := z_zast ht hk ha hkd (iI_idx hi.1) (by omega) hn (by rcases hv with rfl | rfl; exact Or.inl rfl; exact Or.inr rfl) (by subst ho; rw [qi_qu, Int.toNat_of_nonneg hi.1]; exact kk)
theorem q_bast {a n : Nat} {o z v N : Int} (ht : zT μ tb) (hk : zat tb k = some (pc, .bastore, 1, nx)) (ho : (a : Int) = o) (ha : a < S.2.2) (hkd : S.2.1 a = (102, n)) (hN : (n : Int) = N) (hi : 0 ≤ z ∧ z < N) (hn : n ≤ 1000000) (hv : -128 ≤ v ∧ v < 128) (kk : Z μ d kc ks nx L st S (qi (qu V o z v)) Jz Q) : Z μ d kc ks pc L (.int (iI v) :: .int (iI z) :: .ref a :: st) S (qi V) Jz Q := z_bast ht hk ha hkd (iI_idx hi.1) (by omega) hn (by subst ho; rw [iI_byte hv.1 hv.2, qi_qu, Int.toNat_of_nonneg hi.1]; exact kk)
theorem q_alen {a t n : Nat} {N : Int} {ty : FieldType} (ht : zT μ tb) (hk : zat tb k = some (pc, .arraylength, 1, nx)) (ha : a < S.2.2) (hkd : S.2.1 a = (100 + t, n)) (hty : zty[t]? = some ty) (hN : (n : Int) = N) (kk : Z μ d kc ks nx L (.int (iI N) :: st) S I Jz Q) : Z μ d kc ks pc L (.ref a :: st) S I Jz Q := y_alen ht hk ha hkd hty (by rw [hN]; exact kk)
theorem q_irem {x y : Int} (ht : zT μ tb) (hk : zat tb k = some (pc, .irem, 1, nx)) (hx : zr x) (hy0 : 0 < y) (hy : zr y) (kk : Z μ d kc ks nx L (.int (iI (x.tmod y)) :: st) S I Jz Q) : Z μ d kc ks pc L (.int (iI y) :: .int (iI x) :: st) S I Jz Q := y_irem ht hk hx hy0 hy (y_as (by rw [Int.tmod_def, Int.mul_comm]) kk)
theorem q_copyi {idx a b na nb : Nat} {oa ob N : Int} (ht : zT μ tb) (hk : zat tb k = some (pc, .invokestatic idx, 3, nx)) (hlink : Cond.methodLink μ.1.cls idx arraycopyName ∈ zG) (G : Cond.native arraycopyName ∈ zG ∧ Cond.static arraycopyName ∈ zG ∧ Cond.initialized "java/lang/System" ∈ zG) (n : Nat) (hN : (n : Int) = N) (hn : n ≤ 1000000) (hoa : (a : Int) = oa) (hob : (b : Int) = ob)
    (ha : a < S.2.2) (hka : S.2.1 a = (100, na)) (hb : b < S.2.2) (hkb : S.2.1 b = (100, nb)) (hna : n ≤ na) (hnb : n ≤ nb) (hst : (st.map fun v => v.category).sum ≤ 50) (kk : Z μ d kc ks nx L st S (qi (qcp V ob oa N)) Jz Q) : Z μ d kc ks pc L (.int (iI N) :: .int (iI 0) :: .ref a :: .int (iI 0) :: .ref b :: st) S (qi V) Jz Q :=
  z_copyi ht hk hlink G.1 G.2.1 G.2.2 rfl rfl (by rw [← hN]; exact iI_nat n) hn ha hka hb hkb hna hnb hst (by rw [qi_cp, hoa, hob, hN]; exact kk)
theorem q_copyl {idx a b na nb : Nat} {oa ob N : Int} (ht : zT μ tb) (hk : zat tb k = some (pc, .invokestatic idx, 3, nx)) (hlink : Cond.methodLink μ.1.cls idx arraycopyName ∈ zG) (G : Cond.native arraycopyName ∈ zG ∧ Cond.static arraycopyName ∈ zG ∧ Cond.initialized "java/lang/System" ∈ zG) (n : Nat) (hN : (n : Int) = N) (hn : n ≤ 1000000) (hoa : (a : Int) = oa) (hob : (b : Int) = ob)
    (ha : a < S.2.2) (hka : S.2.1 a = (101, na)) (hb : b < S.2.2) (hkb : S.2.1 b = (101, nb)) (hna : n ≤ na) (hnb : n ≤ nb) (hst : (st.map fun v => v.category).sum ≤ 50) (kk : Z μ d kc ks nx L st S I (qj (qcp J ob oa N)) Q) : Z μ d kc ks pc L (.int (iI N) :: .int (iI 0) :: .ref a :: .int (iI 0) :: .ref b :: st) S I (qj J) Q :=
  z_copyl ht hk hlink G.1 G.2.1 G.2.2 rfl rfl (by rw [← hN]; exact iI_nat n) hn ha hka hb hkb hna hnb hst (by rw [qj_cp, hoa, hob, hN]; exact kk)
theorem q_tald {z : Int} (ht : zT μ tb) (hk : zat tb k = some (pc, .laload, 1, nx)) (hi : 0 ≤ z ∧ z < 6) (kk : Z μ d kc ks nx L (.long (qTB z) :: st) S I Jz Q) : Z μ d kc ks pc L (.int (iI z) :: .ref (zXB + 0) :: st) S I Jz Q := by
  refine z_tald (j := z.toNat) ht hk (iI_idx hi.1) (by omega) ?_ kk
  have : z = 0 ∨ z = 1 ∨ z = 2 ∨ z = 3 ∨ z = 4 ∨ z = 5 := by omega
  rcases this with rfl | rfl | rfl | rfl | rfl | rfl <;> rfl
/-- the names: of a find, or NO_NAMES -/
def qNm (o : Int) : Prop := o = 168 ∨ o = 1000001
theorem q_nald {o z : Int} (hB : qB S V) (ht : zT μ tb) (hk : zat tb k = some (pc, .iaload, 1, nx)) (hO : qNm o) (hi : 0 ≤ z ∧ z < 10) (kk : Z μ d kc ks nx L (.int (iI (V o z)) :: st) S (qi V) Jz Q) : Z μ d kc ks pc L (.int (iI z) :: .ref o.toNat :: st) S (qi V) Jz Q := by
  rcases hO with rfl | rfl
  · exact q_iald (a := 168) ht hk rfl (n_ hB.1 rfl) (k_168 hB.1) rfl hi (by decide) kk
  · refine z_nald (j := z.toNat) ht hk (iI_idx hi.1) (by omega) ?_
    rw [hB.2.2.2.2.2.1] at kk
    exact kk
theorem q_nlen {o : Int} (hB : qB S V) (ht : zT μ tb) (hk : zat tb k = some (pc, .arraylength, 1, nx)) (hO : qNm o) (kk : Z μ d kc ks nx L (.int (iI 10) :: st) S I Jz Q) : Z μ d kc ks pc L (.ref o.toNat :: st) S I Jz Q := by
  rcases hO with rfl | rfl
  · exact q_alen (a := 168) (t := 0) ht hk (n_ hB.1 rfl) (k_168 hB.1) rfl rfl kk
  · exact z_nlen ht hk kk
end
/-- rows of longs of two sizes: the worlds (16), a verdict's (80) -/
def qLs (o : Int) : Prop := o = 166 ∨ o = 156 ∨ o = 158
theorem qLs_ {S : zS} (h : zSh S) {o : Int} (ho : qLs o) : qAr S o 101 (qLn o).toNat ∧ ((qLn o).toNat : Int) = qLn o ∧ (qLn o).toNat ≤ 1000000 := by
  rcases ho with rfl | rfl | rfl
  · exact ⟨qAr_ (a := 166) h rfl (by decide +kernel), rfl, by decide⟩
  · exact ⟨qAr_ (a := 156) h rfl (by decide +kernel), rfl, by decide⟩
  · exact ⟨qAr_ (a := 158) h rfl (by decide +kernel), rfl, by decide⟩
theorem qLs_v {S : zS} {o : Int} (h : qVe S o) : qLs (o + 1) := by
  rcases h.2.2.2 with rfl | rfl
  · exact Or.inr (Or.inl rfl)
  · exact Or.inr (Or.inr rfl)
theorem zu_ne {S : zS} {v : Option Nat} {a k i j : Nat} (h : ¬ (i = a ∧ j = k)) : (zuR S a k v).1 i j = S.1 i j := by
  simp only [zuR, zu]
  split
  · split
    · rename_i h1 h2; exact absurd ⟨h1, h2⟩ h
    · rfl
  · rfl
theorem zSh.r {S : zS} (h : zSh S) {a k : Nat} {v : Option Nat} (hn : (zRl.all fun q => !(q.1 == a && q.2.1 == k)) = true) : zSh (zuR S a k v) := by
  refine ⟨h.1, h.2.1, h.2.2.1, fun q hq => ?_⟩
  have h1 := List.all_eq_true.mp hn q hq
  rw [zu_ne]
  · exact h.2.2.2 q hq
  · intro h2
    simp [h2.1, h2.2] at h1
theorem qRf.r {S : zS} {o e : Int} {f a k : Nat} {v : Option Nat} (h : qRf S o f e) (ho : o.toNat ≠ a) : qRf (zuR S a k v) o f e := by
  show (zuR S a k v).1 o.toNat f = _
  rw [zu_ne (fun h => ho h.1)]; exact h
theorem qLa.r {S : zS} {o : Int} {a k : Nat} {v : Option Nat} (h : qLa S o) (ho : o.toNat ≠ a) : qLa (zuR S a k v) o :=
  ⟨h.1, ⟨h.2.1.1.r ho, h.2.1.2.1.r ho, h.2.1.2.2.1.r ho, h.2.1.2.2.2.r ho⟩, h.2.2⟩
/-- cells that no object has, or that hold references, don't matter -/
theorem z_eq {μ : zM} {d kc ks pc : Nat} {L : zL} {st : List Value} {S : zS} {I I' : zI} {J J' : zJ} {Q : zQ} (h : ∀ (aC : Nat → ClassId) (ad : Nat → Nat) (i : Nat), i < S.2.2 → zE aC ad S I J i = zE aC ad S I' J' i) (kk : Z μ d kc ks pc L st S I' J' Q) : Z μ d kc ks pc L st S I J Q := by
  intro p l e R s m args below meth c X D aC ad ad0 n0 ls H locs cells slots mc ms hF hB hH hG hS hL hc hs
  have e1 : zW aC ad S I J = zW aC ad S I' J' := by
    unfold zW
    exact List.map_congr_left fun i hi => by rw [h aC ad i (List.mem_range.mp hi)]
  refine kk p l e R s m args below meth c X D aC ad ad0 n0 ls H locs cells slots mc ms hF hB ?_ hG hS hL hc hs
  obtain ⟨k1, k2, k3⟩ := hH
  rw [e1] at k1 k2
  exact ⟨k1, k2, k3⟩
theorem zE_ref {aC : Nat → ClassId} {ad : Nat → Nat} {S : zS} {I I' : zI} {J : zJ} {i c : Nat} (hk : (S.2.1 i).1 = c) (hc : c < 100) (h : ∀ k, (zsh c)[k]? = some false → I i k = I' i k) : zE aC ad S I J i = zE aC ad S I' J i := by
  unfold zE
  rw [if_pos (by omega), if_pos (by omega), hk]
  have : zFd ad S I i c = zFd ad S I' i c := by
    apply List.ext_getElem?
    intro j
    cases hb : (zsh c)[j]? with
    | none =>
      have h0 : (zsh c).length ≤ j := List.getElem?_eq_none_iff.mp hb
      rw [List.getElem?_eq_none_iff.mpr (by rw [zFd_len]; exact h0), List.getElem?_eq_none_iff.mpr (by rw [zFd_len]; exact h0)]
    | some b =>
      rw [zFd_get hb, zFd_get hb]
      cases b with
      | true => rfl
      | false => rw [h j hb]
  rw [this]
theorem zE_oth {aC : Nat → ClassId} {ad : Nat → Nat} {S : zS} {I I' : zI} {J J' : zJ} {i : Nat} (hI : I i = I' i) (hJ : J i = J' i) : zE aC ad S I J i = zE aC ad S I' J' i := by
  unfold zE zFd
  rw [hI, hJ]
theorem qB.law {S : zS} {V : qV} (h : qB S V) {o : Int} (ho : qLa S o) (hr : zr o) : qB (zuR S 1 14 (some o.toNat)) (qu V 1 14 o) := by
  obtain ⟨h1, h2, h3, h4, h5, h6, h7, h8⟩ := h
  have e1 : qu V 1 14 o 1 14 = o := qu_s _ _ _ _
  have e2 : ∀ b k : Int, b ≠ 1 → qu V 1 14 o b k = V b k := fun b k hb => qu_o _ _ hb k
  have n1 : o.toNat ≠ 1 := by have := ho.1.2.2.2.1; have := ho.1.1; omega
  refine ⟨h1.r (by decide +kernel), fun b k => ?_, ⟨by rw [e1]; exact ho.r n1, ?_⟩, ⟨by rw [e2 _ _ (by decide), e2 _ _ (by decide)]; exact h4.1, by rw [e2 _ _ (by decide)]; exact h4.2.1.r (by decide), by rw [e2 _ _ (by decide)]; exact h4.2.2⟩, ?_, fun k => by rw [e2 _ _ (by decide)]; exact h6 k, fun k => ?_, by rw [e2 _ _ (by decide)]; exact h8⟩
  · simp only [qu]
    split
    · split
      · exact hr
      · exact h2 _ _
    · exact h2 _ _
  · rw [e1]
    show (zuR S 1 14 (some o.toNat)).1 1 14 = _
    simp [zuR, zu]
  · intro i k v hv hi
    by_cases hc : i = 1 ∧ k = 14
    · obtain ⟨rfl, rfl⟩ := hc
      simp only [zuR, zu, if_true] at hv
      cases hv
      exact Or.inl ho.1.2.1
    · rw [zu_ne hc] at hv
      exact h5 i k v hv hi
  · rw [e2 _ _ (by decide)]
    obtain ⟨x, hx1, hx2⟩ := h7 k
    exact ⟨x, by rw [zu_ne (fun h => absurd h.1 (by decide))]; exact hx1, hx2⟩
theorem q_putL {μ : zM} {d kc ks pc nx k : Nat} {L : zL} {st : List Value} {S : zS} {V : qV} {J : zJ} {Q : zQ} {tb : zTb} {idx : Nat} {o : Int} {ty : FieldType} (hB : qB S V) (ht : zT μ tb) (hk : zat tb k = some (pc, .putfield idx, 3, nx)) (F : zFk μ.1.cls idx 6 14 ty false) (hn : ∀ z, narrow ty (.ref z) = .ref z) (hfit : ∀ z, fits ty (.ref z) = true) (kk : Z μ d kc ks nx L st (zuR S 1 14 (some o.toNat)) (qi (qu V 1 14 o)) J Q) : Z μ d kc ks pc L (.ref o.toNat :: .ref 1 :: st) S (qi V) J Q := by
  refine z_putR ht hk F rfl hn hfit (Or.inl rfl) (n_ hB.1 rfl) (k_1 hB.1) (z_eq (fun aC ad i hi => ?_) kk)
  by_cases h1 : i = 1
  · subst h1
    exact zE_ref (c := 6) (show ((zuR S 1 14 (some o.toNat)).2.1 1).1 = 6 from (k_1 hB.1 : (S.2.1 1).1 = 6)) (by decide) (fun k hk => by
      have hk2 : k ≠ 14 := fun e => by subst e; simp [zsh] at hk
      simp only [qi]
      rw [qu_j _ _ (by omega)])
  · exact zE_oth (by funext k; simp only [qi]; rw [qu_o _ _ (by omega)]) rfl
theorem qcnt {S : zS} {V : qV} (h : qB S V) : 625 ≤ (S.2.2 : Int) := by have := h.1.1; omega
theorem qcnt2 {S : zS} {V : qV} (h : qB S V) : (S.2.2 : Int) < 1000000 := by have := h.1.2.1; omega
theorem qLa_r {S : zS} {o : Int} (h : qLa S o) : zr o := by
  have h1 := h.1.1
  have h2 := h.1.2.2.2.2.2
  unfold zr; omega
theorem zRbc {n : Nat} {L : zL} {st : List Value} (h1 : (L.all fun o => match o with | some (.ref i) => Nat.ble (i + 1) 625 | _ => true) = true) (h2 : (st.all fun o => match o with | .ref i => Nat.ble (i + 1) 625 | _ => true) = true) (hn : 625 ≤ n) : zRb n L st := by
  refine ⟨fun j v hj => ?_, fun v hv => ?_⟩
  · have h3 := List.all_eq_true.mp h1 _ (List.mem_of_getElem? hj)
    cases v with
    | ref i =>
      have h4 : i + 1 ≤ 625 := Nat.le_of_ble_eq_true h3
      simp only [zrb, Bool.or_eq_true, decide_eq_true_eq]
      exact Or.inl (Nat.lt_of_lt_of_le (Nat.lt_of_succ_le h4) hn)
    | _ => rfl
  · have h3 := List.all_eq_true.mp h2 _ hv
    cases v with
    | ref i =>
      have h4 : i + 1 ≤ 625 := Nat.le_of_ble_eq_true h3
      simp only [zrb, Bool.or_eq_true, decide_eq_true_eq]
      exact Or.inl (Nat.lt_of_lt_of_le (Nat.lt_of_succ_le h4) hn)
    | _ => rfl
def zCu (S : zS) (n : Nat) : zS := zuR (zNew S 102 n) 159 7 (some S.2.2)
theorem zCu_s {S : zS} {n i j : Nat} (hi : i ≠ S.2.2) (hj : ¬ (i = 159 ∧ j = 7)) : (zCu S n).1 i j = S.1 i j := by unfold zCu; rw [zu_ne hj]; simp [zNew, hi]
theorem zCu_k {S : zS} {n i : Nat} (hi : i ≠ S.2.2) : (zCu S n).2.1 i = S.2.1 i := by simp [zCu, zuR, zNew, hi]
theorem zCu_n {S : zS} {n : Nat} : (zCu S n).2.2 = S.2.2 + 1 := rfl
theorem qAr.cu {S : zS} {o : Int} {k m n : Nat} (hr : qAr S o k m) : qAr (zCu S n) o k m := by
  obtain ⟨r1, r2, r3, r4⟩ := hr
  exact ⟨r1, by rw [zCu_n]; omega, by rw [zCu_k (by omega)]; exact r3, r4⟩
theorem qOb.cu {S : zS} {o : Int} {k n : Nat} (hr : qOb S o k) : qOb (zCu S n) o k := by
  obtain ⟨r1, r2, r3, r4⟩ := hr
  exact ⟨r1, by rw [zCu_n]; omega, by rw [zCu_k (by omega)]; exact r3, r4⟩
theorem qRf.cu {S : zS} {o e : Int} {f n : Nat} (hr : qRf S o f e) (h0 : 0 ≤ o) (h1 : o.toNat < S.2.2) (h2 : o ≠ 159) : qRf (zCu S n) o f e := by
  show (zCu S n).1 o.toNat f = _
  rw [zCu_s (by omega) (by omega)]; exact hr
theorem qLa.cu {S : zS} {o : Int} {n : Nat} (h : qLa S o) : qLa (zCu S n) o := by
  obtain ⟨h1, ⟨a, b, c, d⟩, e, f, g, i⟩ := h
  have h9 := h1.2.2.2.2.1
  exact ⟨h1.cu, ⟨a.cu h1.1 h1.2.1 h9, b.cu h1.1 h1.2.1 h9, c.cu h1.1 h1.2.1 h9, d.cu h1.1 h1.2.1 h9⟩, e.cu, f.cu, g.cu, i.cu⟩
theorem zSh.cu {S : zS} (h : zSh S) (hn : S.2.2 + 1 ≤ 100000) {n : Nat} : zSh (zCu S n) := by
  have h1 := h.1
  refine ⟨by rw [zCu_n]; omega, by rw [zCu_n]; omega, fun i hi => by rw [zCu_k (by omega)]; exact h.2.2.1 i hi, fun q hq => ?_⟩
  have h2 := List.all_eq_true.mp (show (zRl.all fun q => !(q.1 == 159 && q.2.1 == 7) && Nat.ble (q.1 + 1) 625) = true by decide +kernel) q hq
  simp only [Bool.and_eq_true] at h2
  have h3 := Nat.le_of_ble_eq_true h2.2
  rw [zCu_s (by omega) (fun h => by simp [h.1, h.2] at h2)]
  exact h.2.2.2 q hq
theorem qB.cub {S : zS} {V : qV} (h : qB S V) {n : Int} (h0 : V 159 100 < n) (h1 : n ≤ 59049) : qB (zCu S n.toNat) (qcub V (S.2.2 : Int) n) := by
  obtain ⟨h1', h2, ⟨h3, h3'⟩, ⟨h4, h4a, h4b, h4c, h4d⟩, h5, h6, h7, h8⟩ := h
  have g1 := h1'.1
  have zx : zXB = 1000000 := rfl
  have hq : ∀ i j : Int, i ≠ (S.2.2 : Int) → i ≠ 159 → qcub V (S.2.2 : Int) n i j = V i j := fun i j a b => qcub_o a b
  have eL : qcub V (S.2.2 : Int) n 1 14 = V 1 14 := hq 1 14 (by omega) (by decide)
  refine ⟨h1'.cu (by omega), fun b k => ?_, ⟨by rw [eL]; exact h3.cu, ?_⟩, ⟨?_, ?_, ?_, ?_, ?_⟩, ?_, fun k => ?_, fun k => ?_, ?_⟩
  · by_cases e1 : b = 159
    · subst e1
      by_cases e2 : k = 100
      · subst e2; rw [qcub_l]; unfold zr; omega
      · by_cases e3 : k = 7
        · subst e3; rw [qcub_7]; unfold zr; omega
        · rw [qcub_r (by omega) e3 e2]; exact h2 _ _
    · by_cases e2 : b = (S.2.2 : Int)
      · rw [e2, qcub_n (by omega)]; exact ⟨by decide, by decide⟩
      · rw [hq b k e2 e1]; exact h2 _ _
  · rw [eL]; exact h3'.cu (by decide) (by show 1 < S.2.2; omega) (by decide)
  · rw [qcub_7, qcub_l]
    refine ⟨by omega, by rw [zCu_n, Int.toNat_natCast]; omega, ?_, by omega, by omega, by omega⟩
    rw [Int.toNat_natCast]
    simp [zCu, zuR, zNew]
  · rw [qcub_7]
    show (zCu S n.toNat).1 159 7 = some (S.2.2 : Int).toNat
    rw [Int.toNat_natCast]
    simp [zCu, zuR, zu]
  · rw [qcub_l]; omega
  · rw [qcub_l]; omega
  · rw [qcub_l, zCu_n]; omega
  · intro i k v hv hi
    rw [zCu_n] at hi ⊢
    by_cases hc : i = 159 ∧ k = 7
    · obtain ⟨rfl, rfl⟩ := hc
      simp only [zCu, zuR, zu, if_true] at hv
      cases hv
      exact Or.inl (by omega)
    · by_cases hn : i = S.2.2
      · subst hn
        unfold zCu at hv
        rw [zu_ne hc] at hv
        simp [zNew] at hv
      · rw [zCu_s hn hc] at hv
        have := h5 i k v hv (by omega)
        omega
  · rw [hq _ _ (by omega) (by decide)]; exact h6 k
  · rw [hq _ _ (by omega) (by decide)]
    obtain ⟨x, hx1, hx2⟩ := h7 k
    exact ⟨x, by rw [zCu_s (by omega) (by omega)]; exact hx1, hx2⟩
  · rw [hq _ _ (by omega) (by decide)]
    exact ⟨h8.1, h8.2.1, by rw [zCu_k (by omega)]; exact h8.2.2⟩
theorem q_newc {μ : zM} {d kc ks pc nx nx2 k k2 : Nat} {L : zL} {st : List Value} {S : zS} {V : qV} {J : qJ} {Q : zQ} {tb : zTb} {idx : Nat} {n : Int} {ty : FieldType} (hB : qB S V) (ht : zT μ tb) (hk : zat tb k = some (pc, .newarray .byte, 2, nx)) (ht2 : zT μ tb) (hk2 : zat tb k2 = some (nx, .putfield idx, 3, nx2)) (F : zFk μ.1.cls idx 7 7 ty false) (hn : ∀ z, narrow ty (.ref z) = .ref z) (hfit : ∀ z, fits ty (.ref z) = true)
    (hrb : zRb S.2.2 L (.ref 159 :: st)) (h0 : V 159 100 < n) (h1 : n ≤ 59049) (hkc : 1 ≤ kc) (hks : n.toNat ≤ ks) (kk : Z μ d (kc - 1) (ks - n.toNat) nx2 L st (zCu S n.toNat) (qi (qcub V (S.2.2 : Int) n)) (qj J) Q) : Z μ d kc ks pc L (.int (iI n) :: .ref 159 :: st) S (qi V) (qj J) Q := by
  have g1 := hB.1.1
  have g2 := hB.2.2.2.1.2.2.1
  have g3 := hB.2.2.2.1.2.2.2.2
  have zx : zXB = 1000000 := rfl
  refine z_newa (t := 2) (n := n.toNat) ht hk rfl rfl (by decide) A_byte rfl (iI_idx (by omega)) (by omega) (by decide) hB.2.2.2.2.1 hrb (by omega) hkc hks ?_
  have k7 : ((zNew S 102 n.toNat).2.1 159).1 = 7 := by rw [show (zNew S 102 n.toNat).2.1 159 = S.2.1 159 by simp [zNew]; omega]; exact k_159 hB.1
  refine z_putR ht2 hk2 F rfl hn hfit (Or.inl rfl) (by show 159 < S.2.2 + 1; omega) k7 (z_eq (fun aC ad i hi => ?_) kk)
  by_cases e1 : i = 159
  · subst e1
    have eJ : zJ0 S (qj J) 159 = qj J 159 := by funext j; simp only [zJ0]; rw [if_neg (by omega)]
    rw [zE_oth (I' := zI0 S (qi V)) (J' := qj J) rfl eJ]
    refine zE_ref (c := 7) (show ((zCu S n.toNat).2.1 159).1 = 7 by rw [zCu_k (by omega)]; exact k_159 hB.1) (by decide) (fun k hk => ?_)
    · have hk7 : k ≠ 7 := fun e => by subst e; simp [zsh] at hk
      have hk8 : k < 11 := (List.getElem?_eq_some_iff.mp hk).1
      simp only [zI0, qi]
      rw [if_neg (by omega)]
      have := qcub_r (V := V) (o := (S.2.2 : Int)) (n := n) (j := (k : Int)) (by omega) (by omega) (by omega)
      rw [show ((159 : Nat) : Int) = 159 from rfl, this]
  · by_cases e2 : i = S.2.2
    · subst e2
      unfold zE
      have hk3 : (zuR (zNew S (100 + 2) n.toNat) 159 7 (some S.2.2)).2.1 S.2.2 = (102, n.toNat) := by simp [zuR, zNew]
      rw [hk3]
      have : zI0 S (qi V) S.2.2 = qi (qcub V (S.2.2 : Int) n) S.2.2 := by
        funext j
        simp only [zI0, qi, if_true]
        rw [qcub_n (by omega)]
        rfl
      rw [this]
      rfl
    · refine zE_oth ?_ ?_
      · funext j
        simp only [zI0, qi]
        rw [if_neg e2, qcub_o (by omega) (by omega)]
      · funext j
        simp only [zJ0]
        rw [if_neg e2]
