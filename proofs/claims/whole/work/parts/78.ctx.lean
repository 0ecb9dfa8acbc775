/-! reading: states of class and reference at a piece -/
def cdC (V : qV) (o a : Int) : List (Int × Int) → Prop
  | [] => True
  | c :: L => V o a = enc c ∧ cdC V o (a + 1) L
def cdM (V : qV) (a : Int) : List (Int × Int) → Prop
  | [] => True
  | c :: L => (V 604 a = c.1 ∧ V 605 a = c.2) ∧ cdM V (a + 1) L
theorem cdC_ap {V : qV} {o : Int} : ∀ (L K : List (Int × Int)) (a : Int), cdC V o a (L ++ K) ↔ cdC V o a L ∧ cdC V o (a + L.length) K
  | [], K, a => by simp [cdC]
  | c :: L, K, a => by
    have e : a + ((c :: L).length : Int) = a + 1 + (L.length : Int) := by simp; omega
    show (V o a = enc c ∧ cdC V o (a + 1) (L ++ K)) ↔ (V o a = enc c ∧ cdC V o (a + 1) L) ∧ _
    rw [cdC_ap L K (a + 1), e]
    exact ⟨fun x => ⟨⟨x.1, x.2.1⟩, x.2.2⟩, fun x => ⟨x.1.1, x.1.2, x.2⟩⟩
theorem cdM_ap {V : qV} : ∀ (L K : List (Int × Int)) (a : Int), cdM V a (L ++ K) ↔ cdM V a L ∧ cdM V (a + L.length) K
  | [], K, a => by simp [cdM]
  | c :: L, K, a => by
    have e : a + ((c :: L).length : Int) = a + 1 + (L.length : Int) := by simp; omega
    show ((V 604 a = c.1 ∧ V 605 a = c.2) ∧ cdM V (a + 1) (L ++ K)) ↔ ((V 604 a = c.1 ∧ V 605 a = c.2) ∧ cdM V (a + 1) L) ∧ _
    rw [cdM_ap L K (a + 1), e]
    exact ⟨fun x => ⟨⟨x.1, x.2.1⟩, x.2.2⟩, fun x => ⟨x.1.1, x.1.2, x.2⟩⟩
theorem cdC_fr {V V' : qV} {o : Int} : ∀ (L : List (Int × Int)) (a : Int), cdC V o a L → (∀ k, a ≤ k → k < a + L.length → V' o k = V o k) → cdC V' o a L
  | [], _, _, _ => trivial
  | c :: L, a, h, hf => by
    have e : ((c :: L).length : Int) = (L.length : Int) + 1 := by simp
    exact ⟨by rw [hf a (by omega) (by omega)]; exact h.1, cdC_fr L (a + 1) h.2 (fun k x y => hf k (by omega) (by omega))⟩
theorem cdM_fr {V V' : qV} : ∀ (L : List (Int × Int)) (a : Int), cdM V a L → (∀ o k, (o = 604 ∨ o = 605) → a ≤ k → k < a + L.length → V' o k = V o k) → cdM V' a L
  | [], _, _, _ => trivial
  | c :: L, a, h, hf => by
    have e : ((c :: L).length : Int) = (L.length : Int) + 1 := by simp
    exact ⟨⟨by rw [hf 604 a (Or.inl rfl) (by omega) (by omega)]; exact h.1.1, by rw [hf 605 a (Or.inr rfl) (by omega) (by omega)]; exact h.1.2⟩, cdM_fr L (a + 1) h.2 (fun o k q x y => hf o k q (by omega) (by omega))⟩
theorem cdM_seg {V : qV} : ∀ (L : List (Int × Int)) (a : Int), cdM V a L → seg V a L.length = L
  | [], _, _ => rfl
  | c :: L, a, h => by
    show (V 604 a, V 605 a) :: seg V (a + 1) L.length = c :: L
    rw [cdM_seg L (a + 1) h.2, h.1.1, h.1.2]
/-- the names in codes are noted -/
def usL (u : Int) (L : List (Int × Int)) : Prop := ∀ c, c ∈ L → c.1 = 1 → tb u c.2 = true
/-- class, at piece i with o brackets open -/
def cSt (kd vl pl : Int → Int) (m : Int) (V : qV) (i o : Int) : Prop :=
  (V 3 = kd ∧ V 4 = vl ∧ V 5 = pl ∧ V 1 6 = m + 1) ∧ (V 1 7 = i ∧ V 1 8 = kd i ∧ V 1 9 = vl i ∧ V 1 10 = o) ∧ 6 ≤ V 1 14 ∧ (0 ≤ V (V 1 14) 5 ∧ V (V 1 14) 5 ≤ 400) ∧ (1 ≤ V (V 1 14) 0 ∧ V (V 1 14) 0 ≤ 12) ∧ (0 ≤ V (V 1 14) 6 ∧ V (V 1 14) 6 < 1024) ∧ V (V 1 14 + 3) (V (V 1 14) 0 - 1) = V (V 1 14) 5
def cFr (V V' : qV) (b : Int) : Prop := ∀ o j, ¬ (o = 1 ∧ 7 ≤ j ∧ j ≤ b) → ¬ (o = V 1 14 ∧ (j = 5 ∨ j = 6)) → ¬ (o = V 1 14 + 3 ∧ j = V (V 1 14) 0 - 1) → ¬ (o = V 1 14 + 4 ∧ V (V 1 14) 5 ≤ j) → V' o j = V o j
def cPo (kd vl : Int → Int) (V V' : qV) (o j : Int) (L : List (Int × Int)) : Prop :=
  cFr V V' 10 ∧ (V' 1 7 = j ∧ V' 1 8 = kd j ∧ V' 1 9 = vl j ∧ V' 1 10 = o) ∧ V' (V 1 14) 5 = V (V 1 14) 5 + L.length ∧ cdC V' (V 1 14 + 4) (V (V 1 14) 5) L ∧ V' (V 1 14 + 3) (V (V 1 14) 0 - 1) = V (V 1 14) 5 + L.length ∧ ((0 ≤ V' (V 1 14) 6 ∧ V' (V 1 14) 6 < 1024) ∧ (∀ k, tb (V (V 1 14) 6) k = true → tb (V' (V 1 14) 6) k = true) ∧ usL (V' (V 1 14) 6) L)
def cBd (V V' : qV) (r p : Int) : Prop := cFr V V' 12 ∧ V' 1 11 = r ∧ V' 1 12 = p
theorem cPo.e {kd vl pl : Int → Int} {m i o : Int} {V V' : qV} {o' j : Int} {L : List (Int × Int)} (h : cSt kd vl pl m V i o) (p : cPo kd vl V V' o' j L) : V' 1 14 = V 1 14 ∧ V' (V 1 14) 0 = V (V 1 14) 0 ∧ V' 3 = kd ∧ V' 4 = vl ∧ V' 5 = pl ∧ V' 1 6 = m + 1 := by
  obtain ⟨h1, h2, h3, h4, h5, h6, h7⟩ := h
  have f := p.1
  refine ⟨f _ _ (by omega) (by omega) (by omega) (by omega), f _ _ (by omega) (by omega) (by omega) (by omega), ?_, ?_, ?_, ?_⟩
  · rw [← h1.1]; funext x; exact f _ _ (by omega) (by omega) (by omega) (by omega)
  · rw [← h1.2.1]; funext x; exact f _ _ (by omega) (by omega) (by omega) (by omega)
  · rw [← h1.2.2.1]; funext x; exact f _ _ (by omega) (by omega) (by omega) (by omega)
  · rw [f _ _ (by omega) (by omega) (by omega) (by omega)]; exact h1.2.2.2
theorem cPo.st {kd vl pl : Int → Int} {m i o : Int} {V V' : qV} {o' j : Int} {L : List (Int × Int)} (h : cSt kd vl pl m V i o) (p : cPo kd vl V V' o' j L) (hl : V (V 1 14) 5 + L.length ≤ 400) : cSt kd vl pl m V' j o' := by
  obtain ⟨e1, e2, e3, e4, e5, e6⟩ := p.e h
  obtain ⟨h1, h2, h3, h4, h5, h6, h7⟩ := h
  obtain ⟨p1, p2, p3, p4, p5, p6⟩ := p
  refine ⟨⟨e3, e4, e5, e6⟩, p2, by rw [e1]; exact h3, by rw [e1, p3]; omega, by rw [e1, e2]; exact h5, by rw [e1]; exact p6.1, by rw [e1, e2, p3]; exact p5⟩
theorem cPo.tr {kd vl pl : Int → Int} {m i o : Int} {V V1 V2 : qV} {o1 j1 o2 j2 : Int} {L K : List (Int × Int)} (h : cSt kd vl pl m V i o) (p : cPo kd vl V V1 o1 j1 L) (q : cPo kd vl V1 V2 o2 j2 K) : cPo kd vl V V2 o2 j2 (L ++ K) := by
  obtain ⟨e1, e2, e3, e4, e5, e6⟩ := p.e h
  obtain ⟨h1, h2, h3, h4, h5, h6, h7⟩ := h
  obtain ⟨p1, p2, p3, p4, p5, p6⟩ := p
  obtain ⟨q1, q2, q3, q4, q5, q6⟩ := q
  have el : ((L ++ K).length : Int) = L.length + K.length := by simp
  rw [e1] at q3 q4 q5 q6
  rw [e2] at q5
  rw [p3] at q3 q4 q5
  have fr : ∀ o j, ¬ (o = 1 ∧ 7 ≤ j ∧ j ≤ 10) → ¬ (o = V 1 14 ∧ (j = 5 ∨ j = 6)) → ¬ (o = V 1 14 + 3 ∧ j = V (V 1 14) 0 - 1) → ¬ (o = V 1 14 + 4 ∧ V (V 1 14) 5 + L.length ≤ j) → V2 o j = V1 o j := fun o j a b c d => q1 o j a (by rw [e1]; exact b) (by rw [e1, e2]; exact c) (by rw [e1, p3]; exact d)
  refine ⟨fun o j a b c d => ?_, q2, by rw [q3, el]; omega, ?_, by rw [q5, el]; omega, q6.1, fun k x => q6.2.1 k (p6.2.1 k x), fun c hc h1' => ?_⟩
  · rw [fr o j a b c (by omega)]; exact p1 o j a b c d
  · rw [cdC_ap]
    refine ⟨cdC_fr L _ p4 (fun k a b => fr _ _ (by omega) (by omega) (by omega) (by omega)), q4⟩
  · rcases List.mem_append.mp hc with x | x
    · exact q6.2.1 _ (p6.2.2 c x h1')
    · exact q6.2.2 c x h1'
theorem cBd.tr {kd vl pl : Int → Int} {m i o : Int} {V V1 V2 : qV} {o1 j1 r p : Int} {L : List (Int × Int)} (h : cSt kd vl pl m V i o) (q : cPo kd vl V V1 o1 j1 L) (b : cBd V1 V2 r p) : cBd V V2 r p := by
  obtain ⟨e1, e2, e3, e4, e5, e6⟩ := q.e h
  obtain ⟨q1, q2, q3, q4, q5, q6⟩ := q
  refine ⟨fun o j x y z w => ?_, b.2⟩
  rw [b.1 o j x (by rw [e1]; exact y) (by rw [e1, e2]; exact z) (by rw [e1, q3]; omega)]
  exact q1 o j (by omega) y z w
section
variable {kd vl pl : Int → Int} {m i o : Int} {V : qV}
theorem cPo.rf (h : cSt kd vl pl m V i o) : cPo kd vl V V o i [] :=
  ⟨fun _ _ _ _ _ _ => rfl, h.2.1, by simp, trivial, by rw [h.2.2.2.2.2.2]; simp, h.2.2.2.2.2.1, fun _ x => x, fun c hc => by simp at hc⟩
theorem s_goOn {Q : qV → Prop} (h : cSt kd vl pl m V i o) (hi : 0 ≤ i ∧ i < m) (hm : m ≤ 400) (k : ∀ V', cPo kd vl V V' o (i + 1) [] → Q V') : W_X6_goOn V Q := by
  have h' := h
  obtain ⟨h1, h2, h3, h4, h5, h6, h7⟩ := h
  unfold W_X6_goOn
  have e : max 0 (min ((V 1 7) + 1) (min ((V 1 6) - 1) 400)) = i + 1 := by rw [h2.1, h1.2.2.2]; omega
  rw [e]
  have e2 : (qu V 1 7 (i + 1)) 1 7 = i + 1 := qu_s _ _ _ _
  have e3 : (qu V 1 7 (i + 1)) 3 (i + 1) = kd (i + 1) := by rw [qu_o _ _ (by decide), h1.1]
  rw [e2, e3]
  have e4 : (qu (qu V 1 7 (i + 1)) 1 8 (kd (i + 1))) 1 7 = i + 1 := by rw [qu_e (by decide)]; exact e2
  have e5 : (qu (qu V 1 7 (i + 1)) 1 8 (kd (i + 1))) 4 (i + 1) = vl (i + 1) := by rw [qu_o _ _ (by decide), qu_o _ _ (by decide), h1.2.1]
  rw [e4, e5]
  have fr : ∀ a j, ¬ (a = 1 ∧ 7 ≤ j ∧ j ≤ 9) → (qu (qu (qu V 1 7 (i + 1)) 1 8 (kd (i + 1))) 1 9 (vl (i + 1))) a j = V a j := fun a j x => by rw [qu_e (by omega), qu_e (by omega), qu_e (by omega)]
  refine ⟨by rw [h2.1]; exact zr_i (by omega) (by omega), by rw [h1.2.2.2]; exact zr_i (by omega) (by omega), by omega, by omega, k _ ⟨fun a j x _ _ _ => fr a j (by omega), ⟨?_, ?_, qu_s _ _ _ _, ?_⟩, ?_, trivial, ?_, ?_, ?_, fun c hc => by simp at hc⟩⟩
  · rw [qu_e (by decide)]; exact e4
  · rw [qu_e (by decide), qu_s]
  · rw [fr _ _ (by omega)]; exact h2.2.2.2
  · rw [fr _ _ (by omega)]; simp
  · rw [fr _ _ (by omega), h7]; simp
  · rw [fr _ _ (by omega)]; exact h6
  · intro k x; rw [fr _ _ (by omega)]; exact x
theorem s_refuse {r : Int} {Q : Int → qV → Prop} (h : cSt kd vl pl m V i o) (hi : 0 ≤ i ∧ i ≤ 400) (k : ∀ V', cBd V V' r (pl i) → Q 0 V') : W_X6_refuse r V Q := by
  obtain ⟨h1, h2, h3, h4, h5, h6, h7⟩ := h
  unfold W_X6_refuse
  have e : (qu V 1 11 r) 1 7 = i := by rw [qu_e (by decide)]; exact h2.1
  have e2 : (qu V 1 11 r) 5 i = pl i := by rw [qu_o _ _ (by decide), h1.2.2.1]
  rw [e, e2]
  exact ⟨by omega, k _ ⟨fun a j x _ _ _ => by rw [qu_e (by omega), qu_e (by omega)], by rw [qu_e (by decide), qu_s], qu_s _ _ _ _⟩⟩
theorem s_isWord {w : Int} {Q : Int → Prop} (h : cSt kd vl pl m V i o) (k : Q (bit01 (decide (kd i = 1 ∧ vl i = w)))) : W_X6_isWord w V Q := by
  unfold W_X6_isWord
  rw [h.2.1.2.1, h.2.1.2.2.1]
  refine br_c (fun a => br_c (fun b => ?_) (fun b => ?_)) (fun a => ?_)
  · rw [decide_eq_true ⟨a, b⟩] at k; exact k
  · rw [decide_eq_false (fun x => b x.2)] at k; exact k
  · rw [decide_eq_false (fun x => a x.1)] at k; exact k
theorem s_isSign {w : Int} {Q : Int → Prop} (h : cSt kd vl pl m V i o) (k : Q (bit01 (decide (kd i = 4 ∧ vl i = w)))) : W_X6_isSign w V Q := by
  unfold W_X6_isSign
  rw [h.2.1.2.1, h.2.1.2.2.1]
  refine br_c (fun a => br_c (fun b => ?_) (fun b => ?_)) (fun a => ?_)
  · rw [decide_eq_true ⟨a, b⟩] at k; exact k
  · rw [decide_eq_false (fun x => b x.2)] at k; exact k
  · rw [decide_eq_false (fun x => a x.1)] at k; exact k
theorem s_mayOpen1 {Q : Int → qV → Prop} (h : cSt kd vl pl m V i o) (ho : 0 ≤ o ∧ o < 6) (k : ∀ V', cPo kd vl V V' (o + 1) i [] → Q 1 V') : W_X6_mayOpen V Q := by
  obtain ⟨h1, h2, h3, h4, h5, h6, h7⟩ := h
  refine br_t (by rw [h2.2.2.2]; omega) ?_
  rw [h2.2.2.2]
  refine ⟨zr_i (by omega) (by omega), k _ ⟨fun a j x _ _ _ => qu_e (by omega), ⟨by rw [qu_e (by decide)]; exact h2.1, by rw [qu_e (by decide)]; exact h2.2.1, by rw [qu_e (by decide)]; exact h2.2.2.1, qu_s _ _ _ _⟩, ?_, trivial, ?_, ?_, ?_, fun c hc => by simp at hc⟩⟩
  · rw [qu_e (by omega)]; simp
  · rw [qu_e (by omega), h7]; simp
  · rw [qu_e (by omega)]; exact h6
  · intro k x; rw [qu_e (by omega)]; exact x
theorem s_close {Q : qV → Prop} (h : cSt kd vl pl m V i o) (ho : 1 ≤ o ∧ o ≤ 6) (k : ∀ V', cPo kd vl V V' (o - 1) i [] → Q V') : (zr ((V 1 10) - 1) ∧ Q (qu V 1 10 ((V 1 10) - 1))) := by
  obtain ⟨h1, h2, h3, h4, h5, h6, h7⟩ := h
  rw [h2.2.2.2]
  refine ⟨zr_i (by omega) (by omega), k _ ⟨fun a j x _ _ _ => qu_e (by omega), ⟨by rw [qu_e (by decide)]; exact h2.1, by rw [qu_e (by decide)]; exact h2.2.1, by rw [qu_e (by decide)]; exact h2.2.2.1, qu_s _ _ _ _⟩, ?_, trivial, ?_, ?_, ?_, fun c hc => by simp at hc⟩⟩
  · rw [qu_e (by omega)]; simp
  · rw [qu_e (by omega), h7]; simp
  · rw [qu_e (by omega)]; exact h6
  · intro k x; rw [qu_e (by omega)]; exact x
def acV (V : qV) (a cl rl v : Int) : qV := qu (qu (qu V (a + 4) cl v) a 5 (cl + 1)) (a + 3) (rl - 1) (cl + 1)
theorem s_addCode' {op x : Int} {Q : qV → Prop} (h : cSt kd vl pl m V i o) (hcl : V (V 1 14) 5 < 400) (hop : 0 ≤ op ∧ op ≤ 10) (hx : 0 ≤ x ∧ x ≤ 9999) (k : Q (acV V (V 1 14) (V (V 1 14) 5) (V (V 1 14) 0) (op * 16384 + x))) : W_X3_addCode (V 1 14) op x V Q := by
  obtain ⟨h1, h2, h3, h4, h5, h6, h7⟩ := h
  unfold W_X3_addCode
  rw [enc_z hop hx]
  have e1 : (qu V (V 1 14 + 4) (V (V 1 14) 5) (op * 16384 + x)) (V 1 14) 5 = V (V 1 14) 5 := qu_e (by omega)
  rw [e1]
  have e2 : (qu (qu V (V 1 14 + 4) (V (V 1 14) 5) (op * 16384 + x)) (V 1 14) 5 (V (V 1 14) 5 + 1)) (V 1 14) 0 = V (V 1 14) 0 := by rw [qu_e (by omega), qu_e (by omega)]
  have e3 : (qu (qu V (V 1 14 + 4) (V (V 1 14) 5) (op * 16384 + x)) (V 1 14) 5 (V (V 1 14) 5 + 1)) (V 1 14) 5 = V (V 1 14) 5 + 1 := qu_s _ _ _ _
  rw [e2, e3]
  exact br_f (by omega) (br_f (by omega) ⟨by omega, zr_i (by omega) (by omega), zr_i (by omega) (by omega), by omega, k⟩)
theorem acV_po {c : Int × Int} {v : Int} (h : cSt kd vl pl m V i o) (hv : v = enc c) (hc : c.1 ≠ 1) : cPo kd vl V (acV V (V 1 14) (V (V 1 14) 5) (V (V 1 14) 0) v) o i [c] := by
  obtain ⟨h1, h2, h3, h4, h5, h6, h7⟩ := h
  have fr : ∀ a j, ¬ (a = V 1 14 ∧ j = 5) → ¬ (a = V 1 14 + 3 ∧ j = V (V 1 14) 0 - 1) → ¬ (a = V 1 14 + 4 ∧ j = V (V 1 14) 5) → (acV V (V 1 14) (V (V 1 14) 5) (V (V 1 14) 0) v) a j = V a j := fun a j x y z => by unfold acV; rw [qu_e (by omega), qu_e (by omega), qu_e (by omega)]
  refine ⟨fun a j x y z w => fr a j (by omega) z (by omega), ⟨?_, ?_, ?_, ?_⟩, ?_, ⟨?_, trivial⟩, ?_, ?_, ?_, fun d hd h1' => ?_⟩
  · rw [fr _ _ (by omega) (by omega) (by omega)]; exact h2.1
  · rw [fr _ _ (by omega) (by omega) (by omega)]; exact h2.2.1
  · rw [fr _ _ (by omega) (by omega) (by omega)]; exact h2.2.2.1
  · rw [fr _ _ (by omega) (by omega) (by omega)]; exact h2.2.2.2
  · unfold acV; rw [qu_e (by omega), qu_s]; simp
  · unfold acV; rw [qu_e (by omega), qu_e (by omega), qu_s]; exact hv
  · unfold acV; rw [qu_s]; simp
  · rw [fr _ _ (by omega) (by omega) (by omega)]; exact h6
  · intro k x; rw [fr _ _ (by omega) (by omega) (by omega)]; exact x
  · have : d = c := by simpa using hd
    subst this; exact absurd h1' hc
theorem s_addCode {op x : Int} {c : Int × Int} {Q : qV → Prop} (h : cSt kd vl pl m V i o) (hcl : V (V 1 14) 5 < 400) (hop : 0 ≤ op ∧ op ≤ 10) (hx : 0 ≤ x ∧ x ≤ 9999) (hc : op * 16384 + x = enc c) (h1 : c.1 ≠ 1) (k : ∀ V', cPo kd vl V V' o i [c] → Q V') : W_X3_addCode (V 1 14) op x V Q :=
  s_addCode' h hcl hop hx (k _ (acV_po h hc h1))
theorem s_addName {x : Int} {Q : qV → Prop} (h : cSt kd vl pl m V i o) (hcl : V (V 1 14) 5 < 400) (hx : 0 ≤ x ∧ x ≤ 9) (k : ∀ V', cPo kd vl V V' o i [(1, x)] → Q V') : W_X3_addCode (V 1 14) 1 x V (fun V12 => W_X3_addUse (V12 1 14) x V12 Q) := by
  refine s_addCode' h hcl (by decide) (by omega) ?_
  obtain ⟨h1, h2, h3, h4, h5, h6, h7⟩ := h
  have fr : ∀ a j, ¬ (a = V 1 14 ∧ j = 5) → ¬ (a = V 1 14 + 3 ∧ j = V (V 1 14) 0 - 1) → ¬ (a = V 1 14 + 4 ∧ j = V (V 1 14) 5) → (acV V (V 1 14) (V (V 1 14) 5) (V (V 1 14) 0) (1 * 16384 + x)) a j = V a j := fun a j x y z => by unfold acV; rw [qu_e (by omega), qu_e (by omega), qu_e (by omega)]
  unfold W_X3_addUse
  rw [fr 1 14 (by omega) (by omega) (by omega), fr (V 1 14) 6 (by omega) (by omega) (by omega)]
  have mo := mk_or (m := V (V 1 14) 6) (u := x) h6 (by omega)
  have g : ∀ a j, ¬ (a = V 1 14 ∧ (j = 5 ∨ j = 6)) → ¬ (a = V 1 14 + 3 ∧ j = V (V 1 14) 0 - 1) → ¬ (a = V 1 14 + 4 ∧ j = V (V 1 14) 5) → (qu (acV V (V 1 14) (V (V 1 14) 5) (V (V 1 14) 0) (1 * 16384 + x)) (V 1 14) 6 (zor (V (V 1 14) 6) (zshl 1 x))) a j = V a j := fun a j x y z => by rw [qu_e (by omega)]; exact fr a j (by omega) y z
  refine k _ ⟨fun a j x y z w => g a j (by omega) z (by omega), ⟨?_, ?_, ?_, ?_⟩, ?_, ⟨?_, trivial⟩, ?_, ?_, ?_, fun d hd h1' => ?_⟩
  · rw [g _ _ (by omega) (by omega) (by omega)]; exact h2.1
  · rw [g _ _ (by omega) (by omega) (by omega)]; exact h2.2.1
  · rw [g _ _ (by omega) (by omega) (by omega)]; exact h2.2.2.1
  · rw [g _ _ (by omega) (by omega) (by omega)]; exact h2.2.2.2
  · rw [qu_e (by omega)]; unfold acV; rw [qu_e (by omega), qu_s]; simp
  · rw [qu_e (by omega)]; unfold acV; rw [qu_e (by omega), qu_e (by omega), qu_s]; rfl
  · rw [qu_e (by omega)]; unfold acV; rw [qu_s]; simp
  · rw [qu_s]; exact mo.1
  · intro k y; rw [qu_s]
    by_cases k0 : 0 ≤ k
    · rw [mo.2 k k0, y]; rfl
    · rw [tb_or h6.1 (by omega) (by have := zshl_rn (k := x) (n := 10) (by decide) hx.1 (by omega); omega) (by have := zshl_rn (k := x) (n := 10) (by decide) hx.1 (by omega); have h2 : zshl 1 x < 1024 := this.2; omega), y]; rfl
  · have : d = (1, x) := by simpa using hd
    subst this
    rw [qu_s, mo.2 x hx.1]; simp
end
/-- reference, before piece i -/
def rSt (t : Int → Int) (n : Int) (pl : Int → Int) (V : qV) (i o : Int) : Prop := rT t n V ∧ V 602 15 = -1 ∧ (0 ≤ V 602 14 ∧ V 602 14 ≤ n) ∧ rnE spB t n (V 602 14) (pl i) ∧ V 602 17 = o ∧ (0 ≤ V 602 18 ∧ V 602 18 ≤ 400) ∧ (0 ≤ V 602 19 ∧ V 602 19 ≤ 4200)
def rFr (V V' : qV) : Prop := ∀ o j, ¬ (o = 602 ∧ 14 ≤ j ∧ j ≤ 18) → ¬ ((o = 604 ∨ o = 605) ∧ V 602 19 + V 602 18 ≤ j ∧ j < V 602 19 + 400) → V' o j = V o j
def rPo (t : Int → Int) (n : Int) (pl : Int → Int) (V V' : qV) (o j : Int) (L : List (Int × Int)) : Prop := rFr V V' ∧ V' 602 15 = -1 ∧ (0 ≤ V' 602 14 ∧ V' 602 14 ≤ n) ∧ rnE spB t n (V' 602 14) (pl j) ∧ V' 602 17 = o ∧ V' 602 18 = V 602 18 + L.length ∧ cdM V' (V 602 19 + V 602 18) L
def rBd (V V' : qV) (o r p : Int) : Prop := (rFr V V' ∧ (0 ≤ V' 602 18 ∧ V' 602 18 ≤ 400)) ∧ V' 602 15 = p ∧ V' 602 16 = r ∧ V' 602 17 = o
theorem rPo.e {t : Int → Int} {n : Int} {pl : Int → Int} {V V' : qV} {o j : Int} {L : List (Int × Int)} (p : rPo t n pl V V' o j L) : V' 602 19 = V 602 19 ∧ V' 602 13 = V 602 13 ∧ ∀ x, V' 613 x = V 613 x :=
  ⟨p.1 _ _ (by omega) (by omega), p.1 _ _ (by omega) (by omega), fun x => p.1 _ _ (by omega) (by omega)⟩
theorem rPo.st {t : Int → Int} {n : Int} {pl : Int → Int} {V V' : qV} {i o o' j : Int} {L : List (Int × Int)} (h : rSt t n pl V i o) (p : rPo t n pl V V' o' j L) (hl : V 602 18 + L.length ≤ 400) : rSt t n pl V' j o' := by
  obtain ⟨e1, e2, e3⟩ := p.e
  obtain ⟨h1, h2, h3, h4, h5, h6, h7⟩ := h
  obtain ⟨p1, p2, p3, p4, p5, p6, p7⟩ := p
  exact ⟨h1.fr e2 e3, p2, p3, p4, p5, by rw [p6]; omega, by rw [e1]; exact h7⟩
theorem rPo.tr {t : Int → Int} {n : Int} {pl : Int → Int} {V V1 V2 : qV} {o1 j1 o2 j2 : Int} {L K : List (Int × Int)} (h18 : 0 ≤ V 602 18) (p : rPo t n pl V V1 o1 j1 L) (q : rPo t n pl V1 V2 o2 j2 K) : rPo t n pl V V2 o2 j2 (L ++ K) := by
  obtain ⟨e1, e2, e3⟩ := p.e
  obtain ⟨p1, p2, p3, p4, p5, p6, p7⟩ := p
  obtain ⟨q1, q2, q3, q4, q5, q6, q7⟩ := q
  have el : ((L ++ K).length : Int) = L.length + K.length := by simp
  rw [e1, p6] at q7
  have fr : ∀ o j, ¬ (o = 602 ∧ 14 ≤ j ∧ j ≤ 18) → ¬ ((o = 604 ∨ o = 605) ∧ V 602 19 + (V 602 18 + L.length) ≤ j ∧ j < V 602 19 + 400) → V2 o j = V1 o j := fun o j a b => q1 o j a (by rw [e1, p6]; exact b)
  refine ⟨fun o j a b => ?_, q2, q3, q4, q5, by rw [q6, p6, el]; omega, ?_⟩
  · rw [fr o j a (by omega)]; exact p1 o j a b
  · rw [cdM_ap]
    exact ⟨cdM_fr L _ p7 (fun o k x a b => fr o k (by omega) (by omega)), by rw [show V 602 19 + V 602 18 + (L.length : Int) = V 602 19 + (V 602 18 + L.length) by omega]; exact q7⟩
theorem rBd.tr {t : Int → Int} {n : Int} {pl : Int → Int} {V V1 V2 : qV} {o1 j1 o r p : Int} {L : List (Int × Int)} (q : rPo t n pl V V1 o1 j1 L) (b : rBd V1 V2 o r p) : rBd V V2 o r p := by
  obtain ⟨e1, e2, e3⟩ := q.e
  obtain ⟨q1, q2, q3, q4, q5, q6, q7⟩ := q
  refine ⟨⟨fun a j x y => ?_, b.1.2⟩, b.2⟩
  rw [b.1.1 a j x (by rw [e1, q6]; omega)]
  exact q1 a j x y
section
variable {t : Int → Int} {n : Int} {pl : Int → Int} {V : qV} {i o : Int}
/-- the place moves on -/
theorem rPo.mv {p j o' : Int} (h : rSt t n pl V i o) (hp : 0 ≤ p ∧ p ≤ n) (hr : rnE spB t n p (pl j)) : rPo t n pl V (qu V 602 14 p) o j [] := by
  obtain ⟨h1, h2, h3, h4, h5, h6, h7⟩ := h
  refine ⟨fun a j x _ => qu_e (by omega), by rw [qu_e (by decide)]; exact h2, by rw [qu_s]; exact hp, by rw [qu_s]; exact hr, by rw [qu_e (by decide)]; exact h5, by rw [qu_e (by decide)]; simp, trivial⟩
theorem rPo.em {w x : Int} (h : rSt t n pl V i o) (hc : V 602 18 < 400) : rPo t n pl V (emV V (V 602 19 + V 602 18) w x (V 602 18 + 1)) o i [(w, x)] := by
  obtain ⟨h1, h2, h3, h4, h5, h6, h7⟩ := h
  have fr : ∀ a j, ¬ (a = 602 ∧ j = 18) → ¬ ((a = 604 ∨ a = 605) ∧ j = V 602 19 + V 602 18) → (emV V (V 602 19 + V 602 18) w x (V 602 18 + 1)) a j = V a j := fun a j x y => by unfold emV; rw [qu_e (by omega), qu_e (by omega), qu_e (by omega)]
  refine ⟨fun a j y z => fr a j (by omega) (by omega), ?_, ?_, ?_, ?_, ?_, ⟨⟨?_, ?_⟩, trivial⟩⟩
  · rw [fr _ _ (by omega) (by omega)]; exact h2
  · rw [fr _ _ (by omega) (by omega)]; exact h3
  · rw [fr _ _ (by omega) (by omega)]; exact h4
  · rw [fr _ _ (by omega) (by omega)]; exact h5
  · unfold emV; rw [qu_s]; simp
  · unfold emV; rw [qu_e (by omega), qu_e (by omega), qu_s]
  · unfold emV; rw [qu_e (by omega), qu_s]
theorem m_emitR {w x : Int} {Q : qV → Prop} (h : rSt t n pl V i o) (hc : V 602 18 < 400) (k : ∀ V', rPo t n pl V V' o i [(w, x)] → Q V') : W_X11_emit w x V Q := m_emit h.2.1 h.2.2.2.2.2.2 ⟨h.2.2.2.2.2.1.1, hc⟩ (k _ (rPo.em h hc))
end
