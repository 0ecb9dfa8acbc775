/-! terms and sums -/
theorem wx_15 {c : Int} : wixC c = 15 ↔ c = 3673 := by
  unfold wixC
  constructor
  · intro h; repeat' split at h
    all_goals omega
  · intro h; subst h; rfl
theorem wx_16 {c : Int} : wixC c = 16 ↔ c = 294 := by
  unfold wixC
  constructor
  · intro h; repeat' split at h
    all_goals omega
  · intro h; subst h; rfl
theorem wx_17 {c : Int} : wixC c = 17 ↔ c = 498 := by
  unfold wixC
  constructor
  · intro h; repeat' split at h
    all_goals omega
  · intro h; subst h; rfl
theorem wx_18 {c : Int} : wixC c = 18 ↔ c = 1476 := by
  unfold wixC
  constructor
  · intro h; repeat' split at h
    all_goals omega
  · intro h; subst h; rfl
theorem wx_19 {c : Int} : wixC c = 19 ↔ c = 14836 := by
  unfold wixC
  constructor
  · intro h; repeat' split at h
    all_goals omega
  · intro h; subst h; rfl
/-- the name that a word is, or -1 -/
def nmO (c : Int) : Int := if 5 ≤ wixC c ∧ wixC c < 15 then wixC c - 5 else -1
def whO (c : Int) : Int := if 0 ≤ wixC c ∧ wixC c < 5 then wixC c else -1
theorem m_nameOf {c : Int} {V : qV} {Q : Int → Prop} (k : Q (nmO c)) : W_X11_nameOf c V Q := by
  refine br_c (fun a => ?_) (fun a0 => br_c (fun a => ?_) (fun a1 => br_c (fun a => ?_) (fun a2 => br_c (fun a => ?_) (fun a3 => br_c (fun a => ?_) (fun a4 => br_c (fun a => ?_) (fun a5 => br_c (fun a => ?_) (fun a6 => br_c (fun a => ?_) (fun a7 => br_c (fun a => ?_) (fun a8 => br_c (fun a => ?_) (fun a9 => ?_))))))))))
  · subst a; exact k
  · subst a; exact k
  · subst a; exact k
  · subst a; exact k
  · subst a; exact k
  · subst a; exact k
  · subst a; exact k
  · subst a; exact k
  · subst a; exact k
  · subst a; exact k
  · have : nmO c = -1 := by
      unfold nmO
      refine if_neg ?_
      unfold wixC
      rw [if_neg a0, if_neg a1, if_neg a2, if_neg a3, if_neg a4, if_neg a5, if_neg a6, if_neg a7, if_neg a8, if_neg a9]
      repeat' split
      all_goals omega
    rw [this] at k; exact k
theorem m_whoOf {c : Int} {V : qV} {Q : Int → Prop} (k : Q (whO c)) : W_X11_whoOf c V Q := by
  refine br_c (fun a => ?_) (fun a0 => br_c (fun a => ?_) (fun a1 => br_c (fun a => ?_) (fun a2 => br_c (fun a => ?_) (fun a3 => br_c (fun a => ?_) (fun a4 => ?_)))))
  · subst a; exact k
  · subst a; exact k
  · subst a; exact k
  · subst a; exact k
  · subst a; exact k
  · have : whO c = -1 := by
      unfold whO
      refine if_neg ?_
      unfold wixC
      rw [if_neg a0, if_neg a1, if_neg a2, if_neg a3, if_neg a4]
      repeat' split
      all_goals omega
    rw [this] at k; exact k
/-- codes make one value of a kind out of nothing -/
def tyA (L : List (Int × Int)) (b : Bool) (kT kF : Nat) : Prop := ∀ tt : List Bool, tt.count true + kT ≤ 16 → tt.count false + kF ≤ 16 → wrun L tt = some (b :: tt)
theorem wrun_ap : ∀ (L K : List (Int × Int)) (tt : List Bool), wrun (L ++ K) tt = (wrun L tt).bind (wrun K)
  | [], K, tt => rfl
  | c :: L, K, tt => by
    show (match wst tt c with | none => none | some t' => if wok t' then wrun (L ++ K) t' else none) = (match wst tt c with | none => none | some t' => if wok t' then wrun L t' else none).bind (wrun K)
    cases h : wst tt c with
    | none => rfl
    | some t' =>
      show (if wok t' then wrun (L ++ K) t' else none) = (if wok t' then wrun L t' else none).bind (wrun K)
      by_cases w : wok t'
      · rw [if_pos w, if_pos w]; exact wrun_ap L K t'
      · rw [if_neg w, if_neg w]; rfl
theorem wrun_1 {c : Int × Int} {tt t' : List Bool} (h : wst tt c = some t') (h1 : t'.count true ≤ 16) (h2 : t'.count false ≤ 16) : wrun [c] tt = some t' := by
  show (match wst tt c with | none => none | some t' => if wok t' then wrun [] t' else none) = some t'
  rw [h]
  show (if wok t' then some t' else none) = some t'
  have w : wok t' = true := decide_eq_true ⟨h1, h2⟩
  rw [if_pos w]
theorem cF {tt : List Bool} : (false :: tt).count false = tt.count false + 1 ∧ (false :: tt).count true = tt.count true := ⟨by simp, by simp⟩
theorem cTt {tt : List Bool} : (true :: tt).count true = tt.count true + 1 ∧ (true :: tt).count false = tt.count false := ⟨by simp, by simp⟩
/-- what comes of reading: r = 0 and the next piece, or a fault's number and its piece -/
def oOut (m i r j : Int) (L : List (Int × Int)) (P : Prop) : Prop := (r = 0 ∧ (i < j ∧ j ≤ m) ∧ (L.length : Int) ≤ j - i ∧ P) ∨ ((r = 1 ∨ r = 2 ∨ r = 3) ∧ 0 ≤ j ∧ j ≤ m)
def cOK (kd vl pl : Int → Int) (m : Int) (g : qV → (Int → qV → Prop) → Prop) (i o r j : Int) (L : List (Int × Int)) : Prop := ∀ (V : qV) (Q : Int → qV → Prop), cSt kd vl pl m V i o → V (V 1 14) 5 ≤ i → (r = 0 → ∀ V', cPo kd vl V V' o j L → Q 1 V') → (r ≠ 0 → ∀ V', cBd V V' r (pl j) → Q 0 V') → g V Q
def rOK (t : Int → Int) (n : Int) (pl : Int → Int) (g : qV → (qV → Prop) → Prop) (i o r j : Int) (L : List (Int × Int)) : Prop := ∀ (V : qV) (Q : qV → Prop), rSt t n pl V i o → V 602 18 ≤ i → (r = 0 → ∀ V', rPo t n pl V V' o j L → Q V') → (r ≠ 0 → ∀ V', rBd V V' o r (pl j) → Q V') → g V Q
def oTerm (t : Int → Int) (n : Int) (kd vl pl : Int → Int) (m : Int) (d : Nat) (i : Int) : Prop := ∃ r j L, oOut m i r j L (tyA L false 0 (1 + d)) ∧ (∀ F, 3 * d + 2 ≤ F → cOK kd vl pl m (G_rs F 1) i (6 - d) r j L) ∧ (∀ F, 2 * d + 3 ≤ F → rOK t n pl (G_ms F 0) i (6 - d) r j L)
def oSum (t : Int → Int) (n : Int) (kd vl pl : Int → Int) (m : Int) (d : Nat) (i : Int) : Prop := ∃ r j L, oOut m i r j L (tyA L false 0 (2 + d)) ∧ (∀ F, 3 * d + 3 ≤ F → cOK kd vl pl m (G_rs F 0) i (6 - d) r j L) ∧ (∀ F, 2 * d + 4 ≤ F → rOK t n pl (G_ms F 1) i (6 - d) r j L)
section
variable {t : Int → Int} {n : Int} {kd vl pl : Int → Int} {m i o : Int} {V : qV}
theorem cPo.t0 {V1 V2 : qV} {o1 j1 o2 j2 : Int} {L : List (Int × Int)} (h : cSt kd vl pl m V i o) (p : cPo kd vl V V1 o1 j1 L) (q : cPo kd vl V1 V2 o2 j2 []) : cPo kd vl V V2 o2 j2 L := by
  have := p.tr h q
  rwa [List.append_nil] at this
theorem rPo.t0 {V1 V2 : qV} {o1 j1 o2 j2 : Int} {L : List (Int × Int)} (h : 0 ≤ V 602 18) (p : rPo t n pl V V1 o1 j1 L) (q : rPo t n pl V1 V2 o2 j2 []) : rPo t n pl V V2 o2 j2 L := by
  have := p.tr h q
  rwa [List.append_nil] at this
theorem cPo.cl {V1 : qV} {o1 j1 : Int} {L : List (Int × Int)} (h : cSt kd vl pl m V i o) (p : cPo kd vl V V1 o1 j1 L) : V1 (V1 1 14) 5 = V (V 1 14) 5 + L.length := by
  rw [(p.e h).1]; exact p.2.2.1
theorem s_mayOpen0 {Q : Int → qV → Prop} (h : cSt kd vl pl m V i o) (hi : 0 ≤ i ∧ i ≤ 400) (ho : o = 6) (k : ∀ V', cBd V V' 3 (pl i) → Q 0 V') : W_X6_mayOpen V Q :=
  br_f (by rw [h.2.1.2.2.2]; omega) (s_refuse h hi k)
theorem s_readSign1 {c : Int} {Q : Int → qV → Prop} (h : cSt kd vl pl m V i o) (hi : 0 ≤ i ∧ i < m) (hm : m ≤ 400) (hc : kd i = 4 ∧ vl i = c) (k : ∀ V', cPo kd vl V V' o (i + 1) [] → Q 1 V') : W_X6_readSign c V Q := by
  refine s_isSign h ?_
  rw [decide_eq_true hc]
  exact br_f (by decide) (s_goOn h hi hm k)
theorem s_readSign0 {c : Int} {Q : Int → qV → Prop} (h : cSt kd vl pl m V i o) (hi : 0 ≤ i ∧ i ≤ 400) (hc : ¬ (kd i = 4 ∧ vl i = c)) (k : ∀ V', cBd V V' 1 (pl i) → Q 0 V') : W_X6_readSign c V Q := by
  refine s_isSign h ?_
  rw [decide_eq_false hc]
  exact br_t rfl (s_refuse h hi k)
theorem s_needNumber1 {Q : Int → qV → Prop} (h : cSt kd vl pl m V i o) (hc : kd i = 2) (hv : vl i ≤ 9999) (k : Q 1 V) : W_X6_needNumber V Q := by
  unfold W_X6_needNumber
  rw [h.2.1.2.1, h.2.1.2.2.1]
  exact br_t hc (br_t hv k)
theorem s_needNumber2 {Q : Int → qV → Prop} (h : cSt kd vl pl m V i o) (hi : 0 ≤ i ∧ i ≤ 400) (hc : kd i = 2) (hv : ¬ vl i ≤ 9999) (k : ∀ V', cBd V V' 2 (pl i) → Q 0 V') : W_X6_needNumber V Q := by
  unfold W_X6_needNumber
  rw [h.2.1.2.1, h.2.1.2.2.1]
  exact br_t hc (br_f hv (s_refuse h hi (fun V' b => br_t rfl (k V' b))))
theorem s_needNumber0 {Q : Int → qV → Prop} (h : cSt kd vl pl m V i o) (hi : 0 ≤ i ∧ i ≤ 400) (hc : kd i ≠ 2) (k : ∀ V', cBd V V' 1 (pl i) → Q 0 V') : W_X6_needNumber V Q := by
  unfold W_X6_needNumber
  rw [h.2.1.2.1]
  exact br_f hc (s_refuse h hi k)
theorem rSt.sp (hT : TK t n kd vl pl m) (h0 : 0 ≤ i) (h1 : i ≤ m) : rnE spB t n (pl i) (pl i) := rnE_0 (tk_sp hT h0 h1).1
theorem m_hereR {Q : Int → qV → Prop} (hT : TK t n kd vl pl m) (h0 : 0 ≤ i) (h1 : i ≤ m) (h : rSt t n pl V i o) (k : ∀ V', rPo t n pl V V' o i [] → V' 602 14 = pl i → Q (bt t n (pl i)) V') : W_X11_here V Q :=
  m_here h.1 h.2.2.1 h.2.2.2.1 (k _ (rPo.mv (o' := o) h (tk_sp hT h0 h1).2 (rSt.sp hT h0 h1)) (qu_s _ _ _ _))
theorem m_wordR {e : Int} {Q : Int → qV → Prop} (hT : TK t n kd vl pl m) (h0 : 0 ≤ i) (h1 : i ≤ m) (h : rSt t n pl V i o) (he : tkC t n kd vl pl i e) (k : ∀ V', rPo t n pl V V' o i [] → V' 602 14 = pl i → Q (cdE t (pl i) e) V') : W_X11_word V Q :=
  m_word h.1 h.2.2.1 h.2.2.2.1 he.1 (k _ (rPo.mv (o' := o) h (tk_sp hT h0 h1).2 (rSt.sp hT h0 h1)) (qu_s _ _ _ _))
theorem m_passR {e : Int} {Q : qV → Prop} (h : rSt t n pl V i o) (hp : V 602 14 = pl i) (he : tk1 t n vl pl i e) (k : ∀ V', rPo t n pl V V' o (i + 1) [] → Q V') : W_X11_pass V Q :=
  m_pass h.1 h.2.2.1 (by rw [hp]; exact he.1) (k _ (rPo.mv (o' := o) h (by have := h.2.2.1; have := he.2.1; omega) he.2.2.2.2))
theorem m_wrongR {r : Int} {Q : qV → Prop} (h : rSt t n pl V i o) (hp : V 602 14 = pl i) (k : ∀ V', rBd V V' o r (pl i) → Q V') : W_X11_wrong r (V 602 14) V Q :=
  m_wrong1 h.2.1 (k _ ⟨⟨fun a j x _ => by rw [qu_e (by omega), qu_e (by omega)], by rw [qu_e (by decide), qu_e (by decide)]; exact h.2.2.2.2.2.1⟩, by rw [qu_e (by decide), qu_s]; exact hp, qu_s _ _ _ _, by rw [qu_e (by decide), qu_e (by decide)]; exact h.2.2.2.2.1⟩)
theorem m_opensR1 {b : Int} {Q : qV → Prop} (h : rSt t n pl V i o) (hp : V 602 14 = pl i) (ho : 0 ≤ o ∧ o < 6) (hb' : 0 ≤ b ∧ b ≤ 3) (hn : pl i + b ≤ n) (hr : rnE spB t n (pl i + b) (pl (i + 1))) (k : ∀ V', rPo t n pl V V' (o + 1) (i + 1) [] → Q V') : W_X11_opensOne b V Q := by
  obtain ⟨h1, h2, h3, h4, h5, h6, h7⟩ := h
  have nn := h1.2.1
  refine m_opens1 h2 (by omega) (by omega) hb' ?_
  rw [hp, h5]
  refine k _ ⟨fun a j x _ => by rw [qu_e (by omega), qu_e (by omega)], ?_, ?_, ?_, qu_s _ _ _ _, ?_, trivial⟩
  · rw [qu_e (by decide), qu_e (by decide)]; exact h2
  · rw [qu_e (by decide), qu_s]; omega
  · rw [qu_e (by decide), qu_s]; exact hr
  · rw [qu_e (by decide), qu_e (by decide)]; simp
theorem m_opensR0 {b : Int} {Q : qV → Prop} (h : rSt t n pl V i o) (hp : V 602 14 = pl i) (ho : o = 6) (k : ∀ V', rBd V V' 7 3 (pl i) → Q V') : W_X11_opensOne b V Q := by
  obtain ⟨h1, h2, h3, h4, h5, h6, h7⟩ := h
  refine m_opens0 h2 (by omega) h3.1 (k _ ⟨⟨fun a j x _ => by rw [qu_e (by omega), qu_e (by omega), qu_e (by omega)], by rw [qu_e (by decide), qu_e (by decide), qu_e (by decide)]; exact h6⟩, ?_, ?_, qu_s _ _ _ _⟩)
  · rw [qu_e (by decide), qu_e (by decide), qu_s]; exact hp
  · rw [qu_e (by decide), qu_s]
theorem m_needR1 {c : Int} {Q : qV → Prop} (hT : TK t n kd vl pl m) (h0 : 0 ≤ i) (h1 : i ≤ m) (h : rSt t n pl V i o) (hc : kd i = 4 ∧ vl i = c) (k : ∀ V', rPo t n pl V V' o (i + 1) [] → Q V') : W_X11_need c V Q := by
  have a := tk_4 hT h0 h1 hc.1
  have b := tk_sp hT h0 h1
  exact m_need1 h.1 h.2.1 h.2.2.1 h.2.2.2.1 (by rw [a.2.1]; exact hc.2) (k _ (rPo.mv (o' := o) h (by omega) a.2.2.2.2.1))
theorem m_needR0 {c : Int} {Q : qV → Prop} (hT : TK t n kd vl pl m) (h0 : 0 ≤ i) (h1 : i ≤ m) (h : rSt t n pl V i o) (hs : ltB c = false ∧ dgB c = false ∧ c ≠ 0) (hc : ¬ (kd i = 4 ∧ vl i = c)) (k : ∀ V', rBd V V' o 1 (pl i) → Q V') : W_X11_need c V Q := by
  refine m_need0 h.1 h.2.1 h.2.2.1 h.2.2.2.1 (fun x => hc ((tk_sg hT h0 h1 hs).mp x)) (k _ ⟨⟨fun a j x _ => by rw [qu_e (by omega), qu_e (by omega), qu_e (by omega)], by rw [qu_e (by decide), qu_e (by decide), qu_e (by decide)]; exact h.2.2.2.2.2.1⟩, by rw [qu_e (by decide), qu_s], qu_s _ _ _ _, ?_⟩)
  rw [qu_e (by decide), qu_e (by decide), qu_e (by decide)]; exact h.2.2.2.2.1
theorem rPo.dn {V' : qV} {o1 j : Int} {L : List (Int × Int)} (p : rPo t n pl V V' o1 j L) (x : Int) : rPo t n pl V (qu V' 602 17 x) x j L := by
  obtain ⟨p1, p2, p3, p4, p5, p6, p7⟩ := p
  refine ⟨fun a j y z => by rw [qu_e (by omega)]; exact p1 a j y z, by rw [qu_e (by decide)]; exact p2, by rw [qu_e (by decide)]; exact p3, by rw [qu_e (by decide)]; exact p4, qu_s _ _ _ _, by rw [qu_e (by decide)]; exact p6, cdM_fr L _ p7 (fun o k q _ _ => qu_e (by omega))⟩
theorem rBd.dn {V' : qV} {o1 r p : Int} (b : rBd V V' o1 r p) (x : Int) : rBd V (qu V' 602 17 x) x r p :=
  ⟨⟨fun a j y z => by rw [qu_e (by omega)]; exact b.1.1 a j y z, by rw [qu_e (by decide)]; exact b.1.2⟩, by rw [qu_e (by decide)]; exact b.2.1, by rw [qu_e (by decide)]; exact b.2.2.1, qu_s _ _ _ _⟩
theorem rBd.ne {V' : qV} {o1 r p : Int} (b : rBd V V' o1 r p) (hp : 0 ≤ p) : V' 602 15 ≠ -1 := by rw [b.2.1]; omega
theorem o_term (hT : TK t n kd vl pl m) (hB : ∀ p, 0 ≤ bt t n p ∧ bt t n p < 256) (d : Nat) (hd : d ≤ 6) (hS : ∀ d', d = d' + 1 → ∀ i, 0 ≤ i → i ≤ m → oSum t n kd vl pl m d' i) (i : Int) (h0 : 0 ≤ i) (h1 : i ≤ m) : oTerm t n kd vl pl m d i := by
  have hm : m ≤ 400 := by have := hT.1; have := hT.2.1; omega
  have hp := tk_sp hT h0 h1
  by_cases hb : kd i = 4 ∧ vl i = 40
  · have t4 := tk_4 hT h0 h1 hb.1
    have hbt : bt t n (pl i) = 40 := by rw [t4.2.1]; exact hb.2
    cases d with
    | zero =>
      refine ⟨3, i, [], Or.inr ⟨Or.inr (Or.inr rfl), h0, h1⟩, fun F hF V Q s cl k1 k2 => ?_, fun F hF V Q s cl k1 k2 => ?_⟩
      · obtain ⟨f, rfl⟩ : ∃ f, F = f + 2 := ⟨F - 2, by omega⟩
        rw [G_rs, if_neg (by decide), if_pos rfl]
        refine s_isSign s ?_
        rw [decide_eq_true hb]
        refine br_f (by decide) ?_
        rw [G_rs, if_neg (by decide), if_neg (by decide)]
        exact s_mayOpen0 s (by omega) (by simp) (fun V' b => br_t rfl (k2 (by decide) V' b))
      · obtain ⟨f, rfl⟩ : ∃ f, F = f + 3 := ⟨F - 3, by omega⟩
        rw [G_ms, if_pos rfl]
        refine m_fine1 s.2.1 (br_f (by decide) (m_hereR hT h0 h1 s (fun V1 p1 e1 => m_isDigit ?_)))
        rw [hbt]
        have s1 := p1.st s (by simp; exact s.2.2.2.2.2.1.2)
        refine br_t rfl (br_t rfl (m_opensR0 s1 e1 (by simp) (fun V2 b2 => ?_)))
        have b3 := rBd.tr p1 b2
        refine (m_sumB (b3.ne hp.2.1) ?_ f).2
        refine m_closesB (b3.ne hp.2.1) (by rw [b3.2.2.2]; omega) (k2 (by decide) _ ?_)
        rw [b3.2.2.2]
        exact b3.dn 6
    | succ d' =>
      have lt := t4.1
      obtain ⟨r, j, L, out, cs, rs⟩ := hS d' rfl (i + 1) (by omega) (by omega)
      have oe : (6 : Int) - ((d' + 1 : Nat) : Int) + 1 = 6 - (d' : Int) := by omega
      -- up to the sum within
      have C : ∀ (F : Nat), 3 * (d' + 1) + 2 ≤ F → ∀ (V : qV) (Q : Int → qV → Prop), cSt kd vl pl m V i (6 - ((d' + 1 : Nat) : Int)) → V (V 1 14) 5 ≤ i → (r = 0 → ∀ V3, cPo kd vl V V3 (6 - (d' : Int)) j L → W_X6_readSign 41 V3 (fun r4 V4 => ((r4 = 0 → Q 0 V4) ∧ (¬ r4 = 0 → (zr ((V4 1 10) - 1) ∧ Q 1 (qu V4 1 10 ((V4 1 10) - 1))))))) → (r ≠ 0 → ∀ V', cBd V V' r (pl j) → Q 0 V') → G_rs F 1 V Q := fun F hF V Q s cl k1 k2 => by
        obtain ⟨f, rfl⟩ : ∃ f, F = f + 2 := ⟨F - 2, by omega⟩
        rw [G_rs, if_neg (by decide), if_pos rfl]
        refine s_isSign s ?_
        rw [decide_eq_true hb]
        refine br_f (by decide) ?_
        rw [G_rs, if_neg (by decide), if_neg (by decide)]
        refine s_mayOpen1 s (by omega) (fun V1 p1 => br_f (by decide) ?_)
        rw [oe] at p1
        have s1 := p1.st s (by have := s.2.2.2.1; simp; omega)
        refine s_goOn s1 ⟨h0, lt⟩ hm (fun V2 p2 => ?_)
        have p12 : cPo kd vl V V2 _ (i + 1) [] := p1.tr s p2
        have s2 := p12.st s (by have := s.2.2.2.1; simp; omega)
        refine cs f (by omega) V2 _ s2 (by rw [p12.cl s]; simp; omega) (fun hr V3 p3 => br_f (by decide) (k1 hr V3 (p12.tr s p3))) (fun hr V3 b3 => br_t rfl (k2 hr V3 (cBd.tr s p12 b3)))
      have R : ∀ (F : Nat), 2 * (d' + 1) + 3 ≤ F → ∀ (V : qV) (Q : qV → Prop), rSt t n pl V i (6 - ((d' + 1 : Nat) : Int)) → V 602 18 ≤ i → (r = 0 → ∀ V3, rPo t n pl V V3 (6 - (d' : Int)) j L → W_X11_closesOne 41 V3 (fun V4 => Q V4)) → (r ≠ 0 → ∀ V', rBd V V' (6 - (d' : Int)) r (pl j) → W_X11_closesOne 41 V' (fun V4 => Q V4)) → G_ms F 0 V Q := fun F hF V Q s cl k1 k2 => by
        obtain ⟨f, rfl⟩ : ∃ f, F = f + 1 := ⟨F - 1, by omega⟩
        rw [G_ms, if_pos rfl]
        refine m_fine1 s.2.1 (br_f (by decide) (m_hereR hT h0 h1 s (fun V1 p1 e1 => m_isDigit ?_)))
        rw [hbt]
        have s1 := p1.st s (by simp; exact s.2.2.2.2.2.1.2)
        refine br_t rfl (br_t rfl (m_opensR1 s1 e1 (by omega) (by decide) t4.2.2.2.2.2 t4.2.2.2.2.1 (fun V2 p2 => ?_)))
        rw [oe] at p2
        have p12 : rPo t n pl V V2 _ (i + 1) [] := p1.tr s.2.2.2.2.2.1.1 p2
        have s2 := p12.st s (by simp; exact s.2.2.2.2.2.1.2)
        exact rs f (by omega) V2 _ s2 (by rw [p12.2.2.2.2.2.1]; simp; omega) (fun hr V3 p3 => k1 hr V3 (p12.tr s.2.2.2.2.2.1.1 p3)) (fun hr V3 b3 => k2 hr V3 (rBd.tr p12 b3))
      rcases out with ⟨hr, hj, hl, ty⟩ | ⟨hr, hj⟩
      · have hjp := tk_sp hT (i := j) (by omega) hj.2
        by_cases hc : kd j = 4 ∧ vl j = 41
        · have t4j := tk_4 hT (by omega) hj.2 hc.1
          refine ⟨0, j + 1, L, Or.inl ⟨rfl, by omega, by omega, by rw [show 1 + (d' + 1) = 2 + d' by omega]; exact ty⟩, fun F hF V Q s cl k1 k2 => ?_, fun F hF V Q s cl k1 k2 => ?_⟩
          · refine C F hF V Q s cl (fun _ V3 p3 => ?_) (fun x => absurd hr x)
            have s3 := p3.st s (by omega)
            refine s_readSign1 s3 (by omega) hm hc (fun V4 p4 => br_f (by decide) ?_)
            have p34 := cPo.t0 s p3 p4
            have s4 := p34.st s (by omega)
            refine s_close s4 (by omega) (fun V5 p5 => k1 rfl V5 ?_)
            have := cPo.t0 s p34 p5
            rw [show (6 : Int) - (d' : Int) - 1 = 6 - ((d' + 1 : Nat) : Int) by omega] at this
            exact this
          · refine R F hF V Q s cl (fun _ V3 p3 => ?_) (fun x => absurd hr x)
            have s3 := p3.st s (by omega)
            refine m_needR1 hT (by omega) hj.2 s3 hc (fun V4 p4 => ?_)
            have p34 := rPo.t0 s.2.2.2.2.2.1.1 p3 p4
            rw [p34.2.2.2.2.1]
            refine ⟨zr_i (by omega) (by omega), k1 rfl _ ?_⟩
            have := p34.dn (6 - (d' : Int) - 1)
            rw [show (6 : Int) - (d' : Int) - 1 = 6 - ((d' + 1 : Nat) : Int) by omega] at this ⊢
            exact this
        · refine ⟨1, j, [], Or.inr ⟨Or.inl rfl, by omega, hj.2⟩, fun F hF V Q s cl k1 k2 => ?_, fun F hF V Q s cl k1 k2 => ?_⟩
          · refine C F hF V Q s cl (fun _ V3 p3 => ?_) (fun x => absurd hr x)
            have s3 := p3.st s (by omega)
            exact s_readSign0 s3 (by omega) hc (fun V4 b4 => br_t rfl (k2 (by decide) V4 (cBd.tr s p3 b4)))
          · refine R F hF V Q s cl (fun _ V3 p3 => ?_) (fun x => absurd hr x)
            have s3 := p3.st s (by omega)
            refine m_needR0 hT (by omega) hj.2 s3 (by decide) hc (fun V4 b4 => ?_)
            have b5 := rBd.tr p3 b4
            rw [b5.2.2.2]
            refine ⟨zr_i (by omega) (by omega), k2 (by decide) _ ?_⟩
            have := b5.dn (6 - (d' : Int) - 1)
            rw [show (6 : Int) - (d' : Int) - 1 = 6 - ((d' + 1 : Nat) : Int) by omega] at this ⊢
            exact this
      · have hne : r ≠ 0 := by omega
        have hjp := tk_sp hT hj.1 hj.2
        refine ⟨r, j, [], Or.inr ⟨hr, hj⟩, fun F hF V Q s cl k1 k2 => ?_, fun F hF V Q s cl k1 k2 => ?_⟩
        · exact C F hF V Q s cl (fun x => absurd x hne) (fun _ V' b => k2 hne V' b)
        · refine R F hF V Q s cl (fun x => absurd x hne) (fun _ V' b => ?_)
          refine m_closesB (b.ne hjp.2.1) (by rw [b.2.2.2]; omega) (k2 hne _ ?_)
          rw [b.2.2.2]
          have := b.dn (6 - (d' : Int) - 1)
          rw [show (6 : Int) - (d' : Int) - 1 = 6 - ((d' + 1 : Nat) : Int) by omega] at this ⊢
          exact this
  · -- no bracket
    have hns : bt t n (pl i) ≠ 40 := fun x => hb ((tk_sg hT h0 h1 (by decide)).mp x)
    obtain ⟨e, he⟩ := tk_w hT h0 h1
    by_cases hn : kd i = 1 ∧ 5 ≤ vl i ∧ vl i < 15
    · have tk := he.2.1 hn.1
      have lt := (tk_1 hT h0 h1 hn.1).1
      have nm : nmO (cdE t (pl i) e) = vl i - 5 := by
        unfold nmO
        rw [← tk.2.2.1, if_pos hn.2]
      refine ⟨0, i + 1, [(1, vl i - 5)], Or.inl ⟨rfl, by omega, by simp; omega, fun tt a b => ?_⟩, fun F hF V Q s cl k1 k2 => ?_, fun F hF V Q s cl k1 k2 => ?_⟩
      · refine wrun_1 ?_ (by rw [cF.2]; omega) (by rw [cF.1]; omega)
        unfold wst
        rw [if_neg (show ¬ (1 : Int) = 0 by decide), if_pos rfl, if_pos (show 0 ≤ vl i - 5 ∧ vl i - 5 ≤ 9 by omega)]
      · obtain ⟨f, rfl⟩ : ∃ f, F = f + 1 := ⟨F - 1, by omega⟩
        rw [G_rs, if_neg (by decide), if_pos rfl]
        refine s_isSign s ?_
        rw [decide_eq_false hb]
        refine br_t rfl ?_
        rw [s.2.1.2.1, s.2.1.2.2.1]
        refine ⟨zr_i (by omega) (by omega), br_t hn.1 (br_f (by omega) (br_f (by omega) (s_addName s (by omega) (by omega) (fun V1 p1 => ?_))))⟩
        have s1 := p1.st s (by simp; omega)
        exact s_goOn s1 ⟨h0, lt⟩ hm (fun V2 p2 => k1 rfl V2 (cPo.t0 s p1 p2))
      · obtain ⟨f, rfl⟩ : ∃ f, F = f + 1 := ⟨F - 1, by omega⟩
        rw [G_ms, if_pos rfl]
        have hd : dgB (bt t n (pl i)) = false := by
          cases x : dgB (bt t n (pl i)) with
          | false => rfl
          | true => have := (tk_dg hT h0 h1).mp x; omega
        refine m_fine1 s.2.1 (br_f (by decide) (m_hereR hT h0 h1 s (fun V1 p1 e1 => m_isDigit ?_)))
        rw [hd]
        have s1 := p1.st s (by simp; exact s.2.2.2.2.2.1.2)
        refine br_t rfl (br_f hns (m_wordR hT h0 h1 s1 he (fun V2 p2 e2 => m_nameOf (br_f (by rw [nm]; omega) ?_))))
        have p12 : rPo t n pl V V2 _ i [] := p1.tr s.2.2.2.2.2.1.1 p2
        have s2 := p12.st s (by simp; exact s.2.2.2.2.2.1.2)
        refine m_wordR hT h0 h1 s2 he (fun V3 p3 e3 => m_nameOf ?_)
        have p13 : rPo t n pl V V3 _ i [] := p12.tr s.2.2.2.2.2.1.1 p3
        have s3 := p13.st s (by simp; exact s.2.2.2.2.2.1.2)
        refine m_passR s3 e3 tk (fun V4 p4 => ?_)
        have p14 : rPo t n pl V V4 _ (i + 1) [] := p13.tr s.2.2.2.2.2.1.1 p4
        have s4 := p14.st s (by simp; exact s.2.2.2.2.2.1.2)
        rw [nm]
        exact m_emitR s4 (by rw [p14.2.2.2.2.2.1]; simp; omega) (fun V5 p5 => k1 rfl V5 (p14.tr s.2.2.2.2.2.1.1 p5))
    · by_cases h2 : kd i = 2
      · have t2 := tk_2 hT h0 h1 h2
        obtain ⟨e2, te⟩ := t2.2.2
        have lt := t2.1
        have nb := nvR_b (t := t) (p := pl i) (e2 - pl i).toNat (fun j a b => by
          have := dgB_t.mp (te.1.2.1 j a (by omega))
          rw [bt_i (by have := te.2.1; omega)] at this; exact this)
        have hv := te.2.2.1
        have C0 : ∀ (F : Nat), 3 * d + 2 ≤ F → ∀ (V : qV) (Q : Int → qV → Prop), cSt kd vl pl m V i (6 - (d : Int)) → W_X6_needNumber V (fun r3 V3 => ((r3 = 0 → Q 0 V3) ∧ (¬ r3 = 0 → W_X3_addCode (V3 1 14) 0 (V3 1 9) V3 (fun V4 => W_X6_goOn V4 (fun V5 => Q 1 V5))))) → G_rs F 1 V Q := fun F hF V Q s kk => by
          obtain ⟨f, rfl⟩ : ∃ f, F = f + 1 := ⟨F - 1, by omega⟩
          rw [G_rs, if_neg (by decide), if_pos rfl]
          refine s_isSign s ?_
          rw [decide_eq_false hb]
          refine br_t rfl ⟨by rw [s.2.1.2.2.1]; exact zr_i (by omega) (by omega), br_f (by rw [s.2.1.2.1]; omega) kk⟩
        have R0 : ∀ (F : Nat), 2 * d + 3 ≤ F → ∀ (V : qV) (Q : qV → Prop), rSt t n pl V i (6 - (d : Int)) → (∀ V1, rPo t n pl V V1 (6 - (d : Int)) i [] → W_X11_readNumber V1 (fun r14 V14 => W_X11_emit 0 r14 V14 (fun V15 => Q V15))) → G_ms F 0 V Q := fun F hF V Q s kk => by
          obtain ⟨f, rfl⟩ : ∃ f, F = f + 1 := ⟨F - 1, by omega⟩
          rw [G_ms, if_pos rfl]
          refine m_fine1 s.2.1 (br_f (by decide) (m_hereR hT h0 h1 s (fun V1 p1 e1 => m_isDigit ?_)))
          rw [t2.2.1]
          exact br_f (by decide) (kk V1 p1)
        by_cases hv9 : vl i ≤ 9999
        · refine ⟨0, i + 1, [(0, vl i)], Or.inl ⟨rfl, by omega, by simp; omega, fun tt a b => ?_⟩, fun F hF V Q s cl k1 k2 => ?_, fun F hF V Q s cl k1 k2 => ?_⟩
          · refine wrun_1 ?_ (by rw [cF.2]; omega) (by rw [cF.1]; omega)
            unfold wst
            rw [if_pos rfl, if_pos (show 0 ≤ vl i ∧ vl i ≤ 9999 by omega)]
          · refine C0 F hF V Q s (s_needNumber1 s h2 hv9 (br_f (by decide) ?_))
            rw [s.2.1.2.2.1]
            refine s_addCode (c := (0, vl i)) s (by omega) (by decide) (by omega) (by show _ = opC 0 * 16384 + vl i; rfl) (by show (0 : Int) ≠ 1; decide) (fun V1 p1 => ?_)
            have s1 := p1.st s (by simp; omega)
            exact s_goOn s1 ⟨h0, lt⟩ hm (fun V2 p2 => k1 rfl V2 (cPo.t0 s p1 p2))
          · refine R0 F hF V Q s (fun V1 p1 => ?_)
            have s1 := p1.st s (by simp; exact s.2.2.2.2.2.1.2)
            refine m_readNumber s1.1 s1.2.1 s1.2.2.1 s1.2.2.2.1 t2.2.1 te.1 (fun x => ?_) (fun x => by omega)
            have p2 : rPo t n pl V1 (qu V1 602 14 e2) _ (i + 1) [] := rPo.mv (o' := 0) s1 (by have := te.2.1; omega) te.2.2.2
            have p12 : rPo t n pl V (qu V1 602 14 e2) _ (i + 1) [] := p1.tr s.2.2.2.2.2.1.1 p2
            have s2 := p12.st s (by simp; exact s.2.2.2.2.2.1.2)
            rw [show nvR t (pl i) (e2 - pl i).toNat = vl i by omega]
            exact m_emitR s2 (by rw [p12.2.2.2.2.2.1]; simp; omega) (fun V5 p5 => k1 rfl V5 (p12.tr s.2.2.2.2.2.1.1 p5))
        · refine ⟨2, i, [], Or.inr ⟨Or.inr (Or.inl rfl), h0, h1⟩, fun F hF V Q s cl k1 k2 => ?_, fun F hF V Q s cl k1 k2 => ?_⟩
          · exact C0 F hF V Q s (s_needNumber2 s (by omega) h2 hv9 (fun V' b => br_t rfl (k2 (by decide) V' b)))
          · refine R0 F hF V Q s (fun V1 p1 => ?_)
            have s1 := p1.st s (by simp; exact s.2.2.2.2.2.1.2)
            refine m_readNumber s1.1 s1.2.1 s1.2.2.1 s1.2.2.2.1 t2.2.1 te.1 (fun x => by omega) (fun x v _ => ?_)
            refine m_emitB (by rw [qu_e (by decide), qu_s]; omega) (k2 (by decide) _ (rBd.tr p1 ⟨⟨fun a j x _ => by rw [qu_e (by omega), qu_e (by omega), qu_e (by omega)], by rw [qu_e (by decide), qu_e (by decide), qu_e (by decide)]; exact s1.2.2.2.2.2.1⟩, by rw [qu_e (by decide), qu_s], qu_s _ _ _ _, ?_⟩))
            rw [qu_e (by decide), qu_e (by decide), qu_e (by decide)]; exact s1.2.2.2.2.1
      · refine ⟨1, i, [], Or.inr ⟨Or.inl rfl, h0, h1⟩, fun F hF V Q s cl k1 k2 => ?_, fun F hF V Q s cl k1 k2 => ?_⟩
        · obtain ⟨f, rfl⟩ : ∃ f, F = f + 1 := ⟨F - 1, by omega⟩
          rw [G_rs, if_neg (by decide), if_pos rfl]
          refine s_isSign s ?_
          rw [decide_eq_false hb]
          have nn : ∀ (Q2 : Int → qV → Prop), (∀ V', cBd V V' 1 (pl i) → Q2 0 V') → W_X6_needNumber V Q2 := fun Q2 kk => s_needNumber0 s (by omega) h2 kk
          refine br_t rfl ⟨?_, ?_⟩
          · rw [s.2.1.2.2.1]
            have : -1 ≤ vl i ∧ vl i ≤ 10000 := by
              by_cases lt : i < m
              · rcases tk_kd hT h0 lt with x | x | x | x
                · rw [(he.2.1 x).2.2.1]
                  unfold wixC
                  repeat' split
                  all_goals omega
                · omega
                · have := (tk_3 hT h0 h1 x).2.2.2.2.2.2.1; omega
                · have t4 := tk_4 hT h0 h1 x
                  rw [← t4.2.1]
                  have := hB (pl i)
                  omega
              · have : i = m := by omega
                rw [this, hT.2.2.2.2.1.2.2]; omega
            exact zr_i (by omega) (by omega)
          · rw [s.2.1.2.1, s.2.1.2.2.1]
            exact br_c (fun x => br_c (fun y => nn _ (fun V' b => br_t rfl (k2 (by decide) V' b))) (fun y => br_c (fun z => nn _ (fun V' b => br_t rfl (k2 (by decide) V' b))) (fun z => absurd ⟨x, by omega, by omega⟩ hn))) (fun x => nn _ (fun V' b => br_t rfl (k2 (by decide) V' b)))
        · obtain ⟨f, rfl⟩ : ∃ f, F = f + 1 := ⟨F - 1, by omega⟩
          rw [G_ms, if_pos rfl]
          have hd : dgB (bt t n (pl i)) = false := by
            cases x : dgB (bt t n (pl i)) with
            | false => rfl
            | true => exact absurd ((tk_dg hT h0 h1).mp x) h2
          have nm : nmO (cdE t (pl i) e) = -1 := by
            by_cases x : kd i = 1
            · unfold nmO
              rw [← (he.2.1 x).2.2.1]
              exact if_neg (fun y => hn ⟨x, y⟩)
            · by_cases y : kd i = 3
              · rw [(he.2.2.1 y).2]; rfl
              · rw [he.2.2.2 x y]; rfl
          refine m_fine1 s.2.1 (br_f (by decide) (m_hereR hT h0 h1 s (fun V1 p1 e1 => m_isDigit ?_)))
          rw [hd]
          have s1 := p1.st s (by simp; exact s.2.2.2.2.2.1.2)
          refine br_t rfl (br_f hns (m_wordR hT h0 h1 s1 he (fun V2 p2 e2 => m_nameOf (br_t nm ?_))))
          have p12 : rPo t n pl V V2 _ i [] := p1.tr s.2.2.2.2.2.1.1 p2
          have s2 := p12.st s (by simp; exact s.2.2.2.2.2.1.2)
          exact m_wrongR s2 e2 (fun V3 b3 => k2 (by decide) V3 (rBd.tr p12 b3))
end
