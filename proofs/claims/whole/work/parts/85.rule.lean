/-! rules -/
def tlC (V : qV) (Q : Int → qV → Prop) : Prop := W_X6_isWord 16 V (fun r6 => ((r6 = 0 → W_X6_readSign 59 V (fun r7 V7 => Q r7 V7)) ∧ (¬ r6 = 0 → W_X6_goOn V (fun V8 => W_X6_readOr V8 (fun r9 V9 => ((r9 = 0 → Q 0 V9) ∧ (¬ r9 = 0 → W_X6_readSign 59 V9 (fun r10 V10 => Q r10 V10))))))))
def tlM (k : Int) (V : qV) (Q : qV → Prop) : Prop := W_X11_word V (fun r26 V26 => ((r26 = 294 → W_X11_pass V26 (fun V31 => W_X11_anyOf V31 (fun V32 => (zr ((V32 602 19) + (V32 602 18)) ∧ ((0 ≤ k ∧ k < 36) ∧ W_X11_need 59 (qu V32 609 k ((V32 602 19) + (V32 602 18))) (fun V36 => Q V36)))))) ∧ (¬ r26 = 294 → (zr ((V26 602 19) + (V26 602 18)) ∧ ((0 ≤ k ∧ k < 36) ∧ W_X11_need 59 (qu V26 609 k ((V26 602 19) + (V26 602 18))) (fun V30 => Q V30))))))
/-- cells of the reference that a rule may change -/
def mFr (a b k l : Int) (V V' : qV) : Prop := ∀ o j, ¬ (o = 602 ∧ 14 ≤ j ∧ j ≤ 18) → ¬ ((o = 604 ∨ o = 605) ∧ a ≤ j ∧ j < b) → ¬ ((606 ≤ o ∧ o ≤ 609) ∧ j = k) → ¬ (o = 610 ∧ j = l) → V' o j = V o j
theorem mFr.tr {a b k l : Int} {V V1 V2 : qV} (h : mFr a b k l V V1) (g : mFr a b k l V1 V2) : mFr a b k l V V2 := fun o j x y z w => by rw [g o j x y z w]; exact h o j x y z w
theorem rFr.m {a b k l : Int} {V V' : qV} (h : rFr V V') (ha : a ≤ V 602 19 + V 602 18) (hb' : V 602 19 + 400 ≤ b) : mFr a b k l V V' := fun o j x y z w => h o j x (by omega)
theorem mFr.q {a b k l o j x : Int} {V : qV} (h : ((606 ≤ o ∧ o ≤ 609) ∧ j = k) ∨ (o = 610 ∧ j = l)) : mFr a b k l V (qu V o j x) := fun o' j' y z w v => qu_e (by omega)
theorem rSt.fr {t : Int → Int} {n : Int} {pl : Int → Int} {V V' : qV} {i o : Int} (h : rSt t n pl V i o) (h6 : ∀ j, V' 602 j = V 602 j) (h13 : ∀ j, V' 613 j = V 613 j) : rSt t n pl V' i o := by
  obtain ⟨h1, h2, h3, h4, h5, h6', h7⟩ := h
  refine ⟨h1.fr (h6 _) h13, ?_, ?_, ?_, ?_, ?_, ?_⟩
  · rw [h6]; exact h2
  · rw [h6]; exact h3
  · rw [h6]; exact h4
  · rw [h6]; exact h5
  · rw [h6]; exact h6'
  · rw [h6]; exact h7
theorem rSt.q {t : Int → Int} {n : Int} {pl : Int → Int} {V : qV} {i o a j x : Int} (h : rSt t n pl V i o) (ha : a ≠ 602) (hb' : a ≠ 613) : rSt t n pl (qu V a j x) i o := h.fr (fun _ => qu_o _ _ (by omega) _) (fun _ => qu_o _ _ (by omega) _)
/-- what the reference has behind a rule's condition -/
def tPo (t : Int → Int) (n : Int) (pl : Int → Int) (k : Int) (V V' : qV) (j : Int) (L : List (Int × Int)) : Prop := (∀ l, mFr (V 602 19 + V 602 18) (V 602 19 + 400) k l V V' ∧ ∀ o, o ≠ 609 → 606 ≤ o → o ≤ 610 → ∀ x, V' o x = V o x) ∧ rSt t n pl V' j 0 ∧ V' 602 18 = V 602 18 + L.length ∧ cdM V' (V 602 19 + V 602 18) L ∧ V' 609 k = V 602 19 + V 602 18 + L.length
def tBd (k : Int) (V V' : qV) (r p : Int) : Prop := (∀ l, mFr (V 602 19 + V 602 18) (V 602 19 + 400) k l V V') ∧ V' 602 15 = p ∧ V' 602 16 = r
section
variable {t : Int → Int} {n : Int} {kd vl pl : Int → Int} {m i o : Int} {V : qV}
theorem m_need609 {k j : Int} {L : List (Int × Int)} {V1 : qV} {Q : qV → Prop} (hT : TK t n kd vl pl m) (hk : 0 ≤ k ∧ k < 36) (s : rSt t n pl V i 0) (hj : 0 ≤ j ∧ j ≤ m) (p : rPo t n pl V V1 0 j L) (hL : V 602 18 + L.length ≤ 400) (k1 : (kd j = 4 ∧ vl j = 59) → ∀ V', tPo t n pl k V V' (j + 1) L → Q V') (k2 : ¬ (kd j = 4 ∧ vl j = 59) → ∀ V', tBd k V V' 1 (pl j) → Q V') : (zr ((V1 602 19) + (V1 602 18)) ∧ ((0 ≤ k ∧ k < 36) ∧ W_X11_need 59 (qu V1 609 k ((V1 602 19) + (V1 602 18))) (fun V30 => Q V30))) := by
  have s1 := p.st s hL
  have e19 := p.e.1
  have e18 := p.2.2.2.2.2.1
  have s2 : rSt t n pl (qu V1 609 k ((V1 602 19) + (V1 602 18))) j 0 := s1.q (by decide) (by decide)
  have b1 := s1.2.2.2.2.2.1
  have b2 := s1.2.2.2.2.2.2
  have f1 : ∀ l, mFr (V 602 19 + V 602 18) (V 602 19 + 400) k l V V1 := fun l => p.1.m (Int.le_refl _) (Int.le_refl _)
  have f2 : ∀ l, mFr (V 602 19 + V 602 18) (V 602 19 + 400) k l V1 (qu V1 609 k ((V1 602 19) + (V1 602 18))) := fun l => mFr.q (Or.inl (by omega))
  have ge : V 602 19 + V 602 18 ≤ V1 602 19 + V1 602 18 := by rw [e19, e18]; omega
  refine ⟨zr_i (by omega) (by omega), hk, ?_⟩
  by_cases hc : kd j = 4 ∧ vl j = 59
  · refine m_needR1 hT hj.1 hj.2 s2 hc (fun V3 p3 => k1 hc V3 ?_)
    have f3 : ∀ l, mFr (V 602 19 + V 602 18) (V 602 19 + 400) k l (qu V1 609 k ((V1 602 19) + (V1 602 18))) V3 := fun l => p3.1.m (by rw [qu_o _ _ (by decide), qu_o _ _ (by decide)]; exact ge) (by rw [qu_o _ _ (by decide), e19]; omega)
    refine ⟨fun l => ⟨((f1 l).tr (f2 l)).tr (f3 l), fun o h1 h2 h3 x => ?_⟩, p3.st s2 (by rw [qu_o _ _ (by decide)]; simp; omega), ?_, ?_, ?_⟩
    · rw [p3.1 o x (by omega) (by omega), qu_o _ _ h1, p.1 o x (by omega) (by omega)]
    · rw [p3.2.2.2.2.2.1, qu_o _ _ (by decide), e18]; simp
    · exact cdM_fr L _ p.2.2.2.2.2.2 (fun o y q a b => by rw [p3.1 o y (by omega) (by rw [qu_o _ _ (by decide), qu_o _ _ (by decide), e19, e18]; omega), qu_o _ _ (by omega)])
    · rw [p3.1 609 k (by omega) (by omega), qu_s, e19, e18]; omega
  · refine m_needR0 hT hj.1 hj.2 s2 (by decide) hc (fun V3 b3 => k2 hc V3 ⟨fun l => ((f1 l).tr (f2 l)).tr (b3.1.1.m (by rw [qu_o _ _ (by decide), qu_o _ _ (by decide)]; exact ge) (by rw [qu_o _ _ (by decide), e19]; omega)), b3.2.1, b3.2.2.1⟩)
theorem o_tail (hT : TK t n kd vl pl m) (hB : ∀ p, 0 ≤ bt t n p ∧ bt t n p < 256) (i : Int) (h0 : 0 ≤ i) (h1 : i ≤ m) : ∃ r j L, ((r = 0 ∧ (i < j ∧ j ≤ m) ∧ (L.length : Int) ≤ j - i ∧ (L = [] ∨ tyA L true 15 9)) ∨ ((r = 1 ∨ r = 2 ∨ r = 3) ∧ 0 ≤ j ∧ j ≤ m)) ∧ (∀ (V : qV) (Q : Int → qV → Prop), cSt kd vl pl m V i 0 → V (V 1 14) 5 ≤ i → (r = 0 → ∀ V', cPo kd vl V V' 0 j L → Q 1 V') → (r ≠ 0 → ∀ V', cBd V V' r (pl j) → Q 0 V') → tlC V Q) ∧ (∀ (k : Int) (V : qV) (Q : qV → Prop), (0 ≤ k ∧ k < 36) → rSt t n pl V i 0 → V 602 18 ≤ i → (r = 0 → ∀ V', tPo t n pl k V V' j L → Q V') → (r ≠ 0 → ∀ V', tBd k V V' r (pl j) → Q V') → tlM k V Q) := by
  have hm : m ≤ 400 := by have := hT.1; have := hT.2.1; omega
  obtain ⟨e, he⟩ := tk_w hT h0 h1
  by_cases hi : kd i = 1 ∧ vl i = 16
  · have t1 := he.2.1 hi.1
    have lt := (tk_1 hT h0 h1 hi.1).1
    have hw := (tk_is16 he).mpr hi
    obtain ⟨r, j, L, out, cs, rs⟩ := o_anys hT hB (i + 1) (by omega) (by omega)
    have jp : 0 ≤ pl j := by
      rcases out with ⟨_, a, b, _⟩ | ⟨_, a⟩
      · exact (tk_sp hT (by omega) a.2).2.1
      · exact (tk_sp hT a.1 a.2).2.1
    have C : ∀ (V : qV) (Q : Int → qV → Prop), cSt kd vl pl m V i 0 → V (V 1 14) 5 ≤ i → (r = 0 → ∀ V', cPo kd vl V V' 0 j L → W_X6_readSign 59 V' (fun r10 V10 => Q r10 V10)) → (r ≠ 0 → ∀ V', cBd V V' r (pl j) → Q 0 V') → tlC V Q := fun V Q s cl k1 k2 => by
      refine s_isWord s ?_
      rw [decide_eq_true hi]
      refine br_f (by decide) (s_goOn s ⟨h0, lt⟩ hm (fun V1 p1 => ?_))
      have s1 := p1.st s (by have := s.2.2.2.1; simp; omega)
      exact cs 61 (by decide) V1 _ s1 (by rw [p1.cl s]; simp; omega) (fun hr V2 p2 => br_f (by decide) (k1 hr V2 (p1.tr s p2))) (fun hr V2 b2 => br_t rfl (k2 hr V2 (cBd.tr s p1 b2)))
    have R : ∀ (k : Int) (V : qV) (Q : qV → Prop), (0 ≤ k ∧ k < 36) → rSt t n pl V i 0 → V 602 18 ≤ i → (r = 0 → ∀ V1, rPo t n pl V V1 0 j L → (zr ((V1 602 19) + (V1 602 18)) ∧ ((0 ≤ k ∧ k < 36) ∧ W_X11_need 59 (qu V1 609 k ((V1 602 19) + (V1 602 18))) (fun V30 => Q V30)))) → (r ≠ 0 → ∀ V', tBd k V V' r (pl j) → Q V') → tlM k V Q := fun k V Q hk s cl k1 k2 => by
      refine m_wordR hT h0 h1 s he (fun V1 p1 e1 => br_t hw ?_)
      have s1 := p1.st s (by simp; exact s.2.2.2.2.2.1.2)
      refine m_passR s1 e1 t1 (fun V2 p2 => ?_)
      have p12 : rPo t n pl V V2 _ (i + 1) [] := p1.tr s.2.2.2.2.2.1.1 p2
      have s2 := p12.st s (by simp; exact s.2.2.2.2.2.1.2)
      refine rs 61 (by decide) V2 _ s2 (by rw [p12.2.2.2.2.2.1]; simp; omega) (fun hr V3 p3 => k1 hr V3 (p12.tr s.2.2.2.2.2.1.1 p3)) (fun hr V3 b3 => ?_)
      have b4 := rBd.tr p12 b3
      have e19 : V3 602 19 = V 602 19 := b4.1.1 _ _ (by omega) (by omega)
      have b18 := b4.1.2
      have b19 := s.2.2.2.2.2.2
      have g1 := s.2.2.2.2.2.1
      refine ⟨zr_i (by omega) (by omega), hk, m_needB (by rw [qu_o _ _ (by decide)]; exact b4.ne jp) (k2 hr _ ⟨fun l => (mFr.tr (b4.1.1.m (Int.le_refl _) (Int.le_refl _)) (mFr.q (Or.inl (by omega)))), ?_, ?_⟩)⟩
      · rw [qu_o _ _ (by decide)]; exact b4.2.1
      · rw [qu_o _ _ (by decide)]; exact b4.2.2.1
    rcases out with ⟨hr, hj, hl, ty⟩ | ⟨hr, hj⟩
    · subst hr
      by_cases hc : kd j = 4 ∧ vl j = 59
      · have t4 := tk_4 hT (by omega) hj.2 hc.1
        refine ⟨0, j + 1, L, Or.inl ⟨rfl, by omega, by omega, Or.inr ty⟩, fun V Q s cl k1 k2 => ?_, fun k V Q hk s cl k1 k2 => ?_⟩
        · refine C V Q s cl (fun _ V1 p1 => ?_) (fun x => absurd rfl x)
          have s1 := p1.st s (by omega)
          exact s_readSign1 s1 (by omega) hm hc (fun V2 p2 => k1 rfl V2 (cPo.t0 s p1 p2))
        · exact R k V Q hk s cl (fun _ V1 p1 => m_need609 hT hk s (by omega) p1 (by omega) (fun _ V' p => k1 rfl V' p) (fun x => absurd hc x)) (fun x => absurd rfl x)
      · refine ⟨1, j, [], Or.inr ⟨Or.inl rfl, by omega, hj.2⟩, fun V Q s cl k1 k2 => ?_, fun k V Q hk s cl k1 k2 => ?_⟩
        · refine C V Q s cl (fun _ V1 p1 => ?_) (fun x => absurd rfl x)
          have s1 := p1.st s (by omega)
          exact s_readSign0 s1 (by omega) hc (fun V2 b2 => k2 (by decide) V2 (cBd.tr s p1 b2))
        · exact R k V Q hk s cl (fun _ V1 p1 => m_need609 hT hk s (by omega) p1 (by omega) (fun x => absurd x hc) (fun _ V' p => k2 (by decide) V' p)) (fun x => absurd rfl x)
    · have hne : r ≠ 0 := by omega
      exact ⟨r, j, [], Or.inr ⟨hr, hj⟩, fun V Q s cl k1 k2 => C V Q s cl (fun x => absurd x hne) (fun _ V' b => k2 hne V' b), fun k V Q hk s cl k1 k2 => R k V Q hk s cl (fun x => absurd x hne) (fun _ V' b => k2 hne V' b)⟩
  · have hw : cdE t (pl i) e ≠ 294 := fun x => hi ((tk_is16 he).mp x)
    have C : ∀ (V : qV) (Q : Int → qV → Prop), cSt kd vl pl m V i 0 → W_X6_readSign 59 V (fun r7 V7 => Q r7 V7) → tlC V Q := fun V Q s k => by
      refine s_isWord s ?_
      rw [decide_eq_false hi]
      exact br_t rfl k
    have R : ∀ (k : Int) (V : qV) (Q : qV → Prop), rSt t n pl V i 0 → (∀ V1, rPo t n pl V V1 0 i [] → (zr ((V1 602 19) + (V1 602 18)) ∧ ((0 ≤ k ∧ k < 36) ∧ W_X11_need 59 (qu V1 609 k ((V1 602 19) + (V1 602 18))) (fun V30 => Q V30)))) → tlM k V Q := fun k V Q s kk => m_wordR hT h0 h1 s he (fun V1 p1 e1 => br_f hw (kk V1 p1))
    by_cases hc : kd i = 4 ∧ vl i = 59
    · have t4 := tk_4 hT h0 h1 hc.1
      exact ⟨0, i + 1, [], Or.inl ⟨rfl, by omega, by simp; omega, Or.inl rfl⟩, fun V Q s cl k1 k2 => C V Q s (s_readSign1 s (by omega) hm hc (fun V2 p2 => k1 rfl V2 p2)), fun k V Q hk s cl k1 k2 => R k V Q s (fun V1 p1 => m_need609 hT hk s ⟨h0, h1⟩ p1 (by have := s.2.2.2.2.2.1.2; simp; omega) (fun _ V' p => k1 rfl V' p) (fun x => absurd hc x))⟩
    · exact ⟨1, i, [], Or.inr ⟨Or.inl rfl, h0, h1⟩, fun V Q s cl k1 k2 => C V Q s (s_readSign0 s (by omega) hc (fun V2 b2 => k2 (by decide) V2 b2)), fun k V Q hk s cl k1 k2 => R k V Q s (fun V1 p1 => m_need609 hT hk s ⟨h0, h1⟩ p1 (by have := s.2.2.2.2.2.1.2; simp; omega) (fun x => absurd x hc) (fun _ V' p => k2 (by decide) V' p))⟩
end
