/-! class and reference read a rule alike -/
section
variable {t : Int → Int} {n : Int} {kd vl pl : Int → Int} {m i rl : Int} {V : qV}
theorem m_ruleT {w c r j ic l k : Int} {L : List (Int × Int)} {W : qV} {X : Prop} {Q : qV → Prop} (hl : 0 ≤ l ∧ l < 3) (hk' : k = 12 * l + rl) (hk : 0 ≤ k ∧ k < 36) (h18 : V 602 18 ≤ ic) (hV : 0 ≤ V 602 18) (hj : r = 0 → (L.length : Int) ≤ j - ic ∧ j ≤ 400)
    (s : rSt t n pl W ic 0) (e19 : W 602 19 = V 602 19) (e18 : W 602 18 = V 602 18) (e11 : W 602 11 = l) (f : mFr (V 602 19 + V 602 18) (V 602 19 + 400) k l V W) (e6 : W 606 k = w) (e7 : W 607 k = c) (e10 : W 610 l = rl + 1)
    (rs : ∀ (k : Int) (V : qV) (Q : qV → Prop), (0 ≤ k ∧ k < 36) → rSt t n pl V ic 0 → V 602 18 ≤ ic → (r = 0 → ∀ V', tPo t n pl k V V' j L → Q V') → (r ≠ 0 → ∀ V', tBd k V V' r (pl j) → Q V') → tlM k V Q)
    (k1 : r = 0 → ∀ V', rRp t n pl V V' l rl j w c L → Q V') (k2 : r ≠ 0 → ∀ V', rRb V V' l rl r (pl j) → Q V') : (zr ((W 602 19) + (W 602 18)) ∧ ((0 ≤ k ∧ k < 36) ∧ W_X11_fine (qu W 608 k ((W 602 19) + (W 602 18))) (fun r21 => ((r21 = 0 → X) ∧ (¬ r21 = 0 → tlM k (qu W 608 k ((W 602 19) + (W 602 18))) Q))))) := by
  have b1 := s.2.2.2.2.2.1
  have b2 := s.2.2.2.2.2.2
  rw [e19] at b2 ⊢
  rw [e18] at b1 ⊢
  have sB : rSt t n pl (qu W 608 k (V 602 19 + V 602 18)) ic 0 := s.q (by decide) (by decide)
  have q602 : ∀ x, (qu W 608 k (V 602 19 + V 602 18)) 602 x = W 602 x := fun x => qu_o _ _ (by decide) _
  have fB : mFr (V 602 19 + V 602 18) (V 602 19 + 400) k l V (qu W 608 k (V 602 19 + V 602 18)) := f.tr (mFr.q (Or.inl (by omega)))
  refine ⟨zr_i (by omega) (by omega), hk, m_fine1 sB.2.1 (br_f (by decide) (rs k _ Q hk sB (by rw [q602, e18]; exact h18) (fun hr V' p => k1 hr V' ?_) (fun hr V' b => k2 hr V' ?_)))⟩
  · have hj' := hj hr
    obtain ⟨p1, p2, p3, p4, p5⟩ := p
    rw [q602, q602, e19, e18] at p4 p5
    rw [q602, e18] at p3
    have g := p1 l
    rw [q602, q602, e19, e18] at g
    have e11' : V' 602 11 = l := by
      have := g.1 602 11 (by omega) (by omega) (by omega) (by omega)
      rw [this, q602]; exact e11
    subst hk'
    refine ⟨fB.tr g.1, ⟨p2, e11', hl, ?_, ?_⟩, ⟨?_, ?_, ?_, p5⟩, p3, p4⟩
    · rw [g.2 610 (by decide) (by decide) (by decide), qu_o _ _ (by decide)]; exact e10
    · rw [p3]; omega
    · rw [g.2 606 (by decide) (by decide) (by decide), qu_o _ _ (by decide)]; exact e6
    · rw [g.2 607 (by decide) (by decide) (by decide), qu_o _ _ (by decide)]; exact e7
    · rw [g.2 608 (by decide) (by decide) (by decide), qu_s]
  · have g := b.1 l
    rw [q602, q602, e19, e18] at g
    subst hk'
    exact ⟨fB.tr g, b.2⟩
/-- a fault in the days -/
theorem m_ruleB {r p l k x : Int} {W : qV} {X : Prop} {Q : qV → Prop} (hk' : k = 12 * l + rl) (hk : 0 ≤ k ∧ k < 36) (hp : 0 ≤ p) (b18 : 0 ≤ W 602 18 ∧ W 602 18 ≤ 400) (b19 : 0 ≤ W 602 19 ∧ W 602 19 ≤ 4200) (f : mFr (V 602 19 + V 602 18) (V 602 19 + 400) k l V W) (h15 : W 602 15 = p) (h16 : W 602 16 = r) (k2 : ∀ V', rRb V V' l rl r p → Q V') :
    ((0 ≤ k ∧ k < 36) ∧ (zr (((qu W 607 k x) 602 19) + ((qu W 607 k x) 602 18)) ∧ ((0 ≤ k ∧ k < 36) ∧ W_X11_fine (qu (qu W 607 k x) 608 k (((qu W 607 k x) 602 19) + ((qu W 607 k x) 602 18))) (fun r44 => ((r44 = 0 → (zr (((qu (qu W 607 k x) 608 k (((qu W 607 k x) 602 19) + ((qu W 607 k x) 602 18))) 602 19) + ((qu (qu W 607 k x) 608 k (((qu W 607 k x) 602 19) + ((qu W 607 k x) 602 18))) 602 18)) ∧ ((0 ≤ k ∧ k < 36) ∧ W_X11_need 59 (qu (qu (qu W 607 k x) 608 k (((qu W 607 k x) 602 19) + ((qu W 607 k x) 602 18))) 609 k (((qu (qu W 607 k x) 608 k (((qu W 607 k x) 602 19) + ((qu W 607 k x) 602 18))) 602 19) + ((qu (qu W 607 k x) 608 k (((qu W 607 k x) 602 19) + ((qu W 607 k x) 602 18))) 602 18))) (fun V48 => Q V48)))) ∧ (¬ r44 = 0 → X)))))) := by
  have q7 : ∀ y, (qu W 607 k x) 602 y = W 602 y := fun y => qu_o _ _ (by decide) _
  simp only [q7]
  have q8 : ∀ y, (qu (qu W 607 k x) 608 k (W 602 19 + W 602 18)) 602 y = W 602 y := fun y => by rw [qu_o _ _ (by decide)]; exact q7 y
  simp only [q8]
  have q9 : ∀ y, (qu (qu (qu W 607 k x) 608 k (W 602 19 + W 602 18)) 609 k (W 602 19 + W 602 18)) 602 y = W 602 y := fun y => by rw [qu_o _ _ (by decide)]; exact q8 y
  have ne : W 602 15 ≠ -1 := by omega
  subst hk'
  refine ⟨hk, zr_i (by omega) (by omega), hk, m_fine0 (by rw [q8]; exact ne) (br_t rfl ⟨zr_i (by omega) (by omega), hk, m_needB (by rw [q9]; exact ne) (k2 _ ⟨((f.tr (mFr.q (Or.inl (by omega)))).tr (mFr.q (Or.inl (by omega)))).tr (mFr.q (Or.inl (by omega))), by rw [q9]; exact h15, by rw [q9]; exact h16⟩)⟩)⟩
theorem o_rule (hT : TK t n kd vl pl m) (hB : ∀ p, 0 ≤ bt t n p ∧ bt t n p < 256) (i : Int) (h0 : 0 ≤ i) (h1 : i ≤ m) (rl : Int) (hrl : 0 ≤ rl ∧ rl ≤ 12) : ∃ r j w c L, ((r = 0 ∧ (i < j ∧ j ≤ m) ∧ (L.length : Int) + 1 ≤ j - i ∧ (0 ≤ w ∧ w ≤ 4) ∧ (0 ≤ c ∧ c ≤ 9999) ∧ (L = [] ∨ tyA L true 15 9) ∧ rl < 12) ∨ ((r = 1 ∨ r = 2 ∨ r = 3) ∧ 0 ≤ j ∧ j ≤ m)) ∧ (∀ (V : qV) (Q : Int → qV → Prop), cRs kd vl pl m V i rl → (r = 0 → ∀ V', cRp kd vl pl m V V' rl j w c L → Q 1 V') → (r ≠ 0 → ∀ V', cRb V V' r (pl j) → Q 0 V') → W_X6_readRule V Q) ∧ (∀ (l : Int) (V : qV) (Q : qV → Prop), rRs t n pl V i l rl → (r = 0 → ∀ V', rRp t n pl V V' l rl j w c L → Q V') → (r ≠ 0 → ∀ V', rRb V V' l rl r (pl j) → Q V') → W_X11_readRule V Q) := by
  have hm : m ≤ 400 := by have := hT.1; have := hT.2.1; omega
  have hp := tk_sp hT h0 h1
  obtain ⟨e, he⟩ := tk_w hT h0 h1
  by_cases hw : kd i = 1 ∧ 0 ≤ vl i ∧ vl i < 5
  · have t1 := he.2.1 hw.1
    have lt := (tk_1 hT h0 h1 hw.1).1
    have wo : whO (cdE t (pl i) e) = vl i := by
      unfold whO
      rw [← t1.2.2.1, if_pos hw.2]
    by_cases h12 : rl = 12
    · refine ⟨3, i, 0, 0, [], Or.inr ⟨Or.inr (Or.inr rfl), h0, h1⟩, fun V Q s k1 k2 => ?_, fun l V Q s k1 k2 => ?_⟩
      · unfold W_X6_readRule
        rw [s.2.1.2.1, s.2.1.2.2.1, s.2.2.2.2.1.1]
        exact br_t hw.1 (br_f (by omega) (br_t (by omega) (br_f (by omega) (w_refuse s (by omega) (fun V' b => k2 (by decide) V' b)))))
      · obtain ⟨s1, s2, s3, s4, s5⟩ := s
        refine m_wordR hT h0 h1 s1 he (fun V1 p1 e1 => m_whoOf (br_f (by rw [wo]; omega) ?_))
        have st1 := p1.st s1 (by simp; exact s1.2.2.2.2.2.1.2)
        have e11 : V1 602 11 = l := by rw [p1.1 _ _ (by omega) (by omega)]; exact s2
        have e610 : V1 610 l = rl := by rw [p1.1 _ _ (by omega) (by omega)]; exact s4
        rw [e11, e610]
        refine ⟨s3, br_t h12 (m_wrongR st1 e1 (fun V2 b2 => ?_))⟩
        have b3 := rBd.tr p1 b2
        exact m_fine0 (b3.ne hp.2.1) (br_t rfl (k2 (by decide) V2 ⟨b3.1.1.m (Int.le_refl _) (Int.le_refl _), b3.2.1, b3.2.2.1⟩))
    · have lt12 : rl < 12 := by omega
      -- class up to the days
      have C : ∀ (V : qV) (Q : Int → qV → Prop), cRs kd vl pl m V i rl → (∀ V3, (∀ o j, ¬ (o = 1 ∧ 7 ≤ j ∧ j ≤ 9) → V3 o j = V o j) → cRs kd vl pl m V3 (i + 1) rl → W_X6_isWord 15 V3 (fun r4 => ((r4 = 0 → W_X3_addRule (V3 1 14) (vl i) 0 V3 (fun V5 => tlC V5 Q)) ∧ (¬ r4 = 0 → W_X6_goOn V3 (fun V11 => W_X6_needNumber V11 (fun r12 V12 => ((r12 = 0 → Q 0 V12) ∧ (¬ r12 = 0 → W_X6_goOn V12 (fun V13 => W_X3_addRule (V13 1 14) (vl i) (V12 1 9) V13 (fun V14 => tlC V14 Q)))))))))) → W_X6_readRule V Q := fun V Q s kk => by
        unfold W_X6_readRule
        rw [s.2.1.2.1, s.2.1.2.2.1, s.2.2.2.2.1.1]
        exact br_t hw.1 (br_f (by omega) (br_t (by omega) (br_t lt12 (w_goOn s ⟨h0, lt⟩ hm (fun V3 f3 s3 => kk V3 f3 s3)))))
      have R : ∀ (l : Int) (V : qV) (Q : qV → Prop), rRs t n pl V i l rl → (∀ VA, rSt t n pl VA (i + 1) 0 → VA 602 19 = V 602 19 → VA 602 18 = V 602 18 → VA 602 11 = l → mFr (V 602 19 + V 602 18) (V 602 19 + 400) (12 * l + rl) l V VA → VA 606 (12 * l + rl) = vl i → VA 607 (12 * l + rl) = 0 → VA 610 l = rl + 1 → W_X11_word VA (fun r17 V17 => ((r17 = 3673 → W_X11_pass V17 (fun V37 => W_X11_readNumber V37 (fun r38 V38 => ((0 ≤ 12 * l + rl ∧ 12 * l + rl < 36) ∧ (zr (((qu V38 607 (12 * l + rl) r38) 602 19) + ((qu V38 607 (12 * l + rl) r38) 602 18)) ∧ ((0 ≤ 12 * l + rl ∧ 12 * l + rl < 36) ∧ W_X11_fine (qu (qu V38 607 (12 * l + rl) r38) 608 (12 * l + rl) (((qu V38 607 (12 * l + rl) r38) 602 19) + ((qu V38 607 (12 * l + rl) r38) 602 18))) (fun r44 => ((r44 = 0 → (zr (((qu (qu V38 607 (12 * l + rl) r38) 608 (12 * l + rl) (((qu V38 607 (12 * l + rl) r38) 602 19) + ((qu V38 607 (12 * l + rl) r38) 602 18))) 602 19) + ((qu (qu V38 607 (12 * l + rl) r38) 608 (12 * l + rl) (((qu V38 607 (12 * l + rl) r38) 602 19) + ((qu V38 607 (12 * l + rl) r38) 602 18))) 602 18)) ∧ ((0 ≤ 12 * l + rl ∧ 12 * l + rl < 36) ∧ W_X11_need 59 (qu (qu (qu V38 607 (12 * l + rl) r38) 608 (12 * l + rl) (((qu V38 607 (12 * l + rl) r38) 602 19) + ((qu V38 607 (12 * l + rl) r38) 602 18))) 609 (12 * l + rl) (((qu (qu V38 607 (12 * l + rl) r38) 608 (12 * l + rl) (((qu V38 607 (12 * l + rl) r38) 602 19) + ((qu V38 607 (12 * l + rl) r38) 602 18))) 602 19) + ((qu (qu V38 607 (12 * l + rl) r38) 608 (12 * l + rl) (((qu V38 607 (12 * l + rl) r38) 602 19) + ((qu V38 607 (12 * l + rl) r38) 602 18))) 602 18))) (fun V48 => Q V48)))) ∧ (¬ r44 = 0 → tlM (12 * l + rl) (qu (qu V38 607 (12 * l + rl) r38) 608 (12 * l + rl) (((qu V38 607 (12 * l + rl) r38) 602 19) + ((qu V38 607 (12 * l + rl) r38) 602 18))) Q))))))))) ∧ (¬ r17 = 3673 → (zr ((V17 602 19) + (V17 602 18)) ∧ ((0 ≤ 12 * l + rl ∧ 12 * l + rl < 36) ∧ W_X11_fine (qu V17 608 (12 * l + rl) ((V17 602 19) + (V17 602 18))) (fun r21 => ((r21 = 0 → (zr (((qu V17 608 (12 * l + rl) ((V17 602 19) + (V17 602 18))) 602 19) + ((qu V17 608 (12 * l + rl) ((V17 602 19) + (V17 602 18))) 602 18)) ∧ ((0 ≤ 12 * l + rl ∧ 12 * l + rl < 36) ∧ W_X11_need 59 (qu (qu V17 608 (12 * l + rl) ((V17 602 19) + (V17 602 18))) 609 (12 * l + rl) (((qu V17 608 (12 * l + rl) ((V17 602 19) + (V17 602 18))) 602 19) + ((qu V17 608 (12 * l + rl) ((V17 602 19) + (V17 602 18))) 602 18))) (fun V25 => Q V25)))) ∧ (¬ r21 = 0 → tlM (12 * l + rl) (qu V17 608 (12 * l + rl) ((V17 602 19) + (V17 602 18))) Q))))))))) → W_X11_readRule V Q := fun l V Q s kk => by
        obtain ⟨s1, s2, s3, s4, s5⟩ := s
        refine m_wordR hT h0 h1 s1 he (fun V1 p1 e1 => m_whoOf (br_f (by rw [wo]; omega) ?_))
        have st1 := p1.st s1 (by simp; exact s1.2.2.2.2.2.1.2)
        have e11 : V1 602 11 = l := by rw [p1.1 _ _ (by omega) (by omega)]; exact s2
        have e610 : V1 610 l = rl := by rw [p1.1 _ _ (by omega) (by omega)]; exact s4
        rw [e11, e610, wo]
        refine ⟨s3, br_f h12 (m_fine1 st1.2.1 (br_f (by decide) (m_passR st1 e1 t1 (fun V5 p5 => ?_))))⟩
        have p15 : rPo t n pl V V5 _ (i + 1) [] := p1.tr s1.2.2.2.2.2.1.1 p5
        have st5 := p15.st s1 (by simp; exact s1.2.2.2.2.2.1.2)
        have f11 : V5 602 11 = l := by rw [p15.1 _ _ (by omega) (by omega)]; exact s2
        have f610 : V5 610 l = rl := by rw [p15.1 _ _ (by omega) (by omega)]; exact s4
        rw [f11, f610]
        refine ⟨zr_i (by omega) (by omega), s3, zr_i (by omega) (by omega), s3, zr_i (by omega) (by omega), s3, by omega, by omega, ?_⟩
        have q602 : ∀ x, (qu (qu (qu V5 610 l (rl + 1)) 606 (12 * l + rl) (vl i)) 607 (12 * l + rl) 0) 602 x = V5 602 x := fun x => by rw [qu_o _ _ (by decide), qu_o _ _ (by decide), qu_o _ _ (by decide)]
        have sA : rSt t n pl (qu (qu (qu V5 610 l (rl + 1)) 606 (12 * l + rl) (vl i)) 607 (12 * l + rl) 0) (i + 1) 0 := st5.fr q602 (fun x => by rw [qu_o _ _ (by decide), qu_o _ _ (by decide), qu_o _ _ (by decide)])
        refine kk _ sA ?_ ?_ ?_ ?_ ?_ ?_ ?_
        · rw [q602]; exact p15.e.1
        · rw [q602, p15.2.2.2.2.2.1]; simp
        · rw [q602]; exact f11
        · exact (((p15.1.m (Int.le_refl _) (Int.le_refl _)).tr (mFr.q (Or.inr (by omega)))).tr (mFr.q (Or.inl (by omega)))).tr (mFr.q (Or.inl (by omega)))
        · rw [qu_o _ _ (by decide), qu_s]
        · rw [qu_s]
        · rw [qu_o _ _ (by decide), qu_o _ _ (by decide), qu_s]
      obtain ⟨e', he'⟩ := tk_w hT (i := i + 1) (by omega) (by omega)
      by_cases hc : kd (i + 1) = 1 ∧ vl (i + 1) = 15
      · have t1' := he'.2.1 hc.1
        have lt' := (tk_1 hT (i := i + 1) (by omega) (by omega) hc.1).1
        have hw' := (tk_is15 he').mpr hc
        have hp2 := tk_sp hT (i := i + 1 + 1) (by omega) (by omega)
        have C2 : ∀ (V : qV) (Q : Int → qV → Prop), cRs kd vl pl m V i rl → (∀ V11, (∀ o j, ¬ (o = 1 ∧ 7 ≤ j ∧ j ≤ 9) → V11 o j = V o j) → cRs kd vl pl m V11 (i + 1 + 1) rl → W_X6_needNumber V11 (fun r12 V12 => ((r12 = 0 → Q 0 V12) ∧ (¬ r12 = 0 → W_X6_goOn V12 (fun V13 => W_X3_addRule (V13 1 14) (vl i) (V12 1 9) V13 (fun V14 => tlC V14 Q)))))) → W_X6_readRule V Q := fun V Q s kk => by
          refine C V Q s (fun V3 f3 s3 => w_isWord s3 ?_)
          rw [decide_eq_true hc]
          exact br_f (by decide) (w_goOn s3 ⟨by omega, lt'⟩ hm (fun V4 f4 s4 => kk V4 (fun o j x => by rw [f4 o j x]; exact f3 o j x) s4))
        have R2 : ∀ (l : Int) (V : qV) (Q : qV → Prop), rRs t n pl V i l rl → (∀ W X, rSt t n pl W (i + 1 + 1) 0 → W 602 19 = V 602 19 → W 602 18 = V 602 18 → W 602 11 = l → mFr (V 602 19 + V 602 18) (V 602 19 + 400) (12 * l + rl) l V W → W 606 (12 * l + rl) = vl i → W 610 l = rl + 1 → W_X11_readNumber W (fun r38 V38 => ((0 ≤ 12 * l + rl ∧ 12 * l + rl < 36) ∧ (zr (((qu V38 607 (12 * l + rl) r38) 602 19) + ((qu V38 607 (12 * l + rl) r38) 602 18)) ∧ ((0 ≤ 12 * l + rl ∧ 12 * l + rl < 36) ∧ W_X11_fine (qu (qu V38 607 (12 * l + rl) r38) 608 (12 * l + rl) (((qu V38 607 (12 * l + rl) r38) 602 19) + ((qu V38 607 (12 * l + rl) r38) 602 18))) (fun r44 => ((r44 = 0 → (zr (((qu (qu V38 607 (12 * l + rl) r38) 608 (12 * l + rl) (((qu V38 607 (12 * l + rl) r38) 602 19) + ((qu V38 607 (12 * l + rl) r38) 602 18))) 602 19) + ((qu (qu V38 607 (12 * l + rl) r38) 608 (12 * l + rl) (((qu V38 607 (12 * l + rl) r38) 602 19) + ((qu V38 607 (12 * l + rl) r38) 602 18))) 602 18)) ∧ ((0 ≤ 12 * l + rl ∧ 12 * l + rl < 36) ∧ W_X11_need 59 (qu (qu (qu V38 607 (12 * l + rl) r38) 608 (12 * l + rl) (((qu V38 607 (12 * l + rl) r38) 602 19) + ((qu V38 607 (12 * l + rl) r38) 602 18))) 609 (12 * l + rl) (((qu (qu V38 607 (12 * l + rl) r38) 608 (12 * l + rl) (((qu V38 607 (12 * l + rl) r38) 602 19) + ((qu V38 607 (12 * l + rl) r38) 602 18))) 602 19) + ((qu (qu V38 607 (12 * l + rl) r38) 608 (12 * l + rl) (((qu V38 607 (12 * l + rl) r38) 602 19) + ((qu V38 607 (12 * l + rl) r38) 602 18))) 602 18))) (fun V48 => Q V48)))) ∧ (¬ r44 = 0 → tlM (12 * l + rl) (qu (qu V38 607 (12 * l + rl) r38) 608 (12 * l + rl) (((qu V38 607 (12 * l + rl) r38) 602 19) + ((qu V38 607 (12 * l + rl) r38) 602 18))) Q))))))) ∨ X) → W_X11_readRule V Q := fun l V Q s kk => by
          refine R l V Q s (fun VA a1 a2 a3 a4 a5 a6 a7 a8 => ?_)
          refine m_wordR hT (by omega) (by omega) a1 he' (fun V17 p17 e17 => br_t hw' ?_)
          have s17 := p17.st a1 (by simp; exact a1.2.2.2.2.2.1.2)
          refine m_passR s17 e17 t1' (fun V37 p37 => ?_)
          have pp : rPo t n pl VA V37 _ (i + 1 + 1) [] := p17.tr a1.2.2.2.2.2.1.1 p37
          have s37 := pp.st a1 (by simp; exact a1.2.2.2.2.2.1.2)
          have g11 : V37 602 11 = VA 602 11 := pp.1 _ _ (by omega) (by omega)
          have g606 : V37 606 (12 * l + rl) = VA 606 (12 * l + rl) := pp.1 _ _ (by omega) (by omega)
          have g610 : V37 610 l = VA 610 l := pp.1 _ _ (by omega) (by omega)
          exact (kk V37 False s37 (by rw [pp.e.1]; exact a2) (by rw [pp.2.2.2.2.2.1]; simp; exact a3) (by rw [g11]; exact a4) (a5.tr (pp.1.m (by rw [a2, a3]; exact Int.le_refl _) (by rw [a2]; exact Int.le_refl _))) (by rw [g606]; exact a6) (by rw [g610]; exact a8)).resolve_right id
        by_cases h2 : kd (i + 1 + 1) = 2
        · have t2 := tk_2 hT (i := i + 1 + 1) (by omega) (by omega) h2
          obtain ⟨e2, te⟩ := t2.2.2
          have lt2 := t2.1
          have nb := nvR_b (t := t) (p := pl (i + 1 + 1)) (e2 - pl (i + 1 + 1)).toNat (fun j a b => by
            have := dgB_t.mp (te.1.2.1 j a (by omega))
            rw [bt_i (by have := te.2.1; omega)] at this; exact this)
          have hv := te.2.2.1
          by_cases hv9 : vl (i + 1 + 1) ≤ 9999
          · obtain ⟨r, j, L, out, cs, rs⟩ := o_tail hT hB (i + 1 + 1 + 1) (by omega) (by omega)
            have hlj : r = 0 → (L.length : Int) ≤ j - (i + 1 + 1 + 1) ∧ j ≤ m := fun hr => by
              rcases out with ⟨_, a, b, _⟩ | ⟨a, _⟩
              · exact ⟨b, a.2⟩
              · omega
            refine ⟨r, j, vl i, vl (i + 1 + 1), L, ?_, fun V Q s k1 k2 => ?_, fun l V Q s k1 k2 => ?_⟩
            · rcases out with ⟨a, b, c, d⟩ | a
              · exact Or.inl ⟨a, by omega, by omega, by omega, by omega, d, lt12⟩
              · exact Or.inr a
            · refine C2 V Q s (fun V11 f11 s11 => ?_)
              unfold W_X6_needNumber
              rw [s11.2.1.2.1, s11.2.1.2.2.1]
              refine br_t h2 (br_t hv9 (br_f (by decide) (w_goOn s11 ⟨by omega, lt2⟩ hm (fun V13 f13 s13 => ?_))))
              rw [s11.2.1.2.2.1]
              exact s_ruleT hm s (fun o k x => by rw [f13 o k x]; exact f11 o k x) s13 lt12 (by omega) hlj cs k1 k2
            · refine R2 l V Q s (fun W X a1 a2 a3 a4 a5 a6 a8 => Or.inl ?_)
              refine m_readNumber a1.1 a1.2.1 a1.2.2.1 a1.2.2.2.1 t2.2.1 te.1 (fun _ => ?_) (fun x => by omega)
              rw [show nvR t (pl (i + 1 + 1)) (e2 - pl (i + 1 + 1)).toNat = vl (i + 1 + 1) by omega]
              have p2 : rPo t n pl W (qu W 602 14 e2) _ (i + 1 + 1 + 1) [] := rPo.mv (o' := 0) a1 (by have := te.2.1; omega) te.2.2.2
              have s2 := p2.st a1 (by simp; exact a1.2.2.2.2.2.1.2)
              have e19 : (qu W 602 14 e2) 602 19 = W 602 19 := qu_e (by decide)
              have e18 : (qu W 602 14 e2) 602 18 = W 602 18 := qu_e (by decide)
              have hl3 := s.2.2.1
              have h18 := s.2.2.2.2
              have hV := s.1.2.2.2.2.2.1.1
              refine ⟨by omega, m_ruleT (rl := rl) (c := vl (i + 1 + 1)) (w := vl i) hl3 rfl (by omega) (by omega) hV (fun hr => by have := hlj hr; omega) (s2.q (by decide) (by decide)) ?_ ?_ ?_ ?_ ?_ (qu_s _ _ _ _) ?_ rs k1 k2⟩
              · rw [qu_o _ _ (by decide), e19]; exact a2
              · rw [qu_o _ _ (by decide), e18]; exact a3
              · rw [qu_o _ _ (by decide), qu_e (by decide)]; exact a4
              · exact (a5.tr (p2.1.m (by rw [a2, a3]; exact Int.le_refl _) (by rw [a2]; exact Int.le_refl _))).tr (mFr.q (Or.inl (by omega)))
              · rw [qu_o _ _ (by decide), qu_o _ _ (by decide)]; exact a6
              · rw [qu_o _ _ (by decide), qu_o _ _ (by decide)]; exact a8
          · refine ⟨2, i + 1 + 1, 0, 0, [], Or.inr ⟨Or.inr (Or.inl rfl), by omega, by omega⟩, fun V Q s k1 k2 => ?_, fun l V Q s k1 k2 => ?_⟩
            · refine C2 V Q s (fun V11 f11 s11 => ?_)
              unfold W_X6_needNumber
              rw [s11.2.1.2.1, s11.2.1.2.2.1]
              exact br_t h2 (br_f hv9 (w_refuse s11 (by omega) (fun V' b => br_t rfl (br_t rfl (k2 (by decide) V' (cRb.fr s f11 b))))))
            · refine R2 l V Q s (fun W X a1 a2 a3 a4 a5 a6 a8 => Or.inl ?_)
              have hl3 := s.2.2.1
              have p2 : rFr W (qu (qu (qu W 602 14 e2) 602 15 (pl (i + 1 + 1))) 602 16 2) := fun a j x _ => by rw [qu_e (by omega), qu_e (by omega), qu_e (by omega)]
              refine m_readNumber a1.1 a1.2.1 a1.2.2.1 a1.2.2.2.1 t2.2.1 te.1 (fun x => by omega) (fun x v _ => m_ruleB (V := V) (r := 2) (p := pl (i + 1 + 1)) rfl (by omega) hp2.2.1 ?_ ?_ (a5.tr (p2.m (by rw [a2, a3]; exact Int.le_refl _) (by rw [a2]; exact Int.le_refl _))) (by rw [qu_e (by decide), qu_s]) (qu_s _ _ _ _) (fun V' b => k2 (by decide) V' b))
              · rw [qu_e (by decide), qu_e (by decide), qu_e (by decide)]; exact a1.2.2.2.2.2.1
              · rw [qu_e (by decide), qu_e (by decide), qu_e (by decide)]; exact a1.2.2.2.2.2.2
        · refine ⟨1, i + 1 + 1, 0, 0, [], Or.inr ⟨Or.inl rfl, by omega, by omega⟩, fun V Q s k1 k2 => ?_, fun l V Q s k1 k2 => ?_⟩
          · refine C2 V Q s (fun V11 f11 s11 => ?_)
            unfold W_X6_needNumber
            rw [s11.2.1.2.1]
            exact br_f h2 (w_refuse s11 (by omega) (fun V' b => br_t rfl (k2 (by decide) V' (cRb.fr s f11 b))))
          · refine R2 l V Q s (fun W X a1 a2 a3 a4 a5 a6 a8 => Or.inl ?_)
            have hl3 := s.2.2.1
            have hd : dgB (bt t n (pl (i + 1 + 1))) = false := by
              cases x : dgB (bt t n (pl (i + 1 + 1))) with
              | false => rfl
              | true => exact absurd ((tk_dg hT (i := i + 1 + 1) (by omega) (by omega)).mp x) h2
            have p2 : rFr W (qu (qu (qu W 602 14 (pl (i + 1 + 1))) 602 15 (pl (i + 1 + 1))) 602 16 1) := fun a j x _ => by rw [qu_e (by omega), qu_e (by omega), qu_e (by omega)]
            refine m_readNo a1.1 a1.2.1 a1.2.2.1 a1.2.2.2.1 hd (m_ruleB (V := V) (r := 1) (p := pl (i + 1 + 1)) rfl (by omega) hp2.2.1 ?_ ?_ (a5.tr (p2.m (by rw [a2, a3]; exact Int.le_refl _) (by rw [a2]; exact Int.le_refl _))) (by rw [qu_e (by decide), qu_s]) (qu_s _ _ _ _) (fun V' b => k2 (by decide) V' b))
            · rw [qu_e (by decide), qu_e (by decide), qu_e (by decide)]; exact a1.2.2.2.2.2.1
            · rw [qu_e (by decide), qu_e (by decide), qu_e (by decide)]; exact a1.2.2.2.2.2.2
      · obtain ⟨r, j, L, out, cs, rs⟩ := o_tail hT hB (i + 1) (by omega) (by omega)
        have hlj : r = 0 → (L.length : Int) ≤ j - (i + 1) ∧ j ≤ m := fun hr => by
          rcases out with ⟨_, a, b, _⟩ | ⟨a, _⟩
          · exact ⟨b, a.2⟩
          · omega
        have hw' : cdE t (pl (i + 1)) e' ≠ 3673 := fun x => hc ((tk_is15 he').mp x)
        refine ⟨r, j, vl i, 0, L, ?_, fun V Q s k1 k2 => ?_, fun l V Q s k1 k2 => ?_⟩
        · rcases out with ⟨a, b, c, d⟩ | a
          · exact Or.inl ⟨a, by omega, by omega, by omega, by omega, d, lt12⟩
          · exact Or.inr a
        · refine C V Q s (fun V3 f3 s3 => w_isWord s3 ?_)
          rw [decide_eq_false hc]
          exact br_t rfl (s_ruleT hm s f3 s3 lt12 (by omega) hlj cs k1 k2)
        · refine R l V Q s (fun VA a1 a2 a3 a4 a5 a6 a7 a8 => ?_)
          refine m_wordR hT (by omega) (by omega) a1 he' (fun V17 p17 e17 => br_f hw' ?_)
          have s17 := p17.st a1 (by simp; exact a1.2.2.2.2.2.1.2)
          have hl3 := s.2.2.1
          have h18 := s.2.2.2.2
          have hV := s.1.2.2.2.2.2.1.1
          have g : ∀ o x, o ≠ 602 → o ≠ 604 → o ≠ 605 → V17 o x = VA o x := fun o x y z u => p17.1 o x (by omega) (by omega)
          exact m_ruleT (rl := rl) (c := 0) (w := vl i) hl3 rfl (by omega) (by omega) hV (fun hr => by have := hlj hr; omega) s17 (by rw [p17.e.1]; exact a2) (by rw [p17.2.2.2.2.2.1]; simp; exact a3) (by rw [p17.1 _ _ (by omega) (by omega)]; exact a4) (a5.tr (p17.1.m (by rw [a2, a3]; exact Int.le_refl _) (by rw [a2]; exact Int.le_refl _))) (by rw [g _ _ (by decide) (by decide) (by decide)]; exact a6) (by rw [g _ _ (by decide) (by decide) (by decide)]; exact a7) (by rw [g _ _ (by decide) (by decide) (by decide)]; exact a8) rs k1 k2
  · have wo : whO (cdE t (pl i) e) = -1 := by
      by_cases x : kd i = 1
      · unfold whO
        rw [← (he.2.1 x).2.2.1]
        exact if_neg (fun y => hw ⟨x, y⟩)
      · by_cases y : kd i = 3
        · rw [(he.2.2.1 y).2]; rfl
        · rw [he.2.2.2 x y]; rfl
    refine ⟨1, i, 0, 0, [], Or.inr ⟨Or.inl rfl, h0, h1⟩, fun V Q s k1 k2 => ?_, fun l V Q s k1 k2 => ?_⟩
    · unfold W_X6_readRule
      rw [s.2.1.2.1, s.2.1.2.2.1]
      have rf : W_X6_refuse 1 V (fun r1 V1 => Q r1 V1) := w_refuse s (by omega) (fun V' b => k2 (by decide) V' b)
      exact br_c (fun x => br_c (fun y => rf) (fun y => br_f (fun z => hw ⟨x, by omega, z⟩) rf)) (fun x => rf)
    · obtain ⟨s1, s2, s3, s4, s5⟩ := s
      refine m_wordR hT h0 h1 s1 he (fun V1 p1 e1 => m_whoOf (br_t wo ?_))
      have st1 := p1.st s1 (by simp; exact s1.2.2.2.2.2.1.2)
      refine m_wrongR st1 e1 (fun V2 b2 => ?_)
      have b3 := rBd.tr p1 b2
      exact m_fine0 (b3.ne hp.2.1) (br_t rfl (k2 (by decide) V2 ⟨b3.1.1.m (Int.le_refl _) (Int.le_refl _), b3.2.1, b3.2.2.1⟩))
end
