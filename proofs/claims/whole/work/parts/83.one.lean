/-! one condition -/
section
variable {t : Int → Int} {n : Int} {kd vl pl : Int → Int} {m i o : Int} {V : qV}
/-- the word 'not' has three letters, 'u' one -/
theorem cd_len {p e : Int} (w : List Int) (hw : w.all (fun c => decide (97 ≤ c ∧ c ≤ 122)) = true) (hl : w.length ≤ 6) (h0 : cdL w ≠ 0) (hp : p ≤ e) (ht : ∀ j, p ≤ j → j < e → 97 ≤ t j ∧ t j ≤ 122) (h : cdE t p e = cdL w) : e = p + w.length ∧ stL t p w := by
  have hw' : ∀ c, c ∈ w → 97 ≤ c ∧ c ≤ 122 := fun c hc => of_decide_eq_true (List.all_eq_true.mp hw c hc)
  unfold cdE at h
  by_cases h6 : e - p ≤ 6
  · rw [if_pos h6, cd_inj w (e - p).toNat (by omega) hl hw' (fun j a b => ht j a (by omega))] at h
    exact ⟨by omega, h.2⟩
  · rw [if_neg h6] at h; exact absurd h.symm h0
theorem tk_lts {e : Int} (hT : TK t n kd vl pl m) (h0 : 0 ≤ i) (h1 : i ≤ m) (he : rnE ltB t n (pl i) e) : ∀ j, pl i ≤ j → j < e → 97 ≤ t j ∧ t j ≤ 122 := fun j a b => by
  have hp := tk_sp hT h0 h1
  have en := rnE_n (by decide) hp.2.1 hp.2.2 he
  have := ltB_t.mp (he.2.1 j a b)
  rw [bt_i (by omega)] at this; exact this
theorem s_termNo (s : cSt kd vl pl m V i o) (hi : 0 ≤ i ∧ i ≤ 400) (hk : kd i = 1) (hv : vl i = -1) {Q : Int → qV → Prop} (k : ∀ V', cBd V V' 1 (pl i) → Q 0 V') (f : Nat) : G_rs (f + 2) 0 V Q := by
  rw [G_rs, if_pos rfl]
  show B_X6_readSum _ _ _
  unfold B_X6_readSum
  rw [G_rs, if_neg (by decide), if_pos rfl]
  refine s_isSign s ?_
  rw [decide_eq_false (by omega)]
  refine br_t rfl ?_
  rw [s.2.1.2.1, s.2.1.2.2.1]
  refine ⟨zr_i (by omega) (by omega), br_t hk (br_t (by omega) (s_needNumber0 s hi (by omega) (fun V' b => br_t rfl (br_t rfl (k V' b)))))⟩
/-- what the class does where nothing but a comparison may stand -/
theorem s_basicC {F : Nat} {Q : Int → qV → Prop} (s : cSt kd vl pl m V i o) (hn : ¬ (kd i = 1 ∧ vl i = 19)) (hb : ¬ (kd i = 4 ∧ vl i = 91)) (h3 : kd i ≠ 3) (k : W_X6_readComparison V Q) : G_ro (F + 1) 2 V Q := by
  rw [G_ro, if_neg (by decide), if_neg (by decide), if_pos rfl]
  refine s_isWord s ?_
  rw [decide_eq_false hn]
  refine br_t rfl (s_isSign s ?_)
  rw [decide_eq_false hb]
  exact br_t rfl (br_f (by rw [s.2.1.2.1]; exact h3) k)
theorem m_sumB' {Q : qV → Prop} (hf : V 602 15 ≠ -1) (k : Q V) : W_X11_sum V Q := (m_sumB hf k 59).2
theorem o_cmp (hT : TK t n kd vl pl m) (hB : ∀ p, 0 ≤ bt t n p ∧ bt t n p < 256) (d : Nat) (hd : d ≤ 6) (i : Int) (h0 : 0 ≤ i) (h1 : i ≤ m) (hn : ¬ (kd i = 1 ∧ vl i = 19)) (hb : ¬ (kd i = 4 ∧ vl i = 91)) (h3 : kd i ≠ 3) (hu : ∀ e, tkC t n kd vl pl i e → cdE t (pl i) e ≠ 21) : oOne t n kd vl pl m d i := by
  have hm : m ≤ 400 := by have := hT.1; have := hT.2.1; omega
  obtain ⟨e, he⟩ := tk_w hT h0 h1
  have hns : bt t n (pl i) ≠ 91 := fun x => hb ((tk_sg hT h0 h1 (by decide)).mp x)
  have hw1 : cdE t (pl i) e ≠ 14836 := fun x => hn ((tk_is19 he).mp x)
  have hw2 := hu e he
  obtain ⟨r, j, L, out, cs, rs⟩ := o_sum hT hB d hd i h0 h1
  have jp : 0 ≤ pl j := by
    rcases out with ⟨_, a, b, _⟩ | ⟨_, a⟩
    · exact (tk_sp hT (by omega) a.2).2.1
    · exact (tk_sp hT a.1 a.2).2.1
  -- the reference up to its first sum
  have R0 : ∀ (F : Nat), 3 * d + 4 ≤ F → ∀ (V : qV) (Q : qV → Prop), rSt t n pl V i (6 - (d : Int)) → (∀ V4, rPo t n pl V V4 (6 - (d : Int)) i [] → W_X11_sum V4 (fun V5 => W_X11_fine V5 (fun r6 => ((r6 = 0 → W_X11_wrong 1 (V5 602 14) V5 (fun V7 => W_X11_fine V7 (fun r8 => ((r8 = 0 → W_X11_sum V7 (fun V9 => W_X11_emit 7 0 V9 (fun V10 => Q V10))) ∧ (¬ r8 = 0 → (zr ((V7 602 14) + 1) ∧ W_X11_sum (qu V7 602 14 ((V7 602 14) + 1)) (fun V13 => W_X11_emit 7 0 V13 (fun V14 => Q V14)))))))) ∧ (¬ r6 = 0 → W_X11_here V5 (fun r15 V15 => ((r15 = 60 → W_X11_fine V15 (fun r16 => ((r16 = 0 → W_X11_sum V15 (fun V17 => ((r15 = 60 → W_X11_emit 5 0 V17 (fun V20 => Q V20)) ∧ (¬ r15 = 60 → ((r15 = 62 → W_X11_emit 6 0 V17 (fun V19 => Q V19)) ∧ (¬ r15 = 62 → W_X11_emit 7 0 V17 (fun V18 => Q V18))))))) ∧ (¬ r16 = 0 → (zr ((V15 602 14) + 1) ∧ W_X11_sum (qu V15 602 14 ((V15 602 14) + 1)) (fun V23 => ((r15 = 60 → W_X11_emit 5 0 V23 (fun V26 => Q V26)) ∧ (¬ r15 = 60 → ((r15 = 62 → W_X11_emit 6 0 V23 (fun V25 => Q V25)) ∧ (¬ r15 = 62 → W_X11_emit 7 0 V23 (fun V24 => Q V24))))))))))) ∧ (¬ r15 = 60 → ((r15 = 62 → W_X11_fine V15 (fun r27 => ((r27 = 0 → W_X11_sum V15 (fun V28 => ((r15 = 60 → W_X11_emit 5 0 V28 (fun V31 => Q V31)) ∧ (¬ r15 = 60 → ((r15 = 62 → W_X11_emit 6 0 V28 (fun V30 => Q V30)) ∧ (¬ r15 = 62 → W_X11_emit 7 0 V28 (fun V29 => Q V29))))))) ∧ (¬ r27 = 0 → (zr ((V15 602 14) + 1) ∧ W_X11_sum (qu V15 602 14 ((V15 602 14) + 1)) (fun V34 => ((r15 = 60 → W_X11_emit 5 0 V34 (fun V37 => Q V37)) ∧ (¬ r15 = 60 → ((r15 = 62 → W_X11_emit 6 0 V34 (fun V36 => Q V36)) ∧ (¬ r15 = 62 → W_X11_emit 7 0 V34 (fun V35 => Q V35))))))))))) ∧ (¬ r15 = 62 → ((r15 = 61 → W_X11_fine V15 (fun r38 => ((r38 = 0 → W_X11_sum V15 (fun V39 => ((r15 = 60 → W_X11_emit 5 0 V39 (fun V42 => Q V42)) ∧ (¬ r15 = 60 → ((r15 = 62 → W_X11_emit 6 0 V39 (fun V41 => Q V41)) ∧ (¬ r15 = 62 → W_X11_emit 7 0 V39 (fun V40 => Q V40))))))) ∧ (¬ r38 = 0 → (zr ((V15 602 14) + 1) ∧ W_X11_sum (qu V15 602 14 ((V15 602 14) + 1)) (fun V45 => ((r15 = 60 → W_X11_emit 5 0 V45 (fun V48 => Q V48)) ∧ (¬ r15 = 60 → ((r15 = 62 → W_X11_emit 6 0 V45 (fun V47 => Q V47)) ∧ (¬ r15 = 62 → W_X11_emit 7 0 V45 (fun V46 => Q V46))))))))))) ∧ (¬ r15 = 61 → W_X11_wrong 1 (V15 602 14) V15 (fun V49 => W_X11_fine V49 (fun r50 => ((r50 = 0 → W_X11_sum V49 (fun V51 => ((r15 = 60 → W_X11_emit 5 0 V51 (fun V54 => Q V54)) ∧ (¬ r15 = 60 → ((r15 = 62 → W_X11_emit 6 0 V51 (fun V53 => Q V53)) ∧ (¬ r15 = 62 → W_X11_emit 7 0 V51 (fun V52 => Q V52))))))) ∧ (¬ r50 = 0 → (zr ((V49 602 14) + 1) ∧ W_X11_sum (qu V49 602 14 ((V49 602 14) + 1)) (fun V57 => ((r15 = 60 → W_X11_emit 5 0 V57 (fun V60 => Q V60)) ∧ (¬ r15 = 60 → ((r15 = 62 → W_X11_emit 6 0 V57 (fun V59 => Q V59)) ∧ (¬ r15 = 62 → W_X11_emit 7 0 V57 (fun V58 => Q V58))))))))))))))))))))))) → G_mo F 2 V Q := fun F hF V Q s kk => by
    obtain ⟨f, rfl⟩ : ∃ f, F = f + 1 := ⟨F - 1, by omega⟩
    rw [G_mo, if_neg (by decide), if_neg (by decide)]
    refine m_fine1 s.2.1 (br_f (by decide) (m_hereR hT h0 h1 s (fun V1 p1 e1 => br_f hns ?_)))
    have s1 := p1.st s (by simp; exact s.2.2.2.2.2.1.2)
    refine m_wordR hT h0 h1 s1 he (fun V2 p2 e2 => br_f hw1 ?_)
    have p12 : rPo t n pl V V2 _ i [] := p1.tr s.2.2.2.2.2.1.1 p2
    have s2 := p12.st s (by simp; exact s.2.2.2.2.2.1.2)
    refine m_wordR hT h0 h1 s2 he (fun V3 p3 e3 => br_f hw2 ?_)
    exact kk V3 (p12.tr s.2.2.2.2.2.1.1 p3)
  rcases out with ⟨hr, hj, hl, ty⟩ | ⟨hr, hj⟩
  · subst hr
    have hjs := tk_sp hT (i := j) (by omega) hj.2
    by_cases hs : kd j = 4 ∧ (vl j = 60 ∨ vl j = 62 ∨ vl j = 61)
    · have t4 := tk_4 hT (by omega) hj.2 hs.1
      have lt := t4.1
      obtain ⟨w, hw⟩ : ∃ w : Int, (vl j = 60 ∧ w = 5) ∨ (vl j = 62 ∧ w = 6) ∨ (vl j = 61 ∧ w = 7) := by
        rcases hs.2 with x | x | x
        · exact ⟨5, Or.inl ⟨x, rfl⟩⟩
        · exact ⟨6, Or.inr (Or.inl ⟨x, rfl⟩)⟩
        · exact ⟨7, Or.inr (Or.inr ⟨x, rfl⟩)⟩
      obtain ⟨r2, j2, L2, out2, cs2, rs2⟩ := o_sum hT hB d hd (j + 1) (by omega) (by omega)
      have jp2 : 0 ≤ pl j2 := by
        rcases out2 with ⟨_, a, b, _⟩ | ⟨_, a⟩
        · exact (tk_sp hT (by omega) a.2).2.1
        · exact (tk_sp hT a.1 a.2).2.1
      have hlj : r2 = 0 → (L2.length : Int) ≤ j2 - (j + 1) ∧ j2 ≤ m := fun hr => by
        rcases out2 with ⟨_, a, b, _⟩ | ⟨a, _⟩
        · exact ⟨b, a.2⟩
        · omega
      have el : ((L ++ L2).length : Int) = L.length + L2.length := by simp
      refine ⟨r2, j2, L ++ L2 ++ [(w, 0)], ?_, fun F hF V Q s cl k1 k2 => ?_, fun F hF V Q s cl k1 k2 => ?_⟩
      · rcases out2 with ⟨a1, a2, a3, a4⟩ | a
        · refine Or.inl ⟨a1, by omega, ?_, fun tt h1 h2 => ?_⟩
          · have : ((L ++ L2 ++ [(w, 0)]).length : Int) = L.length + L2.length + 1 := by simp; omega
            omega
          · rw [wrun_ap, wrun_ap, ty tt (by omega) (by omega)]
            show ((wrun L2 (false :: tt)).bind (wrun [(w, 0)])) = _
            rw [a4 (false :: tt) (by rw [cF.2]; omega) (by rw [cF.1]; omega)]
            exact ty_cmp (by omega) (by omega) (by omega)
        · exact Or.inr a
      · obtain ⟨f, rfl⟩ : ∃ f, F = f + 1 := ⟨F - 1, by omega⟩
        refine s_basicC s hn hb h3 ?_
        unfold W_X6_readComparison
        refine cs 61 (by omega) V _ s cl (fun _ V1 p1 => br_f (by decide) ?_) (fun x => absurd rfl x)
        have s1 := p1.st s (by omega)
        have go : ∀ op : Int, op * 16384 + 0 = enc (w, 0) → (0 ≤ op ∧ op ≤ 10) → W_X6_goOn V1 (fun V5 => W_X6_readSum V5 (fun r6 V6 => ((r6 = 0 → Q 0 V6) ∧ (¬ r6 = 0 → W_X3_addCode (V6 1 14) op 0 V6 (fun V7 => Q 1 V7))))) := fun op he ho => by
          refine s_goOn s1 ⟨by omega, lt⟩ hm (fun V2 p2 => ?_)
          have p12 : cPo kd vl V V2 _ (j + 1) L := cPo.t0 s p1 p2
          have s2 := p12.st s (by omega)
          refine cs2 61 (by omega) V2 _ s2 (by rw [p12.cl s]; omega) (fun hr V3 p3 => br_f (by decide) ?_) (fun hr V3 b3 => br_t rfl (k2 hr V3 (cBd.tr s p12 b3)))
          have p13 : cPo kd vl V V3 _ j2 (L ++ L2) := p12.tr s p3
          have := hlj hr
          have s3 := p13.st s (by rw [el]; omega)
          exact s_addCode (c := (w, 0)) s3 (by rw [p13.cl s, el]; omega) ho (by decide) he (by show w ≠ 1; omega) (fun V4 p4 => k1 hr V4 (p13.tr s p4))
        refine s_isSign s1 ?_
        rcases hw with ⟨x, rfl⟩ | ⟨x, rfl⟩ | ⟨x, rfl⟩
        · rw [decide_eq_true ⟨hs.1, x⟩]
          exact br_f (by decide) (go 8 rfl (by decide))
        · rw [decide_eq_false (by omega)]
          refine br_t rfl (s_isSign s1 ?_)
          rw [decide_eq_true ⟨hs.1, x⟩]
          exact br_f (by decide) (go 9 rfl (by decide))
        · rw [decide_eq_false (by omega)]
          refine br_t rfl (s_isSign s1 ?_)
          rw [decide_eq_false (by omega)]
          refine br_t rfl (s_isSign s1 ?_)
          rw [decide_eq_true ⟨hs.1, x⟩]
          exact br_f (by decide) (go 10 rfl (by decide))
      · refine R0 F hF V Q s (fun V4 p4 => ?_)
        have s4 := p4.st s (by simp; exact s.2.2.2.2.2.1.2)
        refine rs 61 (by omega) V4 _ s4 (by rw [p4.2.2.2.2.2.1]; simp; omega) (fun _ V5 p5 => ?_) (fun x => absurd rfl x)
        have p45 : rPo t n pl V V5 _ j L := p4.tr s.2.2.2.2.2.1.1 p5
        have s5 := p45.st s (by omega)
        refine m_fine1 s5.2.1 (br_f (by decide) (m_hereR hT (by omega) hj.2 s5 (fun V6 p6 e6 => ?_)))
        have p46 : rPo t n pl V V6 _ j L := rPo.t0 s.2.2.2.2.2.1.1 p45 p6
        have s6 := p46.st s (by omega)
        have mv : rPo t n pl V (qu V6 602 14 (V6 602 14 + 1)) (6 - (d : Int)) (j + 1) L := by
          rw [e6]
          exact rPo.t0 s.2.2.2.2.2.1.1 p46 (rPo.mv (o' := 0) s6 (by have := t4.2.2.2.2.2; omega) t4.2.2.2.2.1)
        have zz : zr (V6 602 14 + 1) := by rw [e6]; exact zr_i (by omega) (by have := hT.1; omega)
        have s7 := mv.st s (by omega)
        have fin : ∀ (K : qV → Prop), (∀ V7, V7 602 15 = -1 → W_X11_emit w 0 V7 (fun V8 => Q V8) → K V7) → (∀ V7, V7 602 15 ≠ -1 → Q V7 → K V7) → W_X11_sum (qu V6 602 14 (V6 602 14 + 1)) K := fun K kk kb => by
          refine rs2 61 (by omega) _ K s7 (by rw [mv.2.2.2.2.2.1]; omega) (fun hr V8 p8 => ?_) (fun hr V8 b8 => ?_)
          · have p9 : rPo t n pl V V8 _ j2 (L ++ L2) := mv.tr s.2.2.2.2.2.1.1 p8
            have := hlj hr
            have s9 := p9.st s (by rw [el]; omega)
            exact kk V8 s9.2.1 (m_emitR s9 (by rw [p9.2.2.2.2.2.1, el]; omega) (fun V10 p10 => k1 hr V10 (p9.tr s.2.2.2.2.2.1.1 p10)))
          · have b9 := rBd.tr mv b8
            exact kb V8 (b9.ne jp2) (k2 hr V8 b9)
        rw [t4.2.1]
        rcases hw with ⟨x, rfl⟩ | ⟨x, rfl⟩ | ⟨x, rfl⟩
        · rw [x]
          exact br_t rfl (m_fine1 s6.2.1 (br_f (by decide) ⟨zz, fin _ (fun V7 _ k => br_t rfl k) (fun V7 f k => br_t rfl (m_emitB f k))⟩))
        · rw [x]
          exact br_f (by decide) (br_t rfl (m_fine1 s6.2.1 (br_f (by decide) ⟨zz, fin _ (fun V7 _ k => br_f (by decide) (br_t rfl k)) (fun V7 f k => br_f (by decide) (br_t rfl (m_emitB f k)))⟩)))
        · rw [x]
          exact br_f (by decide) (br_f (by decide) (br_t rfl (m_fine1 s6.2.1 (br_f (by decide) ⟨zz, fin _ (fun V7 _ k => br_f (by decide) (br_f (by decide) k)) (fun V7 f k => br_f (by decide) (br_f (by decide) (m_emitB f k)))⟩))))
    · refine ⟨1, j, [], Or.inr ⟨Or.inl rfl, by omega, hj.2⟩, fun F hF V Q s cl k1 k2 => ?_, fun F hF V Q s cl k1 k2 => ?_⟩
      · obtain ⟨f, rfl⟩ : ∃ f, F = f + 1 := ⟨F - 1, by omega⟩
        refine s_basicC s hn hb h3 ?_
        unfold W_X6_readComparison
        refine cs 61 (by omega) V _ s cl (fun _ V1 p1 => br_f (by decide) ?_) (fun x => absurd rfl x)
        have s1 := p1.st s (by omega)
        refine s_isSign s1 ?_
        rw [decide_eq_false (fun x => hs ⟨x.1, Or.inl x.2⟩)]
        refine br_t rfl (s_isSign s1 ?_)
        rw [decide_eq_false (fun x => hs ⟨x.1, Or.inr (Or.inl x.2)⟩)]
        refine br_t rfl (s_isSign s1 ?_)
        rw [decide_eq_false (fun x => hs ⟨x.1, Or.inr (Or.inr x.2)⟩)]
        exact br_t rfl (s_refuse s1 (by omega) (fun V2 b2 => k2 (by decide) V2 (cBd.tr s p1 b2)))
      · refine R0 F hF V Q s (fun V4 p4 => ?_)
        have s4 := p4.st s (by simp; exact s.2.2.2.2.2.1.2)
        refine rs 61 (by omega) V4 _ s4 (by rw [p4.2.2.2.2.2.1]; simp; omega) (fun _ V5 p5 => ?_) (fun x => absurd rfl x)
        have p45 : rPo t n pl V V5 _ j L := p4.tr s.2.2.2.2.2.1.1 p5
        have s5 := p45.st s (by omega)
        refine m_fine1 s5.2.1 (br_f (by decide) (m_hereR hT (by omega) hj.2 s5 (fun V6 p6 e6 => ?_)))
        have p46 : rPo t n pl V V6 _ j L := rPo.t0 s.2.2.2.2.2.1.1 p45 p6
        have s6 := p46.st s (by omega)
        have a1 : bt t n (pl j) ≠ 60 := fun x => by have y := (tk_sg hT (by omega) hj.2 (by decide)).mp x; exact hs ⟨y.1, Or.inl y.2⟩
        have a2 : bt t n (pl j) ≠ 62 := fun x => by have y := (tk_sg hT (by omega) hj.2 (by decide)).mp x; exact hs ⟨y.1, Or.inr (Or.inl y.2)⟩
        have a3 : bt t n (pl j) ≠ 61 := fun x => by have y := (tk_sg hT (by omega) hj.2 (by decide)).mp x; exact hs ⟨y.1, Or.inr (Or.inr y.2)⟩
        refine br_f a1 (br_f a2 (br_f a3 (m_wrongR s6 e6 (fun V7 b7 => ?_))))
        have b8 := rBd.tr p46 b7
        have ne := b8.ne jp
        exact m_fine0 ne (br_t rfl (m_sumB' ne (br_f a1 (br_f a2 (m_emitB ne (k2 (by decide) V7 b8))))))
  · have hne : r ≠ 0 := by omega
    refine ⟨r, j, [], Or.inr ⟨hr, hj⟩, fun F hF V Q s cl k1 k2 => ?_, fun F hF V Q s cl k1 k2 => ?_⟩
    · obtain ⟨f, rfl⟩ : ∃ f, F = f + 1 := ⟨F - 1, by omega⟩
      refine s_basicC s hn hb h3 ?_
      unfold W_X6_readComparison
      exact cs 61 (by omega) V _ s cl (fun x => absurd x hne) (fun _ V' b => br_t rfl (k2 hne V' b))
    · refine R0 F hF V Q s (fun V4 p4 => ?_)
      have s4 := p4.st s (by simp; exact s.2.2.2.2.2.1.2)
      refine rs 61 (by omega) V4 _ s4 (by rw [p4.2.2.2.2.2.1]; simp; omega) (fun x => absurd x hne) (fun _ V5 b5 => ?_)
      have b6 := rBd.tr p4 b5
      have ne := b6.ne jp
      exact m_fine0 ne (br_t rfl (m_wrong0 ne (m_fine0 ne (br_t rfl (m_sumB' ne (m_emitB ne (k2 hne V5 b6)))))))
end
