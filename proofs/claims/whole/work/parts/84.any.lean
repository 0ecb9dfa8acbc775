/-! one condition, whatever it begins with -/
section
variable {t : Int → Int} {n : Int} {kd vl pl : Int → Int} {m i o : Int} {V : qV}
theorem o_not (hT : TK t n kd vl pl m) (d : Nat) (hd : d ≤ 6) (hO : ∀ d', d = d' + 1 → ∀ i, 0 ≤ i → i ≤ m → oOne t n kd vl pl m d' i) (i : Int) (h0 : 0 ≤ i) (h1 : i ≤ m) (hn : kd i = 1 ∧ vl i = 19) : oOne t n kd vl pl m d i := by
  have hm : m ≤ 400 := by have := hT.1; have := hT.2.1; omega
  have hp := tk_sp hT h0 h1
  obtain ⟨e, he⟩ := tk_w hT h0 h1
  have t1 := he.2.1 hn.1
  have lt := (tk_1 hT h0 h1 hn.1).1
  have hl := (tk_1 hT h0 h1 hn.1).2.1
  have hns : bt t n (pl i) ≠ 91 := fun x => by rw [x] at hl; exact absurd hl (by decide)
  have hw : cdE t (pl i) e = 14836 := (tk_is19 he).mpr hn
  have e3 : e = pl i + 3 := (cd_len [116, 111, 110] (by decide) (by decide) (by decide) t1.1.1 (tk_lts hT h0 h1 t1.1) hw).1
  have B : ∀ (F : Nat) (V : qV) (Q : Int → qV → Prop), cSt kd vl pl m V i (6 - (d : Int)) → W_X6_mayOpen V (fun r1 V1 => ((r1 = 0 → Q 0 V1) ∧ (¬ r1 = 0 → W_X6_goOn V1 (fun V2 => G_ro F 2 V2 (fun r3 V3 => ((r3 = 0 → Q 0 V3) ∧ (¬ r3 = 0 → (zr ((V3 1 10) - 1) ∧ W_X3_addCode ((qu V3 1 10 ((V3 1 10) - 1)) 1 14) 3 0 (qu V3 1 10 ((V3 1 10) - 1)) (fun V6 => Q 1 V6))))))))) → G_ro (F + 2) 2 V Q := fun F V Q s k => by
    rw [G_ro, if_neg (by decide), if_neg (by decide), if_pos rfl]
    refine s_isWord s ?_
    rw [decide_eq_true hn]
    refine br_f (by decide) ?_
    rw [G_ro, if_neg (by decide), if_neg (by decide), if_neg (by decide), if_pos rfl]
    exact k
  have R : ∀ (F : Nat) (V : qV) (Q : qV → Prop), rSt t n pl V i (6 - (d : Int)) → (∀ V3, rPo t n pl V V3 (6 - (d : Int)) i [] → V3 602 14 = pl i → W_X11_opensOne 3 V3 (fun V101 => G_mo F 2 V101 (fun V102 => (zr ((V102 602 17) - 1) ∧ W_X11_emit 10 0 (qu V102 602 17 ((V102 602 17) - 1)) (fun V105 => Q V105))))) → G_mo (F + 1) 2 V Q := fun F V Q s k => by
    rw [G_mo, if_neg (by decide), if_neg (by decide)]
    refine m_fine1 s.2.1 (br_f (by decide) (m_hereR hT h0 h1 s (fun V1 p1 e1 => br_f hns ?_)))
    have s1 := p1.st s (by simp; exact s.2.2.2.2.2.1.2)
    exact m_wordR hT h0 h1 s1 he (fun V2 p2 e2 => br_t hw (k V2 (p1.tr s.2.2.2.2.2.1.1 p2) e2))
  cases d with
  | zero =>
    refine ⟨3, i, [], Or.inr ⟨Or.inr (Or.inr rfl), h0, h1⟩, fun F hF V Q s cl k1 k2 => ?_, fun F hF V Q s cl k1 k2 => ?_⟩
    · obtain ⟨f, rfl⟩ : ∃ f, F = f + 2 := ⟨F - 2, by omega⟩
      exact B f V Q s (s_mayOpen0 s (by omega) (by simp) (fun V' b => br_t rfl (k2 (by decide) V' b)))
    · obtain ⟨f, rfl⟩ : ∃ f, F = f + 2 := ⟨F - 2, by omega⟩
      refine R (f + 1) V Q s (fun V3 p3 e3' => ?_)
      have s3 := p3.st s (by simp; exact s.2.2.2.2.2.1.2)
      refine m_opensR0 s3 e3' (by simp) (fun V4 b4 => ?_)
      have b5 := rBd.tr p3 b4
      refine (m_anyB (b5.ne hp.2.1) ?_ f).1
      rw [b5.2.2.2]
      have b6 := b5.dn 6
      exact ⟨zr_i (by decide) (by decide), m_emitB (b6.ne hp.2.1) (k2 (by decide) _ b6)⟩
  | succ d' =>
    obtain ⟨r, j, L, out, cs, rs⟩ := hO d' rfl (i + 1) (by omega) (by omega)
    have oe : (6 : Int) - ((d' + 1 : Nat) : Int) + 1 = 6 - (d' : Int) := by omega
    have oe2 : (6 : Int) - (d' : Int) - 1 = 6 - ((d' + 1 : Nat) : Int) := by omega
    have jp : 0 ≤ pl j := by
      rcases out with ⟨_, a, b, _⟩ | ⟨_, a⟩
      · exact (tk_sp hT (by omega) a.2).2.1
      · exact (tk_sp hT a.1 a.2).2.1
    have hlj : r = 0 → (L.length : Int) ≤ j - (i + 1) ∧ j ≤ m := fun hr => by
      rcases out with ⟨_, a, b, _⟩ | ⟨a, _⟩
      · exact ⟨b, a.2⟩
      · omega
    refine ⟨r, j, L ++ [(10, 0)], ?_, fun F hF V Q s cl k1 k2 => ?_, fun F hF V Q s cl k1 k2 => ?_⟩
    · rcases out with ⟨a1, a2, a3, a4⟩ | a
      · refine Or.inl ⟨a1, by omega, ?_, fun tt g1 g2 => ?_⟩
        · have : ((L ++ [(10, 0)]).length : Int) = L.length + 1 := by simp
          omega
        · rw [wrun_ap, a4 tt (by omega) g2]
          exact ty_not (by omega) (by omega)
      · exact Or.inr a
    · obtain ⟨f, rfl⟩ : ∃ f, F = f + 2 := ⟨F - 2, by omega⟩
      refine B f V Q s (s_mayOpen1 s (by omega) (fun V1 p1 => br_f (by decide) ?_))
      rw [oe] at p1
      have s1 := p1.st s (by have := s.2.2.2.1; simp; omega)
      refine s_goOn s1 ⟨h0, lt⟩ hm (fun V2 p2 => ?_)
      have p12 : cPo kd vl V V2 _ (i + 1) [] := p1.tr s p2
      have s2 := p12.st s (by have := s.2.2.2.1; simp; omega)
      refine cs f (by omega) V2 _ s2 (by rw [p12.cl s]; simp; omega) (fun hr V3 p3 => br_f (by decide) ?_) (fun hr V3 b3 => br_t rfl (k2 hr V3 (cBd.tr s p12 b3)))
      have p13 : cPo kd vl V V3 _ j L := p12.tr s p3
      have := hlj hr
      have s3 := p13.st s (by omega)
      refine s_close (Q := fun W => W_X3_addCode (W 1 14) 3 0 W (fun V6 => Q 1 V6)) s3 (by omega) (fun V4 p4 => ?_)
      rw [oe2] at p4
      have p14 : cPo kd vl V V4 _ j L := cPo.t0 s p13 p4
      have s4 := p14.st s (by omega)
      exact s_addCode (c := (10, 0)) s4 (by rw [p14.cl s]; omega) (by decide) (by decide) rfl (by show (10 : Int) ≠ 1; decide) (fun V5 p5 => k1 hr V5 (p14.tr s p5))
    · obtain ⟨f, rfl⟩ : ∃ f, F = f + 1 := ⟨F - 1, by omega⟩
      refine R f V Q s (fun V3 p3 e3' => ?_)
      have s3 := p3.st s (by simp; exact s.2.2.2.2.2.1.2)
      refine m_opensR1 s3 e3' (by omega) (by decide) (by rw [← e3]; exact t1.2.1.2) (by rw [← e3]; exact t1.2.2.2.2) (fun V4 p4 => ?_)
      rw [oe] at p4
      have p34 : rPo t n pl V V4 _ (i + 1) [] := p3.tr s.2.2.2.2.2.1.1 p4
      have s4 := p34.st s (by simp; exact s.2.2.2.2.2.1.2)
      refine rs f (by omega) V4 _ s4 (by rw [p34.2.2.2.2.2.1]; simp; omega) (fun hr V5 p5 => ?_) (fun hr V5 b5 => ?_)
      · have p35 : rPo t n pl V V5 _ j L := p34.tr s.2.2.2.2.2.1.1 p5
        have := hlj hr
        rw [p35.2.2.2.2.1, oe2]
        have p6 := p35.dn (6 - ((d' + 1 : Nat) : Int))
        have s6 := p6.st s (by omega)
        exact ⟨zr_i (by omega) (by omega), m_emitR s6 (by rw [p6.2.2.2.2.2.1]; omega) (fun V7 p7 => k1 hr V7 (p6.tr s.2.2.2.2.2.1.1 p7))⟩
      · have b6 := rBd.tr p34 b5
        rw [b6.2.2.2, oe2]
        have b7 := b6.dn (6 - ((d' + 1 : Nat) : Int))
        exact ⟨zr_i (by omega) (by omega), m_emitB (b7.ne jp) (k2 hr _ b7)⟩
theorem o_brk (hT : TK t n kd vl pl m) (d : Nat) (hd : d ≤ 6) (hA : ∀ d', d = d' + 1 → ∀ i, 0 ≤ i → i ≤ m → oAny t n kd vl pl m d' i) (i : Int) (h0 : 0 ≤ i) (h1 : i ≤ m) (hb : kd i = 4 ∧ vl i = 91) : oOne t n kd vl pl m d i := by
  have hm : m ≤ 400 := by have := hT.1; have := hT.2.1; omega
  have hp := tk_sp hT h0 h1
  have t4 := tk_4 hT h0 h1 hb.1
  have lt := t4.1
  have hbt : bt t n (pl i) = 91 := by rw [t4.2.1]; exact hb.2
  have B : ∀ (F : Nat) (V : qV) (Q : Int → qV → Prop), cSt kd vl pl m V i (6 - (d : Int)) → W_X6_mayOpen V (fun r1 V1 => ((r1 = 0 → Q 0 V1) ∧ (¬ r1 = 0 → W_X6_goOn V1 (fun V2 => G_ro F 0 V2 (fun r3 V3 => ((r3 = 0 → Q 0 V3) ∧ (¬ r3 = 0 → W_X6_readSign 93 V3 (fun r4 V4 => ((r4 = 0 → Q 0 V4) ∧ (¬ r4 = 0 → (zr ((V4 1 10) - 1) ∧ Q 1 (qu V4 1 10 ((V4 1 10) - 1))))))))))))) → G_ro (F + 2) 2 V Q := fun F V Q s k => by
    rw [G_ro, if_neg (by decide), if_neg (by decide), if_pos rfl]
    refine s_isWord s ?_
    rw [decide_eq_false (by omega)]
    refine br_t rfl (s_isSign s ?_)
    rw [decide_eq_true hb]
    refine br_f (by decide) ?_
    rw [G_ro, if_neg (by decide), if_neg (by decide), if_neg (by decide), if_neg (by decide)]
    exact k
  have R : ∀ (F : Nat) (V : qV) (Q : qV → Prop), rSt t n pl V i (6 - (d : Int)) → (∀ V3, rPo t n pl V V3 (6 - (d : Int)) i [] → V3 602 14 = pl i → W_X11_opensOne 1 V3 (fun V106 => G_mo F 0 V106 (fun V107 => W_X11_closesOne 93 V107 (fun V108 => Q V108)))) → G_mo (F + 1) 2 V Q := fun F V Q s k => by
    rw [G_mo, if_neg (by decide), if_neg (by decide)]
    exact m_fine1 s.2.1 (br_f (by decide) (m_hereR hT h0 h1 s (fun V1 p1 e1 => br_t hbt (k V1 p1 e1))))
  cases d with
  | zero =>
    refine ⟨3, i, [], Or.inr ⟨Or.inr (Or.inr rfl), h0, h1⟩, fun F hF V Q s cl k1 k2 => ?_, fun F hF V Q s cl k1 k2 => ?_⟩
    · obtain ⟨f, rfl⟩ : ∃ f, F = f + 2 := ⟨F - 2, by omega⟩
      exact B f V Q s (s_mayOpen0 s (by omega) (by simp) (fun V' b => br_t rfl (k2 (by decide) V' b)))
    · obtain ⟨f, rfl⟩ : ∃ f, F = f + 4 := ⟨F - 4, by omega⟩
      refine R (f + 3) V Q s (fun V3 p3 e3' => ?_)
      have s3 := p3.st s (by simp; exact s.2.2.2.2.2.1.2)
      refine m_opensR0 s3 e3' (by simp) (fun V4 b4 => ?_)
      have b5 := rBd.tr p3 b4
      refine (m_anyB (b5.ne hp.2.1) ?_ f).2
      refine m_closesB (b5.ne hp.2.1) (by rw [b5.2.2.2]; omega) (k2 (by decide) _ ?_)
      rw [b5.2.2.2]
      exact b5.dn 6
  | succ d' =>
    obtain ⟨r, j, L, out, cs, rs⟩ := hA d' rfl (i + 1) (by omega) (by omega)
    have oe : (6 : Int) - ((d' + 1 : Nat) : Int) + 1 = 6 - (d' : Int) := by omega
    have oe2 : (6 : Int) - (d' : Int) - 1 = 6 - ((d' + 1 : Nat) : Int) := by omega
    have jp : 0 ≤ pl j := by
      rcases out with ⟨_, a, b, _⟩ | ⟨_, a⟩
      · exact (tk_sp hT (by omega) a.2).2.1
      · exact (tk_sp hT a.1 a.2).2.1
    have C : ∀ (F : Nat), 4 * (d' + 1) + 2 ≤ F → ∀ (V : qV) (Q : Int → qV → Prop), cSt kd vl pl m V i (6 - ((d' + 1 : Nat) : Int)) → V (V 1 14) 5 ≤ i → (r = 0 → ∀ V3, cPo kd vl V V3 (6 - (d' : Int)) j L → W_X6_readSign 93 V3 (fun r4 V4 => ((r4 = 0 → Q 0 V4) ∧ (¬ r4 = 0 → (zr ((V4 1 10) - 1) ∧ Q 1 (qu V4 1 10 ((V4 1 10) - 1))))))) → (r ≠ 0 → ∀ V', cBd V V' r (pl j) → Q 0 V') → G_ro F 2 V Q := fun F hF V Q s cl k1 k2 => by
      obtain ⟨f, rfl⟩ : ∃ f, F = f + 2 := ⟨F - 2, by omega⟩
      refine B f V Q s (s_mayOpen1 s (by omega) (fun V1 p1 => br_f (by decide) ?_))
      rw [oe] at p1
      have s1 := p1.st s (by have := s.2.2.2.1; simp; omega)
      refine s_goOn s1 ⟨h0, lt⟩ hm (fun V2 p2 => ?_)
      have p12 : cPo kd vl V V2 _ (i + 1) [] := p1.tr s p2
      have s2 := p12.st s (by have := s.2.2.2.1; simp; omega)
      exact cs f (by omega) V2 _ s2 (by rw [p12.cl s]; simp; omega) (fun hr V3 p3 => br_f (by decide) (k1 hr V3 (p12.tr s p3))) (fun hr V3 b3 => br_t rfl (k2 hr V3 (cBd.tr s p12 b3)))
    have D : ∀ (F : Nat), 3 * (d' + 1) + 4 ≤ F → ∀ (V : qV) (Q : qV → Prop), rSt t n pl V i (6 - ((d' + 1 : Nat) : Int)) → V 602 18 ≤ i → (r = 0 → ∀ V3, rPo t n pl V V3 (6 - (d' : Int)) j L → W_X11_closesOne 93 V3 (fun V4 => Q V4)) → (r ≠ 0 → ∀ V', rBd V V' (6 - (d' : Int)) r (pl j) → W_X11_closesOne 93 V' (fun V4 => Q V4)) → G_mo F 2 V Q := fun F hF V Q s cl k1 k2 => by
      obtain ⟨f, rfl⟩ : ∃ f, F = f + 1 := ⟨F - 1, by omega⟩
      refine R f V Q s (fun V3 p3 e3' => ?_)
      have s3 := p3.st s (by simp; exact s.2.2.2.2.2.1.2)
      refine m_opensR1 s3 e3' (by omega) (by decide) t4.2.2.2.2.2 t4.2.2.2.2.1 (fun V4 p4 => ?_)
      rw [oe] at p4
      have p34 : rPo t n pl V V4 _ (i + 1) [] := p3.tr s.2.2.2.2.2.1.1 p4
      have s4 := p34.st s (by simp; exact s.2.2.2.2.2.1.2)
      exact rs f (by omega) V4 _ s4 (by rw [p34.2.2.2.2.2.1]; simp; omega) (fun hr V5 p5 => k1 hr V5 (p34.tr s.2.2.2.2.2.1.1 p5)) (fun hr V5 b5 => k2 hr V5 (rBd.tr p34 b5))
    rcases out with ⟨hr, hj, hl, ty⟩ | ⟨hr, hj⟩
    · by_cases hc : kd j = 4 ∧ vl j = 93
      · have t4j := tk_4 hT (by omega) hj.2 hc.1
        refine ⟨0, j + 1, L, Or.inl ⟨rfl, by omega, by omega, by rw [show 1 + 2 * (d' + 1) = 3 + 2 * d' by omega]; exact ty⟩, fun F hF V Q s cl k1 k2 => ?_, fun F hF V Q s cl k1 k2 => ?_⟩
        · refine C F hF V Q s cl (fun _ V3 p3 => ?_) (fun x => absurd hr x)
          have s3 := p3.st s (by omega)
          refine s_readSign1 s3 (by omega) hm hc (fun V4 p4 => br_f (by decide) ?_)
          have p34 := cPo.t0 s p3 p4
          have s4 := p34.st s (by omega)
          refine s_close s4 (by omega) (fun V5 p5 => k1 rfl V5 ?_)
          rw [oe2] at p5
          exact cPo.t0 s p34 p5
        · refine D F hF V Q s cl (fun _ V3 p3 => ?_) (fun x => absurd hr x)
          have s3 := p3.st s (by omega)
          refine m_needR1 hT (by omega) hj.2 s3 hc (fun V4 p4 => ?_)
          have p34 := rPo.t0 s.2.2.2.2.2.1.1 p3 p4
          rw [p34.2.2.2.2.1, oe2]
          exact ⟨zr_i (by omega) (by omega), k1 rfl _ (p34.dn _)⟩
      · refine ⟨1, j, [], Or.inr ⟨Or.inl rfl, by omega, hj.2⟩, fun F hF V Q s cl k1 k2 => ?_, fun F hF V Q s cl k1 k2 => ?_⟩
        · refine C F hF V Q s cl (fun _ V3 p3 => ?_) (fun x => absurd hr x)
          have s3 := p3.st s (by omega)
          exact s_readSign0 s3 (by omega) hc (fun V4 b4 => br_t rfl (k2 (by decide) V4 (cBd.tr s p3 b4)))
        · refine D F hF V Q s cl (fun _ V3 p3 => ?_) (fun x => absurd hr x)
          have s3 := p3.st s (by omega)
          refine m_needR0 hT (by omega) hj.2 s3 (by decide) hc (fun V4 b4 => ?_)
          have b5 := rBd.tr p3 b4
          rw [b5.2.2.2, oe2]
          exact ⟨zr_i (by omega) (by omega), k2 (by decide) _ (b5.dn _)⟩
    · have hne : r ≠ 0 := by omega
      refine ⟨r, j, [], Or.inr ⟨hr, hj⟩, fun F hF V Q s cl k1 k2 => ?_, fun F hF V Q s cl k1 k2 => ?_⟩
      · exact C F hF V Q s cl (fun x => absurd x hne) (fun _ V' b => k2 hne V' b)
      · refine D F hF V Q s cl (fun x => absurd x hne) (fun _ V' b => ?_)
        refine m_closesB (b.ne jp) (by rw [b.2.2.2]; omega) (k2 hne _ ?_)
        rw [b.2.2.2, oe2]
        exact b.dn _
theorem o_unk (hT : TK t n kd vl pl m) (d : Nat) (i : Int) (h0 : 0 ≤ i) (h1 : i ≤ m) (h3 : kd i = 3) : oOne t n kd vl pl m d i := by
  have hm : m ≤ 400 := by have := hT.1; have := hT.2.1; omega
  have hp := tk_sp hT h0 h1
  obtain ⟨lt, uc, rl, vv, rs, nn, v9, b117⟩ := tk_3 hT h0 h1 h3
  obtain ⟨e, he⟩ := tk_w hT h0 h1
  have hw : cdE t (pl i) e = 21 := (he.2.2.1 h3).2
  have n4 := hT.1
  refine ⟨0, i + 1, [(2, vl i)], Or.inl ⟨rfl, by omega, by simp; omega, fun tt a b => ?_⟩, fun F hF V Q s cl k1 k2 => ?_, fun F hF V Q s cl k1 k2 => ?_⟩
  · refine wrun_1 ?_ (by rw [cTt.1]; omega) (by rw [cTt.2]; omega)
    unfold wst
    rw [if_neg (show ¬ (2 : Int) = 0 by decide), if_neg (show ¬ (2 : Int) = 1 by decide), if_pos rfl, if_pos v9]
  · obtain ⟨f, rfl⟩ : ∃ f, F = f + 1 := ⟨F - 1, by omega⟩
    rw [G_ro, if_neg (by decide), if_neg (by decide), if_pos rfl]
    refine s_isWord s ?_
    rw [decide_eq_false (by omega)]
    refine br_t rfl (s_isSign s ?_)
    rw [decide_eq_false (by omega)]
    refine br_t rfl (br_t (by rw [s.2.1.2.1]; exact h3) ?_)
    rw [s.2.1.2.2.1]
    refine s_addCode (c := (2, vl i)) s (by omega) (by decide) (by omega) (by show _ = opC 2 * 16384 + vl i; rfl) (by show (2 : Int) ≠ 1; decide) (fun V1 p1 => ?_)
    have s1 := p1.st s (by simp; omega)
    exact s_goOn s1 ⟨h0, lt⟩ hm (fun V2 p2 => k1 rfl V2 (cPo.t0 s p1 p2))
  · obtain ⟨f, rfl⟩ : ∃ f, F = f + 1 := ⟨F - 1, by omega⟩
    rw [G_mo, if_neg (by decide), if_neg (by decide)]
    refine m_fine1 s.2.1 (br_f (by decide) (m_hereR hT h0 h1 s (fun V1 p1 e1 => br_f (by rw [b117]; decide) ?_)))
    have s1 := p1.st s (by simp; exact s.2.2.2.2.2.1.2)
    refine m_wordR hT h0 h1 s1 he (fun V2 p2 e2 => br_f (by rw [hw]; decide) ?_)
    have p12 : rPo t n pl V V2 _ i [] := p1.tr s.2.2.2.2.2.1.1 p2
    have s2 := p12.st s (by simp; exact s.2.2.2.2.2.1.2)
    refine m_wordR hT h0 h1 s2 he (fun V3 p3 e3 => br_t hw ?_)
    have p13 : rPo t n pl V V3 _ i [] := p12.tr s.2.2.2.2.2.1.1 p3
    have s3 := p13.st s (by simp; exact s.2.2.2.2.2.1.2)
    rw [e3]
    refine ⟨zr_i (by omega) (by omega), m_atPlace s3.1 (by omega) (m_isDigit ?_)⟩
    rw [uc.2.2.1]
    refine br_f (by decide) ⟨zr_i (by omega) (by omega), m_atPlace s3.1 (by omega) (m_isDigit ?_)⟩
    have d2 := uc.2.2.2.1
    have l2 := uc.2.2.2.2
    rw [show pl i + 1 + 1 = pl i + 2 by omega] at d2 l2
    rw [d2]
    refine br_t rfl ⟨zr_i (by omega) (by omega), m_atPlace s3.1 (by omega) (m_isSmall ?_)⟩
    rw [l2]
    refine br_t rfl (m_fine1 s3.2.1 (br_f (by decide) ⟨zr_i (by omega) (by omega), by omega, ?_⟩))
    have tb1 : V3 613 (pl i + 1) - 48 = vl i := by
      rw [(s3.1.2.2 (pl i + 1) (by omega) (by omega)).1, vv, bt_i (by omega)]
    rw [tb1]
    have hc : V3 602 18 < 400 := by rw [p13.2.2.2.2.2.1]; simp; omega
    have p4 := rPo.em (w := 2) (x := vl i) s3 hc
    refine ⟨zr_i (by omega) (by omega), m_emit s3.2.1 s3.2.2.2.2.2.2 ⟨s3.2.2.2.2.2.1.1, hc⟩ ?_⟩
    have p14 : rPo t n pl V _ _ i [(2, vl i)] := p13.tr s.2.2.2.2.2.1.1 p4
    have s4 := p14.st s (by simp; omega)
    have e4 : (emV V3 (V3 602 19 + V3 602 18) 2 (vl i) (V3 602 18 + 1)) 602 14 = pl i := by unfold emV; rw [qu_e (by omega), qu_e (by omega), qu_e (by omega)]; exact e3
    rw [e4]
    exact ⟨zr_i (by omega) (by omega), k1 rfl _ (rPo.t0 s.2.2.2.2.2.1.1 p14 (rPo.mv (o' := 0) s4 (by omega) rs))⟩
/-- a lone u -/
theorem o_u (hT : TK t n kd vl pl m) (d : Nat) (i : Int) (h0 : 0 ≤ i) (h1 : i ≤ m) (hk : kd i = 1) {e : Int} (he : tkC t n kd vl pl i e) (hw : cdE t (pl i) e = 21) : oOne t n kd vl pl m d i := by
  have hm : m ≤ 400 := by have := hT.1; have := hT.2.1; omega
  have hp := tk_sp hT h0 h1
  have n4 := hT.1
  have t1 := he.2.1 hk
  have hv : vl i = -1 := by rw [t1.2.2.1, hw]; rfl
  have hl := (tk_1 hT h0 h1 hk).2.1
  have hns : bt t n (pl i) ≠ 91 := fun x => by rw [x] at hl; exact absurd hl (by decide)
  have ee := cd_len [117] (by decide) (by decide) (by decide) t1.1.1 (tk_lts hT h0 h1 t1.1) hw
  have e1 : e = pl i + 1 := ee.1
  subst e1
  have b117 : bt t n (pl i) = 117 := by
    rw [bt_i (by have := t1.2.1; omega)]
    have := ee.2.2
    rw [show pl i + (([] : List Int).length : Int) = pl i by simp] at this
    exact this
  refine ⟨1, i, [], Or.inr ⟨Or.inl rfl, h0, h1⟩, fun F hF V Q s cl k1 k2 => ?_, fun F hF V Q s cl k1 k2 => ?_⟩
  · obtain ⟨f, rfl⟩ : ∃ f, F = f + 1 := ⟨F - 1, by omega⟩
    refine s_basicC s (by omega) (by omega) (by omega) ?_
    unfold W_X6_readComparison
    exact s_termNo s (by omega) hk hv (fun V' b => br_t rfl (k2 (by decide) V' b)) 59
  · obtain ⟨f, rfl⟩ : ∃ f, F = f + 1 := ⟨F - 1, by omega⟩
    rw [G_mo, if_neg (by decide), if_neg (by decide)]
    refine m_fine1 s.2.1 (br_f (by decide) (m_hereR hT h0 h1 s (fun V1 p1 e1 => br_f hns ?_)))
    have s1 := p1.st s (by simp; exact s.2.2.2.2.2.1.2)
    refine m_wordR hT h0 h1 s1 he (fun V2 p2 e2 => br_f (by rw [hw]; decide) ?_)
    have p12 : rPo t n pl V V2 _ i [] := p1.tr s.2.2.2.2.2.1.1 p2
    have s2 := p12.st s (by simp; exact s.2.2.2.2.2.1.2)
    refine m_wordR hT h0 h1 s2 he (fun V3 p3 e3 => br_t hw ?_)
    have p13 : rPo t n pl V V3 _ i [] := p12.tr s.2.2.2.2.2.1.1 p3
    have s3 := p13.st s (by simp; exact s.2.2.2.2.2.1.2)
    have bad : ∀ (K : qV → Prop), (∀ V4, V4 602 15 ≠ -1 → Q V4 → K V4) → W_X11_wrong 1 (V3 602 14) V3 K := fun K kk => m_wrongR s3 e3 (fun V4 b4 => kk V4 ((rBd.tr p13 b4).ne hp.2.1) (k2 (by decide) V4 (rBd.tr p13 b4)))
    rw [e3] at bad ⊢
    refine ⟨zr_i (by omega) (by omega), m_atPlace s3.1 (by omega) (m_isDigit ?_)⟩
    cases d1 : dgB (bt t n (pl i + 1)) with
    | false => exact br_t rfl (bad _ (fun V4 f q => m_fine0 f (br_t rfl q)))
    | true =>
      refine br_f (by decide) ⟨zr_i (by omega) (by omega), m_atPlace s3.1 (by omega) (m_isDigit ?_)⟩
      cases d2 : dgB (bt t n (pl i + 2)) with
      | true => exact br_f (by decide) (bad _ (fun V4 f q => m_fine0 f (br_t rfl q)))
      | false =>
        refine br_t rfl ⟨zr_i (by omega) (by omega), m_atPlace s3.1 (by omega) (m_isSmall ?_)⟩
        cases d3 : ltB (bt t n (pl i + 2)) with
        | true => exact br_f (by decide) (bad _ (fun V4 f q => m_fine0 f (br_t rfl q)))
        | false =>
          exfalso
          refine t1.2.2.2.1 ⟨rfl, b117, d1, ?_, ?_⟩
          · rw [show pl i + 1 + 1 = pl i + 2 by omega]; exact d2
          · rw [show pl i + 1 + 1 = pl i + 2 by omega]; exact d3
theorem o_one (hT : TK t n kd vl pl m) (hB : ∀ p, 0 ≤ bt t n p ∧ bt t n p < 256) (d : Nat) (hd : d ≤ 6) (hO : ∀ d', d = d' + 1 → ∀ i, 0 ≤ i → i ≤ m → oOne t n kd vl pl m d' i) (hA : ∀ d', d = d' + 1 → ∀ i, 0 ≤ i → i ≤ m → oAny t n kd vl pl m d' i) (i : Int) (h0 : 0 ≤ i) (h1 : i ≤ m) : oOne t n kd vl pl m d i := by
  by_cases hn : kd i = 1 ∧ vl i = 19
  · exact o_not hT d hd hO i h0 h1 hn
  by_cases hb : kd i = 4 ∧ vl i = 91
  · exact o_brk hT d hd hA i h0 h1 hb
  by_cases h3 : kd i = 3
  · exact o_unk hT d i h0 h1 h3
  obtain ⟨e, he⟩ := tk_w hT h0 h1
  by_cases hu : cdE t (pl i) e = 21
  · have k1 : kd i = 1 := by
      by_cases k1 : kd i = 1
      · exact k1
      · have := he.2.2.2 k1 h3; omega
    exact o_u hT d i h0 h1 k1 he hu
  · refine o_cmp hT hB d hd i h0 h1 hn hb h3 (fun e' he' => ?_)
    rw [rnE_u he'.1 he.1]; exact hu
theorem o_ones (hT : TK t n kd vl pl m) (hB : ∀ p, 0 ≤ bt t n p ∧ bt t n p < 256) : ∀ (d : Nat), d ≤ 6 → ∀ i, 0 ≤ i → i ≤ m → oOne t n kd vl pl m d i
  | 0, hd, i, h0, h1 => o_one hT hB 0 hd (fun d' h => by omega) (fun d' h => by omega) i h0 h1
  | d + 1, hd, i, h0, h1 => by
    have ih := o_ones hT hB d (by omega)
    have ia : ∀ i, 0 ≤ i → i ≤ m → oAny t n kd vl pl m d i := o_any hT d (by omega) (o_all hT d (by omega) ih)
    refine o_one hT hB (d + 1) hd (fun d' h => ?_) (fun d' h => ?_) i h0 h1
    · have : d' = d := by omega
      subst this; exact ih
    · have : d' = d := by omega
      subst this; exact ia
theorem o_anys (hT : TK t n kd vl pl m) (hB : ∀ p, 0 ≤ bt t n p ∧ bt t n p < 256) (i : Int) (h0 : 0 ≤ i) (h1 : i ≤ m) : oAny t n kd vl pl m 6 i :=
  o_any hT 6 (by decide) (o_all hT 6 (by decide) (o_ones hT hB 6 (by decide))) i h0 h1
end
