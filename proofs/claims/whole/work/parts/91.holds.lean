/-! holds -/
theorem cdC_cod {V : qV} {o : Int} : ∀ (L : List (Int × Int)) (a : Int), cdC V o a L → cod V o a L
  | [], _, _ => trivial
  | _ :: L, a, h => ⟨h.1, cdC_cod L (a + 1) h.2⟩
/-- a condition read by both -/
def cCn (V V' : qV) (L : List (Int × Int)) : Prop := (∀ o k, ¬ (o = 1 ∧ 7 ≤ k ∧ k ≤ 10) → ¬ (6 ≤ o ∧ o ≤ 10) → V' o k = V o k) ∧ V' 9 0 = L.length ∧ cdC V' 10 0 L ∧ (V' 1 14 = 6 ∧ V' 6 0 = 1 ∧ V' 6 5 = L.length)
theorem o_cond {t : Int → Int} {n : Int} {kd vl pl : Int → Int} {m : Int} (hT : TK t n kd vl pl m) (hB : ∀ p, 0 ≤ bt t n p ∧ bt t n p < 256) : ∃ r j L, ((r = 0 ∧ (L.length : Int) ≤ 400 ∧ tyA L true 15 9) ∨ ((r = 1 ∨ r = 2 ∨ r = 3) ∧ 0 ≤ j ∧ j ≤ m)) ∧ (∀ (V : qV) (Q : Int → qV → Prop), cRs kd vl pl m V 0 0 → V 1 14 = 6 → V 6 5 = 0 → (r = 0 → ∀ V', cCn V V' L → Q 1 V') → (r ≠ 0 → ∀ V', cRb V V' r (pl j) → Q 0 V') → W_X3_addRule (V 1 14) 1 0 V (fun V2 => W_X6_readOr V2 (fun r3 V3 => ((r3 = 0 → Q 0 V3) ∧ (¬ r3 = 0 → W_X6_readSign 59 V3 (fun r4 V4 => ((r4 = 0 → Q 0 V4) ∧ (¬ r4 = 0 → ((V4 1 8 = 0 → Q 1 V4) ∧ (¬ V4 1 8 = 0 → W_X6_refuse 1 V4 (fun r5 V5 => ((r5 = 0 → Q 0 V5) ∧ (¬ r5 = 0 → Q 1 V5))))))))))))) ∧ (∀ (V : qV) (K : qV → Prop), rSt t n pl V 0 0 → V 602 18 = 0 → (r = 0 → ∀ V', rPo t n pl V V' 0 m L → K V') → (r ≠ 0 → ∀ V', rFr V V' ∧ V' 602 15 = pl j ∧ V' 602 16 = r → K V') → W_X11_anyOf V (fun V97 => W_X11_need 59 V97 (fun V98 => W_X11_fine V98 (fun r99 => ((r99 = 0 → K V98) ∧ (¬ r99 = 0 → W_X11_isMore V98 (fun r108 V108 => ((r108 = 0 → K V108) ∧ (¬ r108 = 0 → W_X11_wrong 1 (V108 602 14) V108 (fun V117 => K V117)))))))))) := by
  have hm : m ≤ 400 := by have := hT.1; have := hT.2.1; omega
  have m0 := hT.2.1
  obtain ⟨r, j, L, out, cs, rs⟩ := o_anys hT hB 0 (by decide) m0.1
  have jp : 0 ≤ pl j := by
    rcases out with ⟨_, a, b, _⟩ | ⟨_, a⟩
    · exact (tk_sp hT (by omega) a.2).2.1
    · exact (tk_sp hT a.1 a.2).2.1
  -- class up to the sign
  have C : ∀ (V : qV) (Q : Int → qV → Prop) (K : qV → Prop), cRs kd vl pl m V 0 0 → V 1 14 = 6 → V 6 5 = 0 → (r = 0 → ∀ V3, cSt kd vl pl m V3 j 0 → cCn V V3 L → K V3) → (r ≠ 0 → ∀ V', cRb V V' r (pl j) → Q 0 V') → W_X3_addRule (V 1 14) 1 0 V (fun V2 => W_X6_readOr V2 (fun r3 V3 => ((r3 = 0 → Q 0 V3) ∧ (¬ r3 = 0 → K V3)))) := fun V Q K s e14 e5 k1 k2 => by
    refine s_addRule s (by decide) ?_
    have st := arV_st (w := 1) (c := 0) s (by decide) (by decide)
    rw [e14] at st ⊢
    rw [e5] at st ⊢
    have a14 : (arV V 6 0 1 0 0) 1 14 = 6 := by rw [arV_o (by omega) (by omega)]; exact e14
    have a5 : (arV V 6 0 1 0 0) 6 5 = 0 := by rw [arV_o (by omega) (by omega)]; exact e5
    have a0 : (arV V 6 0 1 0 0) 6 0 = 1 := qu_s _ _ _ _
    refine cs 61 (by decide) _ _ st (by rw [a14, a5]; decide) (fun hr V3 p => br_f (by decide) (k1 hr V3 ?_ ?_)) (fun hr V3 b => br_t rfl (k2 hr V3 ?_))
    · have hl : (L.length : Int) ≤ 400 := by
        rcases out with ⟨_, a, b, _⟩ | ⟨a, _⟩
        · omega
        · omega
      exact p.st st (by rw [a14, a5]; omega)
    · obtain ⟨p1, p2, p3, p4, p5, p6⟩ := p
      unfold cFr at p1
      rw [a14] at p1 p3 p4 p5
      rw [a5] at p1 p3 p4 p5
      rw [a0] at p1 p5
      refine ⟨fun o k x y => ?_, ?_, p4, ?_, ?_, ?_⟩
      · rw [p1 o k x (by omega) (by omega) (by omega), arV_o (by omega) (by omega)]
      · have p5' : V3 9 0 = 0 + (L.length : Int) := p5
        omega
      · rw [p1 1 14 (by omega) (by omega) (by omega) (by omega)]; exact a14
      · rw [p1 6 0 (by omega) (by omega) (by omega) (by omega)]; exact a0
      · rw [p3]; omega
    · obtain ⟨b1, b2⟩ := b
      unfold cFr at b1
      rw [a14] at b1
      rw [a5] at b1
      refine ⟨fun o k x y => ?_, b2⟩
      rw [e14] at y
      rw [b1 o k x (by omega) (by omega) (by omega), arV_o (by omega) (by omega)]
  rcases out with ⟨hr, hj, hl, ty⟩ | ⟨hr, hj⟩
  · subst hr
    have hjs := tk_sp hT (i := j) (by omega) hj.2
    by_cases hc : kd j = 4 ∧ vl j = 59
    · have t4 := tk_4 hT (by omega) hj.2 hc.1
      by_cases jm : j + 1 = m
      · have k0 : kd (j + 1) = 0 := by rw [jm]; exact hT.2.2.2.2.1.2.1
        refine ⟨0, m, L, Or.inl ⟨rfl, by omega, ty⟩, fun V Q s e14 e5 k1 k2 => ?_, fun V K s h18 k1 k2 => ?_⟩
        · refine C V Q _ s e14 e5 (fun _ V3 s3 c3 => s_readSign1 s3 (by omega) hm hc (fun V4 p4 => br_f (by decide) ?_)) (fun x => absurd rfl x)
          obtain ⟨c1, c2, c4, c5, c6, c7⟩ := c3
          obtain ⟨p1, p2, p3, p5, p6, p7⟩ := p4
          unfold cFr at p1
          rw [c5] at p1 p3 p6
          rw [c6] at p1 p6
          rw [c7] at p1 p3 p6
          refine br_t (by rw [p2.2.1]; exact k0) (k1 rfl V4 ⟨fun o k x y => ?_, ?_, ?_, ?_, ?_, ?_⟩)
          · rw [p1 o k x (by omega) (by omega) (by omega)]; exact c1 o k x y
          · have p6' : V4 9 0 = (L.length : Int) + (([] : List (Int × Int)).length : Int) := p6
            simp at p6'; exact p6'
          · exact cdC_fr L _ c4 (fun k a b => p1 _ _ (by omega) (by omega) (by omega) (by omega))
          · rw [p1 1 14 (by omega) (by omega) (by omega) (by omega)]; exact c5
          · rw [p1 6 0 (by omega) (by omega) (by omega) (by omega)]; exact c6
          · rw [p3]; simp
        · refine rs 61 (by decide) V _ s (by omega) (fun _ V1 p1 => ?_) (fun x => absurd rfl x)
          have s1 := p1.st s (by omega)
          refine m_needR1 hT (by omega) hj.2 s1 hc (fun V2 p2 => ?_)
          have p12 := rPo.t0 s.2.2.2.2.2.1.1 p1 p2
          have s2 := p12.st s (by omega)
          refine m_fine1 s2.2.1 (br_f (by decide) (m_isMoreR hT (by omega) (by omega) s2 (fun x => by omega) (fun _ V3 p3 => br_t rfl (k1 rfl V3 ?_))))
          have := rPo.t0 s.2.2.2.2.2.1.1 p12 p3
          rw [jm] at this; exact this
      · have lt2 : j + 1 < m := by omega
        have k0 : kd (j + 1) ≠ 0 := by have := tk_kd hT (i := j + 1) (by omega) lt2; omega
        have hjs2 := tk_sp hT (i := j + 1) (by omega) (by omega)
        refine ⟨1, j + 1, [], Or.inr ⟨Or.inl rfl, by omega, by omega⟩, fun V Q s e14 e5 k1 k2 => ?_, fun V K s h18 k1 k2 => ?_⟩
        · refine C V Q _ s e14 e5 (fun _ V3 s3 c3 => s_readSign1 s3 (by omega) hm hc (fun V4 p4 => br_f (by decide) ?_)) (fun x => absurd rfl x)
          have s4 := p4.st s3 (by have := s3.2.2.2.1; simp; omega)
          refine br_f (by rw [p4.2.1.2.1]; exact k0) (s_refuse s4 (by omega) (fun V5 b5 => br_t rfl (k2 (by decide) V5 ?_)))
          have b6 := cBd.tr s3 p4 b5
          obtain ⟨c1, c2, c4, c5, c6, c7⟩ := c3
          obtain ⟨b1, b2⟩ := b6
          unfold cFr at b1
          rw [c5] at b1
          refine ⟨fun o k x y => ?_, b2⟩
          rw [e14] at y
          rw [b1 o k x (by omega) (by omega) (by omega)]
          exact c1 o k (by omega) (by omega)
        · refine rs 61 (by decide) V _ s (by omega) (fun _ V1 p1 => ?_) (fun x => absurd rfl x)
          have s1 := p1.st s (by omega)
          refine m_needR1 hT (by omega) hj.2 s1 hc (fun V2 p2 => ?_)
          have p12 := rPo.t0 s.2.2.2.2.2.1.1 p1 p2
          have s2 := p12.st s (by omega)
          refine m_fine1 s2.2.1 (br_f (by decide) ?_)
          refine m_hereR hT (by omega) (by omega) s2 (fun V3 p3 e3 => ?_)
          have p13 := rPo.t0 s.2.2.2.2.2.1.1 p12 p3
          have s3 := p13.st s (by omega)
          obtain ⟨nx, a, _⟩ := hT.2.2.2.1 (j + 1) (by omega) lt2
          refine br_f (by rw [e3, s3.1.1]; omega) (br_f (by decide) (m_wrongR s3 e3 (fun V4 b4 => ?_)))
          have b5 := rBd.tr p13 b4
          exact k2 (by decide) V4 ⟨b5.1.1, b5.2.1, b5.2.2.1⟩
    · refine ⟨1, j, [], Or.inr ⟨Or.inl rfl, by omega, hj.2⟩, fun V Q s e14 e5 k1 k2 => ?_, fun V K s h18 k1 k2 => ?_⟩
      · refine C V Q _ s e14 e5 (fun _ V3 s3 c3 => s_readSign0 s3 (by omega) hc (fun V4 b4 => br_t rfl (k2 (by decide) V4 ?_))) (fun x => absurd rfl x)
        obtain ⟨c1, c2, c4, c5, c6, c7⟩ := c3
        obtain ⟨b1, b2⟩ := b4
        unfold cFr at b1
        rw [c5] at b1
        refine ⟨fun o k x y => ?_, b2⟩
        rw [e14] at y
        rw [b1 o k x (by omega) (by omega) (by omega)]
        exact c1 o k (by omega) (by omega)
      · refine rs 61 (by decide) V _ s (by omega) (fun _ V1 p1 => ?_) (fun x => absurd rfl x)
        have s1 := p1.st s (by omega)
        refine m_needR0 hT (by omega) hj.2 s1 (by decide) hc (fun V2 b2 => ?_)
        have b3 := rBd.tr p1 b2
        exact m_fine0 (b3.ne jp) (br_t rfl (k2 (by decide) V2 ⟨b3.1.1, b3.2.1, b3.2.2.1⟩))
  · have hne : r ≠ 0 := by omega
    refine ⟨r, j, [], Or.inr ⟨hr, hj⟩, fun V Q s e14 e5 k1 k2 => ?_, fun V K s h18 k1 k2 => ?_⟩
    · exact C V Q _ s e14 e5 (fun x => absurd x hne) (fun _ V' b => k2 hne V' b)
    · refine rs 61 (by decide) V _ s (by omega) (fun x => absurd x hne) (fun _ V1 b1 => ?_)
      have ne := b1.ne jp
      exact m_needB ne (m_fine0 ne (br_t rfl (k2 hne V1 ⟨b1.1.1, b1.2.1, b1.2.2.1⟩)))
