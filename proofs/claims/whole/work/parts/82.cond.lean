/-! conditions: all of, any of -/
def oOne (t : Int → Int) (n : Int) (kd vl pl : Int → Int) (m : Int) (d : Nat) (i : Int) : Prop := ∃ r j L, oOut m i r j L (tyA L true (1 + 2 * d) 9) ∧ (∀ F, 4 * d + 2 ≤ F → cOK kd vl pl m (G_ro F 2) i (6 - d) r j L) ∧ (∀ F, 3 * d + 4 ≤ F → rOK t n pl (G_mo F 2) i (6 - d) r j L)
def oAll (t : Int → Int) (n : Int) (kd vl pl : Int → Int) (m : Int) (d : Nat) (i : Int) : Prop := ∃ r j L, oOut m i r j L (tyA L true (2 + 2 * d) 9) ∧ (∀ F, 4 * d + 3 ≤ F → cOK kd vl pl m (G_ro F 1) i (6 - d) r j L) ∧ (∀ F, 3 * d + 5 ≤ F → rOK t n pl (G_mo F 1) i (6 - d) r j L)
def oAny (t : Int → Int) (n : Int) (kd vl pl : Int → Int) (m : Int) (d : Nat) (i : Int) : Prop := ∃ r j L, oOut m i r j L (tyA L true (3 + 2 * d) 9) ∧ (∀ F, 4 * d + 4 ≤ F → cOK kd vl pl m (G_ro F 0) i (6 - d) r j L) ∧ (∀ F, 3 * d + 6 ≤ F → rOK t n pl (G_mo F 0) i (6 - d) r j L)
section
variable {t : Int → Int} {n : Int} {kd vl pl : Int → Int} {m i o : Int} {V : qV}
theorem tk_is15 {e : Int} (he : tkC t n kd vl pl i e) : cdE t (pl i) e = 3673 ↔ kd i = 1 ∧ vl i = 15 := by
  by_cases k1 : kd i = 1
  · have := (he.2.1 k1).2.2.1
    rw [this, wx_15]
    exact ⟨fun x => ⟨k1, x⟩, fun x => x.2⟩
  · constructor
    · intro x
      by_cases k3 : kd i = 3
      · have := (he.2.2.1 k3).2; omega
      · have := he.2.2.2 k1 k3; omega
    · intro x; exact absurd x.1 k1
theorem tk_is16 {e : Int} (he : tkC t n kd vl pl i e) : cdE t (pl i) e = 294 ↔ kd i = 1 ∧ vl i = 16 := by
  by_cases k1 : kd i = 1
  · have := (he.2.1 k1).2.2.1
    rw [this, wx_16]
    exact ⟨fun x => ⟨k1, x⟩, fun x => x.2⟩
  · constructor
    · intro x
      by_cases k3 : kd i = 3
      · have := (he.2.2.1 k3).2; omega
      · have := he.2.2.2 k1 k3; omega
    · intro x; exact absurd x.1 k1
theorem tk_is17 {e : Int} (he : tkC t n kd vl pl i e) : cdE t (pl i) e = 498 ↔ kd i = 1 ∧ vl i = 17 := by
  by_cases k1 : kd i = 1
  · have := (he.2.1 k1).2.2.1
    rw [this, wx_17]
    exact ⟨fun x => ⟨k1, x⟩, fun x => x.2⟩
  · constructor
    · intro x
      by_cases k3 : kd i = 3
      · have := (he.2.2.1 k3).2; omega
      · have := he.2.2.2 k1 k3; omega
    · intro x; exact absurd x.1 k1
theorem tk_is18 {e : Int} (he : tkC t n kd vl pl i e) : cdE t (pl i) e = 1476 ↔ kd i = 1 ∧ vl i = 18 := by
  by_cases k1 : kd i = 1
  · have := (he.2.1 k1).2.2.1
    rw [this, wx_18]
    exact ⟨fun x => ⟨k1, x⟩, fun x => x.2⟩
  · constructor
    · intro x
      by_cases k3 : kd i = 3
      · have := (he.2.2.1 k3).2; omega
      · have := he.2.2.2 k1 k3; omega
    · intro x; exact absurd x.1 k1
theorem tk_is19 {e : Int} (he : tkC t n kd vl pl i e) : cdE t (pl i) e = 14836 ↔ kd i = 1 ∧ vl i = 19 := by
  by_cases k1 : kd i = 1
  · have := (he.2.1 k1).2.2.1
    rw [this, wx_19]
    exact ⟨fun x => ⟨k1, x⟩, fun x => x.2⟩
  · constructor
    · intro x
      by_cases k3 : kd i = 3
      · have := (he.2.2.1 k3).2; omega
      · have := he.2.2.2 k1 k3; omega
    · intro x; exact absurd x.1 k1
theorem o_allL (hT : TK t n kd vl pl m) (d : Nat) (hd : d ≤ 6) (hS : ∀ i, 0 ≤ i → i ≤ m → oOne t n kd vl pl m d i) : ∀ (u : Nat) (i : Int), 1 ≤ i → i ≤ m → m ≤ i + u → ∃ r j L, oLp m i r j L (tyL L true (2 + 2 * d) 9) ∧ (∀ F, 4 * d + 2 ≤ F → cLp kd vl pl m (fun f l V Q => lp_X6_readAnd_11 (G_ro F 2) (fun _ V22 => Q 1 V22) Q f l V) i (6 - d) r j L) ∧ (∀ F, 3 * d + 4 ≤ F → rLp t n pl (fun f V Q => lp_X11_allOf_4 (G_mo F 2) (fun V17 => Q V17) f V) i (6 - d) r j L) := by
  have hm : m ≤ 400 := by have := hT.1; have := hT.2.1; omega
  have no : ∀ i, 1 ≤ i → i ≤ m → ¬ (kd i = 1 ∧ vl i = 18) → ∃ r j L, oLp m i r j L (tyL L true (2 + 2 * d) 9) ∧ (∀ F, 4 * d + 2 ≤ F → cLp kd vl pl m (fun f l V Q => lp_X6_readAnd_11 (G_ro F 2) (fun _ V22 => Q 1 V22) Q f l V) i (6 - d) r j L) ∧ (∀ F, 3 * d + 4 ≤ F → rLp t n pl (fun f V Q => lp_X11_allOf_4 (G_mo F 2) (fun V17 => Q V17) f V) i (6 - d) r j L) := fun i i0 i1 hs => by
    refine ⟨0, i, [], Or.inl ⟨rfl, by omega, by simp, fun tt _ _ => rfl⟩, fun F hF V Q f l s cl hl hf k1 k2 => ?_, fun F hF V Q f s cl hf k1 k2 => ?_⟩
    · obtain ⟨f, rfl⟩ : ∃ g, f = g + 1 := ⟨f - 1, by omega⟩
      show lp_X6_readAnd_11 _ _ _ _ _ _
      rw [lp_X6_readAnd_11]
      refine br_f (by omega) (s_isWord s ?_)
      rw [decide_eq_false hs]
      exact br_t rfl (k1 rfl V (cPo.rf s))
    · obtain ⟨f, rfl⟩ : ∃ g, f = g + 1 := ⟨f - 1, by omega⟩
      show lp_X11_allOf_4 _ _ _ _
      rw [lp_X11_allOf_4]
      obtain ⟨e, he⟩ := tk_w hT (i := i) (by omega) i1
      refine m_fine1 s.2.1 (br_f (by decide) (m_wordR hT (by omega) i1 s he (fun V1 p1 e1 => br_f (fun x => hs ((tk_is18 he).mp x)) (k1 rfl V1 p1))))
  intro u
  induction u with
  | zero =>
    intro i i0 i1 i2
    have : i = m := by omega
    subst this
    exact no i i0 i1 (by rw [hT.2.2.2.2.1.2.1]; omega)
  | succ u ih =>
    intro i i0 i1 i2
    by_cases hs : kd i = 1 ∧ vl i = 18
    · have t1 := tk_1 hT (by omega) i1 hs.1
      have lt := t1.1
      obtain ⟨e, he⟩ := tk_w hT (i := i) (by omega) i1
      have te := he.2.1 hs.1
      obtain ⟨r, j, L, out, cs, rs⟩ := hS (i + 1) (by omega) (by omega)
      have jp : 0 ≤ pl j := by
        rcases out with ⟨_, a, b, _⟩ | ⟨_, a⟩
        · exact (tk_sp hT (by omega) a.2).2.1
        · exact (tk_sp hT a.1 a.2).2.1
      have hlj : r = 0 → (L.length : Int) ≤ j - (i + 1) ∧ j ≤ m := fun hr => by
        rcases out with ⟨_, a, b, _⟩ | ⟨a, _⟩
        · exact ⟨b, a.2⟩
        · omega
      have C : ∀ (F : Nat), 4 * d + 2 ≤ F → ∀ (V : qV) (Q : Int → qV → Prop) (f : Nat) (l : Int), cSt kd vl pl m V i (6 - (d : Int)) → V (V 1 14) 5 ≤ i → (0 ≤ l ∧ l < i) → 400 < i + (f + 1 : Nat) → (r = 0 → ∀ V', cPo kd vl V V' (6 - (d : Int)) j (L ++ [(9, 0)]) → (zr (l + 1) ∧ lp_X6_readAnd_11 (G_ro F 2) (fun _ V22 => Q 1 V22) Q f (l + 1) V')) → (r ≠ 0 → ∀ V', cBd V V' r (pl j) → Q 0 V') → lp_X6_readAnd_11 (G_ro F 2) (fun _ V22 => Q 1 V22) Q (f + 1) l V := fun F hF V Q f l s cl hl hf k1 k2 => by
        rw [lp_X6_readAnd_11]
        refine br_f (by omega) (s_isWord s ?_)
        rw [decide_eq_true hs]
        refine br_f (by decide) (s_goOn s ⟨by omega, lt⟩ hm (fun V1 p1 => ?_))
        have s1 := p1.st s (by have := s.2.2.2.1; simp; omega)
        refine cs F hF V1 _ s1 (by rw [p1.cl s]; simp; omega) (fun hr V2 p2 => br_f (by decide) ?_) (fun hr V2 b2 => br_t rfl (k2 hr V2 (cBd.tr s p1 b2)))
        have p12 : cPo kd vl V V2 _ j L := p1.tr s p2
        have hl' := hlj hr
        have s2 := p12.st s (by omega)
        exact s_addCode (c := (9, 0)) s2 (by rw [p12.cl s]; omega) (by decide) (by decide) rfl (by show (9 : Int) ≠ 1; decide) (fun V3 p3 => k1 hr V3 (p12.tr s p3))
      have R : ∀ (F : Nat), 3 * d + 4 ≤ F → ∀ (V : qV) (Q : qV → Prop) (f : Nat), rSt t n pl V i (6 - (d : Int)) → V 602 18 ≤ i → (r = 0 → ∀ V', rPo t n pl V V' (6 - (d : Int)) j (L ++ [(9, 0)]) → lp_X11_allOf_4 (G_mo F 2) (fun V17 => Q V17) f V') → (r ≠ 0 → ∀ V', rBd V V' (6 - (d : Int)) r (pl j) → lp_X11_allOf_4 (G_mo F 2) (fun V17 => Q V17) f V') → lp_X11_allOf_4 (G_mo F 2) (fun V17 => Q V17) (f + 1) V := fun F hF V Q f s cl k1 k2 => by
        rw [lp_X11_allOf_4]
        refine m_fine1 s.2.1 (br_f (by decide) (m_wordR hT (by omega) i1 s he (fun V1 p1 e1 => br_t ((tk_is18 he).mpr hs) ?_)))
        have s1 := p1.st s (by simp; exact s.2.2.2.2.2.1.2)
        refine m_passR s1 e1 te (fun V2 p2 => ?_)
        have p12 : rPo t n pl V V2 _ (i + 1) [] := p1.tr s.2.2.2.2.2.1.1 p2
        have s2 := p12.st s (by simp; exact s.2.2.2.2.2.1.2)
        refine rs F hF V2 _ s2 (by rw [p12.2.2.2.2.2.1]; simp; omega) (fun hr V3 p3 => ?_) (fun hr V3 b3 => ?_)
        · have p13 : rPo t n pl V V3 _ j L := p12.tr s.2.2.2.2.2.1.1 p3
          have hl' := hlj hr
          have s3 := p13.st s (by omega)
          exact m_emitR s3 (by rw [p13.2.2.2.2.2.1]; omega) (fun V4 p4 => k1 hr V4 (p13.tr s.2.2.2.2.2.1.1 p4))
        · have b4 := rBd.tr p12 b3
          exact m_emitB (b4.ne jp) (k2 hr V3 b4)
      rcases out with ⟨hr, hj, hl, ty⟩ | ⟨hr, hj⟩
      · subst hr
        obtain ⟨r2, j2, L2, out2, cs2, rs2⟩ := ih j (by omega) hj.2 (by omega)
        have el : ((L ++ [(9, 0)]).length : Int) = L.length + 1 := by simp
        refine ⟨r2, j2, L ++ [(9, 0)] ++ L2, ?_, fun F hF V Q f l s cl hl' hf k1 k2 => ?_, fun F hF V Q f s cl hf k1 k2 => ?_⟩
        · rcases out2 with ⟨a1, a2, a3, a4⟩ | a
          · refine Or.inl ⟨a1, by omega, ?_, fun tt h1 h2 => ?_⟩
            · have : ((L ++ [(9, 0)] ++ L2).length : Int) = L.length + 1 + L2.length := by simp; omega
              omega
            · rw [wrun_ap, wrun_ap, ty (true :: tt) (by rw [cTt.1]; omega) (by rw [cTt.2]; omega)]
              show (wrun [(9, 0)] (true :: true :: tt)).bind (wrun L2) = _
              rw [ty_jn (by decide) (by omega) (by omega)]
              exact a4 tt h1 h2
          · exact Or.inr a
        · obtain ⟨f, rfl⟩ : ∃ g, f = g + 1 := ⟨f - 1, by omega⟩
          refine C F hF V Q f l s cl hl' hf (fun _ V1 p1 => ⟨zr_i (by omega) (by omega), ?_⟩) (fun x => absurd rfl x)
          have s1 := p1.st s (by rw [el]; omega)
          exact cs2 F hF V1 Q f (l + 1) s1 (by rw [p1.cl s, el]; omega) (by omega) (by omega) (fun hr V2 p2 => k1 hr V2 (p1.tr s p2)) (fun hr V2 b2 => k2 hr V2 (cBd.tr s p1 b2))
        · obtain ⟨f, rfl⟩ : ∃ g, f = g + 1 := ⟨f - 1, by omega⟩
          refine R F hF V Q f s cl (fun _ V1 p1 => ?_) (fun x => absurd rfl x)
          have s1 := p1.st s (by rw [el]; omega)
          exact rs2 F hF V1 Q f s1 (by rw [p1.2.2.2.2.2.1, el]; omega) (by omega) (fun hr V2 p2 => k1 hr V2 (p1.tr s.2.2.2.2.2.1.1 p2)) (fun hr V2 b2 => k2 hr V2 (rBd.tr p1 b2))
      · have hne : r ≠ 0 := by omega
        refine ⟨r, j, [], Or.inr ⟨hr, hj⟩, fun F hF V Q f l s cl hl' hf k1 k2 => ?_, fun F hF V Q f s cl hf k1 k2 => ?_⟩
        · obtain ⟨f, rfl⟩ : ∃ g, f = g + 1 := ⟨f - 1, by omega⟩
          exact C F hF V Q f l s cl hl' hf (fun x => absurd x hne) (fun _ V' b => k2 hne V' b)
        · obtain ⟨f, rfl⟩ : ∃ g, f = g + 2 := ⟨f - 2, by omega⟩
          refine R F hF V Q (f + 1) s cl (fun x => absurd x hne) (fun _ V' b => ?_)
          rw [lp_X11_allOf_4]
          exact m_fine0 (b.ne jp) (br_t rfl (k2 hne V' b))
    · exact no i i0 i1 hs
theorem o_all (hT : TK t n kd vl pl m) (d : Nat) (hd : d ≤ 6) (hS : ∀ i, 0 ≤ i → i ≤ m → oOne t n kd vl pl m d i) (i : Int) (h0 : 0 ≤ i) (h1 : i ≤ m) : oAll t n kd vl pl m d i := by
  have hm : m ≤ 400 := by have := hT.1; have := hT.2.1; omega
  obtain ⟨r, j, L, out, cs, rs⟩ := hS i h0 h1
  rcases out with ⟨hr, hj, hl, ty⟩ | ⟨hr, hj⟩
  · subst hr
    obtain ⟨r2, j2, L2, out2, cs2, rs2⟩ := o_allL hT d hd hS 400 j (by omega) hj.2 (by omega)
    refine ⟨r2, j2, L ++ L2, ?_, fun F hF V Q s cl k1 k2 => ?_, fun F hF V Q s cl k1 k2 => ?_⟩
    · rcases out2 with ⟨a1, a2, a3, a4⟩ | a
      · refine Or.inl ⟨a1, by omega, ?_, fun tt h1 h2 => ?_⟩
        · have : ((L ++ L2).length : Int) = L.length + L2.length := by simp
          omega
        · rw [wrun_ap, ty tt (by omega) h2]
          exact a4 tt h1 h2
      · exact Or.inr a
    · obtain ⟨f, rfl⟩ : ∃ f, F = f + 1 := ⟨F - 1, by omega⟩
      rw [G_ro, if_neg (by decide), if_pos rfl]
      refine cs f (by omega) V _ s cl (fun _ V1 p1 => br_f (by decide) ?_) (fun x => absurd rfl x)
      have s1 := p1.st s (by omega)
      exact cs2 f (by omega) V1 Q 100000 0 s1 (by rw [p1.cl s]; omega) (by omega) (by omega) (fun hr V2 p2 => k1 hr V2 (p1.tr s p2)) (fun hr V2 b2 => k2 hr V2 (cBd.tr s p1 b2))
    · obtain ⟨f, rfl⟩ : ∃ f, F = f + 1 := ⟨F - 1, by omega⟩
      rw [G_mo, if_neg (by decide), if_pos rfl]
      refine rs f (by omega) V _ s cl (fun _ V1 p1 => ?_) (fun x => absurd rfl x)
      have s1 := p1.st s (by omega)
      exact rs2 f (by omega) V1 Q 100000 s1 (by rw [p1.2.2.2.2.2.1]; omega) (by omega) (fun hr V2 p2 => k1 hr V2 (p1.tr s.2.2.2.2.2.1.1 p2)) (fun hr V2 b2 => k2 hr V2 (rBd.tr p1 b2))
  · have hne : r ≠ 0 := by omega
    have hjp := tk_sp hT hj.1 hj.2
    refine ⟨r, j, [], Or.inr ⟨hr, hj⟩, fun F hF V Q s cl k1 k2 => ?_, fun F hF V Q s cl k1 k2 => ?_⟩
    · obtain ⟨f, rfl⟩ : ∃ f, F = f + 1 := ⟨F - 1, by omega⟩
      rw [G_ro, if_neg (by decide), if_pos rfl]
      exact cs f (by omega) V _ s cl (fun x => absurd x hne) (fun _ V' b => br_t rfl (k2 hne V' b))
    · obtain ⟨f, rfl⟩ : ∃ f, F = f + 1 := ⟨F - 1, by omega⟩
      rw [G_mo, if_neg (by decide), if_pos rfl]
      refine rs f (by omega) V _ s cl (fun x => absurd x hne) (fun _ V' b => ?_)
      rw [lp_X11_allOf_4]
      exact m_fine0 (b.ne hjp.2.1) (br_t rfl (k2 hne V' b))
theorem o_anyL (hT : TK t n kd vl pl m) (d : Nat) (hd : d ≤ 6) (hS : ∀ i, 0 ≤ i → i ≤ m → oAll t n kd vl pl m d i) : ∀ (u : Nat) (i : Int), 1 ≤ i → i ≤ m → m ≤ i + u → ∃ r j L, oLp m i r j L (tyL L true (3 + 2 * d) 9) ∧ (∀ F, 4 * d + 3 ≤ F → cLp kd vl pl m (fun f l V Q => lp_X6_readOr_11 (G_ro F 1) (fun _ V22 => Q 1 V22) Q f l V) i (6 - d) r j L) ∧ (∀ F, 3 * d + 5 ≤ F → rLp t n pl (fun f V Q => lp_X11_anyOf_4 (G_mo F 1) (fun V17 => Q V17) f V) i (6 - d) r j L) := by
  have hm : m ≤ 400 := by have := hT.1; have := hT.2.1; omega
  have no : ∀ i, 1 ≤ i → i ≤ m → ¬ (kd i = 1 ∧ vl i = 17) → ∃ r j L, oLp m i r j L (tyL L true (3 + 2 * d) 9) ∧ (∀ F, 4 * d + 3 ≤ F → cLp kd vl pl m (fun f l V Q => lp_X6_readOr_11 (G_ro F 1) (fun _ V22 => Q 1 V22) Q f l V) i (6 - d) r j L) ∧ (∀ F, 3 * d + 5 ≤ F → rLp t n pl (fun f V Q => lp_X11_anyOf_4 (G_mo F 1) (fun V17 => Q V17) f V) i (6 - d) r j L) := fun i i0 i1 hs => by
    refine ⟨0, i, [], Or.inl ⟨rfl, by omega, by simp, fun tt _ _ => rfl⟩, fun F hF V Q f l s cl hl hf k1 k2 => ?_, fun F hF V Q f s cl hf k1 k2 => ?_⟩
    · obtain ⟨f, rfl⟩ : ∃ g, f = g + 1 := ⟨f - 1, by omega⟩
      show lp_X6_readOr_11 _ _ _ _ _ _
      rw [lp_X6_readOr_11]
      refine br_f (by omega) (s_isWord s ?_)
      rw [decide_eq_false hs]
      exact br_t rfl (k1 rfl V (cPo.rf s))
    · obtain ⟨f, rfl⟩ : ∃ g, f = g + 1 := ⟨f - 1, by omega⟩
      show lp_X11_anyOf_4 _ _ _ _
      rw [lp_X11_anyOf_4]
      obtain ⟨e, he⟩ := tk_w hT (i := i) (by omega) i1
      refine m_fine1 s.2.1 (br_f (by decide) (m_wordR hT (by omega) i1 s he (fun V1 p1 e1 => br_f (fun x => hs ((tk_is17 he).mp x)) (k1 rfl V1 p1))))
  intro u
  induction u with
  | zero =>
    intro i i0 i1 i2
    have : i = m := by omega
    subst this
    exact no i i0 i1 (by rw [hT.2.2.2.2.1.2.1]; omega)
  | succ u ih =>
    intro i i0 i1 i2
    by_cases hs : kd i = 1 ∧ vl i = 17
    · have t1 := tk_1 hT (by omega) i1 hs.1
      have lt := t1.1
      obtain ⟨e, he⟩ := tk_w hT (i := i) (by omega) i1
      have te := he.2.1 hs.1
      obtain ⟨r, j, L, out, cs, rs⟩ := hS (i + 1) (by omega) (by omega)
      have jp : 0 ≤ pl j := by
        rcases out with ⟨_, a, b, _⟩ | ⟨_, a⟩
        · exact (tk_sp hT (by omega) a.2).2.1
        · exact (tk_sp hT a.1 a.2).2.1
      have hlj : r = 0 → (L.length : Int) ≤ j - (i + 1) ∧ j ≤ m := fun hr => by
        rcases out with ⟨_, a, b, _⟩ | ⟨a, _⟩
        · exact ⟨b, a.2⟩
        · omega
      have C : ∀ (F : Nat), 4 * d + 3 ≤ F → ∀ (V : qV) (Q : Int → qV → Prop) (f : Nat) (l : Int), cSt kd vl pl m V i (6 - (d : Int)) → V (V 1 14) 5 ≤ i → (0 ≤ l ∧ l < i) → 400 < i + (f + 1 : Nat) → (r = 0 → ∀ V', cPo kd vl V V' (6 - (d : Int)) j (L ++ [(8, 0)]) → (zr (l + 1) ∧ lp_X6_readOr_11 (G_ro F 1) (fun _ V22 => Q 1 V22) Q f (l + 1) V')) → (r ≠ 0 → ∀ V', cBd V V' r (pl j) → Q 0 V') → lp_X6_readOr_11 (G_ro F 1) (fun _ V22 => Q 1 V22) Q (f + 1) l V := fun F hF V Q f l s cl hl hf k1 k2 => by
        rw [lp_X6_readOr_11]
        refine br_f (by omega) (s_isWord s ?_)
        rw [decide_eq_true hs]
        refine br_f (by decide) (s_goOn s ⟨by omega, lt⟩ hm (fun V1 p1 => ?_))
        have s1 := p1.st s (by have := s.2.2.2.1; simp; omega)
        refine cs F hF V1 _ s1 (by rw [p1.cl s]; simp; omega) (fun hr V2 p2 => br_f (by decide) ?_) (fun hr V2 b2 => br_t rfl (k2 hr V2 (cBd.tr s p1 b2)))
        have p12 : cPo kd vl V V2 _ j L := p1.tr s p2
        have hl' := hlj hr
        have s2 := p12.st s (by omega)
        exact s_addCode (c := (8, 0)) s2 (by rw [p12.cl s]; omega) (by decide) (by decide) rfl (by show (8 : Int) ≠ 1; decide) (fun V3 p3 => k1 hr V3 (p12.tr s p3))
      have R : ∀ (F : Nat), 3 * d + 5 ≤ F → ∀ (V : qV) (Q : qV → Prop) (f : Nat), rSt t n pl V i (6 - (d : Int)) → V 602 18 ≤ i → (r = 0 → ∀ V', rPo t n pl V V' (6 - (d : Int)) j (L ++ [(8, 0)]) → lp_X11_anyOf_4 (G_mo F 1) (fun V17 => Q V17) f V') → (r ≠ 0 → ∀ V', rBd V V' (6 - (d : Int)) r (pl j) → lp_X11_anyOf_4 (G_mo F 1) (fun V17 => Q V17) f V') → lp_X11_anyOf_4 (G_mo F 1) (fun V17 => Q V17) (f + 1) V := fun F hF V Q f s cl k1 k2 => by
        rw [lp_X11_anyOf_4]
        refine m_fine1 s.2.1 (br_f (by decide) (m_wordR hT (by omega) i1 s he (fun V1 p1 e1 => br_t ((tk_is17 he).mpr hs) ?_)))
        have s1 := p1.st s (by simp; exact s.2.2.2.2.2.1.2)
        refine m_passR s1 e1 te (fun V2 p2 => ?_)
        have p12 : rPo t n pl V V2 _ (i + 1) [] := p1.tr s.2.2.2.2.2.1.1 p2
        have s2 := p12.st s (by simp; exact s.2.2.2.2.2.1.2)
        refine rs F hF V2 _ s2 (by rw [p12.2.2.2.2.2.1]; simp; omega) (fun hr V3 p3 => ?_) (fun hr V3 b3 => ?_)
        · have p13 : rPo t n pl V V3 _ j L := p12.tr s.2.2.2.2.2.1.1 p3
          have hl' := hlj hr
          have s3 := p13.st s (by omega)
          exact m_emitR s3 (by rw [p13.2.2.2.2.2.1]; omega) (fun V4 p4 => k1 hr V4 (p13.tr s.2.2.2.2.2.1.1 p4))
        · have b4 := rBd.tr p12 b3
          exact m_emitB (b4.ne jp) (k2 hr V3 b4)
      rcases out with ⟨hr, hj, hl, ty⟩ | ⟨hr, hj⟩
      · subst hr
        obtain ⟨r2, j2, L2, out2, cs2, rs2⟩ := ih j (by omega) hj.2 (by omega)
        have el : ((L ++ [(8, 0)]).length : Int) = L.length + 1 := by simp
        refine ⟨r2, j2, L ++ [(8, 0)] ++ L2, ?_, fun F hF V Q f l s cl hl' hf k1 k2 => ?_, fun F hF V Q f s cl hf k1 k2 => ?_⟩
        · rcases out2 with ⟨a1, a2, a3, a4⟩ | a
          · refine Or.inl ⟨a1, by omega, ?_, fun tt h1 h2 => ?_⟩
            · have : ((L ++ [(8, 0)] ++ L2).length : Int) = L.length + 1 + L2.length := by simp; omega
              omega
            · rw [wrun_ap, wrun_ap, ty (true :: tt) (by rw [cTt.1]; omega) (by rw [cTt.2]; omega)]
              show (wrun [(8, 0)] (true :: true :: tt)).bind (wrun L2) = _
              rw [ty_jn (by decide) (by omega) (by omega)]
              exact a4 tt h1 h2
          · exact Or.inr a
        · obtain ⟨f, rfl⟩ : ∃ g, f = g + 1 := ⟨f - 1, by omega⟩
          refine C F hF V Q f l s cl hl' hf (fun _ V1 p1 => ⟨zr_i (by omega) (by omega), ?_⟩) (fun x => absurd rfl x)
          have s1 := p1.st s (by rw [el]; omega)
          exact cs2 F hF V1 Q f (l + 1) s1 (by rw [p1.cl s, el]; omega) (by omega) (by omega) (fun hr V2 p2 => k1 hr V2 (p1.tr s p2)) (fun hr V2 b2 => k2 hr V2 (cBd.tr s p1 b2))
        · obtain ⟨f, rfl⟩ : ∃ g, f = g + 1 := ⟨f - 1, by omega⟩
          refine R F hF V Q f s cl (fun _ V1 p1 => ?_) (fun x => absurd rfl x)
          have s1 := p1.st s (by rw [el]; omega)
          exact rs2 F hF V1 Q f s1 (by rw [p1.2.2.2.2.2.1, el]; omega) (by omega) (fun hr V2 p2 => k1 hr V2 (p1.tr s.2.2.2.2.2.1.1 p2)) (fun hr V2 b2 => k2 hr V2 (rBd.tr p1 b2))
      · have hne : r ≠ 0 := by omega
        refine ⟨r, j, [], Or.inr ⟨hr, hj⟩, fun F hF V Q f l s cl hl' hf k1 k2 => ?_, fun F hF V Q f s cl hf k1 k2 => ?_⟩
        · obtain ⟨f, rfl⟩ : ∃ g, f = g + 1 := ⟨f - 1, by omega⟩
          exact C F hF V Q f l s cl hl' hf (fun x => absurd x hne) (fun _ V' b => k2 hne V' b)
        · obtain ⟨f, rfl⟩ : ∃ g, f = g + 2 := ⟨f - 2, by omega⟩
          refine R F hF V Q (f + 1) s cl (fun x => absurd x hne) (fun _ V' b => ?_)
          rw [lp_X11_anyOf_4]
          exact m_fine0 (b.ne jp) (br_t rfl (k2 hne V' b))
    · exact no i i0 i1 hs
theorem o_any (hT : TK t n kd vl pl m) (d : Nat) (hd : d ≤ 6) (hS : ∀ i, 0 ≤ i → i ≤ m → oAll t n kd vl pl m d i) (i : Int) (h0 : 0 ≤ i) (h1 : i ≤ m) : oAny t n kd vl pl m d i := by
  have hm : m ≤ 400 := by have := hT.1; have := hT.2.1; omega
  obtain ⟨r, j, L, out, cs, rs⟩ := hS i h0 h1
  rcases out with ⟨hr, hj, hl, ty⟩ | ⟨hr, hj⟩
  · subst hr
    obtain ⟨r2, j2, L2, out2, cs2, rs2⟩ := o_anyL hT d hd hS 400 j (by omega) hj.2 (by omega)
    refine ⟨r2, j2, L ++ L2, ?_, fun F hF V Q s cl k1 k2 => ?_, fun F hF V Q s cl k1 k2 => ?_⟩
    · rcases out2 with ⟨a1, a2, a3, a4⟩ | a
      · refine Or.inl ⟨a1, by omega, ?_, fun tt h1 h2 => ?_⟩
        · have : ((L ++ L2).length : Int) = L.length + L2.length := by simp
          omega
        · rw [wrun_ap, ty tt (by omega) h2]
          exact a4 tt h1 h2
      · exact Or.inr a
    · obtain ⟨f, rfl⟩ : ∃ f, F = f + 1 := ⟨F - 1, by omega⟩
      rw [G_ro, if_pos rfl]
      refine cs f (by omega) V _ s cl (fun _ V1 p1 => br_f (by decide) ?_) (fun x => absurd rfl x)
      have s1 := p1.st s (by omega)
      exact cs2 f (by omega) V1 Q 100000 0 s1 (by rw [p1.cl s]; omega) (by omega) (by omega) (fun hr V2 p2 => k1 hr V2 (p1.tr s p2)) (fun hr V2 b2 => k2 hr V2 (cBd.tr s p1 b2))
    · obtain ⟨f, rfl⟩ : ∃ f, F = f + 1 := ⟨F - 1, by omega⟩
      rw [G_mo, if_pos rfl]
      refine rs f (by omega) V _ s cl (fun _ V1 p1 => ?_) (fun x => absurd rfl x)
      have s1 := p1.st s (by omega)
      exact rs2 f (by omega) V1 Q 100000 s1 (by rw [p1.2.2.2.2.2.1]; omega) (by omega) (fun hr V2 p2 => k1 hr V2 (p1.tr s.2.2.2.2.2.1.1 p2)) (fun hr V2 b2 => k2 hr V2 (rBd.tr p1 b2))
  · have hne : r ≠ 0 := by omega
    have hjp := tk_sp hT hj.1 hj.2
    refine ⟨r, j, [], Or.inr ⟨hr, hj⟩, fun F hF V Q s cl k1 k2 => ?_, fun F hF V Q s cl k1 k2 => ?_⟩
    · obtain ⟨f, rfl⟩ : ∃ f, F = f + 1 := ⟨F - 1, by omega⟩
      rw [G_ro, if_pos rfl]
      exact cs f (by omega) V _ s cl (fun x => absurd x hne) (fun _ V' b => br_t rfl (k2 hne V' b))
    · obtain ⟨f, rfl⟩ : ∃ f, F = f + 1 := ⟨F - 1, by omega⟩
      rw [G_mo, if_pos rfl]
      refine rs f (by omega) V _ s cl (fun x => absurd x hne) (fun _ V' b => ?_)
      rw [lp_X11_anyOf_4]
      exact m_fine0 (b.ne hjp.2.1) (br_t rfl (k2 hne V' b))
end
