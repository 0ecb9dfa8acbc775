/-! sums: term by term -/
def oLp (m i r j : Int) (L : List (Int × Int)) (P : Prop) : Prop := (r = 0 ∧ (i ≤ j ∧ j ≤ m) ∧ (L.length : Int) ≤ j - i ∧ P) ∨ ((r = 1 ∨ r = 2 ∨ r = 3) ∧ 0 ≤ j ∧ j ≤ m)
/-- codes that work on a value of kind b and leave one -/
def tyL (L : List (Int × Int)) (b : Bool) (kT kF : Nat) : Prop := ∀ tt : List Bool, tt.count true + kT ≤ 16 → tt.count false + kF ≤ 16 → wrun L (b :: tt) = some (b :: tt)
theorem ty_num {w : Int} (hw : w = 3 ∨ w = 4) {tt : List Bool} (h1 : tt.count true ≤ 16) (h2 : tt.count false + 1 ≤ 16) : wrun [(w, 0)] (false :: false :: tt) = some (false :: tt) := by
  refine wrun_1 ?_ (by rw [cF.2]; omega) (by rw [cF.1]; omega)
  rcases hw with rfl | rfl <;> rfl
theorem ty_cmp {w : Int} (hw : w = 5 ∨ w = 6 ∨ w = 7) {tt : List Bool} (h1 : tt.count true + 1 ≤ 16) (h2 : tt.count false ≤ 16) : wrun [(w, 0)] (false :: false :: tt) = some (true :: tt) := by
  refine wrun_1 ?_ (by rw [cTt.1]; omega) (by rw [cTt.2]; omega)
  rcases hw with rfl | rfl | rfl <;> rfl
theorem ty_jn {w : Int} (hw : w = 8 ∨ w = 9) {tt : List Bool} (h1 : tt.count true + 1 ≤ 16) (h2 : tt.count false ≤ 16) : wrun [(w, 0)] (true :: true :: tt) = some (true :: tt) := by
  refine wrun_1 ?_ (by rw [cTt.1]; omega) (by rw [cTt.2]; omega)
  rcases hw with rfl | rfl <;> rfl
theorem ty_not {tt : List Bool} (h1 : tt.count true + 1 ≤ 16) (h2 : tt.count false ≤ 16) : wrun [(10, 0)] (true :: tt) = some (true :: tt) :=
  wrun_1 rfl (by rw [cTt.1]; omega) (by rw [cTt.2]; omega)
def cLp (kd vl pl : Int → Int) (m : Int) (g : Nat → Int → qV → (Int → qV → Prop) → Prop) (i o r j : Int) (L : List (Int × Int)) : Prop := ∀ (V : qV) (Q : Int → qV → Prop) (f : Nat) (l : Int), cSt kd vl pl m V i o → V (V 1 14) 5 ≤ i → (0 ≤ l ∧ l < i) → 400 < i + f → (r = 0 → ∀ V', cPo kd vl V V' o j L → Q 1 V') → (r ≠ 0 → ∀ V', cBd V V' r (pl j) → Q 0 V') → g f l V Q
def rLp (t : Int → Int) (n : Int) (pl : Int → Int) (g : Nat → qV → (qV → Prop) → Prop) (i o r j : Int) (L : List (Int × Int)) : Prop := ∀ (V : qV) (Q : qV → Prop) (f : Nat), rSt t n pl V i o → V 602 18 ≤ i → 400 < i + f → (r = 0 → ∀ V', rPo t n pl V V' o j L → Q V') → (r ≠ 0 → ∀ V', rBd V V' o r (pl j) → Q V') → g f V Q
section
variable {t : Int → Int} {n : Int} {kd vl pl : Int → Int} {m i o : Int} {V : qV}
theorem o_sumL (hT : TK t n kd vl pl m) (d : Nat) (hd : d ≤ 6) (hS : ∀ i, 0 ≤ i → i ≤ m → oTerm t n kd vl pl m d i) : ∀ (u : Nat) (i : Int), 1 ≤ i → i ≤ m → m ≤ i + u → ∃ r j L, oLp m i r j L (tyL L false 0 (2 + d)) ∧ (∀ F, 3 * d + 2 ≤ F → cLp kd vl pl m (fun f l V Q => lp_X6_readSum_11 (G_rs F 1) (fun _ V22 => Q 1 V22) Q f l V) i (6 - d) r j L) ∧ (∀ F, 2 * d + 3 ≤ F → rLp t n pl (fun f V Q => lp_X11_sum_4 (G_ms F 0) (fun V17 => Q V17) f V) i (6 - d) r j L) := by
  have hm : m ≤ 400 := by have := hT.1; have := hT.2.1; omega
  intro u
  induction u with
  | zero =>
    intro i i0 i1 i2
    have : i = m := by omega
    subst this
    have k0 := hT.2.2.2.2.1.2.1
    refine ⟨0, i, [], Or.inl ⟨rfl, by omega, by simp, fun tt _ _ => rfl⟩, fun F hF V Q f l s cl hl hf k1 k2 => ?_, fun F hF V Q f s cl hf k1 k2 => ?_⟩
    · obtain ⟨f, rfl⟩ : ∃ g, f = g + 1 := ⟨f - 1, by omega⟩
      show lp_X6_readSum_11 _ _ _ _ _ _
      rw [lp_X6_readSum_11]
      refine br_f (by omega) (s_isSign s ?_)
      rw [decide_eq_false (by omega)]
      refine br_t rfl (s_isSign s ?_)
      rw [decide_eq_false (by omega)]
      exact br_t rfl (k1 rfl V (cPo.rf s))
    · obtain ⟨f, rfl⟩ : ∃ g, f = g + 1 := ⟨f - 1, by omega⟩
      show lp_X11_sum_4 _ _ _ _
      rw [lp_X11_sum_4]
      have n1 : bt t n (pl i) ≠ 43 := fun x => by have := (tk_sg hT (by omega) (by omega) (by decide)).mp x; omega
      have n2 : bt t n (pl i) ≠ 45 := fun x => by have := (tk_sg hT (by omega) (by omega) (by decide)).mp x; omega
      refine m_fine1 s.2.1 (br_f (by decide) (m_hereR hT (by omega) i1 s (fun V1 p1 e1 => br_f n1 ?_)))
      have s1 := p1.st s (by simp; exact s.2.2.2.2.2.1.2)
      exact m_hereR hT (by omega) i1 s1 (fun V2 p2 e2 => br_f n2 (k1 rfl V2 (p1.tr s.2.2.2.2.2.1.1 p2)))
  | succ u ih =>
    intro i i0 i1 i2
    by_cases hs : kd i = 4 ∧ (vl i = 43 ∨ vl i = 45)
    · -- an operation, a term, and on
      have t4 := tk_4 hT (by omega) i1 hs.1
      have lt := t4.1
      obtain ⟨w, hw, hop⟩ : ∃ w : Int, (w = 3 ∨ w = 4) ∧ (if vl i = 43 then w = 3 else w = 4) := by
        by_cases x : vl i = 43
        · exact ⟨3, Or.inl rfl, by rw [if_pos x]⟩
        · exact ⟨4, Or.inr rfl, by rw [if_neg x]⟩
      obtain ⟨r, j, L, out, cs, rs⟩ := hS (i + 1) (by omega) (by omega)
      have C : ∀ (F : Nat), 3 * d + 2 ≤ F → ∀ (V : qV) (Q : Int → qV → Prop) (f : Nat) (l : Int), cSt kd vl pl m V i (6 - (d : Int)) → V (V 1 14) 5 ≤ i → (0 ≤ l ∧ l < i) → 400 < i + (f + 1 : Nat) → (r = 0 → ∀ V', cPo kd vl V V' (6 - (d : Int)) j (L ++ [(w, 0)]) → (zr (l + 1) ∧ lp_X6_readSum_11 (G_rs F 1) (fun _ V22 => Q 1 V22) Q f (l + 1) V')) → (r ≠ 0 → ∀ V', cBd V V' r (pl j) → Q 0 V') → lp_X6_readSum_11 (G_rs F 1) (fun _ V22 => Q 1 V22) Q (f + 1) l V := fun F hF V Q f l s cl hl hf k1 k2 => by
        rw [lp_X6_readSum_11]
        have go : ∀ op : Int, op * 16384 + 0 = enc (w, 0) → (0 ≤ op ∧ op ≤ 10) → W_X6_goOn V (fun V4 => G_rs F 1 V4 (fun r5 V5 => ((r5 = 0 → Q 0 V5) ∧ (¬ r5 = 0 → W_X3_addCode (V5 1 14) op 0 V5 (fun V6 => (zr (l + 1) ∧ lp_X6_readSum_11 (G_rs F 1) (fun _ V22 => Q 1 V22) Q f (l + 1) V6)))))) := fun op he ho => by
          refine s_goOn s ⟨by omega, lt⟩ hm (fun V1 p1 => ?_)
          have s1 := p1.st s (by have := s.2.2.2.1; simp; omega)
          refine cs F hF V1 _ s1 (by rw [p1.cl s]; simp; omega) (fun hr V2 p2 => br_f (by decide) ?_) (fun hr V2 b2 => br_t rfl (k2 hr V2 (cBd.tr s p1 b2)))
          have p12 : cPo kd vl V V2 _ j L := p1.tr s p2
          have hl' : (L.length : Int) ≤ j - (i + 1) ∧ j ≤ m := by
            rcases out with ⟨_, a, b, _⟩ | ⟨a, _⟩
            · exact ⟨b, a.2⟩
            · omega
          have s2 := p12.st s (by omega)
          refine s_addCode (c := (w, 0)) s2 (by rw [p12.cl s]; omega) ho (by decide) he (by show w ≠ 1; omega) (fun V3 p3 => k1 hr V3 (p12.tr s p3))
        refine br_f (by omega) (s_isSign s ?_)
        by_cases x : vl i = 43
        · rw [if_pos x] at hop
          subst hop
          rw [decide_eq_true ⟨hs.1, x⟩]
          refine br_f (by decide) (s_isSign s ?_)
          rw [decide_eq_true ⟨hs.1, x⟩]
          exact br_f (by decide) (go 6 rfl (by decide))
        · rw [if_neg x] at hop
          subst hop
          rw [decide_eq_false (fun y => x y.2)]
          refine br_t rfl (s_isSign s ?_)
          rw [decide_eq_true ⟨hs.1, by omega⟩]
          refine br_f (by decide) (s_isSign s ?_)
          rw [decide_eq_false (fun y => x y.2)]
          exact br_t rfl (go 7 rfl (by decide))
      have R : ∀ (F : Nat), 2 * d + 3 ≤ F → ∀ (V : qV) (Q : qV → Prop) (f : Nat), rSt t n pl V i (6 - (d : Int)) → V 602 18 ≤ i → (r = 0 → ∀ V', rPo t n pl V V' (6 - (d : Int)) j (L ++ [(w, 0)]) → lp_X11_sum_4 (G_ms F 0) (fun V17 => Q V17) f V') → (r ≠ 0 → ∀ V', rBd V V' (6 - (d : Int)) r (pl j) → lp_X11_sum_4 (G_ms F 0) (fun V17 => Q V17) f V') → lp_X11_sum_4 (G_ms F 0) (fun V17 => Q V17) (f + 1) V := fun F hF V Q f s cl k1 k2 => by
        have jp : 0 ≤ pl j := by
          rcases out with ⟨_, a, b, _⟩ | ⟨_, a⟩
          · exact (tk_sp hT (by omega) a.2).2.1
          · exact (tk_sp hT a.1 a.2).2.1
        have tail : ∀ V3, rPo t n pl V V3 (6 - (d : Int)) (i + 1) [] → G_ms F 0 V3 (fun V7 => W_X11_emit w 0 V7 (fun V9 => lp_X11_sum_4 (G_ms F 0) (fun V17 => Q V17) f V9)) := fun V3 p3 => by
          have s3 := p3.st s (by simp; exact s.2.2.2.2.2.1.2)
          refine rs F hF V3 _ s3 (by rw [p3.2.2.2.2.2.1]; simp; omega) (fun hr V4 p4 => ?_) (fun hr V4 b4 => ?_)
          · have p34 : rPo t n pl V V4 _ j L := p3.tr s.2.2.2.2.2.1.1 p4
            have hl' : (L.length : Int) ≤ j - (i + 1) ∧ j ≤ m := by
              rcases out with ⟨_, a, b, _⟩ | ⟨a, _⟩
              · exact ⟨b, a.2⟩
              · omega
            have s4 := p34.st s (by omega)
            exact m_emitR s4 (by rw [p34.2.2.2.2.2.1]; omega) (fun V5 p5 => k1 hr V5 (p34.tr s.2.2.2.2.2.1.1 p5))
          · have b5 := rBd.tr p3 b4
            exact m_emitB (b5.ne jp) (k2 hr V4 b5)
        rw [lp_X11_sum_4]
        have hbt : bt t n (pl i) = vl i := t4.2.1
        have hp := tk_sp hT (i := i) (by omega) i1
        have mv : ∀ V2, rPo t n pl V V2 (6 - (d : Int)) i [] → V2 602 14 = pl i → rPo t n pl V (qu V2 602 14 (V2 602 14 + 1)) (6 - (d : Int)) (i + 1) [] := fun V2 p2 e2 => by
          have s2 := p2.st s (by simp; exact s.2.2.2.2.2.1.2)
          rw [e2]
          exact p2.tr s.2.2.2.2.2.1.1 (rPo.mv (o' := 0) s2 (by have := t4.2.2.2.2.2; omega) t4.2.2.2.2.1)
        refine m_fine1 s.2.1 (br_f (by decide) (m_hereR hT (by omega) i1 s (fun V1 p1 e1 => ?_)))
        have s1 := p1.st s (by simp; exact s.2.2.2.2.2.1.2)
        rw [hbt]
        by_cases x : vl i = 43
        · rw [if_pos x] at hop
          subst hop
          refine br_t x (m_hereR hT (by omega) i1 s1 (fun V2 p2 e2 => ?_))
          have p12 : rPo t n pl V V2 _ i [] := p1.tr s.2.2.2.2.2.1.1 p2
          rw [hbt]
          refine ⟨by rw [e2]; exact zr_i (by omega) (by have := hT.1; omega), ?_⟩
          have tl := tail _ (mv V2 p12 e2)
          simp only [x, true_implies, not_true_eq_false, false_implies, and_true]
          exact tl
        · rw [if_neg x] at hop
          subst hop
          refine br_f x (m_hereR hT (by omega) i1 s1 (fun V2 p2 e2 => ?_))
          have p12 : rPo t n pl V V2 _ i [] := p1.tr s.2.2.2.2.2.1.1 p2
          have s2 := p12.st s (by simp; exact s.2.2.2.2.2.1.2)
          rw [hbt]
          refine br_t (by omega) (m_hereR hT (by omega) i1 s2 (fun V3 p3 e3 => ?_))
          have p13 : rPo t n pl V V3 _ i [] := p12.tr s.2.2.2.2.2.1.1 p3
          rw [hbt]
          refine ⟨by rw [e3]; exact zr_i (by omega) (by have := hT.1; omega), ?_⟩
          have tl := tail _ (mv V3 p13 e3)
          simp only [x, false_implies, not_false_eq_true, true_implies, true_and]
          exact tl
      rcases out with ⟨hr, hj, hl, ty⟩ | ⟨hr, hj⟩
      · subst hr
        obtain ⟨r2, j2, L2, out2, cs2, rs2⟩ := ih j (by omega) hj.2 (by omega)
        have el : ((L ++ [(w, 0)]).length : Int) = L.length + 1 := by simp
        refine ⟨r2, j2, L ++ [(w, 0)] ++ L2, ?_, fun F hF V Q f l s cl hl' hf k1 k2 => ?_, fun F hF V Q f s cl hf k1 k2 => ?_⟩
        · rcases out2 with ⟨a1, a2, a3, a4⟩ | a
          · refine Or.inl ⟨a1, by omega, ?_, fun tt h1 h2 => ?_⟩
            · have : ((L ++ [(w, 0)] ++ L2).length : Int) = L.length + 1 + L2.length := by simp; omega
              omega
            · rw [wrun_ap, wrun_ap, ty (false :: tt) (by rw [cF.2]; omega) (by rw [cF.1]; omega)]
              show (wrun [(w, 0)] (false :: false :: tt)).bind (wrun L2) = _
              rw [ty_num hw (by omega) (by omega)]
              exact a4 tt h1 h2
          · exact Or.inr a
        · obtain ⟨f, rfl⟩ : ∃ g, f = g + 1 := ⟨f - 1, by omega⟩
          refine C F hF V Q f l s cl hl' hf (fun _ V1 p1 => ⟨zr_i (by omega) (by omega), ?_⟩) (fun x => absurd rfl x)
          have s1 := p1.st s (by rw [el]; omega)
          exact cs2 F hF V1 Q f (l + 1) s1 (by rw [p1.cl s, el]; omega) (by omega) (by omega) (fun hr V2 p2 => k1 hr V2 (p1.tr s p2)) (fun hr V2 b2 => k2 hr V2 (cBd.tr s p1 b2))
        · obtain ⟨f, rfl⟩ : ∃ g, f = g + 1 := ⟨f - 1, by omega⟩
          refine R F hF V Q f s cl (fun _ V1 p1 => ?_) (fun x => absurd rfl x)
          have s1 := p1.st s (by rw [el]; omega)
          exact rs2 F hF V1 Q f s1 (by rw [p1.2.2.2.2.2.1, el]; omega) (by omega) (fun hr V2 p2 => k1 hr V2 (p1.tr s.2.2.2.2.2.1.1 p2)) (fun hr V2 b2 => k2 hr V2 (rBd.tr p1 b2))
      · have hne : r ≠ 0 := by omega
        have hjp := tk_sp hT hj.1 hj.2
        refine ⟨r, j, [], Or.inr ⟨hr, hj⟩, fun F hF V Q f l s cl hl' hf k1 k2 => ?_, fun F hF V Q f s cl hf k1 k2 => ?_⟩
        · obtain ⟨f, rfl⟩ : ∃ g, f = g + 1 := ⟨f - 1, by omega⟩
          exact C F hF V Q f l s cl hl' hf (fun x => absurd x hne) (fun _ V' b => k2 hne V' b)
        · obtain ⟨f, rfl⟩ : ∃ g, f = g + 2 := ⟨f - 2, by omega⟩
          refine R F hF V Q (f + 1) s cl (fun x => absurd x hne) (fun _ V' b => ?_)
          rw [lp_X11_sum_4]
          exact m_fine0 (b.ne hjp.2.1) (br_t rfl (k2 hne V' b))
    · refine ⟨0, i, [], Or.inl ⟨rfl, by omega, by simp, fun tt _ _ => rfl⟩, fun F hF V Q f l s cl hl hf k1 k2 => ?_, fun F hF V Q f s cl hf k1 k2 => ?_⟩
      · obtain ⟨f, rfl⟩ : ∃ g, f = g + 1 := ⟨f - 1, by omega⟩
        show lp_X6_readSum_11 _ _ _ _ _ _
        rw [lp_X6_readSum_11]
        refine br_f (by omega) (s_isSign s ?_)
        rw [decide_eq_false (fun x => hs ⟨x.1, Or.inl x.2⟩)]
        refine br_t rfl (s_isSign s ?_)
        rw [decide_eq_false (fun x => hs ⟨x.1, Or.inr x.2⟩)]
        exact br_t rfl (k1 rfl V (cPo.rf s))
      · obtain ⟨f, rfl⟩ : ∃ g, f = g + 1 := ⟨f - 1, by omega⟩
        show lp_X11_sum_4 _ _ _ _
        rw [lp_X11_sum_4]
        have n1 : bt t n (pl i) ≠ 43 := fun x => by have := (tk_sg hT (by omega) (by omega) (by decide)).mp x; exact hs ⟨this.1, Or.inl this.2⟩
        have n2 : bt t n (pl i) ≠ 45 := fun x => by have := (tk_sg hT (by omega) (by omega) (by decide)).mp x; exact hs ⟨this.1, Or.inr this.2⟩
        refine m_fine1 s.2.1 (br_f (by decide) (m_hereR hT (by omega) i1 s (fun V1 p1 e1 => br_f n1 ?_)))
        have s1 := p1.st s (by simp; exact s.2.2.2.2.2.1.2)
        exact m_hereR hT (by omega) i1 s1 (fun V2 p2 e2 => br_f n2 (k1 rfl V2 (p1.tr s.2.2.2.2.2.1.1 p2)))
/-- a first, then its loop -/
theorem o_sum1 (hT : TK t n kd vl pl m) (d : Nat) (hd : d ≤ 6) (hS : ∀ i, 0 ≤ i → i ≤ m → oTerm t n kd vl pl m d i) (i : Int) (h0 : 0 ≤ i) (h1 : i ≤ m) : oSum t n kd vl pl m d i := by
  have hm : m ≤ 400 := by have := hT.1; have := hT.2.1; omega
  obtain ⟨r, j, L, out, cs, rs⟩ := hS i h0 h1
  rcases out with ⟨hr, hj, hl, ty⟩ | ⟨hr, hj⟩
  · subst hr
    obtain ⟨r2, j2, L2, out2, cs2, rs2⟩ := o_sumL hT d hd hS 400 j (by omega) hj.2 (by omega)
    refine ⟨r2, j2, L ++ L2, ?_, fun F hF V Q s cl k1 k2 => ?_, fun F hF V Q s cl k1 k2 => ?_⟩
    · rcases out2 with ⟨a1, a2, a3, a4⟩ | a
      · refine Or.inl ⟨a1, by omega, ?_, fun tt h1 h2 => ?_⟩
        · have : ((L ++ L2).length : Int) = L.length + L2.length := by simp
          omega
        · rw [wrun_ap, ty tt h1 (by omega)]
          exact a4 tt h1 h2
      · exact Or.inr a
    · obtain ⟨f, rfl⟩ : ∃ f, F = f + 1 := ⟨F - 1, by omega⟩
      rw [G_rs, if_pos rfl]
      refine cs f (by omega) V _ s cl (fun _ V1 p1 => br_f (by decide) ?_) (fun x => absurd rfl x)
      have s1 := p1.st s (by omega)
      exact cs2 f (by omega) V1 Q 100000 0 s1 (by rw [p1.cl s]; omega) (by omega) (by omega) (fun hr V2 p2 => k1 hr V2 (p1.tr s p2)) (fun hr V2 b2 => k2 hr V2 (cBd.tr s p1 b2))
    · obtain ⟨f, rfl⟩ : ∃ f, F = f + 1 := ⟨F - 1, by omega⟩
      rw [G_ms, if_neg (by decide)]
      refine rs f (by omega) V _ s cl (fun _ V1 p1 => ?_) (fun x => absurd rfl x)
      have s1 := p1.st s (by omega)
      exact rs2 f (by omega) V1 Q 100000 s1 (by rw [p1.2.2.2.2.2.1]; omega) (by omega) (fun hr V2 p2 => k1 hr V2 (p1.tr s.2.2.2.2.2.1.1 p2)) (fun hr V2 b2 => k2 hr V2 (rBd.tr p1 b2))
  · have hne : r ≠ 0 := by omega
    have hjp := tk_sp hT hj.1 hj.2
    refine ⟨r, j, [], Or.inr ⟨hr, hj⟩, fun F hF V Q s cl k1 k2 => ?_, fun F hF V Q s cl k1 k2 => ?_⟩
    · obtain ⟨f, rfl⟩ : ∃ f, F = f + 1 := ⟨F - 1, by omega⟩
      rw [G_rs, if_pos rfl]
      exact cs f (by omega) V _ s cl (fun x => absurd x hne) (fun _ V' b => br_t rfl (k2 hne V' b))
    · obtain ⟨f, rfl⟩ : ∃ f, F = f + 1 := ⟨F - 1, by omega⟩
      rw [G_ms, if_neg (by decide)]
      refine rs f (by omega) V _ s cl (fun x => absurd x hne) (fun _ V' b => ?_)
      rw [lp_X11_sum_4]
      exact m_fine0 (b.ne hjp.2.1) (br_t rfl (k2 hne V' b))
theorem o_sum (hT : TK t n kd vl pl m) (hB : ∀ p, 0 ≤ bt t n p ∧ bt t n p < 256) : ∀ (d : Nat), d ≤ 6 → ∀ i, 0 ≤ i → i ≤ m → oSum t n kd vl pl m d i
  | 0, hd, i, h0, h1 => o_sum1 hT 0 hd (fun i a b => o_term hT hB 0 hd (fun d' h => by omega) i a b) i h0 h1
  | d + 1, hd, i, h0, h1 => o_sum1 hT (d + 1) hd (fun i a b => o_term hT hB (d + 1) hd (fun d' h => by
      have : d' = d := by omega
      subst this
      exact o_sum hT hB d' (by omega)) i a b) i h0 h1
end
