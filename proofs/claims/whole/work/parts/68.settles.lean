/-! settles -/
theorem bc_or {a u : Int} (ha : 0 ≤ a ∧ a < 1024) (hu : 0 ≤ u ∧ u < 10) : bcF (zor a (zshl 1 u)) ≤ bcF a + 1 := by
  have e := mk_or ha hu
  cases h : tb a u with
  | true =>
    have : zor a (zshl 1 u) = a := xo1 ha hu h
    rw [this]; omega
  | false =>
    have r := rm_e e.1 hu
    have h1 := rm_lt e.1 hu (by rw [e.2 u hu.1]; simp)
    have : rmU (zor a (zshl 1 u)) u = a := tb_e10 r.1 ha (fun k k0 k1 => by
      rw [r.2 k k0 k1, e.2 k k0]
      by_cases hk : u = k
      · subst hk; rw [h]; simp
      · simp [hk])
    have h2 : bcF (rmU (zor a (zshl 1 u)) u) = bcF a := by rw [this]
    -- the count falls by one at most
    have h3 : bcF (zor a (zshl 1 u)) ≤ bcF a + 1 := by
      have key : ∀ n : Nat, cntB (fun k => tb (zor a (zshl 1 u)) k) n ≤ cntB (fun k => tb a k) n + (if u < n then 1 else 0) := by
        intro n
        induction n with
        | zero => rw [if_neg (by omega)]; exact Int.le_refl _
        | succ n ih =>
          show cntB (fun k => tb (zor a (zshl 1 u)) k) n + bit01 (tb (zor a (zshl 1 u)) n) ≤ cntB (fun k => tb a k) n + bit01 (tb a n) + (if u < ((n + 1 : Nat) : Int) then 1 else 0)
          rw [e.2 n (by omega)]
          by_cases hn : u = n
          · subst hn
            rw [if_neg (by omega)] at ih
            rw [if_pos (by omega)]
            cases tb a n <;> simp [bit01] <;> omega
          · have : (if u < ((n + 1 : Nat) : Int) then (1 : Int) else 0) = if u < (n : Int) then 1 else 0 := by
              by_cases q : u < (n : Int)
              · rw [if_pos q, if_pos (by omega)]
              · rw [if_neg q, if_neg (by omega)]
            rw [this]
            simp [hn]; omega
      have := key 12
      rw [if_pos (by omega)] at this
      exact this
    exact h3
def cdT (need us t : Int) : Prop := sbT need t ∧ sbT t us
def bfT (sz s t : Int) : Prop := bcF t < sz ∨ (bcF t = sz ∧ t < s)
def lkN (sz s : Int) : Int := cntB (fun t => decide (bcF t < sz) || (decide (bcF t = sz) && decide (t < s))) 1024
def lsI (V V1 : qV) (L sz s : Int) : Prop := (∀ o j, o ≠ 161 → ¬ (o = 159 ∧ j = 2) → V1 o j = V o j) ∧ (L ≤ V1 159 2 ∧ V1 159 2 ≤ L + lkN sz s) ∧ (∀ k, 0 ≤ k → k < 1024 → 0 ≤ V1 161 k ∧ V1 161 k ≤ 8 * V1 159 2 + 7)
def noS (om : Int → Int) (nd us sz s : Int) : Prop := ∀ t, 0 ≤ t → t < 1024 → cdT nd us t → bfT sz s t → ¬ stP om t
theorem lkN_b (sz s : Int) : 0 ≤ lkN sz s ∧ lkN sz s ≤ 1024 := cntB_b 1024
theorem lkN_s (sz s : Int) : lkN sz s ≤ lkN sz (s + 1) := cnt_le 1024 (fun k a b c => by
  simp only [Bool.or_eq_true, Bool.and_eq_true, decide_eq_true_eq] at c ⊢
  omega)
theorem lkN_t {sz s : Int} (h0 : 0 ≤ s) (h1 : s < 1024) (h : bcF s = sz) : lkN sz s + 1 ≤ lkN sz (s + 1) := cnt_lt (m := s) 1024 (fun k a b c => by
  simp only [Bool.or_eq_true, Bool.and_eq_true, decide_eq_true_eq] at c ⊢
  omega) h0 (by omega) (by
  simp only [Bool.or_eq_false_iff, Bool.and_eq_false_iff, decide_eq_false_iff_not]
  omega) (by
  simp only [Bool.or_eq_true, Bool.and_eq_true, decide_eq_true_eq]
  omega)
theorem lkN_z (sz s s' : Int) : lkN sz s ≤ lkN (sz + 1) s' := cnt_le 1024 (fun k a b c => by
  simp only [Bool.or_eq_true, Bool.and_eq_true, decide_eq_true_eq] at c ⊢
  omega)
theorem lsI.up {V V1 : qV} {L sz s sz' s' : Int} (h : lsI V V1 L sz s) (hl : lkN sz s ≤ lkN sz' s') : lsI V V1 L sz' s' := ⟨h.1, ⟨h.2.1.1, by have := h.2.1.2; omega⟩, h.2.2⟩
theorem s_ls56 {om : Int → Int} {nd us sz L : Int} {V : qV} {K Q : Int → qV → Prop} (hom : V 160 = om) (hnd : 0 ≤ nd ∧ nd < 1024) (hus : 0 ≤ us ∧ us < 1024) (hL0 : 0 ≤ L) (hL1 : L ≤ 100000000) (ho : ∀ v, 0 ≤ v → v < 1024 → 0 ≤ om v ∧ om v ≤ 5)
    (kK : ∀ s V', lsI V V' L (sz + 1) nd → noS om nd us (sz + 1) nd → K s V')
    (kQ : ∀ s V', (0 ≤ s ∧ s < 1024) → lsI V V' L sz (s + 1) → noS om nd us sz s → cdT nd us s → bcF s = sz → stP om s → Q s V') :
    ∀ (g : Nat) (s : Int) (V1 : qV), nd ≤ s → s ≤ 1024 → 1024 < s + g → lsI V V1 L sz s → noS om nd us sz s → lp_X7_leastSettling_56 nd us sz K Q g s V1 := by
  intro g
  induction g with
  | zero => intro s V1 p q r; omega
  | succ g ih =>
    intro s V1 p q r e n
    rw [lp_X7_leastSettling_56]
    refine br_c (fun c => ?_) (fun c => ?_)
    · refine kK s V1 (e.up (lkN_z _ _ _)) (fun t t0 t1 tc tb' => n t t0 t1 tc ?_)
      have h1 := sb_le ⟨t0, t1⟩ hus tc.2
      have h2 := sb_le hnd ⟨t0, t1⟩ tc.1
      unfold bfT at tb' ⊢
      omega
    · have nx : ∀ V2, lsI V V2 L sz (s + 1) → (cdT nd us s → bcF s = sz → ¬ stP om s) → (zr (s + 1) ∧ lp_X7_leastSettling_56 nd us sz K Q g (s + 1) V2) := fun V2 e2 hn => ⟨zr_i (by omega) (by omega), ih _ _ (by omega) (by omega) (by omega) e2 (fun t t0 t1 tc tb' => by
        by_cases ht : t = s
        · subst ht
          unfold bfT at tb'
          by_cases hz : bcF t = sz
          · exact hn tc hz
          · exact n t t0 t1 tc (by unfold bfT; omega)
        · exact n t t0 t1 tc (by unfold bfT at tb' ⊢; omega))⟩
      have hs : 0 ≤ s ∧ s < 1024 := by omega
      have e' := e.up (lkN_s sz s)
      refine br_c (fun y1 => br_c (fun y2 => ?_) (fun y2 => nx V1 e' (fun x _ => absurd ((an0 hs hus).mpr x.2) y2))) (fun y1 => nx V1 e' (fun x _ => absurd ((an1 hs hnd).mpr x.1) y1))
      have hc : cdT nd us s := ⟨(an1 hs hnd).mp y1, (an0 hs hus).mp y2⟩
      refine s_bitCount (by omega) (br_c (fun z => ?_) (fun z => nx V1 e' (fun _ x => absurd x z)))
      have e160 : V1 160 = om := by rw [← hom]; funext j; exact e.1 _ _ (by decide) (by omega)
      have lb := lkN_b sz s
      have e2 := e.2.1
      refine s_settling hs rfl (by omega) (by omega) e.2.2 (fun v a b => by rw [e160]; exact ho v a b) (fun r V2 f1 f2 f3 f4 => ?_)
      have f5 : lsI V V2 L sz (s + 1) := by
        refine ⟨fun o j a b => by rw [f1 o j a b]; exact e.1 o j a b, ?_, fun k a b => by rw [f2]; exact f3 k a b⟩
        have := lkN_t hs.1 hs.2 z
        rw [f2]; omega
      rw [e160] at f4
      rcases f4 with ⟨f4, f6⟩ | ⟨f4, f6⟩
      · subst f4
        exact br_f (by decide) (kQ s V2 hs f5 n hc z f6)
      · subst f4
        exact br_t rfl (nx V2 f5 (fun _ _ => f6))
theorem s_leastSettling {n L : Int} {V : qV} {Q : Int → qV → Prop} (h : rd n V) (hL : V 159 2 = L) (hL1 : L ≤ 100000000) (hop : stP (V 160) (V 159 3))
    (k : ∀ b V', mnS (V 160) (V 159 3) b → (∀ o j, o ≠ 161 → ¬ (o = 159 ∧ j = 2) → V' o j = V o j) → (L ≤ V' 159 2 ∧ V' 159 2 ≤ L + 1024) → (∀ k, 0 ≤ k → k < 1024 → 0 ≤ V' 161 k ∧ V' 161 k ≤ 8 * V' 159 2 + 7) → Q b V') : W_X7_leastSettling V Q := by
  have h4 := h.2.2.2.1
  have hop' := h.2.1.1
  have ho := h.2.2.1
  have hl0 := h.1.1
  have hk0 := h.1.2
  refine s_hanging h (fun nd hnd => ?_)
  have L9 : ∀ (K : Int → Int → Prop), (∀ us i, (0 ≤ us ∧ us < 1024) → bcF us ≤ V 159 6 → (∀ u, 0 ≤ u → u < 10 → (tb us u = true ↔ telB (V 160) (V 159 3) u = true)) → K us i) → ∀ (g : Nat) (i a : Int), 0 ≤ i → i ≤ V 159 6 → V 159 6 < i + g → (0 ≤ a ∧ a < 1024) → bcF a ≤ i → (∀ u, 0 ≤ u → u < 10 → (tb a u = true ↔ inL V i u)) → lp_X7_leastSettling_9 nd V K g a i := by
    intro K hK g
    induction g with
    | zero => intro i a p q r; omega
    | succ g ih =>
      intro i a p q r ha hbc ht
      have h10 := h4.1
      rw [lp_X7_leastSettling_9]
      refine br_c (fun c => ?_) (fun c => br_f (by omega) ⟨by omega, zr_i (by omega) (by omega), ?_⟩)
      · have : i = V 159 6 := by omega
        subst this
        exact hK a _ ha hbc (fun u v w => by rw [ht u v w, inL_t h4 v w])
      · have hi := (h4.2.1 i p (by omega)).1
        have hor := bc_or ha hi
        refine ih _ _ (by omega) (by omega) (by omega) (mk_or ha hi).1 (by omega) (fun u v w => ?_)
        rw [(mk_or ha hi).2 u v, Bool.or_eq_true, decide_eq_true_eq, inL_s p, ht u v w]
  refine L9 _ (fun us _ hus hbu htu => ?_) 100000 0 0 (by decide) h4.1.1 (by have := h4.1; omega) (by decide) (by decide) (fun u v w => ⟨fun x => by rw [tb_0] at x; exact absurd x (by decide), fun x => by obtain ⟨m, a, b, _⟩ := x; omega⟩)
  have hnb : 0 ≤ bcF nd ∧ bcF nd ≤ 12 := cntB_b (p := fun k => tb nd k) 12
  have h10 := h4.1
  refine s_bitCount (by have := hnd.1; omega) ?_
  -- a fewest settling set is among those looked at
  have cand : ∀ t, 0 ≤ t → t < 1024 → sbT t (V 159 3) → stP (V 160) t → (∀ r, 0 ≤ r → r < 1024 → sbT r (V 159 3) → stP (V 160) r → bcF t ≤ bcF r) → cdT nd us t := fun t t0 t1 ts tp tm => by
    refine ⟨fun u u0 u1 u2 => ?_, fun u u0 u1 u2 => ?_⟩
    · rw [hnd.2 u u0 u1, Bool.and_eq_true] at u2
      exact st_need ⟨t0, t1⟩ ⟨u0, u1⟩ u2.2 tp
    · rw [htu u u0 u1, telB_e, Bool.and_eq_true]
      refine ⟨ts u u0 u1 u2, ?_⟩
      cases hd : dfB (V 160) u 0 with
      | true => rfl
      | false =>
        exfalso
        have e := rm_e (t := t) (u := u) ⟨t0, t1⟩ ⟨u0, u1⟩
        have h1 := tm (rmU t u) e.1.1 e.1.2 (fun k a b c => ts k a b (by rw [e.2 k a b, Bool.and_eq_true] at c; exact c.1)) (st_rm ⟨t0, t1⟩ ⟨u0, u1⟩ hd tp)
        have h2 := rm_lt (t := t) (u := u) ⟨t0, t1⟩ ⟨u0, u1⟩ u2
        omega
  have hndu : ∀ t, sbT t us → sbT t (V 159 3) := fun t ht u u0 u1 u2 => by
    have := ht u u0 u1 u2
    rw [htu u u0 u1, telB_e, Bool.and_eq_true] at this
    exact this.1
  have main : ∀ (g : Nat) (sz : Int) (V1 : qV), 0 ≤ sz → sz ≤ 12 → 12 < sz + g → lsI V V1 L sz nd → noS (V 160) nd us sz nd → lp_X7_leastSettling_45 nd us (fun l3x14 V14 => Q us V14) Q g sz V1 := by
    intro g
    induction g with
    | zero => intro sz V1 p q r; omega
    | succ g ih =>
      intro sz V1 p q r e n
      rw [lp_X7_leastSettling_45]
      have e6 : V1 159 6 = V 159 6 := e.1 _ _ (by decide) (by omega)
      rw [e6]
      refine br_c (fun c => ?_) (fun c => ?_)
      · exfalso
        obtain ⟨t0, u0, u1, u2, u3, u4⟩ := mn_ex (om := V 160) (op := V 159 3) 12 (V 159 3) hop'.1 hop'.2 (fun _ _ _ x => x) hop (cntB_b (p := fun k => tb (V 159 3) k) 12).2
        have hc := cand t0 u0.1 u0.2 u1 u2 u4
        have := bc_le u0 hc.2
        exact n t0 u0.1 u0.2 hc (by unfold bfT; omega) u2
      · refine s_ls56 (om := V 160) (L := L) (V := V) rfl hnd.1 hus (by omega) hL1 ho (fun s V2 f1 f2 => ⟨zr_i (by omega) (by omega), ih _ _ (by omega) (by omega) (by omega) f1 f2⟩) (fun s V2 hs f1 f2 f3 f4 f5 => ?_) 100000 nd V1 (by omega) (by have := hnd.1; omega) (by have := hnd.1; omega) e n
        have lb := lkN_b sz (s + 1)
        have f6 := f1.2.1
        refine k s V2 ⟨hs, hndu s f3.2, f5, fun t t0 t1 ts tp => ?_⟩ f1.1 (by omega) f1.2.2
        obtain ⟨r0, u0, u1, u2, u3, u4⟩ := mn_ex (om := V 160) (op := V 159 3) 12 t t0 t1 ts tp (cntB_b (p := fun k => tb t k) 12).2
        have hc := cand r0 u0.1 u0.2 u1 u2 u4
        have hge : bcF s ≤ bcF r0 := by
          by_cases hx : bcF r0 < sz
          · exact absurd u2 (f2 r0 u0.1 u0.2 hc (Or.inl hx))
          · omega
        refine ⟨by omega, fun he => ?_⟩
        have hct := cand t t0 t1 ts tp (fun r r0' r1 r2 r3 => by have := u4 r r0' r1 r2 r3; omega)
        by_cases hx : t < s
        · exact absurd tp (f2 t t0 t1 hct (Or.inr ⟨by omega, hx⟩))
        · omega
  refine main 100000 (bcF nd) V hnb.1 hnb.2 (by omega) ⟨fun _ _ _ _ => rfl, ?_, fun k a b => by have := hk0 k a b; omega⟩ (fun t t0 t1 tc tb' => ?_)
  · have := lkN_b (bcF nd) nd
    omega
  · have h1 := bc_le hnd.1 tc.1
    have h2 := sb_le hnd.1 ⟨t0, t1⟩ tc.1
    unfold bfT at tb'
    omega
theorem rd.lk {n : Int} {V V' : qV} (h : rd n V) (hV : ∀ o j, o ≠ 161 → ¬ (o = 159 ∧ j = 2) → V' o j = V o j) (h2 : V 159 2 ≤ V' 159 2 ∧ V' 159 2 ≤ V 159 2 + 1024) (h161 : ∀ k, 0 ≤ k → k < 1024 → 0 ≤ V' 161 k ∧ V' 161 k ≤ 8 * V' 159 2 + 7) : rd (n + 1) V' := by
  have e160 : V' 160 = V 160 := by funext j; exact hV _ _ (by decide) (by omega)
  have e162 : V' 162 = V 162 := by funext j; exact hV _ _ (by decide) (by omega)
  have e164 : V' 164 = V 164 := by funext j; exact hV _ _ (by decide) (by omega)
  have e9 : ∀ j, j ≠ 2 → V' 159 j = V 159 j := fun j a => hV _ _ (by decide) (by omega)
  have ea : ∀ c, asg V' c = asg V c := fun c => by
    funext u
    unfold asg
    rw [e9 6 (by decide), e9 3 (by decide), e9 4 (by decide), e162]
  obtain ⟨g1, g2, g3, g4, g5, g6⟩ := h
  refine ⟨⟨by rw [e9 100 (by decide)]; omega, h161⟩, by rw [e9 3 (by decide), e9 4 (by decide)]; exact g2, by rw [e160]; exact g3, by unfold tlR at g4 ⊢; rw [e9 6 (by decide), e9 3 (by decide), e160, e162]; exact g4, by rw [e9 100 (by decide), e9 7 (by decide)]; exact g5, ?_⟩
  rw [e9 8 (by decide)]
  rcases g6 with g6 | ⟨g6, c1, c2, c3⟩
  · exact Or.inl g6
  · right
    refine ⟨g6, by rw [e9 6 (by decide), e9 100 (by decide)]; exact c1, by rw [e164]; exact c2, fun c a b => ?_⟩
    rw [e9 6 (by decide)] at b
    rw [e9 7 (by decide), hV _ _ (by have := g5.2; omega) (by have := g5.2; omega), ea, e160]
    exact c3 c a b
theorem psR.lk {n f l : Int} {V V' : qV} {J : qJ} (h : psR n f l V J) (hV : ∀ o j, o ≠ 161 → ¬ (o = 159 ∧ j = 2) → V' o j = V o j) (h2 : V 159 2 ≤ V' 159 2 ∧ V' 159 2 ≤ V 159 2 + 1024) (h161 : ∀ k, 0 ≤ k → k < 1024 → 0 ≤ V' 161 k ∧ V' 161 k ≤ 8 * V' 159 2 + 7) : psR (n + 1) f l V' J := by
  obtain ⟨hr, p1, p2, p3, p4, p5⟩ := h
  have e3 : V' 603 = V 603 := by funext j; exact hV _ _ (by decide) (by omega)
  refine ⟨hr.sc (by omega) (fun o j _ _ u _ => hV o j (by omega) (by omega)) (fun _ _ _ => rfl) (hr.2.2.2.2.2.2.1.lk hV h2 h161) ?_, ?_, ?_, fun v a b => ?_, ?_, ?_⟩
  · have g := hr.2.2.2.2.2.2.2.1
    refine ⟨by rw [hV _ _ (by decide) (by omega)]; exact g.1, fun u => ?_⟩
    rw [hV _ _ (by decide) (by omega)] at u
    exact g.2 u
  · rw [hV _ _ (by decide) (by omega)]; exact p1
  · rw [hV _ _ (by decide) (by omega)]; exact p2
  · rw [hV _ _ (by decide) (by omega), omW_fr (fun o j u w => hV o j (by omega) (by omega))]; exact p3 v a b
  · rw [hV _ _ (by decide) (by omega), e3]; exact p4
  · rw [hV _ _ (by decide) (by omega), e3]; exact p5
theorem st_op {n f l : Int} {V : qV} {J : qJ} (h : psR n f l V J) : stP (V 160) (V 159 3) := by
  have oe := (omW_e h).1
  obtain ⟨hr, p1, p2, p3, p4, p5⟩ := h
  have wt : ∀ v, 0 ≤ v → v < 1024 → V 160 v ≠ 0 → ∀ k, 0 ≤ k → k < 10 → knB (V 603) v k = true := fun v a b c => by
    rw [oe v a b] at c
    cases hw : wB V v with
    | false => rw [hw] at c; exact absurd rfl c
    | true =>
      unfold wB at hw
      rw [Bool.and_eq_true] at hw
      intro k k0 k1
      exact allB_iff.mp hw.1 k k0 (by omega)
  intro v w a b c d x y z
  have : v = w := tb_e10 ⟨a, b⟩ ⟨c, d⟩ (fun k k0 k1 => by
    have h1 := of_decide_eq_true (wt v a b x k k0 k1)
    have h2 := of_decide_eq_true (wt w c d y k k0 k1)
    by_cases e : V 603 k = 2
    · exact (key_e ⟨a, b⟩ ⟨c, d⟩ p4.1).mp z k k0 k1 (by rw [p4.2 k k0 k1]; exact decide_eq_true e)
    · have h3 := h1.resolve_left e
      have h4 := h2.resolve_left e
      rw [h3] at h4
      cases t1 : tb v k <;> cases t2 : tb w k <;> rw [t1, t2] at h4 <;> first | rfl | exact absurd h4 (by decide))
  rw [this]
theorem t_settles {n : Int} {a : Int} {b : Int} {V : qV} {J : qJ} {P : qV → qJ → Prop} (hn : n ≤ 90000) (h : Rel n V J) (hP0 : ∀ V2 J2, Rel (n + 1) V2 J2 → P V2 J2) : W_X10_settles a b V J (fun r V1 J1 => W_X11_settles a b V1 (fun s V2 => V2 602 0 = 0 ∧ r = s ∧ P V2 J1)) (fun E V1 J1 => (E = "java/lang/IndexOutOfBoundsException" ∧ W_X11_settles a b V1 (fun s V2 => V2 602 0 = 1 ∧ P V2 J1)) ∨ (E = "java/lang/IllegalArgumentException" ∧ W_X11_settles a b V1 (fun s V2 => V2 602 0 = 2 ∧ P V2 J1))) := by
  have h142 := h.2.2.2.1.2.2.2.1.1
  refine if ha : 0 ≤ a ∧ a < V 12 10 then ?_ else s_po0 ha (Or.inl ⟨rfl, m_asks0 h ha (br_t rfl ⟨qu_s _ _ _ _, hP0 _ _ h.th⟩)⟩)
  refine if hl : 0 ≤ b ∧ b < V 0 2 then ?_ else s_po2 ha (by omega) hl (Or.inr ⟨rfl, m_asks2 h ha hl (br_t rfl ⟨qu_s _ _ _ _, hP0 _ _ h.th⟩)⟩)
  refine s_pose h ha hl (fun V1 J1 p _ => ?_)
  have hst := st_op p
  have hrd := p.1.2.2.2.2.2.2.1
  refine s_leastSettling hrd rfl (by have := hrd.1.1; have := gN_0 (V1 159 100); omega) hst (fun c V2 g1 g2 g3 g4 => ?_)
  have p' := p.lk g2 g3 g4
  have oe := omW_e p'
  have e160 : V2 160 = V1 160 := by funext j; exact g2 _ _ (by decide) (by omega)
  have e3 : V2 159 3 = V1 159 3 := g2 _ _ (by decide) (by omega)
  obtain ⟨hr, hf1, hl1, ho, m2, m1⟩ := p'
  refine m_asks hr hf1 hl1 (br_f (by decide) (m_whoS hr hf1 hl1 (fun V3 x1 x2 x3 x4 x5 x6 => m_openBits (fun d d0 d1 d2 => ?_))))
  have hd : d = V1 159 3 := by
    rw [← e3]
    refine tb_e10 ⟨d0, d1⟩ m2.1 (fun u v w => ?_)
    rw [d2 u v w, m2.2 u v w, x3 _ _ (by decide) (by decide) (by decide) (by decide) (by decide)]
  subst hd
  refine m_settlesL (om := V2 160) ⟨d0, d1⟩ x4 x6 (fun v => (oe.2 v).1) oe.1 (by rw [e160]; exact hst) (fun s i V4 y1 y2 => ⟨by rw [y1 _ _ (by decide)]; exact x2, ?_, hP0 _ _ (x1.sc0 (by omega) (fun o j q => y1 o j (by unfold scrC at q; omega)) (fun _ _ _ _ _ _ _ _ => rfl))⟩)
  rw [e160] at y2
  exact mnS_u g1 y2
