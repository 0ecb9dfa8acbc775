/-! hangs -/
theorem xo0 {v u : Int} (hv : 0 ≤ v ∧ v < 1024) (hu : 0 ≤ u ∧ u < 10) (h : tb v u = false) : zor v (zshl 1 u) = zxor v (zshl 1 u) := by
  have hp := zshl_rn (k := u) (n := 10) (by decide) hu.1 (by omega)
  have h2 : zshl 1 u < 1024 := hp.2
  have x := zxor_rn (n := 10) (by decide) hv.1 hv.2 (by omega) hp.2
  refine tb_ext (or_b hv hu).1 x.1 (fun k a => ?_)
  rw [tb_or hv.1 (by omega) (by omega) (by omega), tb_xor hv.1 (by omega) (by omega) (by omega), tb_p hu.1 (by omega) a]
  by_cases e : u = k
  · subst e; rw [h]; simp
  · simp [e]
theorem xo1 {v u : Int} (hv : 0 ≤ v ∧ v < 1024) (hu : 0 ≤ u ∧ u < 10) (h : tb v u = true) : zor v (zshl 1 u) = v := by
  have hp := zshl_rn (k := u) (n := 10) (by decide) hu.1 (by omega)
  have h2 : zshl 1 u < 1024 := hp.2
  refine tb_ext (or_b hv hu).1 hv.1 (fun k a => ?_)
  rw [tb_or hv.1 (by omega) (by omega) (by omega), tb_p hu.1 (by omega) a]
  by_cases e : u = k
  · subst e; rw [h]; simp
  · simp [e]
theorem xo_b {v u : Int} (hv : 0 ≤ v ∧ v < 1024) (hu : 0 ≤ u ∧ u < 10) : (0 ≤ zxor v (zshl 1 u) ∧ zxor v (zshl 1 u) < 1024) ∧ ∀ k, 0 ≤ k → tb (zxor v (zshl 1 u)) k = (tb v k ^^ decide (u = k)) := by
  have hp := zshl_rn (k := u) (n := 10) (by decide) hu.1 (by omega)
  have h2 : zshl 1 u < 1024 := hp.2
  exact ⟨zxor_rn (n := 10) (by decide) hv.1 hv.2 (by omega) hp.2, fun k a => by rw [tb_xor hv.1 (by omega) (by omega) (by omega), tb_p hu.1 (by omega) a]⟩
theorem xo2 {v u : Int} (hv : 0 ≤ v ∧ v < 1024) (hu : 0 ≤ u ∧ u < 10) (h : tb v u = true) : zor (zxor v (zshl 1 u)) (zshl 1 u) = v := by
  have hx := xo_b hv hu
  have hp := zshl_rn (k := u) (n := 10) (by decide) hu.1 (by omega)
  have h2 : zshl 1 u < 1024 := hp.2
  refine tb_ext (or_b hx.1 hu).1 hv.1 (fun k a => ?_)
  rw [tb_or hx.1.1 (by omega) (by omega) (by omega), hx.2 k a, tb_p hu.1 (by omega) a]
  by_cases e : u = k
  · subst e; rw [h]; simp
  · simp [e]
theorem or_ne {v u : Int} (hv : 0 ≤ v ∧ v < 1024) (hu : 0 ≤ u ∧ u < 10) (h : tb v u = false) : zor v (zshl 1 u) ≠ v := fun e => by
  have := (mk_or hv hu).2 u hu.1
  rw [e, h] at this
  simp at this
def hgB (W : Int → Bool) (x : Int → Int) (u v : Int) : Bool := W v && W (zxor v (zshl 1 u)) && decide (x v ≠ x (zxor v (zshl 1 u)))
theorem hg_df {W : Int → Bool} {x om : Int → Int} {u : Int} (hu : 0 ≤ u ∧ u < 10) (h : ∀ v, 0 ≤ v → v < 1024 → om v = if W v then x v + 1 else 0) (hx : ∀ v, 0 ≤ x v) : exB (hgB W x u) 1024 = dfB om u 1 := by
  rw [Bool.eq_iff_iff, exB_iff, dfB_iff]
  have key : ∀ v, 0 ≤ v → v < 1024 → tb v u = false → W v = true → W (zxor v (zshl 1 u)) = true → x v ≠ x (zxor v (zshl 1 u)) → (zor v (zshl 1 u) ≠ v ∧ om v ≠ om (zor v (zshl 1 u)) ∧ ((1 : Int) = 0 ∨ (om v ≠ 0 ∧ om (zor v (zshl 1 u)) ≠ 0))) := fun v a b t w1 w2 d => by
    have hb' := xo_b (v := v) (u := u) ⟨a, b⟩ hu
    have g1 := hx v
    have g2 := hx (zxor v (zshl 1 u))
    refine ⟨or_ne ⟨a, b⟩ hu t, ?_, Or.inr ⟨?_, ?_⟩⟩
    · rw [xo0 ⟨a, b⟩ hu t, h v a b, h _ hb'.1.1 hb'.1.2, w1, w2, if_pos rfl, if_pos rfl]; omega
    · rw [h v a b, w1, if_pos rfl]; omega
    · rw [xo0 ⟨a, b⟩ hu t, h _ hb'.1.1 hb'.1.2, w2, if_pos rfl]; omega
  constructor
  · rintro ⟨v, a, b, c⟩
    have b' : v < 1024 := by omega
    unfold hgB at c
    rw [Bool.and_eq_true, Bool.and_eq_true, decide_eq_true_eq] at c
    obtain ⟨⟨w1, w2⟩, d⟩ := c
    cases t : tb v u with
    | false => exact ⟨v, a, b', key v a b' t w1 w2 d⟩
    | true =>
      have hb' := xo_b (v := v) (u := u) ⟨a, b'⟩ hu
      have t' : tb (zxor v (zshl 1 u)) u = false := by rw [hb'.2 u hu.1, t]; simp
      have e : zxor (zxor v (zshl 1 u)) (zshl 1 u) = v := by rw [← xo0 hb'.1 hu t']; exact xo2 ⟨a, b'⟩ hu t
      exact ⟨zxor v (zshl 1 u), hb'.1.1, hb'.1.2, key _ hb'.1.1 hb'.1.2 t' w2 (by rw [e]; exact w1) (by rw [e]; exact fun z => d z.symm)⟩
  · rintro ⟨v, a, b, c1, c2, c3⟩
    have t : tb v u = false := by
      cases t : tb v u with
      | false => rfl
      | true => exact absurd (xo1 ⟨a, b⟩ hu t) c1
    have hb' := xo_b (v := v) (u := u) ⟨a, b⟩ hu
    rw [xo0 ⟨a, b⟩ hu t] at c2 c3
    rw [h v a b, h _ hb'.1.1 hb'.1.2] at c2 c3
    have c4 := c3.resolve_left (by decide)
    refine ⟨v, a, by omega, ?_⟩
    unfold hgB
    cases w1 : W v with
    | false => rw [w1] at c4; exact absurd rfl c4.1
    | true =>
      cases w2 : W (zxor v (zshl 1 u)) with
      | false => rw [w2] at c4; exact absurd rfl c4.2
      | true =>
        rw [w1, w2, if_pos rfl, if_pos rfl] at c2
        rw [Bool.true_and, Bool.true_and, decide_eq_true_eq]
        omega
theorem m_hangsL {W : Int → Bool} {x : Int → Int} {V : qV} {K : Int → Int → Prop} (h6 : ∀ v, 0 ≤ v → v < 1024 → V 616 v = bit01 (W v)) (h7 : ∀ v, 0 ≤ v → v < 1024 → W v = true → V 617 v = x v) (k : ∀ b i, (0 ≤ b ∧ b < 1024) → (∀ u, 0 ≤ u → u < 10 → tb b u = (decide (V 603 u = 2) && exB (hgB W x u) 1024)) → K b i) : lp_X11_hangs_27 V K 100000 0 0 := by
  have inner : ∀ (u a0 : Int) (K2 : Int → Int → Prop), (0 ≤ u ∧ u < 10) → (0 ≤ a0 ∧ a0 < 1024) → V 603 u = 2 → (∀ a i, (0 ≤ a ∧ a < 1024) → (∀ k, 0 ≤ k → tb a k = (tb a0 k || (decide (u = k) && exB (hgB W x u) 1024))) → K2 a i) → ∀ (g : Nat) (i a : Int), 0 ≤ i → i ≤ 1024 → 1024 < i + g → (0 ≤ a ∧ a < 1024) → (∀ k, 0 ≤ k → tb a k = (tb a0 k || (decide (u = k) && exB (hgB W x u) i.toNat))) → lp_X11_hangs_37 u V K2 g a i := by
    intro u a0 K2 hu ha0 h2 hK g
    induction g with
    | zero => intro i a p q r; omega
    | succ g ih =>
      intro i a p q r ha ht
      rw [lp_X11_hangs_37]
      have es : exB (hgB W x u) (i + 1).toNat = (exB (hgB W x u) i.toNat || hgB W x u i) := by
        rw [show (i + 1).toNat = i.toNat + 1 by omega, exB, Int.toNat_of_nonneg p]
      have no : i < 1024 → hgB W x u i = false → (zr (i + 1) ∧ lp_X11_hangs_37 u V K2 g a (i + 1)) := fun hi hn => ⟨zr_i (by omega) (by omega), ih _ _ (by omega) (by omega) (by omega) ha (fun k b => by rw [es, hn, Bool.or_false]; exact ht k b)⟩
      refine br_c (fun c => ?_) (fun c => ⟨zr_i (by omega) (by omega), by omega, ?_⟩)
      · have : i = 1024 := by omega
        subst this
        exact hK a 1024 ha ht
      · rw [show (0 : Int) + u = u by omega]
        have hxb := xo_b (v := i) (u := u) (by omega) hu
        refine br_t h2 ⟨by omega, ?_⟩
        rw [h6 i p (by omega), h6 _ hxb.1.1 hxb.1.2]
        cases w1 : W i with
        | false => exact br_t rfl (no (by omega) (by unfold hgB; rw [w1]; rfl))
        | true =>
          refine br_f (by decide) ⟨hxb.1, ?_⟩
          cases w2 : W (zxor i (zshl 1 u)) with
          | false => exact br_t rfl (no (by omega) (by unfold hgB; rw [w1, w2]; rfl))
          | true =>
            refine br_f (by decide) ⟨by omega, hxb.1, ?_⟩
            rw [h7 i p (by omega) w1, h7 _ hxb.1.1 hxb.1.2 w2]
            refine br_c (fun y => no (by omega) (by unfold hgB; rw [w1, w2]; simp [y])) (fun y => ⟨zr_i (by omega) (by omega), ih _ _ (by omega) (by omega) (by omega) (mk_or ha hu).1 (fun k b => ?_)⟩)
            have hy : hgB W x u i = true := by unfold hgB; rw [w1, w2]; simp [y]
            rw [(mk_or ha hu).2 k b, ht k b, es, hy]
            cases tb a0 k <;> cases decide (u = k) <;> simp
  have main : ∀ (g : Nat) (i a : Int), 0 ≤ i → i ≤ 10 → 10 < i + g → (0 ≤ a ∧ a < 1024) → (∀ u, 0 ≤ u → u < 10 → tb a u = (decide (u < i) && (decide (V 603 u = 2) && exB (hgB W x u) 1024))) → lp_X11_hangs_27 V K g a i := by
    intro g
    induction g with
    | zero => intro i a p q r; omega
    | succ g ih =>
      intro i a p q r ha ht
      rw [lp_X11_hangs_27]
      refine br_c (fun c => ?_) (fun c => ?_)
      · refine k a i ha (fun u v w => ?_)
        rw [ht u v w, decide_eq_true (show u < i by omega), Bool.true_and]
      · have nx : ∀ a', (0 ≤ a' ∧ a' < 1024) → (∀ k, 0 ≤ k → tb a' k = (tb a k || (decide (i = k) && (decide (V 603 i = 2) && exB (hgB W x i) 1024)))) → (zr (i + 1) ∧ lp_X11_hangs_27 V K g a' (i + 1)) := fun a' ha' ht' => ⟨zr_i (by omega) (by omega), ih _ _ (by omega) (by omega) (by omega) ha' (fun u v w => by
          rw [ht' u v, ht u v w]
          by_cases hu : i = u
          · subst hu
            rw [decide_eq_true (show i < i + 1 by omega)]
            simp
          · have e1 : decide (u < i + 1) = decide (u < i) := by rw [decide_eq_decide]; omega
            rw [e1]; simp [hu])⟩
        by_cases h2 : V 603 i = 2
        · exact inner i a _ (by omega) ha h2 (fun a' _ x1 x2 => nx a' x1 (fun k b => by rw [x2 k b, h2]; simp)) 100000 0 a (by decide) (by decide) (by decide) ha (fun k b => by show tb a k = (tb a k || (decide (i = k) && false)); simp)
        · rw [lp_X11_hangs_37]
          refine br_f (by decide) ⟨zr_i (by omega) (by omega), by omega, ?_⟩
          rw [show (0 : Int) + i = i by omega]
          exact br_f h2 (nx a ha (fun k b => by simp [h2]))
  exact main 100000 0 0 (by decide) (by decide) (by decide) (by decide) (fun u v w => by
    rw [tb_0, decide_eq_false (show ¬ u < 0 by omega)]; rfl)
theorem tb_e10 {a b : Int} (a0 : 0 ≤ a ∧ a < 1024) (b0 : 0 ≤ b ∧ b < 1024) (h : ∀ k, 0 ≤ k → k < 10 → tb a k = tb b k) : a = b := by
  refine tb_ext a0.1 b0.1 (fun k hk => ?_)
  by_cases h1 : k < 10
  · exact h k hk h1
  · rw [tb_lt (n := 10) (show a < 2 ^ 10 from a0.2) (by omega), tb_lt (n := 10) (show b < 2 ^ 10 from b0.2) (by omega)]
theorem s_po0 {f l : Int} {V : qV} {J : qJ} {Q : qV → qJ → Prop} {X : String → qV → qJ → Prop} (hf : ¬ (0 ≤ f ∧ f < V 12 10)) (k : X "java/lang/IndexOutOfBoundsException" V J) : W_X10_pose f l V J Q X := s_dF0 hf k
theorem s_po2 {f l : Int} {V : qV} {J : qJ} {Q : qV → qJ → Prop} {X : String → qV → qJ → Prop} (hf : 0 ≤ f ∧ f < V 12 10) (h8 : V 12 10 ≤ 8) (hl : ¬ (0 ≤ l ∧ l < V 0 2)) (k : X "java/lang/IllegalArgumentException" V J) : W_X10_pose f l V J Q X := s_dF2 hf h8 hl k
theorem omW_e {n f l : Int} {V : qV} {J : qJ} (h : psR n f l V J) : (∀ v, 0 ≤ v → v < 1024 → V 160 v = if wB V v then whF (nmM (V 603) f) (LiM V l) (fun i => V 606 (12 * l + i)) (V 610 l) v + 1 else 0) ∧ (∀ v, 0 ≤ whF (nmM (V 603) f) (LiM V l) (fun i => V 606 (12 * l + i)) (V 610 l) v ∧ whF (nmM (V 603) f) (LiM V l) (fun i => V 606 (12 * l + i)) (V 610 l) v ≤ 4) := by
  have hlw := h.1.2.2.1
  have hl := h.2.2.1
  have hlr := hlw.2 l hl.1 (by have := hlw.1; omega)
  exact ⟨fun v a b => h.2.2.2.1 v a b, fun v => whF_b hlr.1.2.1 (fun i a b => (hlr.2.1 i a b).1.2)⟩
theorem t_hangs {n : Int} {a : Int} {b : Int} {V : qV} {J : qJ} {P : qV → qJ → Prop} (h : Rel n V J) (hP0 : ∀ V2 J2, Rel (n + 1) V2 J2 → P V2 J2) : W_X10_hangs a b V J (fun r V1 J1 => W_X11_hangs a b V1 (fun s V2 => V2 602 0 = 0 ∧ r = s ∧ P V2 J1)) (fun E V1 J1 => (E = "java/lang/IndexOutOfBoundsException" ∧ W_X11_hangs a b V1 (fun s V2 => V2 602 0 = 1 ∧ P V2 J1)) ∨ (E = "java/lang/IllegalArgumentException" ∧ W_X11_hangs a b V1 (fun s V2 => V2 602 0 = 2 ∧ P V2 J1))) := by
  have h142 := h.2.2.2.1.2.2.2.1.1
  refine if ha : 0 ≤ a ∧ a < V 12 10 then ?_ else s_po0 ha (Or.inl ⟨rfl, m_asks0 h ha (br_t rfl ⟨qu_s _ _ _ _, hP0 _ _ h.th⟩)⟩)
  refine if hl : 0 ≤ b ∧ b < V 0 2 then ?_ else s_po2 ha (by omega) hl (Or.inr ⟨rfl, m_asks2 h ha hl (br_t rfl ⟨qu_s _ _ _ _, hP0 _ _ h.th⟩)⟩)
  refine s_pose h ha hl (fun V1 J1 p _ => ?_)
  have oe := omW_e p
  obtain ⟨hr, hf1, hl1, ho, m2, m1⟩ := p
  refine s_hanging hr.2.2.2.2.2.2.1 (fun c hc => m_asks hr hf1 hl1 (br_f (by decide) (m_whoR hr hf1 hl1 (fun V2 x1 x2 x3 x4 x5 x6 => m_hangsL x4 x6 (fun d i d1 d2 => ⟨x2, ?_, hP0 _ _ x1⟩)))))
  refine tb_e10 hc.1 d1 (fun u v w => ?_)
  rw [hc.2 u v w, d2 u v w, m2.2 u v w, hg_df ⟨v, w⟩ oe.1 (fun v => (oe.2 v).1), x3 _ _ (by decide) (by decide) (by decide) (by decide) (by decide)]
