/-! what it hangs on -/
theorem omW_fr {V V' : qV} {f l : Int} (h : ∀ o j, 603 ≤ o → o ≤ 612 → V' o j = V o j) : omW V' f l = omW V f l := by
  funext v
  unfold omW
  rw [wB_fr h v, show V' 603 = V 603 by funext j; exact h _ _ (by decide) (by decide), LiM_fr (fun o j a b => h o j (by omega) b) l, h 610 _ (by decide) (by decide), show (fun i => V' 606 (12 * l + i)) = (fun i => V 606 (12 * l + i)) by funext i; exact h _ _ (by decide) (by decide)]
def psR (n f l : Int) (V : qV) (J : qJ) : Prop := Rel n V J ∧ (0 ≤ f ∧ f < V 12 10) ∧ (0 ≤ l ∧ l < V 0 2) ∧ (∀ v, 0 ≤ v → v < 1024 → V 160 v = omW V f l v) ∧ mkM (V 603) 2 (V 159 3) ∧ mkM (V 603) 1 (V 159 4)
theorem mk_or {m u : Int} (hm : 0 ≤ m ∧ m < 1024) (hu : 0 ≤ u ∧ u < 10) : (0 ≤ zor m (zshl 1 u) ∧ zor m (zshl 1 u) < 1024) ∧ ∀ k, 0 ≤ k → tb (zor m (zshl 1 u)) k = (tb m k || decide (u = k)) := by
  have h := zshl_rn (k := u) (n := 10) (by decide) hu.1 (by omega)
  have h2 : zshl 1 u < 1024 := h.2
  exact ⟨or_b hm hu, fun k a => by rw [tb_or hm.1 (by omega) (by omega) (by omega), tb_p hu.1 (by omega) a]⟩
theorem s_pose {n f l : Int} {V : qV} {J : qJ} {Q : qV → qJ → Prop} {X : String → qV → qJ → Prop} (h : Rel n V J) (hf : 0 ≤ f ∧ f < V 12 10) (hl : 0 ≤ l ∧ l < V 0 2) (k : ∀ V' J', psR n f l V' J' → (V' 159 100 = V 159 100 ∧ ∀ o j, 603 ≤ o → o ≤ 612 → V' o j = V o j) → Q V' J') : W_X10_pose f l V J Q X := by
  refine s_decideFind h hf hl (fun V1 J1 d => ?_)
  have hr := d.r h
  have hU := h.2.2.2.1.1
  have e14 : ∀ u, 0 ≤ u → u < 10 → V1 14 u = V 603 u ∧ 0 ≤ V 603 u ∧ V 603 u ≤ 2 := fun u a b => by
    rw [d.1 _ _ (by decide) (by decide) (by decide) (by decide)]
    exact (hU.2 u a b).1
  have main : ∀ (g : Nat) (i a b : Int), 0 ≤ i → i ≤ 10 → 10 < i + g → (0 ≤ a ∧ a < 1024) → (0 ≤ b ∧ b < 1024) → (∀ u, 0 ≤ u → u < 10 → tb a u = decide (u < i ∧ V 603 u = 2)) → (∀ u, 0 ≤ u → u < 10 → tb b u = decide (u < i ∧ V 603 u = 1)) → lp_X10_pose_14 V1 J1 (fun l3x7 l4x7 l5x7 => W_X7_pose l3x7 l4x7 V1 J1 (fun V8 => Q V8 J1)) g a b i := by
    intro g
    induction g with
    | zero => intro i a b p q r; omega
    | succ g ih =>
      intro i a b p q r ha hb ta tb'
      rw [lp_X10_pose_14]
      refine br_c (fun c => ?_) (fun c => ⟨by omega, ?_⟩)
      · have : i = 10 := by omega
        subst this
        refine s_pose7 h hl d hr ha hb (fun V2 x1 x2 x3 x4 x5 x7 => ?_)
        have x6 : ∀ o j, 603 ≤ o → o ≤ 612 → V2 o j = V o j := fun o j u v => by rw [x1 o j (by omega), d.1 _ _ (by omega) (by omega) (by omega) (by omega)]
        refine k V2 J1 ?_ ⟨by rw [x7, d.1 _ _ (by omega) (by omega) (by omega) (by omega)], x6⟩
        have e63 : V2 603 = V 603 := by funext j; exact x6 _ _ (by decide) (by decide)
        refine ⟨hr.sc (by omega) (fun o j _ _ u _ => x1 o j u) (fun _ _ _ => rfl) x5 ⟨by rw [x1 _ _ (by omega)]; exact hr.2.2.2.2.2.2.2.1.1, fun u => ?_⟩, by rw [x1 _ _ (by omega), d.1 _ _ (by omega) (by omega) (by omega) (by omega)]; exact hf, by rw [x1 _ _ (by omega), d.1 _ _ (by omega) (by omega) (by omega) (by omega)]; exact hl, fun v u w => by rw [omW_fr x6]; exact x2 v u w, ?_, ?_⟩
        · rw [x1 _ _ (by omega)] at u
          exact hr.2.2.2.2.2.2.2.1.2 u
        · rw [x3, e63]
          exact ⟨ha, fun u v w => by rw [ta u v w, decide_eq_decide]; omega⟩
        · rw [x4, e63]
          exact ⟨hb, fun u v w => by rw [tb' u v w, decide_eq_decide]; omega⟩
      · have e := e14 i p (by omega)
        rw [e.1]
        refine br_c (fun y => ⟨zr_i (by omega) (by omega), ih _ _ _ (by omega) (by omega) (by omega) (mk_or ha (by omega)).1 hb (fun u v w => ?_) (fun u v w => ?_)⟩) (fun y => ⟨by omega, br_c (fun y2 => ⟨zr_i (by omega) (by omega), ih _ _ _ (by omega) (by omega) (by omega) ha (mk_or hb (by omega)).1 (fun u v w => ?_) (fun u v w => ?_)⟩) (fun y2 => ⟨zr_i (by omega) (by omega), ih _ _ _ (by omega) (by omega) (by omega) ha hb (fun u v w => ?_) (fun u v w => ?_)⟩)⟩)
        · rw [(mk_or ha (by omega)).2 u v, ta u v w, ← Bool.decide_or, decide_eq_decide]
          by_cases hu : i = u
          · subst hu; omega
          · omega
        · rw [tb' u v w, decide_eq_decide]
          by_cases hu : u = i
          · subst hu; omega
          · omega
        · rw [ta u v w, decide_eq_decide]
          by_cases hu : u = i
          · subst hu; omega
          · omega
        · rw [(mk_or hb (by omega)).2 u v, tb' u v w, ← Bool.decide_or, decide_eq_decide]
          by_cases hu : i = u
          · subst hu; omega
          · omega
        · rw [ta u v w, decide_eq_decide]
          by_cases hu : u = i
          · subst hu; omega
          · omega
        · rw [tb' u v w, decide_eq_decide]
          by_cases hu : u = i
          · subst hu; omega
          · omega
  exact main 100000 0 0 0 (by decide) (by decide) (by decide) (by decide) (by decide) (fun u v w => by rw [tb_0]; symm; rw [decide_eq_false_iff_not]; omega) (fun u v w => by rw [tb_0]; symm; rw [decide_eq_false_iff_not]; omega)
/-- whom the reference finds, from a state that both hold -/
theorem m_whoR {n f l : Int} {V : qV} {J : qJ} {Q : qV → Prop} (h : Rel n V J) (hf : 0 ≤ f ∧ f < V 12 10) (hl : 0 ≤ l ∧ l < V 0 2) (k : ∀ V2, Rel (n + 1) V2 J → V2 602 0 = 0 → (∀ o j, o ≠ 614 → o ≠ 615 → o ≠ 616 → o ≠ 617 → o ≠ 602 → V2 o j = V o j) → (∀ v, 0 ≤ v → v < 1024 → V2 616 v = bit01 (wB V v)) → V2 602 25 = cntB (wB V) 1024 → (∀ v, 0 ≤ v → v < 1024 → wB V v = true → V2 617 v = whF (nmM (V 603) f) (LiM V l) (fun i => V 606 (12 * l + i)) (V 610 l) v) → Q V2) : W_X11_findWho f l (qu V 602 0 0) Q := by
  obtain ⟨hU, hP, hG, hF, hC, hS, hA⟩ := h.2.2.2.1
  have hlw := h.2.2.1
  have h142 := hF.1
  have e : ∀ o j, 603 ≤ o → o ≤ 612 → (qu V 602 0 0) o j = V o j := fun o j a b => q602 _ _ _ (by omega)
  have e3 : (qu V 602 0 0) 603 = V 603 := q603 V
  have hlr := hlw.2 l hl.1 (by have := hlw.1; omega)
  have hM : MV (qu V 602 0 0) l (V 610 l) := (hlr.M (by have := hlw.1; omega)).fr (fun o j a b => e o j (by omega) b)
  have eLi : LiM (qu V 602 0 0) l = LiM V l := LiM_fr (fun o j a b => e o j (by omega) b) l
  have e6 : (fun i => (qu V 602 0 0) 606 (12 * l + i)) = (fun i => V 606 (12 * l + i)) := by funext i; exact e _ _ (by decide) (by decide)
  have ew : wB (qu V 602 0 0) = wB V := by funext v; exact wB_fr e v
  refine m_findWho (n := V 610 l) (by rw [e3]; exact hA.1.2) (fun c a b => cW_fr (fun o j a b => e o j (by omega) b) (h.2.2.2.2.2.1 c a (by rw [e3] at b; exact b))) (by rw [e3]; exact hP.m) (by rw [e3]; exact mF_of hU hF hC hf.1 (by omega)) hM (fun i a b => ?_) (fun V2 w => ?_)
  · rw [e 607 _ (by decide) (by decide)]; exact (hlr.2.1 i a b).2.1.2
  · obtain ⟨w1, w2, w3, w4, w5, -⟩ := w
    rw [e3, eLi, e6] at w5
    rw [ew] at w3 w4 w5
    refine k V2 ?_ ?_ (fun o j a b c d x => by rw [w1 o j a b c d (by omega), qu_e (by omega)]) w3 w4 w5
    · exact h.sc0 (by omega) (fun o j p => by rw [w1 o j (by unfold scrC at p; omega) (by unfold scrC at p; omega) (by unfold scrC at p; omega) (by unfold scrC at p; omega) (by unfold scrC at p; omega), qu_e (by unfold scrC at p; omega)]) (fun _ _ _ _ _ _ _ _ => rfl)
    · rw [w1 _ _ (by omega) (by omega) (by omega) (by omega) (by omega)]; exact qs0 _
theorem ri_so {p : Int → Bool} {n : Int} (h : 0 ≤ n) (hr : ri p n ≠ -1) : p (ri p n) = true := by
  have key : ∀ m : Nat, ri p m ≠ -1 → p (ri p m) = true := by
    intro m
    induction m with
    | zero => intro x; exact absurd rfl x
    | succ m ih =>
      intro x
      rw [show ((m + 1 : Nat) : Int) = (m : Int) + 1 by omega, ri_s (by omega)] at x ⊢
      by_cases y : ri p m = -1
      · rw [if_pos y] at x ⊢
        cases hp : p m with
        | true => simp [hp]
        | false => rw [hp] at x; exact absurd rfl x
      · rw [if_neg y]; exact ih y
  have := key n.toNat
  rw [Int.toNat_of_nonneg h] at this
  exact this hr
/-- the bits it hangs on -/
def hgM (om : Int → Int) (op b : Int) : Prop := (0 ≤ b ∧ b < 1024) ∧ ∀ u, 0 ≤ u → u < 10 → tb b u = (tb op u && dfB om u 1)
theorem dfB_10 {om : Int → Int} {u : Int} (h : dfB om u 1 = true) : dfB om u 0 = true := by
  obtain ⟨v, a, b, c, d, _⟩ := dfB_iff.mp h
  exact dfB_iff.mpr ⟨v, a, b, c, d, Or.inl rfl⟩
def inL (V : qV) (i u : Int) : Prop := ∃ m, 0 ≤ m ∧ m < i ∧ V 162 m = u
theorem inL_s {V : qV} {i u : Int} (h : 0 ≤ i) : inL V (i + 1) u ↔ inL V i u ∨ V 162 i = u := by
  constructor
  · rintro ⟨m, a, b, c⟩
    by_cases hm : m = i
    · subst hm; exact Or.inr c
    · exact Or.inl ⟨m, a, by omega, c⟩
  · rintro (⟨m, a, b, c⟩ | c)
    · exact ⟨m, a, by omega, c⟩
    · exact ⟨i, h, by omega, c⟩
theorem inL_t {V : qV} {u : Int} (h : tlR V) (h0 : 0 ≤ u) (h1 : u < 10) : inL V (V 159 6) u ↔ telB (V 160) (V 159 3) u = true := by
  constructor
  · rintro ⟨m, a, b, c⟩
    rw [← c]; exact (h.2.1 m a b).2
  · intro ht
    have := h.2.2.2 u h0 h1 ht
    have b := ri_bd (p := fun i => decide (V 162 i = u)) (n := V 159 6) h.1.1
    exact ⟨_, by omega, b.2, of_decide_eq_true (ri_so (p := fun i => decide (V 162 i = u)) h.1.1 this)⟩
theorem s_hanging {n : Int} {V : qV} {Q : Int → Prop} (h : rd n V) (k : ∀ b, hgM (V 160) (V 159 3) b → Q b) : W_X7_hanging V Q := by
  have h4 := h.2.2.2.1
  have main : ∀ (g : Nat) (i a : Int), 0 ≤ i → i ≤ V 159 6 → V 159 6 < i + g → (0 ≤ a ∧ a < 1024) → (∀ u, 0 ≤ u → u < 10 → (tb a u = true ↔ inL V i u ∧ dfB (V 160) u 1 = true)) → lp_X7_hanging_4 V (fun l1x6 l2x6 => Q l1x6) g a i := by
    intro g
    induction g with
    | zero => intro i a p q r; omega
    | succ g ih =>
      intro i a p q r ha ht
      have h10 := h4.1
      rw [lp_X7_hanging_4]
      refine br_c (fun c => ?_) (fun c => br_f (by omega) ⟨by omega, ?_⟩)
      · have : i = V 159 6 := by omega
        subst this
        refine k a ⟨ha, fun u v w => ?_⟩
        rw [Bool.eq_iff_iff, ht u v w, inL_t h4 v w, telB_e, Bool.and_eq_true, Bool.and_eq_true]
        exact ⟨fun x => ⟨x.1.1, x.2⟩, fun x => ⟨⟨x.1, dfB_10 x.2⟩, x.2⟩⟩
      · have hi := (h4.2.1 i p (by omega)).1
        refine s_differs hi ?_
        have nx : ∀ a', (0 ≤ a' ∧ a' < 1024) → (∀ u, 0 ≤ u → u < 10 → (tb a' u = true ↔ tb a u = true ∨ (V 162 i = u ∧ dfB (V 160) u 1 = true))) → (zr (i + 1) ∧ lp_X7_hanging_4 V (fun l1x6 l2x6 => Q l1x6) g a' (i + 1)) := fun a' ha' ht' => ⟨zr_i (by omega) (by omega), ih _ _ (by omega) (by omega) (by omega) ha' (fun u v w => by
          rw [ht' u v w, ht u v w, inL_s p]
          constructor
          · rintro (x | x)
            · exact ⟨Or.inl x.1, x.2⟩
            · exact ⟨Or.inr x.1, x.2⟩
          · rintro ⟨x | x, y⟩
            · exact Or.inl ⟨x, y⟩
            · exact Or.inr ⟨x, y⟩)⟩
        cases hd : dfB (V 160) (V 162 i) 1 with
        | false =>
          refine br_t rfl (nx a ha (fun u v w => ⟨fun x => Or.inl x, fun x => ?_⟩))
          rcases x with x | x
          · exact x
          · obtain ⟨x1, x2⟩ := x
            rw [← x1, hd] at x2; exact absurd x2 (by decide)
        | true =>
          refine br_f (by decide) ⟨by omega, nx _ (mk_or ha hi).1 (fun u v w => ?_)⟩
          rw [(mk_or ha hi).2 u v, Bool.or_eq_true, decide_eq_true_eq]
          constructor
          · rintro (x | x)
            · exact Or.inl x
            · exact Or.inr ⟨x, by rw [← x]; exact hd⟩
          · rintro (x | x)
            · exact Or.inl x
            · exact Or.inr x.1
  exact main 100000 0 0 (by decide) h4.1.1 (by have := h4.1; omega) (by decide) (fun u v w => by
    rw [tb_0]
    exact ⟨fun x => absurd x (by decide), fun x => by obtain ⟨⟨m, a, b, _⟩, _⟩ := x; omega⟩)
