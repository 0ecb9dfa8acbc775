/-! calls that decide a find by a law -/
theorem t_may {n : Int} {a : Int} {b : Int} {V : qV} {J : qJ} {P : qV → qJ → Prop} (h : Rel n V J) (hP0 : ∀ V2 J2, Rel (n + 1) V2 J2 → P V2 J2) : W_X10_may a b V J (fun r V1 J1 => W_X11_may_ a b V1 (fun s V2 => V2 602 0 = 0 ∧ r = s ∧ P V2 J1)) (fun E V1 J1 => (E = "java/lang/IndexOutOfBoundsException" ∧ W_X11_may_ a b V1 (fun s V2 => V2 602 0 = 1 ∧ P V2 J1)) ∨ (E = "java/lang/IllegalArgumentException" ∧ W_X11_may_ a b V1 (fun s V2 => V2 602 0 = 2 ∧ P V2 J1))) := by
  have h142 := h.2.2.2.1.2.2.2.1.1
  refine if ha : 0 ≤ a ∧ a < V 12 10 then ?_ else s_dF0 ha (Or.inl ⟨rfl, m_asks0 h ha (br_t rfl ⟨qu_s _ _ _ _, hP0 _ _ h.th⟩)⟩)
  refine if hl : 0 ≤ b ∧ b < V 0 2 then ?_ else s_dF2 ha (by omega) hl (Or.inr ⟨rfl, m_asks2 h ha hl (br_t rfl ⟨qu_s _ _ _ _, hP0 _ _ h.th⟩)⟩)
  refine s_decideFind h ha hl (fun V1 J1 d => ?_)
  have mod : ∀ {Q : Int → qV → Prop}, (∀ V2, dB n a b V J V1 J1 V2 → Q 1 V2) → True := fun _ => trivial
  have ask : ∀ {Q : Int → qV → Prop}, Q 1 (qu V1 602 0 0) → W_X11_asks a b (qu V1 602 0 0) Q := fun {Q} k => by
    have hlw := h.2.2.1.1
    have g0 := d.1
    refine m_if1 (qs0 _) (by rw [q603, g0 _ _ (by decide) (by decide) (by decide) (by decide)]; exact h142.2) (by rw [q603, g0 _ _ (by decide) (by decide) (by decide) (by decide), ← h142.1]; exact ha) (br_f (by decide) (m_il1 (qs0 _) (by rw [q602' _ _ _ (by decide), g0 _ _ (by decide) (by decide) (by decide) (by decide)]; exact hlw.2) (by rw [q602' _ _ _ (by decide), g0 _ _ (by decide) (by decide) (by decide) (by decide), ← hlw.1]; exact hl) (br_f (by decide) k)))
  refine bits_e h hl d (fun c c0 c1 c2 c3 => ask (br_f (by decide) (m_whoB h ha hl d (fun V2 x => c3 _ V2 x ⟨x.2.1, rfl, hP0 _ _ x.1⟩))))
theorem m_lowT : ∀ c : Nat, c < 32 → c ≠ 0 → ∃ i : Nat, i < 5 ∧ zand (zshr (c : Int) i) 1 ≠ 0 ∧ ∀ k : Nat, k < i → zand (zshr (c : Int) k) 1 = 0 := by decide +kernel
theorem m_lowU : ∀ c : Nat, c < 32 → ∀ i : Nat, i < 5 → (c : Int) = zshl 1 i → ∀ j : Nat, j < 5 → (c : Int) = zshl 1 j → i = j := by decide +kernel
theorem m_lowS : ∀ c : Nat, c < 32 → ∀ i : Nat, i < 5 → (c : Int) = zshl 1 i → zand (zshr (c : Int) i) 1 ≠ 0 ∧ ∀ k : Nat, k < i → zand (zshr (c : Int) k) 1 = 0 := by decide +kernel
theorem m_lowest {c i : Int} {V : qV} {Q : Int → Prop} (hi : 0 ≤ i ∧ i < 5) (h1 : zand (zshr c i) 1 ≠ 0) (h2 : ∀ k, 0 ≤ k → k < i → zand (zshr c k) 1 = 0) (k : Q i) : W_X11_lowest c V Q := by
  have main : ∀ (g : Nat) (j : Int), 0 ≤ j → j ≤ i → i < j + g → lp_X11_lowest_2 c V (fun l => Q l) g j := by
    intro g
    induction g with
    | zero => intro j p q r; omega
    | succ g ih =>
      intro j p q r
      rw [lp_X11_lowest_2]
      by_cases e : j = i
      · subst e
        exact br_f h1 k
      · exact br_t (h2 j p (by omega)) ⟨zr_i (by omega) (by omega), ih (j + 1) (by omega) (by omega) (by omega)⟩
  exact main 100000 0 (by decide) hi.1 (by omega)
theorem s_sure {c i : Int} {V : qV} {J : qJ} {Q : Int → qV → qJ → Prop} {K : Int → Prop} (hi : 0 ≤ i ∧ i < 5) (h : c = zshl 1 i) (hu : ∀ k, 0 ≤ k → k < 5 → c = zshl 1 k → k = i) (k : Q i V J) : lp_X10_sure_24 c V J K Q 100000 0 := by
  have main : ∀ (g : Nat) (j : Int), 0 ≤ j → j ≤ i → i < j + g → lp_X10_sure_24 c V J K Q g j := by
    intro g
    induction g with
    | zero => intro j p q r; omega
    | succ g ih =>
      intro j p q r
      rw [lp_X10_sure_24]
      by_cases e : j = i
      · subst e
        exact br_f (by omega) (br_t h k)
      · exact br_f (by omega) (br_f (fun x => e (hu j p (by omega) x)) ⟨zr_i (by omega) (by omega), ih (j + 1) (by omega) (by omega) (by omega)⟩)
  exact main 100000 0 (by decide) hi.1 (by omega)
theorem s_sure0 {c : Int} {V : qV} {J : qJ} {Q : Int → qV → qJ → Prop} {K : Int → Prop} (h : ∀ k, 0 ≤ k → k < 5 → c ≠ zshl 1 k) (k : ∀ j, K j) : lp_X10_sure_24 c V J K Q 100000 0 := by
  have main : ∀ (g : Nat) (j : Int), 0 ≤ j → j ≤ 5 → 5 < j + g → lp_X10_sure_24 c V J K Q g j := by
    intro g
    induction g with
    | zero => intro j p q r; omega
    | succ g ih =>
      intro j p q r
      rw [lp_X10_sure_24]
      by_cases e : 5 ≤ j
      · exact br_t e (k j)
      · exact br_f e (br_f (h j p (by omega)) ⟨zr_i (by omega) (by omega), ih (j + 1) (by omega) (by omega) (by omega)⟩)
  exact main 100000 0 (by decide) (by decide) (by omega)
theorem t_sure {n : Int} {a : Int} {b : Int} {V : qV} {J : qJ} {P : qV → qJ → Prop} (h : Rel n V J) (hP0 : ∀ V2 J2, Rel (n + 1) V2 J2 → P V2 J2) : W_X10_sure a b V J (fun r V1 J1 => W_X11_sure a b V1 (fun s V2 => V2 602 0 = 0 ∧ r = s ∧ P V2 J1)) (fun E V1 J1 => (E = "java/lang/IndexOutOfBoundsException" ∧ W_X11_sure a b V1 (fun s V2 => V2 602 0 = 1 ∧ P V2 J1)) ∨ (E = "java/lang/IllegalArgumentException" ∧ W_X11_sure a b V1 (fun s V2 => V2 602 0 = 2 ∧ P V2 J1))) := by
  have h142 := h.2.2.2.1.2.2.2.1.1
  refine if ha : 0 ≤ a ∧ a < V 12 10 then ?_ else s_dF0 ha (Or.inl ⟨rfl, m_asks0 h ha (br_t rfl ⟨qu_s _ _ _ _, hP0 _ _ h.th⟩)⟩)
  refine if hl : 0 ≤ b ∧ b < V 0 2 then ?_ else s_dF2 ha (by omega) hl (Or.inr ⟨rfl, m_asks2 h ha hl (br_t rfl ⟨qu_s _ _ _ _, hP0 _ _ h.th⟩)⟩)
  refine s_decideFind h ha hl (fun V1 J1 d => ?_)
  have mod : ∀ {Q : Int → qV → Prop}, (∀ V2, dB n a b V J V1 J1 V2 → Q 1 V2) → True := fun _ => trivial
  have ask : ∀ {Q : Int → qV → Prop}, Q 1 (qu V1 602 0 0) → W_X11_asks a b (qu V1 602 0 0) Q := fun {Q} k => by
    have hlw := h.2.2.1.1
    have g0 := d.1
    refine m_if1 (qs0 _) (by rw [q603, g0 _ _ (by decide) (by decide) (by decide) (by decide)]; exact h142.2) (by rw [q603, g0 _ _ (by decide) (by decide) (by decide) (by decide), ← h142.1]; exact ha) (br_f (by decide) (m_il1 (qs0 _) (by rw [q602' _ _ _ (by decide), g0 _ _ (by decide) (by decide) (by decide) (by decide)]; exact hlw.2) (by rw [q602' _ _ _ (by decide), g0 _ _ (by decide) (by decide) (by decide) (by decide), ← hlw.1]; exact hl) (br_f (by decide) k)))
  refine bits_e h hl d (fun c c0 c1 c2 c3 => br_c (fun z => ?_) (fun z => ?_))
  · exact ask (br_f (by decide) (m_whoB h ha hl d (fun V2 x => c3 _ V2 x (br_t z ⟨x.2.1, rfl, hP0 _ _ x.1⟩))))
  · obtain ⟨i, i5, l1, l2⟩ := m_lowT c.toNat (by omega) (by omega)
    rw [Int.toNat_of_nonneg c0] at l1 l2
    have low : ∀ {V2 : qV} {Q : Int → Prop}, Q i → W_X11_lowest c V2 Q := fun k => m_lowest (by omega) l1 (fun k p q => by have := l2 k.toNat (by omega); rw [Int.toNat_of_nonneg p] at this; exact this) k
    by_cases e : c = zshl 1 i
    · refine s_sure (i := i) (by omega) e (fun k p q r => ?_) (ask (br_f (by decide) (m_whoB h ha hl d (fun V2 x => c3 _ V2 x (br_f z (low (br_t e (low ⟨x.2.1, rfl, hP0 _ _ x.1⟩))))))))
      have := m_lowU c.toNat (by omega) k.toNat (by omega) (by rw [Int.toNat_of_nonneg c0, Int.toNat_of_nonneg p]; exact r) i i5 (by rw [Int.toNat_of_nonneg c0]; exact e)
      omega
    · refine s_sure0 (fun k p q r => e ?_) (fun _ => ask (br_f (by decide) (m_whoB h ha hl d (fun V2 x => c3 _ V2 x (br_f z (low (br_f e ⟨x.2.1, rfl, hP0 _ _ x.1⟩)))))))
      obtain ⟨s1, s2⟩ := m_lowS c.toNat (by omega) k.toNat (by omega) (by rw [Int.toNat_of_nonneg c0, Int.toNat_of_nonneg p]; exact r)
      rw [Int.toNat_of_nonneg c0] at s1 s2
      have h1 : ¬ k.toNat < i := fun y => s1 (l2 _ y)
      have h2 : ¬ i < k.toNat := fun y => l1 (s2 _ y)
      rw [r, show k = (i : Int) by omega]
theorem cntB_z {p : Int → Bool} : ∀ {n : Nat}, cntB p n = 0 ↔ ∀ k : Int, 0 ≤ k → k < n → p k = false
  | 0 => ⟨fun _ k a b => by omega, fun _ => rfl⟩
  | n + 1 => by
    have ih := cntB_z (p := p) (n := n)
    have h0 := (cntB_b (p := p) n).1
    have e : cntB p (n + 1) = cntB p n + bit01 (p n) := rfl
    rw [e]
    constructor
    · intro h k a b
      have h1 : bit01 (p n) = 0 ∧ cntB p n = 0 := by
        cases hp : p n <;> rw [hp] at h <;> simp only [bit01] at h ⊢ <;> simp at h ⊢ <;> omega
      by_cases hk : k = n
      · subst hk; exact bit01_0.mp h1.1
      · exact ih.mp h1.2 k a (by omega)
    · intro h
      rw [ih.mpr (fun k a b => h k a (by omega)), h n (by omega) (by omega)]; rfl
theorem t_due {n : Int} {a : Int} {b : Int} {V : qV} {J : qJ} {P : qV → qJ → Prop} (h : Rel n V J) (hP0 : ∀ V2 J2, Rel (n + 1) V2 J2 → P V2 J2) : W_X10_due a b V J (fun r V1 J1 => W_X11_due a b V1 (fun s V2 => V2 602 0 = 0 ∧ r = s ∧ P V2 J1)) (fun E V1 J1 => (E = "java/lang/IndexOutOfBoundsException" ∧ W_X11_due a b V1 (fun s V2 => V2 602 0 = 1 ∧ P V2 J1)) ∨ (E = "java/lang/IllegalArgumentException" ∧ W_X11_due a b V1 (fun s V2 => V2 602 0 = 2 ∧ P V2 J1))) := by
  have h142 := h.2.2.2.1.2.2.2.1.1
  refine if ha : 0 ≤ a ∧ a < V 12 10 then ?_ else s_dF0 ha (Or.inl ⟨rfl, m_asks0 h ha (br_t rfl ⟨qu_s _ _ _ _, hP0 _ _ h.th⟩)⟩)
  refine if hl : 0 ≤ b ∧ b < V 0 2 then ?_ else s_dF2 ha (by omega) hl (Or.inr ⟨rfl, m_asks2 h ha hl (br_t rfl ⟨qu_s _ _ _ _, hP0 _ _ h.th⟩)⟩)
  refine s_decideFind h ha hl (fun V1 J1 d => ?_)
  have mod : ∀ {Q : Int → qV → Prop}, (∀ V2, dB n a b V J V1 J1 V2 → Q 1 V2) → True := fun _ => trivial
  have ask : ∀ {Q : Int → qV → Prop}, Q 1 (qu V1 602 0 0) → W_X11_asks a b (qu V1 602 0 0) Q := fun {Q} k => by
    have hlw := h.2.2.1.1
    have g0 := d.1
    refine m_if1 (qs0 _) (by rw [q603, g0 _ _ (by decide) (by decide) (by decide) (by decide)]; exact h142.2) (by rw [q603, g0 _ _ (by decide) (by decide) (by decide) (by decide), ← h142.1]; exact ha) (br_f (by decide) (m_il1 (qs0 _) (by rw [q602' _ _ _ (by decide), g0 _ _ (by decide) (by decide) (by decide) (by decide)]; exact hlw.2) (by rw [q602' _ _ _ (by decide), g0 _ _ (by decide) (by decide) (by decide) (by decide), ← hlw.1]; exact hl) (br_f (by decide) k)))
  have hU := h.2.2.2.1.1
  have hf1 : a < V 603 142 := by omega
  obtain ⟨hfr, hf8⟩ := h.2.2.2.1.2.2.2.1.2 a ha.1 hf1
  rw [show (12 : Int) + 42 + 4 * a = 54 + 4 * a by omega] at hfr hf8
  have k6 := hfr.2.2.2.2.2.2.1
  have k7 := hfr.2.2.2.2.2.2.2.1
  have h20 := hU.1
  have d6 := d.2.2.2.2.1
  have e0 : ∀ j, V1 12 j = V 12 j := fun j => d.1 _ _ (by decide) (by decide) (by decide) (by decide)
  have eF : ∀ o j, 54 ≤ o → o ≤ 86 → V1 o j = V o j := fun o j p q => d.1 _ _ (by omega) (by omega) (by omega) (by omega)
  have sdue : ∀ {Q : Int → Prop} {X : String → Prop}, Q (max 0 (V1 155 2 - V (54 + 4 * a) 6)) → W_X10_dueByVerdict a V1 Q X := fun {Q X} k => s_fO1 (by rw [e0]; exact ha) (by rw [e0]; omega) (by rw [eF (54 + 4 * a) 6 (by omega) (by omega)]; exact ⟨zr_i (by omega) (by omega), k⟩)
  have mdue : ∀ {Q : Int → Prop} {V2 : qV}, dB n a b V J V1 J1 V2 → Q (max 0 (V1 155 2 - V (54 + 4 * a) 6)) → W_X11_dueNow a V2 Q := fun {Q V2} x k => by
    refine ⟨zr_i (by omega) (by omega), zr_i (by omega) (by omega), zr_i (by omega) (by omega), by omega, ?_⟩
    rw [x.2.2.1, ← x.2.2.2.2.2.2, ← k6.1]
    refine ⟨zr_i (by omega) (by omega), br_c (fun y => ?_) (fun y => ?_)⟩
    · rw [show max 0 (V1 155 2 - V (54 + 4 * a) 6) = 0 by omega] at k; exact k
    · rw [show max 0 (V1 155 2 - V (54 + 4 * a) 6) = V1 155 2 - V (54 + 4 * a) 6 by omega] at k; exact k
  have none : cntB (wB V) 1024 = 0 → max 0 (V1 155 2 - V (54 + 4 * a) 6) = 0 := fun z => by
    rcases d.2.2.2.2.2.2 with w | ⟨v, p, q, r, s⟩
    · omega
    · have := (cntB_z (p := wB V) (n := 1024)).mp z v p q
      rw [this] at r; exact absurd r (by decide)
  refine sdue (ask (br_f (by decide) (m_whoB h ha hl d (fun V2 x => br_c (fun z => ?_) (fun z => mdue x ⟨x.2.1, rfl, hP0 _ _ x.1⟩)))))
  rw [x.2.2.2.2.1] at z
  exact ⟨x.2.1, none z, hP0 _ _ x.1⟩
theorem t_late {n : Int} {a : Int} {b : Int} {V : qV} {J : qJ} {P : qV → qJ → Prop} (h : Rel n V J) (hP0 : ∀ V2 J2, Rel (n + 1) V2 J2 → P V2 J2) : W_X10_late a b V J (fun r V1 J1 => W_X11_late a b V1 (fun s V2 => V2 602 0 = 0 ∧ r = s ∧ P V2 J1)) (fun E V1 J1 => (E = "java/lang/IndexOutOfBoundsException" ∧ W_X11_late a b V1 (fun s V2 => V2 602 0 = 1 ∧ P V2 J1)) ∨ (E = "java/lang/IllegalArgumentException" ∧ W_X11_late a b V1 (fun s V2 => V2 602 0 = 2 ∧ P V2 J1))) := by
  have h142 := h.2.2.2.1.2.2.2.1.1
  refine if ha : 0 ≤ a ∧ a < V 12 10 then ?_ else s_dF0 ha (Or.inl ⟨rfl, m_asks0 h ha (br_t rfl ⟨qu_s _ _ _ _, hP0 _ _ h.th⟩)⟩)
  refine if hl : 0 ≤ b ∧ b < V 0 2 then ?_ else s_dF2 ha (by omega) hl (Or.inr ⟨rfl, m_asks2 h ha hl (br_t rfl ⟨qu_s _ _ _ _, hP0 _ _ h.th⟩)⟩)
  refine s_decideFind h ha hl (fun V1 J1 d => ?_)
  have mod : ∀ {Q : Int → qV → Prop}, (∀ V2, dB n a b V J V1 J1 V2 → Q 1 V2) → True := fun _ => trivial
  have ask : ∀ {Q : Int → qV → Prop}, Q 1 (qu V1 602 0 0) → W_X11_asks a b (qu V1 602 0 0) Q := fun {Q} k => by
    have hlw := h.2.2.1.1
    have g0 := d.1
    refine m_if1 (qs0 _) (by rw [q603, g0 _ _ (by decide) (by decide) (by decide) (by decide)]; exact h142.2) (by rw [q603, g0 _ _ (by decide) (by decide) (by decide) (by decide), ← h142.1]; exact ha) (br_f (by decide) (m_il1 (qs0 _) (by rw [q602' _ _ _ (by decide), g0 _ _ (by decide) (by decide) (by decide) (by decide)]; exact hlw.2) (by rw [q602' _ _ _ (by decide), g0 _ _ (by decide) (by decide) (by decide) (by decide), ← hlw.1]; exact hl) (br_f (by decide) k)))
  have hU := h.2.2.2.1.1
  have hf1 : a < V 603 142 := by omega
  obtain ⟨hfr, hf8⟩ := h.2.2.2.1.2.2.2.1.2 a ha.1 hf1
  rw [show (12 : Int) + 42 + 4 * a = 54 + 4 * a by omega] at hfr hf8
  have k6 := hfr.2.2.2.2.2.2.1
  have k7 := hfr.2.2.2.2.2.2.2.1
  have h20 := hU.1
  have d6 := d.2.2.2.2.1
  have e0 : ∀ j, V1 12 j = V 12 j := fun j => d.1 _ _ (by decide) (by decide) (by decide) (by decide)
  have eF : ∀ o j, 54 ≤ o → o ≤ 86 → V1 o j = V o j := fun o j p q => d.1 _ _ (by omega) (by omega) (by omega) (by omega)
  have sdue : ∀ {Q : Int → Prop} {X : String → Prop}, Q (max 0 (V1 155 2 - V (54 + 4 * a) 6)) → W_X10_dueByVerdict a V1 Q X := fun {Q X} k => s_fO1 (by rw [e0]; exact ha) (by rw [e0]; omega) (by rw [eF (54 + 4 * a) 6 (by omega) (by omega)]; exact ⟨zr_i (by omega) (by omega), k⟩)
  have mdue : ∀ {Q : Int → Prop} {V2 : qV}, dB n a b V J V1 J1 V2 → Q (max 0 (V1 155 2 - V (54 + 4 * a) 6)) → W_X11_dueNow a V2 Q := fun {Q V2} x k => by
    refine ⟨zr_i (by omega) (by omega), zr_i (by omega) (by omega), zr_i (by omega) (by omega), by omega, ?_⟩
    rw [x.2.2.1, ← x.2.2.2.2.2.2, ← k6.1]
    refine ⟨zr_i (by omega) (by omega), br_c (fun y => ?_) (fun y => ?_)⟩
    · rw [show max 0 (V1 155 2 - V (54 + 4 * a) 6) = 0 by omega] at k; exact k
    · rw [show max 0 (V1 155 2 - V (54 + 4 * a) 6) = V1 155 2 - V (54 + 4 * a) 6 by omega] at k; exact k
  have none : cntB (wB V) 1024 = 0 → max 0 (V1 155 2 - V (54 + 4 * a) 6) = 0 := fun z => by
    rcases d.2.2.2.2.2.2 with w | ⟨v, p, q, r, s⟩
    · omega
    · have := (cntB_z (p := wB V) (n := 1024)).mp z v p q
      rw [this] at r; exact absurd r (by decide)
  refine bits_e h hl d (fun c c0 c1 c2 c3 => s_fO1 (by rw [e0]; exact ha) (by rw [e0]; omega) ?_)
  have hfr1 : fR V1 (54 + 4 * a) (V 603) (143 + 27 * a) (V 603 21) (V 603 20) := hfr.fr (fun q j p r => d.1 _ _ (by omega) (by omega) (by omega) (by omega))
  have hmL := mL_of hU h.2.2.2.1.2.2.2.1 ha.1 hf1
  have z0 : cntB (wB V) 1024 = 0 → c = 0 := fun z => tb_e5 c0 c1 (by decide) (by decide) (fun y p q => by
    rw [c2 y p q]
    constructor
    · rintro ⟨v, a1, a2, a3, a4⟩
      have := (cntB_z (p := wB V) (n := 1024)).mp z v a1 a2
      rw [this] at a3; exact absurd a3 (by decide)
    · intro x; rw [tb_0] at x; exact absurd x (by decide))
  refine s_leftOn hfr1 (by omega) (by rw [e0, hU.1.1]; exact hU.1.2) ?_
  rw [e0, hU.1.1]
  have ml : ∀ {Q : Int → Prop} {V2 : qV}, dB n a b V J V1 J1 V2 → Q (leF (V 603) a (V 603 20)) → W_X11_leftOn a (V2 603 20) V2 Q := fun {Q V2} x k => by
    rw [x.2.2.1]
    refine m_leftOn (by rw [x.2.2.1]; exact hmL) (by omega) (by rw [x.2.2.1]; exact k)
  refine br_c (fun y => ?_) (fun y => br_c (fun y2 => sdue ?_) (fun y2 => ?_))
  · refine ask (br_f (by decide) (m_whoB h ha hl d (fun V2 x => br_c (fun z => ?_) (fun z => c3 _ V2 x (ml x (br_t y ⟨x.2.1, rfl, hP0 _ _ x.1⟩))))))
    rw [x.2.2.2.2.1] at z
    have := z0 z; omega
  · refine br_c (fun y3 => ?_) (fun y3 => ?_)
    · refine ask (br_f (by decide) (m_whoB h ha hl d (fun V2 x => br_c (fun z => ⟨x.2.1, rfl, hP0 _ _ x.1⟩) (fun z => c3 _ V2 x (ml x (br_f y (br_t y2 (mdue x (br_t (by omega) ⟨x.2.1, rfl, hP0 _ _ x.1⟩)))))))))
    · refine ask (br_f (by decide) (m_whoB h ha hl d (fun V2 x => br_c (fun z => ?_) (fun z => c3 _ V2 x (ml x (br_f y (br_t y2 (mdue x (br_f (by omega) ⟨x.2.1, rfl, hP0 _ _ x.1⟩)))))))))
      rw [x.2.2.2.2.1] at z
      have := none z; omega
  · refine ask (br_f (by decide) (m_whoB h ha hl d (fun V2 x => br_c (fun z => ?_) (fun z => c3 _ V2 x (ml x (br_f y (br_f y2 ⟨x.2.1, rfl, hP0 _ _ x.1⟩)))))))
    rw [x.2.2.2.2.1] at z
    rw [z0 z] at y2
    exact absurd (by decide) y2
