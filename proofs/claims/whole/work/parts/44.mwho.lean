/-! the reference decides a find by a law in all worlds -/
/-- what findWho leaves -/
def fwP (f l n : Int) (V V' : qV) : Prop :=
  (∀ o j, o ≠ 614 → o ≠ 615 → o ≠ 616 → o ≠ 617 → ¬ (o = 602 ∧ (j = 25 ∨ j = 27)) → V' o j = V o j) ∧ (∀ m, 0 ≤ m → m ≤ 9 → V' 614 m = nmM (V 603) f m) ∧ (∀ v, 0 ≤ v → v < 1024 → V' 616 v = bit01 (wB V v)) ∧ V' 602 25 = cntB (wB V) 1024 ∧
  (∀ v, 0 ≤ v → v < 1024 → wB V v = true → V' 617 v = whF (nmM (V 603) f) (LiM V l) (fun i => V 606 (12 * l + i)) n v) ∧
  ((0 ≤ V' 602 27 ∧ V' 602 27 ≤ 9999) ∧ (∀ v, 0 ≤ v → v < 1024 → wB V v = true → crF (nmM (V 603) f) (LiM V l) (fun i => V 607 (12 * l + i)) n v ≤ V' 602 27) ∧ (V' 602 27 = 0 ∨ sw fun v => wB V v = true ∧ crF (nmM (V 603) f) (LiM V l) (fun i => V 607 (12 * l + i)) n v = V' 602 27))
theorem m_findWho {f l n : Int} {V : qV} {Q : qV → Prop} (hw : 0 ≤ V 603 593 ∧ V 603 593 ≤ 8) (hc : ∀ c, 0 ≤ c → c < V 603 593 → cW V c) (hP : mP (V 603)) (hF : mF (V 603) f) (hm : MV V l n) (hcr : ∀ i, 0 ≤ i → i < n → 0 ≤ V 607 (12 * l + i) ∧ V 607 (12 * l + i) ≤ 9999) (k : ∀ V', fwP f l n V V' → Q V') : W_X11_findWho f l V Q := by
  unfold W_X11_findWho
  refine m_findWorlds hw hc (fun V1 a1 a2 a3 a4 => ?_)
  have e1 : V1 603 = V 603 := by funext j; exact a1 _ _ (by decide) (by decide) (by decide) (by omega)
  refine m_nameFind (by rw [e1]; exact hP) (by rw [e1]; exact hF) (fun V2 b1 b2 => ?_)
  rw [e1] at b2
  have c1 : ∀ o j, o ≠ 614 → o ≠ 615 → o ≠ 616 → ¬ (o = 602 ∧ (j = 25 ∨ j = 27)) → (qu V2 602 27 0) o j = V o j := fun o j h1 h2 h3 h4 => by rw [qu_e (by omega), b1 o j h1, a1 o j h1 h2 h3 (by omega)]
  have c2 : ∀ m, 0 ≤ m → m ≤ 9 → (qu V2 602 27 0) 614 m = nmM (V 603) f m := fun m p q => by rw [qu_o _ _ (by decide)]; exact b2 m p q
  have c3 : ∀ v, 0 ≤ v → v < 1024 → (qu V2 602 27 0) 616 v = bit01 (wB V v) := fun v p q => by rw [qu_o _ _ (by decide), b1 _ _ (by decide)]; exact a3 v p q
  have c4 : (qu V2 602 27 0) 602 25 = cntB (wB V) 1024 := by rw [qu_j _ _ (by decide), b1 _ _ (by decide)]; exact a4
  have c5 : (qu V2 602 27 0) 602 27 = 0 := by rw [qu_s]
  generalize (qu V2 602 27 0) = V3 at c1 c2 c3 c4 c5 ⊢
  have hn := hm.2.1
  have main : ∀ (g : Nat) (v : Int) (W : qV), 0 ≤ v → v ≤ 1024 → 1024 < v + g → (∀ o j, o ≠ 615 → o ≠ 617 → ¬ (o = 602 ∧ j = 27) → W o j = V3 o j) →
      (∀ x, 0 ≤ x → x < v → wB V x = true → W 617 x = whF (nmM (V 603) f) (LiM V l) (fun i => V 606 (12 * l + i)) n x) → (0 ≤ W 602 27 ∧ W 602 27 ≤ 9999) → (∀ x, 0 ≤ x → x < v → wB V x = true → crF (nmM (V 603) f) (LiM V l) (fun i => V 607 (12 * l + i)) n x ≤ W 602 27) → (W 602 27 = 0 ∨ sw fun x => wB V x = true ∧ crF (nmM (V 603) f) (LiM V l) (fun i => V 607 (12 * l + i)) n x = W 602 27) → lp_X11_findWho_16 l (fun l3x36 V36 => Q V36) g v W := by
    intro g
    induction g with
    | zero => intro v W a b c; omega
    | succ g ih =>
      intro v W h0 h1 hg hW h7 h27 hc1 hc2
      rw [lp_X11_findWho_16]
      refine br_c (fun c => ?_) (fun c => ⟨by omega, ?_⟩)
      · have e : v = 1024 := by omega
        subst e
        exact k W ⟨fun o j p1 p2 p3 p4 p5 => by rw [hW o j p2 p4 (by omega)]; exact c1 o j p1 p2 p3 p5, fun m p q => by rw [hW _ _ (by decide) (by decide) (by omega)]; exact c2 m p q, fun x p q => by rw [hW _ _ (by decide) (by decide) (by omega)]; exact c3 x p q, by rw [hW _ _ (by decide) (by decide) (by omega)]; exact c4, h7, h27, hc1, hc2⟩
      · rw [hW 616 _ (by decide) (by decide) (by omega), c3 v h0 (by omega)]
        refine br_c (fun d => ⟨zr_i (by omega) (by omega), ih (v + 1) W (by omega) (by omega) (by omega) hW (fun x p q hx => ?_) h27 (fun x p q hx => ?_) hc2⟩) (fun d => ?_)
        · have : x ≠ v := fun h => by subst h; rw [bit01_0.mp d] at hx; cases hx
          exact h7 x p (by omega) hx
        · have : x ≠ v := fun h => by subst h; rw [bit01_0.mp d] at hx; cases hx
          exact hc1 x p (by omega) hx
        · have hwv : wB V v = true := by
            cases hx : wB V v with
            | true => rfl
            | false => rw [hx] at d; exact absurd rfl d
          have hT : ∀ o j, 604 ≤ o → o ≤ 612 → W o j = V o j := fun o j p q => by rw [hW o j (by omega) (by omega) (by omega)]; exact c1 o j (by omega) (by omega) (by omega) (by omega)
          refine m_ruleOf (nm := nmM (V 603) f) (n := n) (by omega) (hm.fr hT) (fun m p q => by rw [hW _ _ (by decide) (by decide) (by omega)]; exact (c2 m p q).symm) (fun W1 hW1 => ?_)
          rw [LiM_fr hT]
          have hri := ri_bd (p := ap (nmM (V 603) f) (LiM V l) v) (n := n) hn.2.1
          have e27 : ∀ x, (qu W1 617 v x) 602 27 = W 602 27 := fun x => by rw [qu_o _ _ (by decide), hW1 _ _ (by decide)]
          have e607 : ∀ x j, (qu W1 617 v x) 607 j = V 607 j := fun x j => by rw [qu_o _ _ (by decide), hW1 _ _ (by decide)]; exact hT _ _ (by decide) (by decide)
          have e606 : ∀ j, W1 606 j = V 606 j := fun j => by rw [hW1 _ _ (by decide)]; exact hT _ _ (by decide) (by decide)
          simp only [e27, e607, e606]
          have go : ∀ x y, x = whF (nmM (V 603) f) (LiM V l) (fun i => V 606 (12 * l + i)) n v → (0 ≤ y ∧ y ≤ 9999) → W 602 27 ≤ y → crF (nmM (V 603) f) (LiM V l) (fun i => V 607 (12 * l + i)) n v ≤ y → (y = W 602 27 ∨ y = crF (nmM (V 603) f) (LiM V l) (fun i => V 607 (12 * l + i)) n v) → (zr (v + 1) ∧ lp_X11_findWho_16 l (fun l3x36 V36 => Q V36) g (v + 1) (qu (qu W1 617 v x) 602 27 y)) := by
            intro x y hx hy hy1 hy2 hy3
            refine ⟨zr_i (by omega) (by omega), ih (v + 1) _ (by omega) (by omega) (by omega) (fun o j p1 p2 p3 => ?_) (fun z p q hz => ?_) (by rw [qu_s]; exact hy) (fun z p q hz => ?_) ?_⟩
            · rw [qu_e p3, qu_o _ _ p2, hW1 o j p1]; exact hW o j p1 p2 p3
            · rw [qu_o _ _ (by decide)]
              by_cases hzv : z = v
              · subst hzv; rw [qu_s]; exact hx
              · rw [qu_j _ _ hzv, hW1 _ _ (by decide)]; exact h7 z p (by omega) hz
            · rw [qu_s]
              by_cases hzv : z = v
              · subst hzv; exact hy2
              · have := hc1 z p (by omega) hz; omega
            · rw [qu_s]
              rcases hy3 with rfl | rfl
              · exact hc2
              · exact Or.inr ⟨v, h0, by omega, hwv, rfl⟩
          refine br_c (fun z => ?_) (fun z => ?_)
          · have ew : whF (nmM (V 603) f) (LiM V l) (fun i => V 606 (12 * l + i)) n v = 1 := by unfold whF; rw [if_pos z]
            have ec : crF (nmM (V 603) f) (LiM V l) (fun i => V 607 (12 * l + i)) n v = 0 := by unfold crF; rw [if_pos z]
            refine ⟨by omega, br_t z (br_c (fun y => go 1 _ ew.symm h27 (by omega) (by omega) (Or.inl rfl)) (fun y => by omega))⟩
          · have ew : whF (nmM (V 603) f) (LiM V l) (fun i => V 606 (12 * l + i)) n v = V 606 (12 * l + ri (ap (nmM (V 603) f) (LiM V l) v) n) := by unfold whF; rw [if_neg z]
            have ec : crF (nmM (V 603) f) (LiM V l) (fun i => V 607 (12 * l + i)) n v = V 607 (12 * l + ri (ap (nmM (V 603) f) (LiM V l) v) n) := by unfold crF; rw [if_neg z]
            have hcb := hcr (ri (ap (nmM (V 603) f) (LiM V l) v) n) (by omega) (by omega)
            have hl := hm.1
            refine ⟨zr_i (by omega) (by omega), zr_i (by omega) (by omega), by omega, by omega, br_f z ⟨zr_i (by omega) (by omega), zr_i (by omega) (by omega), by omega, br_c (fun y => go _ _ ew.symm h27 (by omega) (by omega) (Or.inl rfl)) (fun y => go _ _ ew.symm hcb (by omega) (by omega) (Or.inr ec.symm))⟩⟩
  exact main 100000 0 V3 (by decide) (by decide) (by decide) (fun _ _ _ _ _ => rfl) (fun x p q => by omega) (by omega) (fun x p q => by omega) (Or.inl c5)
/-- bits of whom there are -/
theorem m_mayBits {V : qV} {Q : Int → Prop} {W : Int → Bool} {x : Int → Int} (h6 : ∀ v, 0 ≤ v → v < 1024 → V 616 v = bit01 (W v)) (h7 : ∀ v, 0 ≤ v → v < 1024 → W v = true → V 617 v = x v ∧ 0 ≤ x v ∧ x v ≤ 4) (k : ∀ b, 0 ≤ b → b < 32 → (∀ y, 0 ≤ y → y ≤ 4 → (tb b y = true ↔ sw fun v => W v = true ∧ x v = y)) → Q b) : W_X11_mayBits V Q := by
  have main : ∀ (g : Nat) (v b : Int), 0 ≤ v → v ≤ 1024 → 1024 < v + g → 0 ≤ b → b < 32 → (∀ y, 0 ≤ y → y ≤ 4 → (tb b y = true ↔ sw fun z => (W z = true ∧ x z = y) ∧ z < v)) → lp_X11_mayBits_4 V (fun l1x5 l2x5 => Q l1x5) g b v := by
    intro g
    induction g with
    | zero => intro v b a b c; omega
    | succ g ih =>
      intro v b h0 h1 hg b0 b1 hb2
      rw [lp_X11_mayBits_4]
      refine br_c (fun c => k b b0 b1 (fun y p q => ?_)) (fun c => ⟨by omega, ?_⟩)
      · rw [hb2 y p q]
        constructor
        · rintro ⟨z, a, b, h, _⟩; exact ⟨z, a, b, h⟩
        · rintro ⟨z, a, b, h⟩; exact ⟨z, a, b, h, by omega⟩
      · rw [h6 v h0 (by omega)]
        refine br_c (fun d => ⟨zr_i (by omega) (by omega), ?_⟩) (fun d => ⟨by omega, zr_i (by omega) (by omega), ?_⟩)
        · have e0 : zor b 0 = b := by rw [fx_or b0 (by omega) (by decide) (by decide)]; simp; omega
          rw [e0]
          refine ih (v + 1) b (by omega) (by omega) (by omega) b0 b1 (fun y p q => ?_)
          rw [hb2 y p q]
          constructor
          · rintro ⟨z, a, b, h, g⟩; exact ⟨z, a, b, h, by omega⟩
          · rintro ⟨z, a, b, h, g⟩
            refine ⟨z, a, b, h, ?_⟩
            by_cases hz : z = v
            · exfalso; subst hz; rw [bit01_0.mp d] at h; exact Bool.noConfusion h.1
            · omega
        · have hwv : W v = true := by
            cases hx : W v with
            | true => rfl
            | false => rw [hx] at d; exact absurd rfl d
          obtain ⟨e7, e8⟩ := h7 v h0 (by omega) hwv
          rw [e7]
          have hsh := zshl_rn (k := x v) (n := 5) (by decide) e8.1 (by omega)
          have hor := zor_rn (a := b) (b := zshl 1 (x v)) (n := 5) (by decide) b0 (by omega) (by omega) hsh.2
          refine ih (v + 1) _ (by omega) (by omega) (by omega) hor.1 (by omega) (fun y p q => ?_)
          rw [tb_or b0 (by omega) (by omega) (by omega), tb_p e8.1 (by omega) p, Bool.or_eq_true, hb2 y p q, decide_eq_true_eq]
          constructor
          · rintro (⟨z, a, b, h, g⟩ | h)
            · exact ⟨z, a, b, h, by omega⟩
            · exact ⟨v, h0, by omega, ⟨hwv, h⟩, by omega⟩
          · rintro ⟨z, a, b, h, g⟩
            by_cases hz : z = v
            · right; subst hz; exact h.2
            · left; exact ⟨z, a, b, h, by omega⟩
  exact main 100000 0 0 (by decide) (by decide) (by decide) (by decide) (by decide) (fun y p q => by
    rw [tb_0]
    exact ⟨fun h => Bool.noConfusion h, fun ⟨v, a, b, _, g⟩ => by omega⟩)
