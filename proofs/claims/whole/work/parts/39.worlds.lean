/-! worlds, rules in a world -/
def allB (p : Int → Bool) : Nat → Bool
  | 0 => true
  | n + 1 => allB p n && p n
theorem allB_iff {p : Int → Bool} : ∀ {n : Nat}, allB p n = true ↔ ∀ k : Int, 0 ≤ k → k < n → p k = true
  | 0 => ⟨fun _ k a b => by omega, fun _ => rfl⟩
  | n + 1 => by
    rw [allB, Bool.and_eq_true, allB_iff (n := n)]
    constructor
    · rintro ⟨h1, h2⟩ k a b
      by_cases h : k = n
      · rw [h]; exact h2
      · exact h1 k a (by omega)
    · intro h
      exact ⟨fun k a b => h k a (by omega), h n (by omega) (by omega)⟩
theorem allB_s {p : Int → Bool} {n : Int} (h : 0 ≤ n) : allB p (n + 1).toNat = (allB p n.toNat && p n) := by
  rw [show (n + 1).toNat = n.toNat + 1 by omega, allB, Int.toNat_of_nonneg h]
def cntB (p : Int → Bool) : Nat → Int
  | 0 => 0
  | n + 1 => cntB p n + bit01 (p n)
theorem cntB_s {p : Int → Bool} {n : Int} (h : 0 ≤ n) : cntB p (n + 1).toNat = cntB p n.toNat + bit01 (p n) := by
  rw [show (n + 1).toNat = n.toNat + 1 by omega, cntB, Int.toNat_of_nonneg h]
theorem cntB_b {p : Int → Bool} : ∀ n : Nat, 0 ≤ cntB p n ∧ cntB p n ≤ n
  | 0 => by simp [cntB]
  | n + 1 => by
    have := cntB_b (p := p) n
    rw [cntB]
    rcases bit01_b (p n) with h | h <;> rw [h] <;> omega
def csB (V : qV) (c v : Int) : Bool := decide (run (fun _ => 0) v (seg V (420 * (3 + c)) (V 611 c - 420 * (3 + c)).toNat) [] = [1])
theorem csB_iff {V : qV} {c v : Int} : csB V c v = true ↔ cS V c v := by simp [csB, cS]
def knB (w : Int → Int) (v k : Int) : Bool := decide (w k = 2 ∨ w k = bit01 (tb v k))
def wB (V : qV) (v : Int) : Bool := allB (knB (V 603) v) 10 && allB (fun c => csB V c v) (V 603 593).toNat
/-- the reference's law l: its codes -/
def LiM (V : qV) (l i : Int) : List (Int × Int) := seg V (V 608 (12 * l + i)) (V 609 (12 * l + i) - V 608 (12 * l + i)).toNat
def MV (V : qV) (l n : Int) : Prop := (0 ≤ l ∧ l < 3) ∧ (V 610 l = n ∧ 0 ≤ n ∧ n ≤ 12) ∧ ∀ i, 0 ≤ i → i < n → (420 * l ≤ V 608 (12 * l + i) ∧ V 608 (12 * l + i) ≤ V 609 (12 * l + i) ∧ V 609 (12 * l + i) ≤ 420 * l + 400) ∧ (V 608 (12 * l + i) < V 609 (12 * l + i) → wrun (LiM V l i) [] = some [true])
theorem seg_fr {V V' : qV} (h : ∀ o j, o = 604 ∨ o = 605 → V' o j = V o j) : ∀ (n : Nat) (a : Int), seg V' a n = seg V a n
  | 0, _ => rfl
  | n + 1, a => by rw [seg, seg, seg_fr h n, h _ _ (Or.inl rfl), h _ _ (Or.inr rfl)]
theorem LiM_fr {V V' : qV} (h : ∀ o j, 604 ≤ o → o ≤ 612 → V' o j = V o j) (l : Int) : LiM V' l = LiM V l := by
  funext i
  unfold LiM
  rw [h 608 _ (by decide) (by decide), h 609 _ (by decide) (by decide), seg_fr (fun o j ho => h o j (by omega) (by omega))]
theorem MV.fr {V V' : qV} {l n : Int} (hm : MV V l n) (h : ∀ o j, 604 ≤ o → o ≤ 612 → V' o j = V o j) : MV V' l n := by
  obtain ⟨h1, h2, h3⟩ := hm
  refine ⟨h1, by rw [h _ _ (by decide) (by decide)]; exact h2, fun i a b => ?_⟩
  rw [h 608 _ (by decide) (by decide), h 609 _ (by decide) (by decide), LiM_fr h]
  exact h3 i a b
theorem ap_e {nm : Int → Int} {V : qV} {l i v : Int} (hm : V 608 (12 * l + i) = V 609 (12 * l + i)) : ap nm (LiM V l) v i = true := by
  unfold ap LiM
  rw [hm, show (V 609 (12 * l + i) - V 609 (12 * l + i)).toNat = 0 by omega]
  simp [seg]
theorem ap_n {nm : Int → Int} {V : qV} {l i v : Int} (hm : V 608 (12 * l + i) < V 609 (12 * l + i)) : ap nm (LiM V l) v i = decide (run nm v (LiM V l i) [] = [1]) := by
  have : LiM V l i ≠ [] := fun h => by
    have h2 := seg_len V (V 609 (12 * l + i) - V 608 (12 * l + i)).toNat (V 608 (12 * l + i))
    have h3 : (LiM V l i).length = 0 := by rw [h]; rfl
    unfold LiM at h3
    omega
  unfold ap
  simp [this]
theorem m_ruleOf {nm : Int → Int} {l v n : Int} {V : qV} {Q : Int → qV → Prop} (hv : 0 ≤ v ∧ v < 1024) (hm : MV V l n) (hnm : ∀ n, 0 ≤ n → n ≤ 9 → nm n = V 614 n) (k : ∀ V', (∀ o j, o ≠ 615 → V' o j = V o j) → Q (ri (ap nm (LiM V l) v) n) V') : W_X11_ruleOf l v V Q := by
  have hl := hm.1
  have hn := hm.2.1
  refine ⟨zr_i (by omega) (by omega), ?_⟩
  have main : ∀ (f : Nat) (i : Int) (V1 : qV), 0 ≤ i → i ≤ n → n < i + f → (∀ o j, o ≠ 615 → V1 o j = V o j) → ri (ap nm (LiM V l) v) i = -1 → lp_X11_ruleOf_5 l v (fun l3x15 V15 => Q (-1) V15) Q f (12 * l + i) V1 := by
    intro f
    induction f with
    | zero => intro i V1 a b c; omega
    | succ f ih =>
      intro i V1 h0 h1 hf hV hi
      rw [lp_X11_ruleOf_5]
      have e : ∀ o j, o ≠ 615 → V1 o j = V o j := hV
      rw [e 610 _ (by decide), hn.1]
      refine ⟨zr_i (by omega) (by omega), hl, zr_i (by omega) (by omega), br_c (fun c => ?_) (fun c => ⟨by omega, by omega, ?_⟩)⟩
      · have e1 : i = n := by omega
        subst e1
        have := k V1 hV
        rwa [hi] at this
      · have h3 := hm.2.2 i h0 (by omega)
        have found : ap nm (LiM V l) v i = true → ri (ap nm (LiM V l) v) n = i := fun ha => by
          have h9 : ri (ap nm (LiM V l) v) (i + 1) = i := by rw [ri_s h0, if_pos hi, if_pos ha]
          rw [ri_le (i := i + 1) (by omega) (by omega) (by omega), h9]
        have eM : LiM V1 l = LiM V l := LiM_fr (fun o j a b => hV o j (by omega)) l
        rw [e 608 _ (by decide), e 609 _ (by decide), show 12 * l + i - 12 * l = i by omega]
        refine br_c (fun d => ⟨zr_i (by omega) (by omega), zr_i (by omega) (by omega), ?_⟩) (fun d => ⟨by omega, by omega, ?_⟩)
        · have := k V1 hV
          rwa [found (ap_e d)] at this
        · have hlen := seg_len V (V 609 (12 * l + i) - V 608 (12 * l + i)).toNat (V 608 (12 * l + i))
          refine m_isSo (nm := nm) (L := LiM V l i) hv (by omega) (by unfold LiM; rw [hlen]; omega) (by omega) (by unfold LiM; rw [hlen]; omega) (h3.2 (by omega)) ?_ (fun m a b => by rw [hnm m a b, e _ _ (by decide)]) (fun V2 hV2 => ?_)
          · unfold LiM
            exact (mcod_seg V _ _).fr (fun o j h => hV o j (by omega))
          · have hp := ap_n (nm := nm) (v := v) (V := V) (l := l) (i := i) (by omega)
            have hVV : ∀ o j, o ≠ 615 → V2 o j = V o j := fun o j h => by rw [hV2 o j h, hV o j h]
            refine br_c (fun z => ⟨zr_i (by omega) (by omega), ?_⟩) (fun z => ⟨zr_i (by omega) (by omega), zr_i (by omega) (by omega), ?_⟩)
            · rw [show 12 * l + i + 1 = 12 * l + (i + 1) by omega]
              refine ih (i + 1) V2 (by omega) (by omega) (by omega) hVV ?_
              rw [ri_s h0, if_pos hi, if_neg]
              rw [hp]
              intro h9
              rw [decide_eq_true_eq] at h9
              rw [h9] at z
              simp [bit01] at z
            · have h9 : run nm v (LiM V l i) [] = [1] := by
                by_cases hx : run nm v (LiM V l i) [] = [1]
                · exact hx
                · exfalso; apply z; simp [bit01, hx]
              have := k V2 hVV
              rwa [found (by rw [hp, h9]; rfl)] at this
  have := main 100000 0 V (by decide) hn.2.1 (by omega) (fun _ _ _ => rfl) (ri_0 _)
  rwa [Int.add_zero] at this
theorem m_whoIn {nm : Int → Int} {l v n : Int} {V : qV} {Q : Int → qV → Prop} (hv : 0 ≤ v ∧ v < 1024) (hm : MV V l n) (hnm : ∀ n, 0 ≤ n → n ≤ 9 → nm n = V 614 n) (k : ∀ V', (∀ o j, o ≠ 615 → V' o j = V o j) → Q (whF nm (LiM V l) (fun i => V 606 (12 * l + i)) n v) V') : W_X11_whoIn l v V Q := by
  have hl := hm.1
  have hn := hm.2.1
  refine m_ruleOf hv hm hnm (fun V1 hV => ?_)
  have hb := ri_bd (p := ap nm (LiM V l) v) (n := n) hn.2.1
  have := k V1 hV
  unfold whF at this
  refine br_c (fun c => ?_) (fun c => ⟨zr_i (by omega) (by omega), zr_i (by omega) (by omega), by omega, ?_⟩)
  · rwa [if_pos c] at this
  · rw [if_neg c] at this
    rw [hV _ _ (by decide)]; exact this
theorem csB_fr {V V' : qV} (h : ∀ o j, 604 ≤ o → o ≤ 612 → V' o j = V o j) (c v : Int) : csB V' c v = csB V c v := by
  unfold csB
  rw [h 611 _ (by decide) (by decide), seg_fr (fun o j ho => h o j (by omega) (by omega))]
theorem wB_fr {V V' : qV} (h : ∀ o j, 603 ≤ o → o ≤ 612 → V' o j = V o j) (v : Int) : wB V' v = wB V v := by
  have e : V' 603 = V 603 := by funext j; exact h _ _ (by decide) (by decide)
  have e2 : (fun c => csB V' c v) = fun c => csB V c v := by funext c; exact csB_fr (fun o j a b => h o j (by omega) b) c v
  unfold wB
  rw [e, e2]
theorem bit01_0 {p : Bool} : bit01 p = 0 ↔ p = false := by cases p <;> simp [bit01]
theorem m_fw39 {v : Int} {V : qV} {K : Int → Int → Prop} (hv : 0 ≤ v ∧ v < 1024) (hK : K (bit01 (allB (knB (V 603) v) 10)) 10) : ∀ (f : Nat) (k r : Int), 0 ≤ k → k ≤ 10 → 10 < k + f → r = bit01 (allB (knB (V 603) v) k.toNat) → lp_X11_findWorlds_39 v V K f r k := by
  intro f
  induction f with
  | zero => intro k r a b c; omega
  | succ f ih =>
    intro k r h0 h1 hf hr
    rw [lp_X11_findWorlds_39]
    refine br_c (fun c => ?_) (fun c => br_c (fun d => ⟨zr_i (by omega) (by omega), ih (k + 1) 0 (by omega) (by omega) (by omega) ?_⟩) (fun d => ⟨zr_i (by omega) (by omega), by omega, ?_⟩))
    · have e : k = 10 := by omega
      subst e
      rw [hr]; exact hK
    · rw [d] at hr
      have := bit01_0.mp hr.symm
      rw [allB_s h0, this]; rfl
    · have ht : allB (knB (V 603) v) k.toNat = true := by
        cases hx : allB (knB (V 603) v) k.toNat with
        | true => rfl
        | false => rw [hx] at hr; exact absurd hr d
      rw [show 0 + k = k by omega]
      have e1 : knB (V 603) v k = true → 1 = bit01 (allB (knB (V 603) v) (k + 1).toNat) := fun h => by rw [allB_s h0, ht, h]; rfl
      have e0 : knB (V 603) v k = false → 0 = bit01 (allB (knB (V 603) v) (k + 1).toNat) := fun h => by rw [allB_s h0, ht, h]; rfl
      have eb : zand (zshr v k) 1 = bit01 (tb v k) := by rw [tb_sh hv.1 (by omega) h0 (by omega)]; rfl
      rw [eb]
      refine br_c (fun z => ⟨zr_i (by omega) (by omega), ih (k + 1) 1 (by omega) (by omega) (by omega) (e1 (by simp [knB, z]))⟩) (fun z => ⟨zr_i (by omega) (by omega), by omega, br_c (fun y => ⟨zr_i (by omega) (by omega), ih (k + 1) 1 (by omega) (by omega) (by omega) (e1 (by simp [knB, y]))⟩) (fun y => ⟨zr_i (by omega) (by omega), ih (k + 1) 0 (by omega) (by omega) (by omega) (e0 (by simp [knB, z, y]))⟩)⟩)
theorem m_fw91 {v : Int} {V : qV} {K : Int → Int → qV → Prop} (hv : 0 ≤ v ∧ v < 1024) (hw : 0 ≤ V 603 593 ∧ V 603 593 ≤ 8) (hc : ∀ c, 0 ≤ c → c < V 603 593 → cW V c) (h14 : ∀ n, 0 ≤ n → n ≤ 9 → V 614 n = 0) (hK : ∀ V' c, (∀ o j, o ≠ 615 → V' o j = V o j) → K (bit01 (wB V v)) c V') : ∀ (f : Nat) (c r : Int) (V1 : qV), 0 ≤ c → c ≤ V 603 593 → V 603 593 < c + f → (∀ o j, o ≠ 615 → V1 o j = V o j) → r = bit01 (allB (knB (V 603) v) 10 && allB (fun c => csB V c v) c.toNat) → lp_X11_findWorlds_91 v K f r c V1 := by
  intro f
  induction f with
  | zero => intro c r V1 a b d; omega
  | succ f ih =>
    intro c r V1 h0 h1 hf hV hr
    rw [lp_X11_findWorlds_91]
    rw [hV 603 _ (by decide), hV 611 _ (by decide)]
    refine br_c (fun d => ?_) (fun d => br_c (fun z => ?_) (fun z => ⟨zr_i (by omega) (by omega), zr_i (by omega) (by omega), by omega, ?_⟩))
    · have e : c = V 603 593 := by omega
      subst e
      rw [hr]; exact hK V1 _ hV
    · have e : wB V v = false := by
        rw [z] at hr
        have h9 := bit01_0.mp hr.symm
        unfold wB
        rw [Bool.and_eq_false_iff] at h9 ⊢
        rcases h9 with h9 | h9
        · exact Or.inl h9
        · right
          rw [Bool.eq_false_iff] at h9 ⊢
          intro h10
          apply h9
          rw [allB_iff] at h10 ⊢
          intro k a b
          exact h10 k a (by omega)
      have := hK V1 c hV
      rw [e] at this
      rw [z]; exact this
    · have ht : (allB (knB (V 603) v) 10 && allB (fun c => csB V c v) c.toNat) = true := by
        cases hx : (allB (knB (V 603) v) 10 && allB (fun c => csB V c v) c.toNat) with
        | true => rfl
        | false => rw [hx] at hr; exact absurd hr z
      have h2 := hc c h0 (by omega)
      have hlen := seg_len V (V 611 c - 420 * (3 + c)).toNat (420 * (3 + c))
      have hb := h2.1
      refine m_isSo (nm := fun _ => 0) (L := seg V (420 * (3 + c)) (V 611 c - 420 * (3 + c)).toNat) hv (by omega) (by rw [hlen]; omega) (by omega) (by rw [hlen]; omega) h2.2 ((mcod_seg V _ _).fr (fun o j h => hV o j (by omega))) (fun n a b => by rw [hV _ _ (by decide), h14 n a b]) (fun V2 hV2 => ⟨zr_i (by omega) (by omega), ih (c + 1) _ V2 (by omega) (by omega) (by omega) (fun o j h => by rw [hV2 o j h, hV o j h]) ?_⟩)
      rw [allB_s h0, ← Bool.and_assoc, ht, Bool.true_and]
      rfl
theorem m_findWorlds {V : qV} {Q : qV → Prop} (hw : 0 ≤ V 603 593 ∧ V 603 593 ≤ 8) (hc : ∀ c, 0 ≤ c → c < V 603 593 → cW V c)
    (k : ∀ V', (∀ o j, o ≠ 614 → o ≠ 615 → o ≠ 616 → ¬ (o = 602 ∧ j = 25) → V' o j = V o j) → (∀ n, 0 ≤ n → n ≤ 9 → V' 614 n = 0) → (∀ v, 0 ≤ v → v < 1024 → V' 616 v = bit01 (wB V v)) → V' 602 25 = cntB (wB V) 1024 → Q V') : W_X11_findWorlds V Q := by
  unfold W_X11_findWorlds
  have a7 : ∀ (f : Nat) (i : Int) (V1 : qV) (K : Int → qV → Prop), 0 ≤ i → i ≤ 10 → 10 < i + f → K 10 (fl V1 614 i 10 (fun _ => 0)) → lp_X11_findWorlds_7 K f i V1 := by
    intro f
    induction f with
    | zero => intro i V1 K a b c; omega
    | succ f ih =>
      intro i V1 K h0 h1 hf hk
      rw [lp_X11_findWorlds_7]
      refine br_c (fun c => ?_) (fun c => ⟨by omega, zr_i (by omega) (by omega), ih (i + 1) _ K (by omega) (by omega) (by omega) ?_⟩)
      · have e : i = 10 := by omega
        subst e
        rwa [fl_e (by omega)] at hk
      · rw [fl_s (c := fun _ => 0) (by omega)]; exact hk
  refine a7 100000 0 _ _ (by decide) (by decide) (by decide) ?_
  have g1 : ∀ o j, o ≠ 614 → ¬ (o = 602 ∧ j = 25) → (fl (qu V 602 25 0) 614 0 10 (fun _ => 0)) o j = V o j := fun o j a b => by rw [fl_o a, qu_e b]
  have g2 : ∀ n, 0 ≤ n → n ≤ 9 → (fl (qu V 602 25 0) 614 0 10 (fun _ => (0 : Int))) 614 n = 0 := fun n a b => by rw [fl_in a (by omega)]
  have g3 : (fl (qu V 602 25 0) 614 0 10 (fun _ => 0)) 602 25 = 0 := by rw [fl_o (by decide), qu_s]
  generalize (fl (qu V 602 25 0) 614 0 10 (fun _ => 0)) = V0 at g1 g2 g3 ⊢
  have main : ∀ (f : Nat) (v : Int) (V1 : qV), 0 ≤ v → v ≤ 1024 → 1024 < v + f → (∀ o j, o ≠ 615 → o ≠ 616 → ¬ (o = 602 ∧ j = 25) → V1 o j = V0 o j) → (∀ x, 0 ≤ x → x < v → V1 616 x = bit01 (wB V x)) → V1 602 25 = cntB (wB V) v.toNat → lp_X11_findWorlds_28 (fun l1x30 V30 => Q V30) f v V1 := by
    intro f
    induction f with
    | zero => intro v V1 a b c; omega
    | succ f ih =>
      intro v V1 h0 h1 hf hV h6 h25
      rw [lp_X11_findWorlds_28]
      refine br_c (fun c => ?_) (fun c => ?_)
      · have e : v = 1024 := by omega
        subst e
        exact k V1 (fun o j a b c d => by rw [hV o j b c d, g1 o j a d]) (fun n a b => by rw [hV _ _ (by decide) (by decide) (by omega), g2 n a b]) h6 h25
      · have hVV : ∀ o j, 603 ≤ o → o ≤ 612 → V1 o j = V o j := fun o j a b => by rw [hV o j (by omega) (by omega) (by omega), g1 o j (by omega) (by omega)]
        have hwv : wB V1 v = wB V v := wB_fr hVV v
        refine m_fw39 (V := V1) (by omega) ?_ 100000 0 1 (by decide) (by decide) (by decide) rfl
        refine m_fw91 (V := V1) (by omega) (by rw [hVV _ _ (by decide) (by decide)]; exact hw) (fun c a b => ?_) (fun n a b => by rw [hV _ _ (by decide) (by decide) (by omega), g2 n a b]) (fun V2 c2 hV2 => ?_) 100000 0 _ V1 (by decide) (by rw [hVV _ _ (by decide) (by decide)]; exact hw.1) (by rw [hVV _ _ (by decide) (by decide)]; omega) (fun _ _ _ => rfl) (by simp [allB])
        · rw [hVV _ _ (by decide) (by decide)] at b
          have := hc c a b
          unfold cW at this ⊢
          rw [hVV 611 _ (by decide) (by decide), seg_fr (fun o j ho => hVV o j (by omega) (by omega))]
          exact this
        · rw [hwv]
          have hcb := cntB_b (p := wB V) v.toNat
          have f1 : ∀ x, (qu V2 616 v x) 602 25 = V1 602 25 := fun x => by rw [qu_o _ _ (by decide), hV2 _ _ (by decide)]
          have go : ∀ y, lp_X11_findWorlds_28 (fun l1x30 V30 => Q V30) f (v + 1) (qu (qu V2 616 v (bit01 (wB V v))) 602 25 y) ∨ y ≠ V1 602 25 + bit01 (wB V v) := fun y => by
            by_cases hy : y = V1 602 25 + bit01 (wB V v)
            · left
              refine ih (v + 1) _ (by omega) (by omega) (by omega) (fun o j a b c => ?_) (fun x a b => ?_) ?_
              · rw [qu_e c, qu_o _ _ b, hV2 o j a]; exact hV o j a b c
              · rw [qu_o _ _ (by decide)]
                by_cases hx : x = v
                · subst hx; rw [qu_s]
                · rw [qu_j _ _ hx, hV2 _ _ (by decide)]; exact h6 x a (by omega)
              · rw [qu_s, hy, h25, cntB_s h0]
            · exact Or.inr hy
          refine ⟨by omega, bit01_b _, br_c (fun z => ?_) (fun z => ?_)⟩
          · rw [f1]
            refine ⟨zr_i (by omega) (by omega), zr_i (by omega) (by omega), ?_⟩
            rcases go (V1 602 25 + 0) with h | h
            · exact h
            · exact absurd (by rw [z]) h
          · rw [f1]
            refine ⟨zr_i (by omega) (by omega), zr_i (by omega) (by omega), ?_⟩
            rcases go (V1 602 25 + 1) with h | h
            · exact h
            · exact absurd (by rcases bit01_b (wB V v) with h9 | h9; exact absurd h9 z; rw [h9]) h
  exact main 100000 0 V0 (by decide) (by decide) (by decide) (fun _ _ _ _ _ => rfl) (fun x a b => by omega) (by rw [g3]; rfl)
