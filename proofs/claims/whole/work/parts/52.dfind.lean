/-! the law as both hold it; a find decided by both -/
theorem lR_lo {V : qV} {l : Int} (h : lR V l) : ∀ i : Nat, (i : Int) < V 610 l → 420 * l ≤ V 608 (12 * l + i)
  | 0, hi => by
    have := (h.2.1 0 (by omega) hi).2.2.1.2.2.2
    rw [if_pos rfl] at this
    rw [show ((0 : Nat) : Int) = 0 from rfl, this]; omega
  | i + 1, hi => by
    have h1 := (h.2.1 ((i + 1 : Nat) : Int) (by omega) hi).2.2.1.2.2.2
    have h2 := (h.2.1 (i : Int) (by omega) (by omega)).2.2.1.2.1
    have h3 := lR_lo h i (by omega)
    rw [if_neg (by omega)] at h1
    rw [h1, show ((i + 1 : Nat) : Int) - 1 = (i : Int) by omega]
    omega
theorem cod_seg {V : qV} {o d : Int} : ∀ (n : Nat) (a : Int), (∀ k, a ≤ k → k < a + n → V o (k - d) = enc (V 604 k, V 605 k)) → cod V o (a - d) (seg V a n)
  | 0, _, _ => trivial
  | n + 1, a, h => ⟨h a (by omega) (by omega), by
      have := cod_seg (o := o) (d := d) n (a + 1) (fun k p q => h k (by omega) (by omega))
      rw [show a - d + 1 = a + 1 - d by omega]; exact this⟩
theorem seg_nil {V : qV} {a : Int} {n : Nat} (h : n = 0) : seg V a n = [] := by rw [h]; rfl
theorem lR.L {V : qV} {l : Int} (h : lR V l) : LV V (173 + 5 * l) (V 610 l) (LiM V l) (fun i => V 606 (12 * l + i)) (fun i => V 607 (12 * l + i)) := by
  refine ⟨h.1, fun i h0 h1 => ?_⟩
  obtain ⟨a1, a2, a3, a4, a5⟩ := h.2.1 i h0 h1
  have lo := lR_lo h i.toNat (by omega)
  rw [Int.toNat_of_nonneg h0] at lo
  refine ⟨⟨V 608 (12 * l + i) - 420 * l, ?_, by omega, ?_, by omega, ?_⟩, ?_, a1, a2⟩
  · rw [a3.2.2.2]
    by_cases hi : i = 0
    · rw [if_pos hi, if_pos hi]; omega
    · rw [if_neg hi, if_neg hi, (h.2.1 (i - 1) (by omega) (by omega)).2.2.1.1]
  · unfold LiM
    rw [seg_len, a3.1]; omega
  · exact cod_seg _ _ (fun k p q => (a5 k p (by omega)).1)
  · by_cases he : V 608 (12 * l + i) < V 609 (12 * l + i)
    · exact Or.inr (a4 he)
    · exact Or.inl (seg_nil (by omega))
theorem lR.M {V : qV} {l : Int} (hl : 0 ≤ l ∧ l < 3) (h : lR V l) : MV V l (V 610 l) := by
  refine ⟨hl, ⟨rfl, h.1.2⟩, fun i h0 h1 => ?_⟩
  obtain ⟨a1, a2, a3, a4, a5⟩ := h.2.1 i h0 h1
  have lo := lR_lo h i.toNat (by omega)
  rw [Int.toNat_of_nonneg h0] at lo
  exact ⟨by omega, a4⟩
/-- the worlds, as both hold them -/
theorem wB_e {V : qV} {J : qJ} (hU : tU V 12 (V 603)) (hA : tA V J 12 (V 603) (cS V)) {v : Int} (h0 : 0 ≤ v) (h1 : v < 1024) : (s0 J 13 v && allB (knB (V 14) v) 10) = wB V v := by
  have e1 : allB (knB (V 14) v) 10 = allB (knB (V 603) v) 10 := by
    rw [Bool.eq_iff_iff, allB_iff, allB_iff]
    constructor <;> intro h k p q
    · have := h k p q
      unfold knB at this ⊢
      rw [← (hU.2 k p (by omega)).1.1]; exact this
    · have := h k p q
      unfold knB at this ⊢
      rw [show (V 14 k) = V 603 k from (hU.2 k p (by omega)).1.1]; exact this
  have e2 : s0 J 13 v = allB (fun c => csB V c v) (V 603 593).toNat := by
    rw [Bool.eq_iff_iff, allB_iff]
    have := hA.2 v h0 h1
    unfold s0
    rw [show (12 : Int) + 1 = 13 from rfl] at this
    rw [this]
    have h9 := hA.1.2
    constructor <;> intro h k p q
    · exact csB_iff.mpr (h k p (by omega))
    · exact csB_iff.mp (h k p (by omega))
  unfold wB
  rw [e1, e2, Bool.and_comm]
theorem ap_cg {nm nm' : Int → Int} {Li : Int → List (Int × Int)} (h : nm = nm') : ap nm Li = ap nm' Li := by rw [h]
/-- what decideFind leaves -/
def dF (f l : Int) (V : qV) (J : qJ) (V' : qV) (J' : qJ) : Prop :=
  (∀ q j, q ≠ 151 → q ≠ 153 → q ≠ 155 → q ≠ 168 → V' q j = V q j) ∧ (∀ q j, q ≠ 152 → q ≠ 154 → q ≠ 156 → q ≠ 166 → J' q j = J q j) ∧ jI V' J' ∧
  (∀ v, 0 ≤ v → v < 1024 → ∀ k, 0 ≤ k → k ≤ 4 → sv J' 156 k v = (wB V v && decide (whF (nmM (V 603) f) (LiM V l) (fun i => V 606 (12 * l + i)) (V 610 l) v = k))) ∧
  ((0 ≤ V' 155 2 ∧ V' 155 2 ≤ 9999) ∧ (∀ v, 0 ≤ v → v < 1024 → wB V v = true → crF (nmM (V 603) f) (LiM V l) (fun i => V 607 (12 * l + i)) (V 610 l) v ≤ V' 155 2) ∧ (V' 155 2 = 0 ∨ sw fun v => wB V v = true ∧ crF (nmM (V 603) f) (LiM V l) (fun i => V 607 (12 * l + i)) (V 610 l) v = V' 155 2))
theorem s_decideFind {n f l : Int} {V : qV} {J : qJ} {Q : qV → qJ → Prop} {X : String → qV → qJ → Prop} (h : Rel n V J) (hf : 0 ≤ f ∧ f < V 12 10) (hl : 0 ≤ l ∧ l < V 0 2) (k : ∀ V' J', dF f l V J V' J' → Q V' J') : W_X10_decideFind f l V J Q X := by
  obtain ⟨hU, hP, hG, hF, hC, hS, hA⟩ := h.2.2.2.1
  have hlw := h.2.2.1
  have h142 := hF.1
  have hf1 : f < V 603 142 := by omega
  obtain ⟨hfr, hf8⟩ := hF.2 f hf.1 hf1
  rw [show (12 : Int) + 42 + 4 * f = 54 + 4 * f by omega] at hfr hf8
  have k1 := hfr.2.1
  have k3 := hfr.2.2.2.1
  have k5 := hfr.2.2.2.2.2.1
  have h20 := hU.1
  refine s_fO1 hf (by omega) (s_lO1 hl (by have := hlw.1; omega) (s_fillNames (by omega) hU hP hG hC (by omega) (by omega) (by omega) ?_))
  rw [nmM_e hfr]
  have hlr := hlw.2 l hl.1 (by have := hlw.1; omega)
  have e1 : ∀ q j, q ≠ 168 → (fl V 168 0 10 (nmM (V 603) f)) q j = V q j := fun q j a => fl_o a _
  have e2 : ∀ m, 0 ≤ m → m ≤ 9 → nmM (V 603) f m = (fl V 168 0 10 (nmM (V 603) f)) 168 m := fun m a b => by rw [fl_in (by omega) (by omega)]
  generalize (fl V 168 0 10 (nmM (V 603) f)) = V3 at e1 e2 ⊢
  refine s_fillWorldSet (fun j a b => ?_) (fun J4 j1 j2 => ?_)
  · rw [e1 _ _ (by decide)]
    have := (hU.2 j a b).1
    rw [show (12 : Int) + 2 = 14 from rfl] at this
    omega
  have j3 : ∀ v, 0 ≤ v → v < 1024 → s0 J4 166 v = wB V v := fun v a b => by
    rw [j2 v a b, ← wB_e hU hA a b, show V3 14 = V 14 by funext j; exact e1 _ _ (by decide)]
  refine s_decide (by have := hlw.1; omega) (Or.inl rfl) (hlr.L.fr (fun q j a b => e1 q j (by have := hlw.1; omega))) e2 ?_ (fun V5 J5 d => k V5 J5 ?_)
  · have h8 := h.2.2.2.2.2.2.2.1
    refine ⟨by rw [e1 _ _ (by decide)]; exact h8.1, fun q v p r => ?_⟩
    rw [e1 _ _ (by decide)] at q
    have := h8.2 q v p r
    unfold s0 at this ⊢
    rw [j1 _ _ (by decide)]; exact this
  · obtain ⟨d1, d2, d3, d4, -, d6, d7, d8⟩ := d
    refine ⟨fun q j a b c d => by rw [d1 q j a b c, e1 q j d], fun q j a b c d => by rw [d2 q j a b c, j1 q j d], d3, fun v a b m p q => ?_, d6, fun v a b w => ?_, ?_⟩
    · rw [← j3 v a b]; exact d4 v a b m p q
    · exact d7 v a b (by rw [j3 v a b]; exact w)
    · rcases d8 with d8 | ⟨v, a, b, w, x⟩
      · exact Or.inl d8
      · exact Or.inr ⟨v, a, b, by rw [← j3 v a b]; exact w, x⟩
theorem s_dF0 {f l : Int} {V : qV} {J : qJ} {Q : qV → qJ → Prop} {X : String → qV → qJ → Prop} (hf : ¬ (0 ≤ f ∧ f < V 12 10)) (k : X "java/lang/IndexOutOfBoundsException" V J) : W_X10_decideFind f l V J Q X := s_fO0 hf k
theorem s_dF2 {f l : Int} {V : qV} {J : qJ} {Q : qV → qJ → Prop} {X : String → qV → qJ → Prop} (hf : 0 ≤ f ∧ f < V 12 10) (h8 : V 12 10 ≤ 8) (hl : ¬ (0 ≤ l ∧ l < V 0 2)) (k : X "java/lang/IllegalArgumentException" V J) : W_X10_decideFind f l V J Q X := s_fO1 hf h8 (s_lO0 hl k)
/-! the reference's side -/
theorem q602' (V : qV) (j v : Int) (h : j ≠ 0) : (qu V 602 0 v) 602 j = V 602 j := qu_j _ _ h
theorem m_asks0 {n f l : Int} {V : qV} {J : qJ} {Q : Int → qV → Prop} (h : Rel n V J) (hf : ¬ (0 ≤ f ∧ f < V 12 10)) (k : Q 0 (qu (qu V 602 0 0) 602 0 1)) : W_X11_asks f l (qu V 602 0 0) Q := by
  have h142 := h.2.2.2.1.2.2.2.1.1
  exact m_if0 (qs0 _) (by rw [q603]; exact h142.2) (by rw [q603, ← h142.1]; exact hf) (br_t rfl k)
theorem m_asks2 {n f l : Int} {V : qV} {J : qJ} {Q : Int → qV → Prop} (h : Rel n V J) (hf : 0 ≤ f ∧ f < V 12 10) (hl : ¬ (0 ≤ l ∧ l < V 0 2)) (k : Q 0 (qu (qu V 602 0 0) 602 0 2)) : W_X11_asks f l (qu V 602 0 0) Q := by
  have h142 := h.2.2.2.1.2.2.2.1.1
  have hlw := h.2.2.1.1
  exact m_if1 (qs0 _) (by rw [q603]; exact h142.2) (by rw [q603, ← h142.1]; exact hf) (br_f (by decide) (m_il0 (qs0 _) (by rw [q602' _ _ _ (by decide)]; exact hlw.2) (by decide) (by rw [q602' _ _ _ (by decide), ← hlw.1]; exact hl) (br_t rfl k)))
theorem m_asks {n f l : Int} {V : qV} {J : qJ} {Q : Int → qV → Prop} (h : Rel n V J) (hf : 0 ≤ f ∧ f < V 12 10) (hl : 0 ≤ l ∧ l < V 0 2) (k : Q 1 (qu V 602 0 0)) : W_X11_asks f l (qu V 602 0 0) Q := by
  have h142 := h.2.2.2.1.2.2.2.1.1
  have hlw := h.2.2.1.1
  exact m_if1 (qs0 _) (by rw [q603]; exact h142.2) (by rw [q603, ← h142.1]; exact hf) (br_f (by decide) (m_il1 (qs0 _) (by rw [q602' _ _ _ (by decide)]; exact hlw.2) (by rw [q602' _ _ _ (by decide), ← hlw.1]; exact hl) (br_f (by decide) k)))
theorem cW_fr {V V' : qV} {c : Int} (h : ∀ o j, 604 ≤ o → o ≤ 612 → V' o j = V o j) (hc : cW V c) : cW V' c := by
  unfold cW at hc ⊢
  rw [h 611 _ (by decide) (by decide), seg_fr (fun o j ho => h o j (by omega) (by omega))]; exact hc
/-- decided by both -/
def dB (n f l : Int) (V : qV) (J : qJ) (V1 : qV) (J1 : qJ) (V2 : qV) : Prop :=
  Rel (n + 1) V2 J1 ∧ V2 602 0 = 0 ∧ V2 603 = V 603 ∧ (∀ v, 0 ≤ v → v < 1024 → V2 616 v = bit01 (wB V v)) ∧ V2 602 25 = cntB (wB V) 1024 ∧
  (∀ v, 0 ≤ v → v < 1024 → wB V v = true → V2 617 v = whF (nmM (V 603) f) (LiM V l) (fun i => V 606 (12 * l + i)) (V 610 l) v) ∧ V1 155 2 = V2 602 27
theorem mx_u {P : Int → Prop} {g : Int → Int} {a b : Int} (ha : 0 ≤ a) (hb' : 0 ≤ b) (a1 : ∀ v, 0 ≤ v → v < 1024 → P v → g v ≤ a) (a2 : a = 0 ∨ sw fun v => P v ∧ g v = a) (b1 : ∀ v, 0 ≤ v → v < 1024 → P v → g v ≤ b) (b2 : b = 0 ∨ sw fun v => P v ∧ g v = b) : a = b := by
  have x : a ≤ b := by
    rcases a2 with a2 | ⟨v, p, q, r, s⟩
    · omega
    · have := b1 v p q r; omega
  have y : b ≤ a := by
    rcases b2 with b2 | ⟨v, p, q, r, s⟩
    · omega
    · have := a1 v p q r; omega
  omega
theorem m_whoB {n f l : Int} {V V1 : qV} {J J1 : qJ} {Q : qV → Prop} (h : Rel n V J) (hf : 0 ≤ f ∧ f < V 12 10) (hl : 0 ≤ l ∧ l < V 0 2) (d : dF f l V J V1 J1) (k : ∀ V2, dB n f l V J V1 J1 V2 → Q V2) : W_X11_findWho f l (qu V1 602 0 0) Q := by
  obtain ⟨hU, hP, hG, hF, hC, hS, hA⟩ := h.2.2.2.1
  obtain ⟨d1, d2, d3, d4, d6, d7, d8⟩ := d
  have hlw := h.2.2.1
  have h142 := hF.1
  have e : ∀ o j, 603 ≤ o → o ≤ 612 → (qu V1 602 0 0) o j = V o j := fun o j a b => by rw [q602 _ _ _ (by omega), d1 _ _ (by omega) (by omega) (by omega) (by omega)]
  have e3 : (qu V1 602 0 0) 603 = V 603 := by funext j; exact e _ _ (by decide) (by decide)
  have hlr := hlw.2 l hl.1 (by have := hlw.1; omega)
  have hM : MV (qu V1 602 0 0) l (V 610 l) := (hlr.M (by have := hlw.1; omega)).fr (fun o j a b => e o j (by omega) b)
  have eLi : LiM (qu V1 602 0 0) l = LiM V l := LiM_fr (fun o j a b => e o j (by omega) b) l
  have e6 : (fun i => (qu V1 602 0 0) 606 (12 * l + i)) = (fun i => V 606 (12 * l + i)) := by funext i; exact e _ _ (by decide) (by decide)
  have e7 : (fun i => (qu V1 602 0 0) 607 (12 * l + i)) = (fun i => V 607 (12 * l + i)) := by funext i; exact e _ _ (by decide) (by decide)
  have ew : wB (qu V1 602 0 0) = wB V := by funext v; exact wB_fr e v
  refine m_findWho (n := V 610 l) (by rw [e3]; exact hA.1.2) (fun c a b => cW_fr (fun o j a b => e o j (by omega) b) (h.2.2.2.2.2.1 c a (by rw [e3] at b; exact b))) (by rw [e3]; exact hP.m) (by rw [e3]; exact mF_of hU hF hC hf.1 (by omega)) hM (fun i a b => ?_) (fun V2 w => k V2 ?_)
  · rw [e 607 _ (by decide) (by decide)]; exact (hlr.2.1 i a b).2.1.2
  · obtain ⟨w1, w2, w3, w4, w5, w6, w7, w8⟩ := w
    rw [e3, eLi, e6] at w5
    rw [e3, eLi, e7] at w7 w8
    rw [ew] at w3 w4 w5 w7 w8
    refine ⟨?_, ?_, ?_, w3, w4, w5, mx_u (P := fun v => wB V v = true) d6.1 w6.1 d7 d8 w7 w8⟩
    · refine h.sc (by omega) (fun o j p q r s => ?_) (fun o j p => d2 o j (by omega) (by omega) (by omega) (by omega)) ?_ ?_
      · rw [w1 o j (by unfold scrC at p; omega) (by unfold scrC at p; omega) (by unfold scrC at p; omega) (by unfold scrC at p; omega) (by unfold scrC at p; omega), qu_e (by unfold scrC at p; omega), d1 o j (by omega) (by unfold scrC at p; omega) (by unfold scrC at p; omega) (by unfold scrC at p; omega)]
      · have h7 := h.2.2.2.2.2.2.1
        refine h7.fr (by omega) (fun o j p q => ?_) (fun j => ?_)
        · rw [w1 o j (by omega) (by omega) (by omega) (by omega) (by omega), qu_e (by omega), d1 o j (by omega) (by omega) (by omega) (by omega)]
        · have h9 := h7.2.2.2.2.1.2
          rw [w1 _ j (by omega) (by omega) (by omega) (by omega) (by omega), qu_e (by omega), d1 _ j (by omega) (by omega) (by omega) (by omega)]
      · refine ⟨by rw [w1 _ _ (by omega) (by omega) (by omega) (by omega) (by omega), qu_e (by omega)]; exact d3.1, fun q => ?_⟩
        rw [w1 _ _ (by omega) (by omega) (by omega) (by omega) (by omega), qu_e (by omega)] at q
        exact d3.2 q
    · rw [w1 _ _ (by omega) (by omega) (by omega) (by omega) (by omega)]; exact qs0 _
    · funext j
      rw [w1 _ _ (by omega) (by omega) (by omega) (by omega) (by omega)]; exact e _ _ (by decide) (by decide)
theorem whF_b {nm : Int → Int} {Li : Int → List (Int × Int)} {who : Int → Int} {n v : Int} (hn : 0 ≤ n) (h : ∀ i, 0 ≤ i → i < n → 0 ≤ who i ∧ who i ≤ 4) : 0 ≤ whF nm Li who n v ∧ whF nm Li who n v ≤ 4 := by
  unfold whF
  split
  · decide
  · rename_i h1
    have := ri_bd (p := ap nm Li v) hn
    exact h _ (by omega) this.2
theorem tb_e5 {a b : Int} (a0 : 0 ≤ a) (a1 : a < 32) (b0 : 0 ≤ b) (b1 : b < 32) (h : ∀ x, 0 ≤ x → x ≤ 4 → (tb a x = true ↔ tb b x = true)) : a = b := by
  have key : ∀ m : Nat, m < 32 → ∀ k : Nat, k < 32 → (∀ x : Nat, x < 5 → (tb (m : Int) (x : Int) = tb (k : Int) (x : Int))) → m = k := by decide +kernel
  have := key a.toNat (by omega) b.toNat (by omega) (fun x hx => by
    rw [Int.toNat_of_nonneg a0, Int.toNat_of_nonneg b0]
    exact Bool.eq_iff_iff.mpr (h x (by omega) (by omega)))
  omega
theorem bits_e {n f l : Int} {V V1 : qV} {J J1 : qJ} {Q : Int → Prop} (h : Rel n V J) (hl : 0 ≤ l ∧ l < V 0 2) (d : dF f l V J V1 J1) (k : ∀ b, 0 ≤ b → b < 32 → (∀ y, 0 ≤ y → y ≤ 4 → (tb b y = true ↔ sw fun v => wB V v = true ∧ whF (nmM (V 603) f) (LiM V l) (fun i => V 606 (12 * l + i)) (V 610 l) v = y)) → (∀ Q2 : Int → Prop, ∀ V2, dB n f l V J V1 J1 V2 → Q2 b → W_X11_mayBits V2 Q2) → Q b) : W_X9_whoBits 155 V1 J1 Q := by
  have hlw := h.2.2.1
  have hlr := hlw.2 l hl.1 (by have := hlw.1; omega)
  refine s_whoBits (fun b b0 b1 b2 => ?_)
  have b3 : ∀ y, 0 ≤ y → y ≤ 4 → (tb b y = true ↔ sw fun v => wB V v = true ∧ whF (nmM (V 603) f) (LiM V l) (fun i => V 606 (12 * l + i)) (V 610 l) v = y) := fun y p q => by
    rw [b2 y p q]
    constructor
    · rintro ⟨v, a, b, c⟩
      have c : sv J1 (155 + 1) y v = true := c
      rw [show (155 : Int) + 1 = 156 from rfl, d.2.2.2.1 v a b y p q, Bool.and_eq_true, decide_eq_true_eq] at c
      exact ⟨v, a, b, c⟩
    · rintro ⟨v, a, b, c⟩
      refine ⟨v, a, b, ?_⟩
      show sv J1 (155 + 1) y v = true
      rw [show (155 : Int) + 1 = 156 from rfl, d.2.2.2.1 v a b y p q, Bool.and_eq_true, decide_eq_true_eq]
      exact c
  refine k b b0 b1 b3 (fun Q2 V2 x hq => m_mayBits (W := wB V) (x := whF (nmM (V 603) f) (LiM V l) (fun i => V 606 (12 * l + i)) (V 610 l)) x.2.2.2.1 (fun v p q w => ⟨x.2.2.2.2.2.1 v p q w, whF_b hlr.1.2.1 (fun i a b => (hlr.2.1 i a b).1.2)⟩) (fun b' c0 c1 c2 => ?_))
  rw [tb_e5 c0 c1 b0 b1 (fun y p q => by rw [c2 y p q, b3 y p q])]
  exact hq
