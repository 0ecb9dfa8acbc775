/-! the class cuts a text into pieces -/
def tpH (t : Int → Int) (n : Int) (V : qV) : Prop := (0 ≤ n ∧ n ≤ 400) ∧ V 1 2 = n ∧ ∀ k, 0 ≤ k → k < 400 → V 2 k = (t k).bmod 256 ∧ 0 ≤ t k ∧ t k < 256
theorem bt_b {t : Int → Int} {n : Int} {V : qV} (h : tpH t n V) (p : Int) : 0 ≤ bt t n p ∧ bt t n p < 256 := by
  by_cases x : 0 ≤ p ∧ p < n
  · rw [bt_i x]; exact (h.2.2 p x.1 (by have := h.1; omega)).2
  · rw [bt_o x]; omega
theorem s_byteAt {t : Int → Int} {n p : Int} {V : qV} {Q : Int → Prop} (h : tpH t n V) (k : Q (bt t n p)) : W_X6_byteAt p V Q := by
  unfold W_X6_byteAt
  rw [h.2.1]
  refine br_c (fun a => ?_) (fun a => br_c (fun b => ?_) (fun b => br_f (by have := h.1; omega) ⟨by have := h.1; omega, ?_⟩))
  · rw [bt_o (by omega)] at k; exact k
  · rw [bt_o (by omega)] at k; exact k
  · have := h.2.2 p (by omega) (by have := h.1; omega)
    rw [bt_i (by omega)] at k
    have e : (t p).bmod 256 % 256 = t p % 256 := Int.bmod_emod
    rw [fx_and255, this.1, e, Int.emod_eq_of_lt this.2.1 this.2.2]
    exact k
theorem s_isLetter {c : Int} {V : qV} {Q : Int → Prop} (k : Q (bit01 (ltB c))) : W_X6_isLetter c V Q := by
  refine br_c (fun a => ?_) (fun a => br_c (fun b => ?_) (fun b => ?_))
  · rw [ltB_f.mpr (by omega)] at k; exact k
  · rw [ltB_f.mpr (by omega)] at k; exact k
  · rw [ltB_t.mpr (by omega)] at k; exact k
theorem s_isDigit {c : Int} {V : qV} {Q : Int → Prop} (k : Q (bit01 (dgB c))) : W_X6_isDigit c V Q := by
  refine br_c (fun a => ?_) (fun a => br_c (fun b => ?_) (fun b => ?_))
  · rw [dgB_f.mpr (by omega)] at k; exact k
  · rw [dgB_f.mpr (by omega)] at k; exact k
  · rw [dgB_t.mpr (by omega)] at k; exact k
def adP (V : qV) (c k v p : Int) : qV := qu (qu (qu (qu V 3 c k) 4 c v) 5 c p) 1 6 (c + 1)
theorem s_addPiece {k v p c : Int} {V : qV} {Q : qV → Prop} (hc : V 1 6 = c) (h : 0 ≤ c ∧ c ≤ 400) (kk : Q (adP V c k v p)) : W_X6_addPiece k v p V Q := by
  unfold W_X6_addPiece
  have e1 : (qu V 3 (V 1 6) k) 1 6 = c := by rw [qu_o _ _ (by decide)]; exact hc
  have e2 : (qu (qu V 3 (V 1 6) k) 4 ((qu V 3 (V 1 6) k) 1 6) v) 1 6 = c := by rw [qu_o _ _ (by decide)]; exact e1
  have e3 : (qu (qu (qu V 3 (V 1 6) k) 4 ((qu V 3 (V 1 6) k) 1 6) v) 5 ((qu (qu V 3 (V 1 6) k) 4 ((qu V 3 (V 1 6) k) 1 6) v) 1 6) p) 1 6 = c := by rw [qu_o _ _ (by decide)]; exact e2
  rw [e3, e2, e1, hc]
  exact br_f (by omega) ⟨by omega, by omega, by omega, zr_i (by omega) (by omega), kk⟩
theorem adP_o {V : qV} {c k v p o j : Int} (h : ¬ (o = 1 ∧ j = 6)) (h2 : ¬ ((o = 3 ∨ o = 4 ∨ o = 5) ∧ j = c)) : adP V c k v p o j = V o j := by
  unfold adP
  rw [qu_e (by omega), qu_e (by omega), qu_e (by omega), qu_e (by omega)]
theorem adP_6 {V : qV} {c k v p : Int} : adP V c k v p 1 6 = c + 1 := qu_s _ _ _ _
theorem adP_3 {V : qV} {c k v p : Int} : adP V c k v p 3 c = k := by unfold adP; rw [qu_e (by omega), qu_e (by omega), qu_e (by omega), qu_s]
theorem adP_4 {V : qV} {c k v p : Int} : adP V c k v p 4 c = v := by unfold adP; rw [qu_e (by omega), qu_e (by omega), qu_s]
theorem adP_5 {V : qV} {c k v p : Int} : adP V c k v p 5 c = p := by unfold adP; rw [qu_e (by omega), qu_s]
def uC (t : Int → Int) (n p e : Int) : Prop := e = p + 1 ∧ bt t n p = 117 ∧ dgB (bt t n e) = true ∧ dgB (bt t n (e + 1)) = false ∧ ltB (bt t n (e + 1)) = false
def tkW (t : Int → Int) (n p kd vl nx : Int) : Prop := ∃ e, rnE ltB t n p e ∧ ((uC t n p e ∧ kd = 3 ∧ vl = bt t n e - 48 ∧ nx = e + 1) ∨ (¬ uC t n p e ∧ kd = 1 ∧ vl = wixC (cdE t p e) ∧ nx = e))
def tkR (t : Int → Int) (n p kd vl nx : Int) : Prop :=
  (ltB (bt t n p) = true ∧ tkW t n p kd vl nx) ∨ (dgB (bt t n p) = true ∧ rnE dgB t n p nx ∧ kd = 2 ∧ vl = min (nvR t p (nx - p).toNat) 10000) ∨
  (ltB (bt t n p) = false ∧ dgB (bt t n p) = false ∧ spB (bt t n p) = false ∧ kd = 4 ∧ vl = bt t n p ∧ nx = p + 1)
def tkS (t : Int → Int) (n : Int) (kd vl pl : Int → Int) (i : Int) : Prop := ∃ nx, (0 ≤ pl i ∧ pl i < n) ∧ (pl i < nx ∧ nx ≤ n) ∧ tkR t n (pl i) (kd i) (vl i) nx ∧ rnE spB t n nx (pl (i + 1))
def TK (t : Int → Int) (n : Int) (kd vl pl : Int → Int) (m : Int) : Prop := (0 ≤ n ∧ n ≤ 400) ∧ (0 ≤ m ∧ m ≤ n) ∧ rnE spB t n 0 (pl 0) ∧ (∀ i, 0 ≤ i → i < m → tkS t n kd vl pl i) ∧ (pl m = n ∧ kd m = 0 ∧ vl m = 0) ∧ ∀ i, 0 ≤ i → i ≤ m → i ≤ pl i ∧ pl i ≤ n
def hdR (t : Int → Int) (n : Int) (V : qV) (c x : Int) : Prop := (c = 0 ∧ x = 0) ∨ (0 < c ∧ (0 ≤ V 5 (c - 1) ∧ V 5 (c - 1) < n) ∧ (V 5 (c - 1) < x ∧ x ≤ n) ∧ tkR t n (V 5 (c - 1)) (V 3 (c - 1)) (V 4 (c - 1)) x)
def blk (t : Int → Int) (n : Int) (V : qV) (c a : Int) : Prop := ∃ x, hdR t n V c x ∧ (0 ≤ x ∧ x ≤ a) ∧ ∀ k, x ≤ k → k < a → spB (bt t n k) = true
def ctI (t : Int → Int) (n : Int) (V : qV) (c a : Int) : Prop := V 1 6 = c ∧ (∀ i, 0 ≤ i → i + 1 < c → tkS t n (V 3) (V 4) (V 5) i) ∧ (0 < c → rnE spB t n 0 (V 5 0)) ∧ (∀ i, 0 ≤ i → i < c → i ≤ V 5 i ∧ V 5 i ≤ n) ∧ blk t n V c a ∧ (0 ≤ c ∧ c ≤ a) ∧ a ≤ n
theorem tkS_cg {t : Int → Int} {n : Int} {kd vl pl kd' vl' pl' : Int → Int} {i : Int} (h : tkS t n kd vl pl i) (hk : kd' i = kd i) (hv : vl' i = vl i) (hp : pl' i = pl i) (hq : pl' (i + 1) = pl (i + 1)) : tkS t n kd' vl' pl' i := by
  unfold tkS at *
  rw [hk, hv, hp, hq]; exact h
theorem ct_fin {t : Int → Int} {n : Int} {V : qV} {c a k v p : Int} (h : ctI t n V c a) (hs : spB (bt t n a) = false) (hp : p = a) : (∀ i, 0 ≤ i → i < c → tkS t n ((adP V c k v p) 3) ((adP V c k v p) 4) ((adP V c k v p) 5) i) ∧ rnE spB t n 0 ((adP V c k v p) 5 0) := by
  subst hp
  obtain ⟨h1, h2, h3, h4, ⟨x, h5, h6, h7⟩, h8, h9⟩ := h
  refine ⟨fun i i0 i1 => ?_, ?_⟩
  · by_cases e : i + 1 < c
    · exact tkS_cg (h2 i i0 e) (adP_o (by omega) (by omega)) (adP_o (by omega) (by omega)) (adP_o (by omega) (by omega)) (adP_o (by omega) (by omega))
    · have : i = c - 1 := by omega
      subst this
      rcases h5 with ⟨h5, _⟩ | ⟨_, h5, h10, h11⟩
      · omega
      · refine ⟨x, ?_, ?_, ?_, ?_⟩
        · rw [adP_o (by omega) (by omega)]; exact h5
        · rw [adP_o (by omega) (by omega)]; exact h10
        · rw [adP_o (by omega) (by omega), adP_o (by omega) (by omega), adP_o (by omega) (by omega)]; exact h11
        · rw [show c - 1 + 1 = c by omega, adP_5]; exact ⟨h6.2, h7, hs⟩
  · by_cases e : c = 0
    · subst e
      rw [adP_5]
      rcases h5 with ⟨_, h5⟩ | ⟨h5, _⟩
      · subst h5; exact ⟨h6.2, h7, hs⟩
      · omega
    · rw [adP_o (by omega) (by omega)]; exact h3 (by omega)
theorem ct_add {t : Int → Int} {n : Int} {V : qV} {c a k v nx : Int} (h : ctI t n V c a) (ha : a < n) (hs : spB (bt t n a) = false) (hx : a < nx ∧ nx ≤ n) (ht : tkR t n a k v nx) : ctI t n (adP V c k v a) (c + 1) nx := by
  have f := ct_fin (k := k) (v := v) h hs rfl
  obtain ⟨h1, h2, h3, h4, h5, h8, h9⟩ := h
  refine ⟨adP_6, fun i i0 i1 => f.1 i i0 (by omega), fun _ => f.2, fun i i0 i1 => ?_, ⟨nx, Or.inr ⟨by omega, ?_, ?_, ?_⟩, by omega, fun k a b => by omega⟩, by omega, hx.2⟩
  · by_cases e : i = c
    · subst e; rw [adP_5]; omega
    · rw [adP_o (by omega) (by omega)]; exact h4 i i0 (by omega)
  · rw [show c + 1 - 1 = c by omega, adP_5]; omega
  · rw [show c + 1 - 1 = c by omega, adP_5]; exact hx
  · rw [show c + 1 - 1 = c by omega, adP_5, adP_3, adP_4]; exact ht
theorem ct_sp {t : Int → Int} {n : Int} {V : qV} {c a : Int} (h : ctI t n V c a) (ha : a < n) (hs : spB (bt t n a) = true) : ctI t n V c (a + 1) := by
  obtain ⟨h1, h2, h3, h4, ⟨x, h5, h6, h7⟩, h8, h9⟩ := h
  refine ⟨h1, h2, h3, h4, ⟨x, h5, by omega, fun k a' b => ?_⟩, by omega, by omega⟩
  by_cases e : k = a
  · subst e; exact hs
  · exact h7 k a' (by omega)
def txB : List Int → Int → Bool
  | [], l => decide (l = 105)
  | c :: r, l => decide (qtx l = c) && txB r (l + 1)
theorem tx_all : txB aWs 0 = true := by decide +kernel
theorem tx_len : ∀ (r : List Int) (l : Int), txB r l = true → l + r.length = 105
  | [], l, h => by have := of_decide_eq_true h; simp; exact this
  | c :: r, l, h => by
    have h' : (decide (qtx l = c) && txB r (l + 1)) = true := h
    rw [Bool.and_eq_true] at h'
    have := tx_len r (l + 1) h'.2
    simp; omega
theorem s_wordNumber {t : Int → Int} {n p e : Int} {V : qV} {Q : Int → Prop} (h : tpH t n V) (hp : 0 ≤ p ∧ p ≤ e ∧ e ≤ n) (hl : ∀ k, p ≤ k → k < e → ltB (bt t n k) = true) (k : Q (wixC (cdE t p e))) : W_X6_wordNumber p e V Q := by
  have hn := h.1
  rw [← wn_all (t := t) (b := fun x => bt t n (p + x)) (p := p) (e := e) (fun x a b => bt_i (by omega)) hp.2.1 (fun j a b => by have := ltB_t.mp (hl j a b); rw [bt_i (by omega)] at this; exact this)] at k
  have main : ∀ (r : List Int) (f : Nat) (num same lt l : Int), txB r l = true → r.length + 1 < f → 0 ≤ l → (0 ≤ num ∧ num + r.length ≤ 105) → (0 ≤ lt ∧ lt + r.length ≤ 105) → (0 ≤ same ∧ same ≤ lt) → Q (wnF (fun x => bt t n (p + x)) (e - p) r num same lt) → lp_X6_wordNumber_11 p e V (fun l3x21 l4x21 l5x21 l6x21 => Q (-1)) Q f num same lt l := by
    intro r
    induction r with
    | nil =>
      intro f num same lt l h1 h2 h3 h4 h5 h6 h7
      have : l = 105 := of_decide_eq_true h1
      subst this
      have hk : ∀ num', Q (-1) → lp_X6_wordNumber_11 p e V (fun l3x21 l4x21 l5x21 l6x21 => Q (-1)) Q (f - 1) num' 0 0 (105 + 1) := fun num' hq => by
        obtain ⟨f', rfl⟩ : ∃ f', f = f' + 2 := ⟨f - 2, by simp at h2; omega⟩
        rw [show f' + 2 - 1 = f' + 1 by omega, lp_X6_wordNumber_11]
        exact br_t (by decide) hq
      obtain ⟨f', rfl⟩ : ∃ f', f = f' + 1 := ⟨f - 1, by omega⟩
      rw [lp_X6_wordNumber_11]
      simp only [Nat.add_sub_cancel] at hk
      have h7' : Q (if same = lt ∧ lt = e - p then num else -1) := h7
      refine br_f (by decide) (br_t rfl (br_c (fun a => ⟨zr_i (by omega) (by omega), br_c (fun b => ?_) (fun b => ⟨zr_i (by omega) (by omega), zr_i (by omega) (by omega), hk _ ?_⟩)⟩) (fun a => ⟨zr_i (by omega) (by omega), zr_i (by omega) (by omega), hk _ ?_⟩)))
      · rw [if_pos ⟨a, b⟩] at h7'; exact h7'
      · rw [if_neg (fun x => b x.2)] at h7'; exact h7'
      · rw [if_neg (fun x => a x.1)] at h7'; exact h7'
    | cons c r ih =>
      intro f num same lt l h1 h2 h3 h4 h5 h6 h7
      have h1' : (decide (qtx l = c) && txB r (l + 1)) = true := h1
      rw [Bool.and_eq_true] at h1'
      have hq : qtx l = c := of_decide_eq_true h1'.1
      have hlen := tx_len r (l + 1) h1'.2
      have hr : ((c :: r).length : Int) = r.length + 1 := by simp
      rw [hr] at h4 h5
      have h2' : r.length + 1 + 1 < f := by simpa using h2
      obtain ⟨f', rfl⟩ : ∃ f', f = f' + 1 := ⟨f - 1, by omega⟩
      rw [lp_X6_wordNumber_11, hq]
      have h7' : Q (if c = 32 then (if same = lt ∧ lt = e - p then num else wnF (fun x => bt t n (p + x)) (e - p) r (num + 1) 0 0) else wnF (fun x => bt t n (p + x)) (e - p) r num (same + (if bt t n (p + lt) = c then 1 else 0)) (lt + 1)) := h7
      refine br_f (by omega) (br_f (by omega) ⟨by omega, br_c (fun a => ?_) (fun a => ⟨zr_i (by omega) (by omega), s_byteAt h ⟨by omega, ?_⟩⟩)⟩)
      · rw [if_pos a] at h7'
        refine br_c (fun b => ⟨zr_i (by omega) (by omega), br_c (fun d => ?_) (fun d => ⟨zr_i (by omega) (by omega), zr_i (by omega) (by omega), ?_⟩)⟩) (fun b => ⟨zr_i (by omega) (by omega), zr_i (by omega) (by omega), ?_⟩)
        · rw [if_pos ⟨b, d⟩] at h7'; exact h7'
        · rw [if_neg (fun x => d x.2)] at h7'
          exact ih _ _ _ _ _ h1'.2 (by omega) (by omega) (by omega) (by omega) (by omega) h7'
        · rw [if_neg (fun x => b x.1)] at h7'
          exact ih _ _ _ _ _ h1'.2 (by omega) (by omega) (by omega) (by omega) (by omega) h7'
      · rw [if_neg a] at h7'
        refine br_c (fun b => ⟨zr_i (by omega) (by omega), zr_i (by omega) (by omega), zr_i (by omega) (by omega), ?_⟩) (fun b => ⟨zr_i (by omega) (by omega), zr_i (by omega) (by omega), zr_i (by omega) (by omega), ?_⟩)
        · rw [if_pos b] at h7'
          exact ih _ _ _ _ _ h1'.2 (by omega) (by omega) (by omega) (by omega) (by omega) h7'
        · rw [if_neg b] at h7'
          exact ih _ _ _ _ _ h1'.2 (by omega) (by omega) (by omega) (by omega) (by omega) h7'
  exact main aWs 100000 0 0 0 0 tx_all (by decide +kernel) (by decide) (by decide +kernel) (by decide +kernel) (by decide) k
theorem s_cutWord {t : Int → Int} {n a c : Int} {V : qV} {Q : Int → qV → Prop} (h : tpH t n V) (hc : V 1 6 = c) (hc2 : 0 ≤ c ∧ c ≤ 400) (ha : 0 ≤ a ∧ a < n) (hl : ltB (bt t n a) = true) (k : ∀ nx kd vl, tkR t n a kd vl nx → (a < nx ∧ nx ≤ n) → Q nx (adP V c kd vl a)) : W_X6_cutWord a V Q := by
  have hn := h.1
  have fin : ∀ e, rnE ltB t n a e → (zr (e + 1) ∧ W_X6_byteAt (e + 1) V (fun r7 => (zr (e - a) ∧ ((e - a = 1 → W_X6_byteAt a V (fun r11 => ((r11 = 117 → W_X6_byteAt e V (fun r14 => W_X6_isDigit r14 V (fun r15 => ((r15 = 0 → W_X6_wordNumber a e V (fun r16 => W_X6_addPiece 1 r16 a V (fun V17 => Q e V17))) ∧ (¬ r15 = 0 → W_X6_isDigit r7 V (fun r18 => ((r18 = 0 → W_X6_isLetter r7 V (fun r21 => ((r21 = 0 → W_X6_byteAt e V (fun r24 => (zr (r24 - 48) ∧ W_X6_addPiece 3 (r24 - 48) a V (fun V26 => (zr (e + 1) ∧ Q (e + 1) V26))))) ∧ (¬ r21 = 0 → W_X6_wordNumber a e V (fun r22 => W_X6_addPiece 1 r22 a V (fun V23 => Q e V23)))))) ∧ (¬ r18 = 0 → W_X6_wordNumber a e V (fun r19 => W_X6_addPiece 1 r19 a V (fun V20 => Q e V20)))))))))) ∧ (¬ r11 = 117 → W_X6_wordNumber a e V (fun r12 => W_X6_addPiece 1 r12 a V (fun V13 => Q e V13)))))) ∧ (¬ e - a = 1 → W_X6_wordNumber a e V (fun r9 => W_X6_addPiece 1 r9 a V (fun V10 => Q e V10))))))) := fun e he => by
    have hen := rnE_n (by decide) ha.1 (by omega) he
    have hae : a < e := by
      have := he.1
      by_cases x : a = e
      · subst x; have := he.2.2; rw [hl] at this; exact absurd this (by decide)
      · omega
    have W : ¬ uC t n a e → W_X6_wordNumber a e V (fun r9 => W_X6_addPiece 1 r9 a V (fun V10 => Q e V10)) := fun hu => s_wordNumber h ⟨ha.1, by omega, hen⟩ he.2.1 (s_addPiece hc hc2 (k e 1 _ (Or.inl ⟨hl, e, he, Or.inr ⟨hu, rfl, rfl, rfl⟩⟩) (by omega)))
    refine ⟨zr_i (by omega) (by omega), s_byteAt h ⟨zr_i (by omega) (by omega), br_c (fun x => s_byteAt h (br_c (fun y => s_byteAt h (s_isDigit ?_)) (fun y => W (fun u => y u.2.1)))) (fun x => W (fun u => x (by have := u.1; omega)))⟩⟩
    cases d1 : dgB (bt t n e) with
    | false => exact br_t rfl (W (fun u => by have := u.2.2.1; rw [d1] at this; exact absurd this (by decide)))
    | true =>
      refine br_f (by decide) (s_isDigit ?_)
      cases d2 : dgB (bt t n (e + 1)) with
      | true => exact br_f (by decide) (W (fun u => by have := u.2.2.2.1; rw [d2] at this; exact absurd this (by decide)))
      | false =>
        refine br_t rfl (s_isLetter ?_)
        cases d3 : ltB (bt t n (e + 1)) with
        | true => exact br_f (by decide) (W (fun u => by have := u.2.2.2.2; rw [d3] at this; exact absurd this (by decide)))
        | false =>
          have b := dgB_t.mp d1
          have len : e < n := by
            by_cases z : e < n
            · exact z
            · rw [bt_o (by omega)] at b; omega
          exact br_t rfl (s_byteAt h ⟨zr_i (by omega) (by omega), s_addPiece hc hc2 ⟨zr_i (by omega) (by omega), k (e + 1) 3 _ (Or.inl ⟨hl, e, he, Or.inl ⟨⟨by omega, y, d1, d2, d3⟩, rfl, rfl, rfl⟩⟩) (by omega)⟩⟩)
  have main : ∀ (g : Nat) (x i : Int), 0 ≤ i → i ≤ 400 → 400 < i + g → x = a + i → (∀ j, a ≤ j → j < x → ltB (bt t n j) = true) → lp_X6_cutWord_4 a V (fun l2x5 l3x5 => (zr (l2x5 + 1) ∧ W_X6_byteAt (l2x5 + 1) V (fun r7 => (zr (l2x5 - a) ∧ ((l2x5 - a = 1 → W_X6_byteAt a V (fun r11 => ((r11 = 117 → W_X6_byteAt l2x5 V (fun r14 => W_X6_isDigit r14 V (fun r15 => ((r15 = 0 → W_X6_wordNumber a l2x5 V (fun r16 => W_X6_addPiece 1 r16 a V (fun V17 => Q l2x5 V17))) ∧ (¬ r15 = 0 → W_X6_isDigit r7 V (fun r18 => ((r18 = 0 → W_X6_isLetter r7 V (fun r21 => ((r21 = 0 → W_X6_byteAt l2x5 V (fun r24 => (zr (r24 - 48) ∧ W_X6_addPiece 3 (r24 - 48) a V (fun V26 => (zr (l2x5 + 1) ∧ Q (l2x5 + 1) V26))))) ∧ (¬ r21 = 0 → W_X6_wordNumber a l2x5 V (fun r22 => W_X6_addPiece 1 r22 a V (fun V23 => Q l2x5 V23)))))) ∧ (¬ r18 = 0 → W_X6_wordNumber a l2x5 V (fun r19 => W_X6_addPiece 1 r19 a V (fun V20 => Q l2x5 V20)))))))))) ∧ (¬ r11 = 117 → W_X6_wordNumber a l2x5 V (fun r12 => W_X6_addPiece 1 r12 a V (fun V13 => Q l2x5 V13)))))) ∧ (¬ l2x5 - a = 1 → W_X6_wordNumber a l2x5 V (fun r9 => W_X6_addPiece 1 r9 a V (fun V10 => Q l2x5 V10)))))))) g x i := by
    intro g
    induction g with
    | zero => intro x i p q r; omega
    | succ g ih =>
      intro x i p q r ex ej
      rw [lp_X6_cutWord_4]
      refine br_c (fun y => fin x ⟨by omega, ej, by rw [bt_o (by omega)]; rfl⟩) (fun y => s_byteAt h (s_isLetter ?_))
      cases hx : ltB (bt t n x) with
      | false => exact br_t rfl (fin x ⟨by omega, ej, hx⟩)
      | true =>
        refine br_f (by decide) ⟨zr_i (by omega) (by omega), zr_i (by omega) (by omega), ih _ _ (by omega) (by omega) (by omega) (by omega) (fun j j0 j1 => ?_)⟩
        by_cases z : j = x
        · subst z; exact hx
        · exact ej j j0 (by omega)
  exact main 100000 a 0 (by decide) (by decide) (by decide) (by omega) (fun j a b => by omega)
theorem nvR_b {t : Int → Int} {p : Int} : ∀ k : Nat, (∀ j : Int, p ≤ j → j < p + k → 48 ≤ t j ∧ t j ≤ 57) → 0 ≤ nvR t p k ∧ nvR t p k ≤ 99999
  | 0, _ => by show (0 : Int) ≤ 0 ∧ (0 : Int) ≤ 99999; omega
  | k + 1, h => by
    have ih := nvR_b (t := t) (p := p) k (fun j a b => h j a (by omega))
    have hj := h (p + k) (by omega) (by omega)
    rw [nvR]
    split <;> omega
theorem s_cutDigits {t : Int → Int} {n a c : Int} {V : qV} {Q : Int → qV → Prop} (h : tpH t n V) (hc : V 1 6 = c) (hc2 : 0 ≤ c ∧ c ≤ 400) (ha : 0 ≤ a ∧ a < n) (hl : dgB (bt t n a) = true) (k : ∀ nx kd vl, tkR t n a kd vl nx → (a < nx ∧ nx ≤ n) → Q nx (adP V c kd vl a)) : W_X6_cutDigits a V Q := by
  have hn := h.1
  have fin : ∀ e, rnE dgB t n a e → W_X6_addPiece 2 (min (nvR t a (e - a).toNat) 10000) a V (fun V10 => Q e V10) := fun e he => by
    have hen := rnE_n (by decide) ha.1 (by omega) he
    have hae : a < e := by
      have := he.1
      by_cases x : a = e
      · subst x; have := he.2.2; rw [hl] at this; exact absurd this (by decide)
      · omega
    exact s_addPiece hc hc2 (k e 2 _ (Or.inr (Or.inl ⟨hl, he, rfl, rfl⟩)) (by omega))
  have main : ∀ (g : Nat) (x v i : Int), 0 ≤ i → i ≤ 400 → 400 < i + g → x = a + i → (∀ j, a ≤ j → j < x → dgB (bt t n j) = true) → v = min (nvR t a (x - a).toNat) 10000 → lp_X6_cutDigits_7 a V (fun l2x9 l3x9 l4x9 => W_X6_addPiece 2 l3x9 a V (fun V10 => Q l2x9 V10)) g x v i := by
    intro g
    induction g with
    | zero => intro x v i p q r; omega
    | succ g ih =>
      intro x v i p q r ex ej ev
      subst ev
      rw [lp_X6_cutDigits_7]
      refine br_c (fun y => fin x ⟨by omega, ej, by rw [bt_o (by omega)]; rfl⟩) (fun y => s_byteAt h (s_isDigit ?_))
      cases hx : dgB (bt t n x) with
      | false => exact br_t rfl (fin x ⟨by omega, ej, hx⟩)
      | true =>
        have bx := dgB_t.mp hx
        have tx : ∀ j, a ≤ j → j ≤ x → bt t n j = t j := fun j j0 j1 => by
          have : dgB (bt t n j) = true := by
            by_cases z : j = x
            · subst z; exact hx
            · exact ej j j0 (by omega)
          have := dgB_t.mp this
          by_cases z : 0 ≤ j ∧ j < n
          · exact bt_i z
          · rw [bt_o z] at this; omega
        have nb := nvR_b (t := t) (p := a) (x - a).toNat (fun j j0 j1 => by
          have := dgB_t.mp (ej j j0 (by omega))
          rw [tx j j0 (by omega)] at this; exact this)
        refine br_f (by decide) ⟨zr_i (by omega) (by omega), s_byteAt h ⟨zr_i (by omega) (by omega), zr_i (by omega) (by omega), zr_i (by omega) (by omega), zr_i (by omega) (by omega), ih _ _ _ (by omega) (by omega) (by omega) (by omega) (fun j j0 j1 => ?_) ?_⟩⟩
        · by_cases z : j = x
          · subst z; exact hx
          · exact ej j j0 (by omega)
        · rw [show (x + 1 - a).toNat = (x - a).toNat + 1 by omega, nvR, tx x (by omega) (by omega), show a + ((x - a).toNat : Int) = x by omega]
          rw [tx x (by omega) (by omega)] at bx
          split <;> omega
  exact main 100000 a 0 0 (by decide) (by decide) (by decide) (by omega) (fun j a b => by omega) (by rw [show (a - a).toNat = 0 by omega]; rfl)
theorem s_cut {t : Int → Int} {n : Int} {V : qV} {Q : qV → Prop} (h : tpH t n V) (k : ∀ m V', (∀ o j, ¬ (o = 1 ∧ j = 6) → o ≠ 3 → o ≠ 4 → o ≠ 5 → V' o j = V o j) → V' 1 6 = m + 1 → TK t n (V' 3) (V' 4) (V' 5) m → Q V') : W_X6_cut V Q := by
  have hn := h.1
  have fin : ∀ (V1 : qV) (c : Int), (∀ o j, ¬ (o = 1 ∧ j = 6) → o ≠ 3 → o ≠ 4 → o ≠ 5 → V1 o j = V o j) → ctI t n V1 c n → W_X6_addPiece 0 0 (V1 1 2) V1 (fun V15 => Q V15) := fun V1 c e1 e2 => by
    have e2' := e2
    obtain ⟨h1, h2, h3, h4, h5, h8, h9⟩ := e2'
    have e12 : V1 1 2 = n := by rw [e1 _ _ (by omega) (by decide) (by decide) (by decide)]; exact h.2.1
    rw [e12]
    have f := ct_fin (k := 0) (v := 0) (p := n) e2 (by rw [bt_o (by omega)]; rfl) rfl
    refine s_addPiece h1 (by omega) (k c _ (fun o j a b c' d => ?_) adP_6 ⟨hn, by omega, f.2, f.1, ⟨adP_5, adP_3, adP_4⟩, fun i i0 i1 => ?_⟩)
    · rw [adP_o a (by omega)]; exact e1 o j a b c' d
    · by_cases z : i = c
      · subst z; rw [adP_5]; omega
      · rw [adP_o (by omega) (by omega)]; exact h4 i i0 (by omega)
  have main : ∀ (g : Nat) (a i : Int) (V1 : qV) (c : Int), 0 ≤ i → i ≤ a → a ≤ n → 400 < i + g → (∀ o j, ¬ (o = 1 ∧ j = 6) → o ≠ 3 → o ≠ 4 → o ≠ 5 → V1 o j = V o j) → ctI t n V1 c a → lp_X6_cut_9 (fun l1x14 l2x14 V14 => W_X6_addPiece 0 0 (V14 1 2) V14 (fun V15 => Q V15)) g a i V1 := by
    intro g
    induction g with
    | zero => intro a i V1 c p q r s; omega
    | succ g ih =>
      intro a i V1 c p q r s e1 e2
      have e12 : V1 1 2 = n := by rw [e1 _ _ (by omega) (by decide) (by decide) (by decide)]; exact h.2.1
      have h' : tpH t n V1 := ⟨hn, e12, fun k a b => by rw [e1 _ _ (by omega) (by decide) (by decide) (by decide)]; exact h.2.2 k a b⟩
      have e2' := e2
      obtain ⟨h1, h2, h3, h4, h5, h8, h9⟩ := e2'
      rw [lp_X6_cut_9, e12]
      refine br_c (fun y => ?_) (fun y => br_c (fun z => ?_) (fun z => s_byteAt h' ?_))
      · have : a = n := by omega
        subst this
        have fi := fin V1 c e1 e2
        rw [e12] at fi; exact fi
      · have : a = n := by omega
        subst this
        have fi := fin V1 c e1 e2
        rw [e12] at fi; exact fi
      · have ad : ∀ kd vl, ∀ o j, ¬ (o = 1 ∧ j = 6) → o ≠ 3 → o ≠ 4 → o ≠ 5 → adP V1 c kd vl a o j = V o j := fun kd vl o j a' b c' d => by rw [adP_o a' (by omega)]; exact e1 o j a' b c' d
        refine br_c (fun x => ⟨zr_i (by omega) (by omega), zr_i (by omega) (by omega), ih _ _ _ c (by omega) (by omega) (by omega) (by omega) e1 (ct_sp e2 (by omega) (spB_t.mpr x))⟩) (fun x => s_isLetter ?_)
        have hs := spB_f.mpr x
        cases hl : ltB (bt t n a) with
        | true => exact br_f (by decide) (s_cutWord h' h1 (by omega) (by omega) hl (fun nx kd vl t1 t2 => ⟨zr_i (by omega) (by omega), ih _ _ _ (c + 1) (by omega) (by omega) (by omega) (by omega) (ad kd vl) (ct_add e2 (by omega) hs t2 t1)⟩))
        | false =>
          refine br_t rfl (s_isDigit ?_)
          cases hd : dgB (bt t n a) with
          | true => exact br_f (by decide) (s_cutDigits h' h1 (by omega) (by omega) hd (fun nx kd vl t1 t2 => ⟨zr_i (by omega) (by omega), ih _ _ _ (c + 1) (by omega) (by omega) (by omega) (by omega) (ad kd vl) (ct_add e2 (by omega) hs t2 t1)⟩))
          | false => exact br_t rfl (s_addPiece h1 (by omega) ⟨zr_i (by omega) (by omega), zr_i (by omega) (by omega), ih _ _ _ (c + 1) (by omega) (by omega) (by omega) (by omega) (ad _ _) (ct_add e2 (by omega) hs (by omega) (Or.inr (Or.inr ⟨hl, hd, hs, rfl, rfl, rfl⟩)))⟩)
  refine main 100000 0 0 (qu V 1 6 0) 0 (by decide) (by decide) hn.1 (by omega) (fun o j a b c d => qu_e a) ⟨qu_s _ _ _ _, fun i a b => by omega, fun x => by omega, fun i a b => by omega, ⟨0, Or.inl ⟨rfl, rfl⟩, by decide, fun k a b => by omega⟩, by decide, hn.1⟩
