/-! the reference reads: blanks, words, numbers -/
theorem zshl_m {v k : Int} (h0 : 0 ≤ v) (hk : 0 ≤ k) (hk2 : k < 31) (h : v * 2 ^ k.toNat < 2147483648) : zshl v k = v * 2 ^ k.toNat := by
  obtain ⟨n, rfl⟩ := Int.eq_ofNat_of_zero_le h0
  obtain ⟨j, rfl⟩ := Int.eq_ofNat_of_zero_le hk
  rw [Int.toNat_natCast] at h ⊢
  have e : ((n * 2 ^ j : Nat) : Int) = (n : Int) * 2 ^ j := by simp
  have h' : n * 2 ^ j < 2147483648 := by omega
  unfold zshl
  rw [iI_nat n, pk_shlN _ j (fx_sm j (by omega)) (by omega), nI_toInt (by omega), e]
theorem zor_m {v d : Int} {k : Nat} (h0 : 0 ≤ v) (hd : 0 ≤ d) (hd2 : d < 2 ^ k) (h : v * 2 ^ k + d < 2147483648) : zor (v * 2 ^ k) d = v * 2 ^ k + d := by
  obtain ⟨n, rfl⟩ := Int.eq_ofNat_of_zero_le h0
  obtain ⟨j, rfl⟩ := Int.eq_ofNat_of_zero_le hd
  have e : ((n * 2 ^ k : Nat) : Int) = (n : Int) * 2 ^ k := by simp
  have e2 : ((2 ^ k : Nat) : Int) = 2 ^ k := by simp
  rw [← e] at h ⊢
  rw [fx_or (by omega) (by omega) (by omega) (by omega), Int.toNat_natCast, Int.toNat_natCast]
  have := Nat.two_pow_add_eq_or_of_lt (i := k) (b := j) (by omega) n
  rw [Nat.mul_comm] at this
  omega
/-- an operation and its operand as one number -/
theorem enc_z {o x : Int} (h0 : 0 ≤ o ∧ o ≤ 10) (hx : 0 ≤ x ∧ x ≤ 9999) : zor (zshl o 14) x = o * 16384 + x := by
  have e := zshl_m (v := o) (k := 14) h0.1 (by decide) (by decide) (by show o * 16384 < _; omega)
  rw [e]
  exact zor_m (k := 14) h0.1 hx.1 (by show x < 16384; omega) (by show o * 16384 + x < _; omega)
theorem qu_id {V : qV} {a k : Int} : qu V a k (V a k) = V := by
  funext i j
  unfold qu
  split
  · split
    · rename_i h1 h2; rw [h1, h2]
    · rfl
  · rfl
theorem qu_qu {V : qV} {a k x y : Int} : qu (qu V a k x) a k y = qu V a k y := by
  funext i j
  unfold qu
  split
  · split <;> rfl
  · rfl
/-- the reference's text -/
def rT (t : Int → Int) (n : Int) (V : qV) : Prop := V 602 13 = n ∧ (0 ≤ n ∧ n ≤ 400) ∧ ∀ k, 0 ≤ k → k < 400 → V 613 k = t k ∧ 0 ≤ t k ∧ t k < 256
theorem rT.u {t : Int → Int} {n : Int} {V : qV} {j x : Int} (h : rT t n V) (hj : j ≠ 13) : rT t n (qu V 602 j x) :=
  ⟨by rw [qu_e (by omega)]; exact h.1, h.2.1, fun k a b => by rw [qu_o _ _ (by decide)]; exact h.2.2 k a b⟩
theorem rT.fr {t : Int → Int} {n : Int} {V V' : qV} (h : rT t n V) (h1 : V' 602 13 = V 602 13) (h2 : ∀ j, V' 613 j = V 613 j) : rT t n V' :=
  ⟨by rw [h1]; exact h.1, h.2.1, fun k a b => by rw [h2]; exact h.2.2 k a b⟩
theorem m_here {t : Int → Int} {n s : Int} {V : qV} {Q : Int → qV → Prop} (h : rT t n V) (h0 : 0 ≤ V 602 14 ∧ V 602 14 ≤ n) (hs : rnE spB t n (V 602 14) s) (k : Q (bt t n s) (qu V 602 14 s)) : W_X11_here V Q := by
  have hn := h.2.1
  have sn := rnE_n (by decide) h0.1 h0.2 hs
  have s0 := hs.1
  have main : ∀ (g : Nat) (p : Int), V 602 14 ≤ p → p ≤ s → 400 < p + g → lp_X11_here_0 (fun V4 => ((V4 602 13 ≤ V4 602 14 → Q 0 V4) ∧ (¬ V4 602 13 ≤ V4 602 14 → ((0 ≤ V4 602 14 ∧ V4 602 14 < 400) ∧ Q (V4 613 (V4 602 14)) V4)))) g (qu V 602 14 p) := by
    intro g
    induction g with
    | zero => intro p a b c; omega
    | succ g ih =>
      intro p a b c
      rw [lp_X11_here_0]
      simp only [qu_s, (h.u (j := 14) (x := p) (by decide)).1]
      refine br_c (fun x => ?_) (fun x => ⟨by omega, ?_⟩)
      · have : p = s := by omega
        subst this
        refine br_t x ?_
        rw [bt_o (by omega)] at k; exact k
      · have e := h.2.2 p (by omega) (by omega)
        rw [qu_o _ _ (by decide), e.1]
        refine br_c (fun y => ⟨zr_i (by omega) (by omega), ?_⟩) (fun y => ?_)
        · rw [qu_qu]
          refine ih _ (by omega) ?_ (by omega)
          by_cases z : p = s
          · subst z
            have := spB_f.mp hs.2.2
            rw [bt_i (by omega)] at this; exact absurd y this
          · omega
        · have : p = s := by
            by_cases z : p = s
            · exact z
            · have := spB_t.mp (hs.2.1 p a (by omega))
              rw [bt_i (by omega)] at this; exact absurd this y
          subst this
          refine br_f x ⟨by omega, ?_⟩
          rw [bt_i (by omega)] at k; exact k
  have := main 100000 (V 602 14) (by omega) s0 (by omega)
  rw [qu_id] at this
  exact this
theorem m_isSmall {c : Int} {V : qV} {Q : Int → Prop} (k : Q (bit01 (ltB c))) : W_X11_isSmall c V Q := by
  refine br_c (fun a => ?_) (fun a => br_c (fun b => ?_) (fun b => ?_))
  · rw [ltB_f.mpr (by omega)] at k; exact k
  · rw [ltB_f.mpr (by omega)] at k; exact k
  · rw [ltB_t.mpr (by omega)] at k; exact k
theorem m_isDigit {c : Int} {V : qV} {Q : Int → Prop} (k : Q (bit01 (dgB c))) : W_X11_isDigit c V Q := by
  refine br_c (fun a => ?_) (fun a => br_c (fun b => ?_) (fun b => ?_))
  · rw [dgB_f.mpr (by omega)] at k; exact k
  · rw [dgB_f.mpr (by omega)] at k; exact k
  · rw [dgB_t.mpr (by omega)] at k; exact k
theorem m_atPlace {t : Int → Int} {n p : Int} {V : qV} {Q : Int → Prop} (h : rT t n V) (hp : 0 ≤ p) (k : Q (bt t n p)) : W_X11_atPlace p V Q := by
  unfold W_X11_atPlace
  rw [h.1]
  refine br_c (fun a => ?_) (fun a => ⟨by have := h.2.1; omega, ?_⟩)
  · rw [bt_o (by omega)] at k; exact k
  · rw [bt_i (by omega)] at k
    rw [(h.2.2 p hp (by have := h.2.1; omega)).1]; exact k
theorem m_word {t : Int → Int} {n s e : Int} {V : qV} {Q : Int → qV → Prop} (h : rT t n V) (h0 : 0 ≤ V 602 14 ∧ V 602 14 ≤ n) (hs : rnE spB t n (V 602 14) s) (he : rnE ltB t n s e) (k : Q (cdE t s e) (qu V 602 14 s)) : W_X11_word V Q := by
  have hn := h.2.1
  have sn := rnE_n (by decide) h0.1 h0.2 hs
  have s0 := hs.1
  have en := rnE_n (by decide) (by omega) sn he
  have e0 := he.1
  refine m_here h h0 hs ?_
  rw [qu_s]
  have h' := h.u (j := 14) (x := s) (by decide)
  have lt : ∀ j, s ≤ j → j < e → 97 ≤ t j ∧ t j ≤ 122 := fun j a b => by
    have := ltB_t.mp (he.2.1 j a b)
    rw [bt_i (by omega)] at this; exact this
  have main : ∀ (g : Nat) (c : Nat) (p : Int), p = s + c → p ≤ e → 400 < p + g → lp_X11_word_14 (qu V 602 14 s) (fun l1x10 l2x10 l3x10 => ((l2x10 ≤ 6 → Q l1x10 (qu V 602 14 s)) ∧ (¬ l2x10 ≤ 6 → Q 0 (qu V 602 14 s)))) g (cdR t s c) c p := by
    intro g
    induction g with
    | zero => intro c p a b d; omega
    | succ g ih =>
      intro c p a b d
      rw [lp_X11_word_14, h'.1]
      have fin : p = e → ((((c : Int) ≤ 6 → Q (cdR t s c) (qu V 602 14 s)) ∧ (¬ (c : Int) ≤ 6 → Q 0 (qu V 602 14 s)))) := fun x => by
        unfold cdE at k
        refine br_c (fun y => ?_) (fun y => ?_)
        · rw [if_pos (by omega), show (e - s).toNat = c by omega] at k; exact k
        · rw [if_neg (by omega)] at k; exact k
      refine br_c (fun x => fin (by omega)) (fun x => ⟨by omega, m_isSmall ?_⟩)
      rw [(h'.2.2 p (by omega) (by omega)).1]
      by_cases pe : p = e
      · have hl := he.2.2
        rw [← pe, bt_i (by omega)] at hl
        rw [hl]
        exact br_t rfl (fin pe)
      · have hl := he.2.1 p (by omega) (by omega)
        rw [bt_i (by omega)] at hl
        rw [hl]
        have tl := lt p (by omega) (by omega)
        have es : cdR t s (c + 1) = if c < 6 then cdR t s c * 32 + (t p - 96) else 0 := by rw [cdR, show s + (c : Int) = p by omega]
        have ih' := ih (c + 1) (p + 1) (by omega) (by omega) (by omega)
        rw [es, show ((c + 1 : Nat) : Int) = (c : Int) + 1 by omega] at ih'
        refine br_f (by decide) (br_c (fun y => ⟨zr_i (by omega) (by omega), zr_i (by omega) (by omega), ?_⟩) (fun y => ⟨by omega, zr_i (by omega) (by omega), zr_i (by omega) (by omega), zr_i (by omega) (by omega), ?_⟩))
        · rw [if_neg (by omega)] at ih'; exact ih'
        · have cb := cdR_b (t := t) (p := s) c (by omega) (fun j j0 j1 => lt j j0 (by omega))
          have c33 : (32 : Int) ^ c ≤ 33554432 := by
            have : c = 0 ∨ c = 1 ∨ c = 2 ∨ c = 3 ∨ c = 4 ∨ c = 5 := by omega
            rcases this with x | x | x | x | x | x <;> rw [x] <;> decide
          have z1 := zshl_m (v := cdR t s c) (k := 5) cb.1 (by decide) (by decide) (by show cdR t s c * 32 < _; omega)
          have z2 := zor_m (v := cdR t s c) (d := t p - 96) (k := 5) cb.1 (by omega) (by show t p - 96 < 32; omega) (by show cdR t s c * 32 + _ < _; omega)
          rw [z1, show (5 : Int).toNat = 5 from rfl, z2]
          rw [if_pos (by omega)] at ih'; exact ih'
  exact main 100000 0 s (by omega) e0 (by omega)
theorem m_pass {t : Int → Int} {n e : Int} {V : qV} {Q : qV → Prop} (h : rT t n V) (h0 : 0 ≤ V 602 14 ∧ V 602 14 ≤ n) (he : rnE ltB t n (V 602 14) e) (k : Q (qu V 602 14 e)) : W_X11_pass V Q := by
  have hn := h.2.1
  have en := rnE_n (by decide) h0.1 h0.2 he
  have main : ∀ (g : Nat) (p : Int), V 602 14 ≤ p → p ≤ e → 400 < p + g → lp_X11_pass_0 (fun V5 => Q V5) g (qu V 602 14 p) := by
    intro g
    induction g with
    | zero => intro p a b c; omega
    | succ g ih =>
      intro p a b c
      rw [lp_X11_pass_0]
      simp only [qu_s, (h.u (j := 14) (x := p) (by decide)).1]
      refine br_c (fun x => ?_) (fun x => ⟨by omega, m_isSmall ?_⟩)
      · have : p = e := by omega
        subst this; exact k
      · have e1 := h.2.2 p (by omega) (by omega)
        rw [qu_o _ _ (by decide), e1.1]
        by_cases pe : p = e
        · have hl := he.2.2
          rw [← pe, bt_i (by omega)] at hl
          rw [hl]
          subst pe
          exact br_t rfl k
        · have hl := he.2.1 p a (by omega)
          rw [bt_i (by omega)] at hl
          rw [hl]
          refine br_f (by decide) ⟨zr_i (by omega) (by omega), ?_⟩
          rw [qu_qu]
          exact ih _ (by omega) (by omega) (by omega)
  have := main 100000 (V 602 14) (by omega) he.1 (by omega)
  rw [qu_id] at this
  exact this
theorem m_fine1 {V : qV} {Q : Int → Prop} (h : V 602 15 = -1) (k : Q 1) : W_X11_fine V Q := br_t h k
theorem m_fine0 {V : qV} {Q : Int → Prop} (h : V 602 15 ≠ -1) (k : Q 0) : W_X11_fine V Q := br_f h k
theorem m_wrong1 {c p : Int} {V : qV} {Q : qV → Prop} (h : V 602 15 = -1) (k : Q (qu (qu V 602 15 p) 602 16 c)) : W_X11_wrong c p V Q := br_t h k
theorem m_wrong0 {c p : Int} {V : qV} {Q : qV → Prop} (h : V 602 15 ≠ -1) (k : Q V) : W_X11_wrong c p V Q := br_f h k
theorem m_readNumber {t : Int → Int} {n s e : Int} {V : qV} {Q : Int → qV → Prop} (h : rT t n V) (hf : V 602 15 = -1) (h0 : 0 ≤ V 602 14 ∧ V 602 14 ≤ n) (hs : rnE spB t n (V 602 14) s) (hd : dgB (bt t n s) = true) (he : rnE dgB t n s e)
    (k1 : nvR t s (e - s).toNat ≤ 9999 → Q (nvR t s (e - s).toNat) (qu V 602 14 e)) (k2 : ¬ nvR t s (e - s).toNat ≤ 9999 → ∀ v, zr v → Q v (qu (qu (qu V 602 14 e) 602 15 s) 602 16 2)) : W_X11_readNumber V Q := by
  have hn := h.2.1
  have sn := rnE_n (by decide) h0.1 h0.2 hs
  have s0 := hs.1
  have en := rnE_n (by decide) (by omega) sn he
  refine m_fine1 hf (br_f (by decide) (m_here h h0 hs (m_isDigit ?_)))
  rw [hd, qu_s]
  refine br_f (by decide) ?_
  have dt : ∀ j, s ≤ j → j < e → 48 ≤ t j ∧ t j ≤ 57 := fun j a b => by
    have := dgB_t.mp (he.2.1 j a b)
    rw [bt_i (by omega)] at this; exact this
  have nb := nvR_b (t := t) (p := s) (e - s).toNat (fun j a b => dt j a (by omega))
  have fin : ((nvR t s (e - s).toNat ≤ 9999 → Q (nvR t s (e - s).toNat) (qu V 602 14 e)) ∧ (¬ nvR t s (e - s).toNat ≤ 9999 → W_X11_wrong 2 s (qu V 602 14 e) (fun V15 => Q (nvR t s (e - s).toNat) V15))) :=
    br_c k1 (fun x => m_wrong1 (by rw [qu_e (by decide)]; exact hf) (k2 x _ (zr_i (by omega) (by omega))))
  have main : ∀ (g : Nat) (c : Nat) (p : Int), p = s + c → p ≤ e → 400 < p + g → lp_X11_readNumber_39 s (fun l3x14 V14 => ((l3x14 ≤ 9999 → Q l3x14 V14) ∧ (¬ l3x14 ≤ 9999 → W_X11_wrong 2 s V14 (fun V15 => Q l3x14 V15)))) g (nvR t s c) (qu V 602 14 p) := by
    intro g
    induction g with
    | zero => intro c p a b d; omega
    | succ g ih =>
      intro c p a b d
      rw [lp_X11_readNumber_39]
      simp only [qu_s, (h.u (j := 14) (x := p) (by decide)).1]
      have fin' : p = e → ((nvR t s c ≤ 9999 → Q (nvR t s c) (qu V 602 14 p)) ∧ (¬ nvR t s c ≤ 9999 → W_X11_wrong 2 s (qu V 602 14 p) (fun V15 => Q (nvR t s c) V15))) := fun x => by
        subst x
        rw [show (p - s).toNat = c by omega] at fin
        exact fin
      refine br_c (fun x => fin' (by omega)) (fun x => ⟨by omega, m_isDigit ?_⟩)
      have e1 := h.2.2 p (by omega) (by omega)
      rw [qu_o _ _ (by decide), e1.1]
      by_cases pe : p = e
      · have hl := he.2.2
        rw [← pe, bt_i (by omega)] at hl
        rw [hl]
        exact br_t rfl (fin' pe)
      · have hl := he.2.1 p (by omega) (by omega)
        rw [bt_i (by omega)] at hl
        rw [hl]
        have tl := dt p (by omega) (by omega)
        have cb := nvR_b (t := t) (p := s) c (fun j a b => dt j a (by omega))
        have es : nvR t s (c + 1) = if nvR t s c ≤ 9999 then 10 * nvR t s c + t p - 48 else 10000 := by rw [nvR, show s + (c : Int) = p by omega]
        have ih' := ih (c + 1) (p + 1) (by omega) (by omega) (by omega)
        rw [es] at ih'
        refine br_f (by decide) (br_c (fun y => ⟨zr_i (by omega) (by omega), by omega, zr_i (by omega) (by omega), zr_i (by omega) (by omega), zr_i (by omega) (by omega), ?_⟩) (fun y => ⟨zr_i (by omega) (by omega), ?_⟩))
        · rw [if_pos y] at ih'; rw [qu_qu]; exact ih'
        · rw [if_neg y] at ih'; rw [qu_qu]; exact ih'
  exact main 100000 0 s (by omega) he.1 (by omega)
/-- no number stands there -/
theorem m_readNo {t : Int → Int} {n s : Int} {V : qV} {Q : Int → qV → Prop} (h : rT t n V) (hf : V 602 15 = -1) (h0 : 0 ≤ V 602 14 ∧ V 602 14 ≤ n) (hs : rnE spB t n (V 602 14) s) (hd : dgB (bt t n s) = false) (k : Q 0 (qu (qu (qu V 602 14 s) 602 15 s) 602 16 1)) : W_X11_readNumber V Q := by
  refine m_fine1 hf (br_f (by decide) (m_here h h0 hs (m_isDigit ?_)))
  rw [hd, qu_s]
  exact br_t rfl (m_wrong1 (by rw [qu_e (by decide)]; exact hf) k)
theorem m_need1 {t : Int → Int} {n s c : Int} {V : qV} {Q : qV → Prop} (h : rT t n V) (hf : V 602 15 = -1) (h0 : 0 ≤ V 602 14 ∧ V 602 14 ≤ n) (hs : rnE spB t n (V 602 14) s) (hc : bt t n s = c) (k : Q (qu V 602 14 (s + 1))) : W_X11_need c V Q := by
  have hn := h.2.1
  have sn := rnE_n (by decide) h0.1 h0.2 hs
  have s0 := hs.1
  refine m_fine1 hf (br_f (by decide) (m_here h h0 hs (br_t hc (m_fine1 (by rw [qu_e (by decide)]; exact hf) (br_f (by decide) ?_)))))
  rw [qu_s, qu_qu]
  exact ⟨zr_i (by omega) (by omega), k⟩
theorem m_need0 {t : Int → Int} {n s c : Int} {V : qV} {Q : qV → Prop} (h : rT t n V) (hf : V 602 15 = -1) (h0 : 0 ≤ V 602 14 ∧ V 602 14 ≤ n) (hs : rnE spB t n (V 602 14) s) (hc : bt t n s ≠ c) (k : Q (qu (qu (qu V 602 14 s) 602 15 s) 602 16 1)) : W_X11_need c V Q := by
  have hn := h.2.1
  have sn := rnE_n (by decide) h0.1 h0.2 hs
  have s0 := hs.1
  refine m_fine1 hf (br_f (by decide) (m_here h h0 hs (br_f hc (m_wrong1 (by rw [qu_e (by decide)]; exact hf) (m_fine0 ?_ (br_t rfl ?_))))))
  · rw [qu_e (by decide), qu_s, qu_s]; omega
  · rw [qu_s]; exact k
theorem m_needB {c : Int} {V : qV} {Q : qV → Prop} (hf : V 602 15 ≠ -1) (k : Q V) : W_X11_need c V Q := m_fine0 hf (br_t rfl (m_fine0 hf (br_t rfl k)))
def emV (V : qV) (b w x c : Int) : qV := qu (qu (qu V 604 b w) 605 b x) 602 18 c
theorem m_emit {w x : Int} {V : qV} {Q : qV → Prop} (hf : V 602 15 = -1) (hb' : 0 ≤ V 602 19 ∧ V 602 19 ≤ 4200) (hc : 0 ≤ V 602 18 ∧ V 602 18 < 400) (k : Q (emV V (V 602 19 + V 602 18) w x (V 602 18 + 1))) : W_X11_emit w x V Q := by
  unfold W_X11_emit
  have e1 : (qu V 604 ((V 602 19) + (V 602 18)) w) 602 19 = V 602 19 := qu_o _ _ (by decide) _
  have e2 : (qu V 604 ((V 602 19) + (V 602 18)) w) 602 18 = V 602 18 := qu_o _ _ (by decide) _
  have e3 : (qu (qu V 604 ((V 602 19) + (V 602 18)) w) 605 (V 602 19 + V 602 18) x) 602 18 = V 602 18 := by rw [qu_o _ _ (by decide)]; exact e2
  rw [e1, e2, e3]
  exact m_fine1 hf (br_f (by decide) ⟨zr_i (by omega) (by omega), by omega, zr_i (by omega) (by omega), by omega, zr_i (by omega) (by omega), k⟩)
theorem m_emitB {w x : Int} {V : qV} {Q : qV → Prop} (hf : V 602 15 ≠ -1) (k : Q V) : W_X11_emit w x V Q := m_fine0 hf (br_t rfl k)
theorem m_opens1 {b : Int} {V : qV} {Q : qV → Prop} (hf : V 602 15 = -1) (h6 : 0 ≤ V 602 17 ∧ V 602 17 < 6) (hp : 0 ≤ V 602 14 ∧ V 602 14 ≤ 400) (hb' : 0 ≤ b ∧ b ≤ 3) (k : Q (qu (qu V 602 14 (V 602 14 + b)) 602 17 (V 602 17 + 1))) : W_X11_opensOne b V Q := by
  have e : (qu V 602 14 ((V 602 14) + b)) 602 17 = V 602 17 := qu_e (by decide)
  refine m_fine1 hf (br_f (by decide) (br_f (by omega) (m_fine1 hf (br_f (by decide) ?_))))
  rw [e]
  exact ⟨zr_i (by omega) (by omega), zr_i (by omega) (by omega), k⟩
theorem m_opens0 {b : Int} {V : qV} {Q : qV → Prop} (hf : V 602 15 = -1) (h6 : V 602 17 = 6) (hp : 0 ≤ V 602 14) (k : Q (qu (qu (qu V 602 15 (V 602 14)) 602 16 3) 602 17 7)) : W_X11_opensOne b V Q := by
  have e : (qu (qu V 602 15 (V 602 14)) 602 16 3) 602 17 = 6 := by rw [qu_e (by decide), qu_e (by decide)]; exact h6
  have e2 : (qu (qu V 602 15 (V 602 14)) 602 16 3) 602 15 = V 602 14 := by rw [qu_e (by decide), qu_s]
  refine m_fine1 hf (br_f (by decide) (br_t h6 (m_wrong1 hf (m_fine0 (by rw [e2]; omega) (br_t rfl ?_)))))
  rw [e]
  exact ⟨zr_i (by decide) (by decide), k⟩
theorem m_closesB {c : Int} {V : qV} {Q : qV → Prop} (hf : V 602 15 ≠ -1) (h17 : 0 ≤ V 602 17 ∧ V 602 17 ≤ 100) (k : Q (qu V 602 17 (V 602 17 - 1))) : W_X11_closesOne c V Q := m_needB hf ⟨zr_i (by omega) (by omega), k⟩
/-- once a fault is found the reference reads no more -/
theorem m_sumB {V : qV} {Q : qV → Prop} (hf : V 602 15 ≠ -1) (k : Q V) (F : Nat) : G_ms (F + 1) 0 V Q ∧ G_ms (F + 2) 1 V Q := by
  have t : ∀ (F : Nat) (Q : qV → Prop), Q V → G_ms (F + 1) 0 V Q := fun F Q k => by
    rw [G_ms, if_pos rfl]
    exact m_fine0 hf (br_t rfl k)
  refine ⟨t F Q k, ?_⟩
  rw [G_ms, if_neg (by decide)]
  refine t F _ ?_
  rw [lp_X11_sum_4]
  exact m_fine0 hf (br_t rfl k)
theorem m_anyB {V : qV} {Q : qV → Prop} (hf : V 602 15 ≠ -1) (k : Q V) (F : Nat) : G_mo (F + 1) 2 V Q ∧ G_mo (F + 3) 0 V Q := by
  have t : ∀ (F : Nat) (Q : qV → Prop), Q V → G_mo (F + 1) 2 V Q := fun F Q k => by
    rw [G_mo, if_neg (by decide), if_neg (by decide)]
    exact m_fine0 hf (br_t rfl k)
  refine ⟨t F Q k, ?_⟩
  rw [G_mo, if_pos rfl]
  show B_X11_anyOf _ _ _
  unfold B_X11_anyOf
  rw [G_mo, if_neg (by decide), if_pos rfl]
  refine t F _ ?_
  rw [lp_X11_allOf_4]
  refine m_fine0 hf (br_t rfl ?_)
  show lp_X11_anyOf_4 _ _ 100000 V
  rw [lp_X11_anyOf_4]
  exact m_fine0 hf (br_t rfl k)
