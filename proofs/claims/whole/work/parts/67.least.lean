/-! the least settling set -/
theorem m_whoS {n f l : Int} {V : qV} {J : qJ} {Q : qV → Prop} (h : Rel n V J) (hf : 0 ≤ f ∧ f < V 12 10) (hl : 0 ≤ l ∧ l < V 0 2) (k : ∀ V2, Rel n V2 J → V2 602 0 = 0 → (∀ o j, o ≠ 614 → o ≠ 615 → o ≠ 616 → o ≠ 617 → o ≠ 602 → V2 o j = V o j) → (∀ v, 0 ≤ v → v < 1024 → V2 616 v = bit01 (wB V v)) → V2 602 25 = cntB (wB V) 1024 → (∀ v, 0 ≤ v → v < 1024 → wB V v = true → V2 617 v = whF (nmM (V 603) f) (LiM V l) (fun i => V 606 (12 * l + i)) (V 610 l) v) → Q V2) : W_X11_findWho f l (qu V 602 0 0) Q := by
  obtain ⟨hU, hP, hG, hF, hC, hS, hA⟩ := h.2.2.2.1
  have hlw := h.2.2.1
  have h142 := hF.1
  have e : ∀ o j, 603 ≤ o → o ≤ 612 → (qu V 602 0 0) o j = V o j := fun o j a b => q602 _ _ _ (by omega)
  have e3 : (qu V 602 0 0) 603 = V 603 := q603 V
  have hlr := hlw.2 l hl.1 (by have := hlw.1; omega)
  have hM : MV (qu V 602 0 0) l (V 610 l) := (hlr.M (by have := hlw.1; omega)).fr (fun o j a b => e o j (by omega) b)
  have eLi : LiM (qu V 602 0 0) l = LiM V l := LiM_fr (fun o j a b => e o j (by omega) b) l
  have e6 : (fun i => (qu V 602 0 0) 606 (12 * l + i)) = (fun i => V 606 (12 * l + i)) := by funext i; exact e _ _ (by decide) (by decide)
  have ew : wB (qu V 602 0 0) = wB V := by funext v; exact wB_fr e v
  refine m_findWho (n := V 610 l) (by rw [e3]; exact hA.1.2) (fun c a b => cW_fr (fun o j a b => e o j (by omega) b) (h.2.2.2.2.2.1 c a (by rw [e3] at b; exact b))) (by rw [e3]; exact hP.m) (by rw [e3]; exact mF_of hU hF hC hf.1 (by omega)) hM (fun i a b => ?_) (fun V2 w => ?_)
  · rw [e 607 _ (by decide) (by decide)]; exact (hlr.2.1 i a b).2.1.2
  · obtain ⟨w1, w2, w3, w4, w5, -⟩ := w
    rw [e3, eLi, e6] at w5
    rw [ew] at w3 w4 w5
    refine k V2 ?_ ?_ (fun o j a b c d x => by rw [w1 o j a b c d (by omega), qu_e (by omega)]) w3 w4 w5
    · exact h.sc0 (by omega) (fun o j p => by rw [w1 o j (by unfold scrC at p; omega) (by unfold scrC at p; omega) (by unfold scrC at p; omega) (by unfold scrC at p; omega) (by unfold scrC at p; omega), qu_e (by unfold scrC at p; omega)]) (fun _ _ _ _ _ _ _ _ => rfl)
    · rw [w1 _ _ (by omega) (by omega) (by omega) (by omega) (by omega)]; exact qs0 _
def sbT (t s : Int) : Prop := ∀ k, 0 ≤ k → k < 10 → tb t k = true → tb s k = true
theorem an0 {x m : Int} (hx : 0 ≤ x ∧ x < 1024) (hm : 0 ≤ m ∧ m < 1024) : zand x (zxor m (-1)) = 0 ↔ sbT x m := by
  have h := andn (x := x) (m := m) (by omega) (by omega)
  constructor
  · intro e k a b t
    have := h.2 k a (by omega)
    rw [e, tb_0, t] at this
    cases ht : tb m k with
    | true => rfl
    | false => rw [ht] at this; simp at this
  · intro e
    refine tb_ext h.1.1 (by decide) (fun k a => ?_)
    rw [tb_0]
    by_cases b : k < 10
    · rw [h.2 k a (by omega)]
      cases ht : tb x k with
      | false => rfl
      | true => rw [e k a b ht]; rfl
    · have : zand x (zxor m (-1)) < 2 ^ 32 := by have := h.1.2; omega
      by_cases b2 : k < 32
      · rw [h.2 k a b2, tb_lt (n := 10) (show x < 2 ^ 10 from hx.2) (by omega)]; rfl
      · exact tb_lt (n := 32) this (by omega)
theorem an1 {x m : Int} (hx : 0 ≤ x ∧ x < 1024) (hm : 0 ≤ m ∧ m < 1024) : zand x m = m ↔ sbT m x := by
  constructor
  · intro e k a b t
    have := tb_and hx.1 (by omega) hm.1 (by omega) k
    rw [e, t, Bool.and_true] at this
    exact this.symm
  · intro e
    have hb' := an_b hx hm
    refine tb_e10 hb' hm (fun k a b => ?_)
    rw [tb_and hx.1 (by omega) hm.1 (by omega)]
    cases ht : tb m k with
    | false => simp
    | true => rw [e k a b ht]; rfl
theorem sb_le {t s : Int} (ht : 0 ≤ t ∧ t < 1024) (hs : 0 ≤ s ∧ s < 1024) (h : sbT t s) : t ≤ s := by
  have e := (an1 hs ht).mpr h
  have := zand_rn (a := s) (b := t) hs.1 (by omega) ht.1 (by omega)
  omega
theorem cnt_le {p q : Int → Bool} : ∀ n : Nat, (∀ k : Int, 0 ≤ k → k < n → p k = true → q k = true) → cntB p n ≤ cntB q n
  | 0, _ => Int.le_refl _
  | n + 1, h => by
    have ih := cnt_le (p := p) (q := q) n (fun k a b => h k a (by omega))
    have h1 := h n (by omega) (by omega)
    show cntB p n + bit01 (p n) ≤ cntB q n + bit01 (q n)
    cases hp : p n with
    | false => cases q n <;> simp [bit01] <;> omega
    | true => rw [h1 hp]; omega
theorem cnt_lt {p q : Int → Bool} {m : Int} : ∀ n : Nat, (∀ k : Int, 0 ≤ k → k < n → p k = true → q k = true) → 0 ≤ m → m < n → p m = false → q m = true → cntB p n + 1 ≤ cntB q n
  | 0, _, a, b, _, _ => by omega
  | n + 1, h, a, b, hp, hq => by
    show cntB p n + bit01 (p n) + 1 ≤ cntB q n + bit01 (q n)
    by_cases hm : m = n
    · subst hm
      have := cnt_le (p := p) (q := q) n (fun k a b => h k a (by omega))
      rw [hp, hq]; simp [bit01]; omega
    · have ih := cnt_lt (p := p) (q := q) (m := m) n (fun k a b => h k a (by omega)) a (by omega) hp hq
      have h1 := h n (by omega) (by omega)
      cases hp' : p n with
      | false => cases q n <;> simp [bit01] <;> omega
      | true => rw [h1 hp']; omega
theorem tb12 {x k : Int} (hx : 0 ≤ x ∧ x < 1024) (hk : 10 ≤ k) : tb x k = false := tb_lt (n := 10) (show x < 2 ^ 10 from hx.2) (by omega)
theorem bc_le {t s : Int} (ht : 0 ≤ t ∧ t < 1024) (h : sbT t s) : bcF t ≤ bcF s := cnt_le 12 (fun k a b c => by
  by_cases hk : k < 10
  · exact h k a hk c
  · rw [tb12 ht (by omega)] at c; exact absurd c (by decide))
theorem bc_eq {t s : Int} (ht : 0 ≤ t ∧ t < 1024) (hs : 0 ≤ s ∧ s < 1024) (h : sbT t s) (he : bcF s ≤ bcF t) : t = s := by
  refine tb_e10 ht hs (fun k a b => ?_)
  cases h1 : tb t k with
  | true => rw [h k a b h1]
  | false =>
    cases h2 : tb s k with
    | false => rfl
    | true =>
      have : bcF t + 1 ≤ bcF s := cnt_lt (m := k) 12 (fun k a b c => by
        by_cases hk : k < 10
        · exact h k a hk c
        · rw [tb12 ht (by omega)] at c; exact absurd c (by decide)) a (by omega) h1 h2
      omega
/-- u taken out of t -/
def rmU (t u : Int) : Int := zand t (zxor (zshl 1 u) (-1))
theorem rm_e {t u : Int} (ht : 0 ≤ t ∧ t < 1024) (hu : 0 ≤ u ∧ u < 10) : (0 ≤ rmU t u ∧ rmU t u < 1024) ∧ ∀ k, 0 ≤ k → k < 10 → tb (rmU t u) k = (tb t k && !decide (u = k)) := by
  have hp := zshl_rn (k := u) (n := 10) (by decide) hu.1 (by omega)
  have h2 : zshl 1 u < 1024 := hp.2
  have h := andn (x := t) (m := zshl 1 u) (by omega) (by omega)
  refine ⟨⟨h.1.1, ?_⟩, fun k a b => by unfold rmU; rw [h.2 k a (by omega), tb_p hu.1 (by omega) a]⟩
  have : zand t (zand t (zxor (zshl 1 u) (-1))) = zand t (zxor (zshl 1 u) (-1)) := by
    refine tb_ext (zand_rn ht.1 (by omega) h.1.1 (by omega)).1 h.1.1 (fun k a => ?_)
    rw [tb_and ht.1 (by omega) h.1.1 (by omega)]
    by_cases b2 : k < 32
    · rw [h.2 k a b2]; cases tb t k <;> simp
    · rw [tb_lt (n := 32) (show zand t (zxor (zshl 1 u) (-1)) < 2 ^ 32 by omega) (by omega)]; simp
  have := (zand_rn (a := t) (b := zand t (zxor (zshl 1 u) (-1))) ht.1 (by omega) h.1.1 (by omega)).2.1
  unfold rmU
  omega
theorem rm_lt {t u : Int} (ht : 0 ≤ t ∧ t < 1024) (hu : 0 ≤ u ∧ u < 10) (h : tb t u = true) : bcF (rmU t u) + 1 ≤ bcF t := by
  have e := rm_e ht hu
  refine cnt_lt (m := u) 12 (fun k a b c => ?_) hu.1 (by omega) ?_ h
  · by_cases hk : k < 10
    · rw [e.2 k a hk, Bool.and_eq_true] at c; exact c.1
    · rw [tb12 e.1 (by omega)] at c; exact absurd c (by decide)
  · rw [e.2 u hu.1 hu.2]; simp
theorem key_e {v w s : Int} (hv : 0 ≤ v ∧ v < 1024) (hw : 0 ≤ w ∧ w < 1024) (hs : 0 ≤ s ∧ s < 1024) : zand v s = zand w s ↔ ∀ k, 0 ≤ k → k < 10 → tb s k = true → tb v k = tb w k := by
  constructor
  · intro e k a b c
    have h1 := tb_and hv.1 (by omega) hs.1 (by omega) k
    have h2 := tb_and hw.1 (by omega) hs.1 (by omega) k
    rw [e, h2, c] at h1
    simpa using h1.symm
  · intro h
    refine tb_e10 (an_b hv hs) (an_b hw hs) (fun k a b => ?_)
    rw [tb_and hv.1 (by omega) hs.1 (by omega), tb_and hw.1 (by omega) hs.1 (by omega)]
    cases c : tb s k with
    | false => simp
    | true => rw [h k a b c]
/-- what it hangs on is in each set that settles -/
theorem st_need {om : Int → Int} {s u : Int} (hs : 0 ≤ s ∧ s < 1024) (hu : 0 ≤ u ∧ u < 10) (hd : dfB om u 1 = true) (h : stP om s) : tb s u = true := by
  cases hc : tb s u with
  | true => rfl
  | false =>
    exfalso
    obtain ⟨v, a, b, c, d, e⟩ := dfB_iff.mp hd
    have e' := e.resolve_left (by decide)
    have ob := or_b (v := v) (u := u) ⟨a, b⟩ hu
    refine d (h v _ a b ob.1 ob.2 e'.1 e'.2 ((key_e ⟨a, b⟩ ob hs).mpr (fun k k0 k1 k2 => ?_)))
    rw [(mk_or ⟨a, b⟩ hu).2 k k0]
    have : u ≠ k := fun x => by rw [← x, hc] at k2; exact absurd k2 (by decide)
    simp [this]
/-- what tells nothing can be left out -/
theorem st_rm {om : Int → Int} {s u : Int} (hs : 0 ≤ s ∧ s < 1024) (hu : 0 ≤ u ∧ u < 10) (hd : dfB om u 0 = false) (h : stP om s) : stP om (rmU s u) := by
  have nt : ∀ v, 0 ≤ v → v < 1024 → om (zor v (zshl 1 u)) = om v := fun v a b => by
    by_cases e : zor v (zshl 1 u) = v
    · rw [e]
    · by_cases e2 : om v = om (zor v (zshl 1 u))
      · exact e2.symm
      · rw [dfB_iff.mpr ⟨v, a, b, e, e2, Or.inl rfl⟩] at hd
        exact absurd hd (by decide)
  intro v w a b c d x y z
  have e := rm_e hs hu
  have o1 := or_b (v := v) (u := u) ⟨a, b⟩ hu
  have o2 := or_b (v := w) (u := u) ⟨c, d⟩ hu
  rw [← nt v a b, ← nt w c d]
  refine h _ _ o1.1 o1.2 o2.1 o2.2 (by rw [nt v a b]; exact x) (by rw [nt w c d]; exact y) ((key_e o1 o2 hs).mpr (fun k k0 k1 k2 => ?_))
  rw [(mk_or ⟨a, b⟩ hu).2 k k0, (mk_or ⟨c, d⟩ hu).2 k k0]
  by_cases hk : u = k
  · simp [hk]
  · have := (key_e ⟨a, b⟩ ⟨c, d⟩ e.1).mp z k k0 k1 (by rw [e.2 k k0 k1, k2]; simp [hk])
    rw [this]
def mnS (om : Int → Int) (op b : Int) : Prop := (0 ≤ b ∧ b < 1024) ∧ sbT b op ∧ stP om b ∧ ∀ t, 0 ≤ t → t < 1024 → sbT t op → stP om t → bcF b ≤ bcF t ∧ (bcF t = bcF b → b ≤ t)
theorem mnS_u {om : Int → Int} {op a b : Int} (ha : mnS om op a) (hb' : mnS om op b) : a = b := by
  have h1 := ha.2.2.2 b hb'.1.1 hb'.1.2 hb'.2.1 hb'.2.2.1
  have h2 := hb'.2.2.2 a ha.1.1 ha.1.2 ha.2.1 ha.2.2.1
  have e : bcF a = bcF b := by omega
  have := h1.2 e.symm
  have := h2.2 e
  omega
/-- one of the fewest -/
theorem mn_ex {om : Int → Int} {op : Int} : ∀ (n : Nat) (t : Int), 0 ≤ t → t < 1024 → sbT t op → stP om t → bcF t ≤ n → ∃ t0, (0 ≤ t0 ∧ t0 < 1024) ∧ sbT t0 op ∧ stP om t0 ∧ bcF t0 ≤ bcF t ∧ ∀ r, 0 ≤ r → r < 1024 → sbT r op → stP om r → bcF t0 ≤ bcF r
  | 0, t, a, b, c, d, e => ⟨t, ⟨a, b⟩, c, d, Int.le_refl _, fun r _ _ _ _ => by
      have := (cntB_b (p := fun k => tb r k) 12).1
      have h2 : bcF r = cntB (fun k => tb r k) 12 := rfl
      omega⟩
  | n + 1, t, a, b, c, d, e => by
    by_cases h : ∃ r, (0 ≤ r ∧ r < 1024) ∧ sbT r op ∧ stP om r ∧ bcF r < bcF t
    · obtain ⟨r, r0, r1, r2, r3⟩ := h
      obtain ⟨t0, u0, u1, u2, u3, u4⟩ := mn_ex n r r0.1 r0.2 r1 r2 (by omega)
      exact ⟨t0, u0, u1, u2, by omega, u4⟩
    · refine ⟨t, ⟨a, b⟩, c, d, Int.le_refl _, fun r r0 r1 r2 r3 => ?_⟩
      by_cases hlt : bcF r < bcF t
      · exact absurd ⟨r, ⟨r0, r1⟩, r2, r3, hlt⟩ h
      · omega
theorem m_settlesL {W : Int → Bool} {x om : Int → Int} {op : Int} {V : qV} {K : Int → Int → qV → Prop} (hop : 0 ≤ op ∧ op < 1024) (h6 : ∀ v, 0 ≤ v → v < 1024 → V 616 v = bit01 (W v)) (h7 : ∀ v, 0 ≤ v → v < 1024 → W v = true → V 617 v = x v) (hx : ∀ v, 0 ≤ x v) (hom : ∀ v, 0 ≤ v → v < 1024 → om v = if W v then x v + 1 else 0) (hst : stP om op)
    (k : ∀ b i V', (∀ o j, o ≠ 618 → V' o j = V o j) → mnS om op b → K b i V') : lp_X11_settles_33 op K 100000 op 0 V := by
  have main : ∀ (g : Nat) (i b : Int) (V1 : qV), 0 ≤ i → i ≤ 1024 → 1024 < i + g → (∀ o j, o ≠ 618 → V1 o j = V o j) → (0 ≤ b ∧ b < 1024) → (b = op ∨ b < i) → sbT b op → stP om b → (∀ t, 0 ≤ t → t < i → sbT t op → stP om t → bcF b ≤ bcF t ∧ (bcF t = bcF b → b ≤ t)) → lp_X11_settles_33 op K g b i V1 := by
    intro g
    induction g with
    | zero => intro i b V1 p q r; omega
    | succ g ih =>
      intro i b V1 p q r e1 hb hor hsb hsp hm
      rw [lp_X11_settles_33]
      refine br_c (fun c => ?_) (fun c => ?_)
      · exact k b i V1 e1 ⟨hb, hsb, hsp, fun t a b' c' d => hm t a (by omega) c' d⟩
      · have keep : ∀ V2, (∀ o j, o ≠ 618 → V2 o j = V o j) → (sbT i op → stP om i → bcF b ≤ bcF i ∧ (bcF i = bcF b → b ≤ i)) → (zr (i + 1) ∧ lp_X11_settles_33 op K g b (i + 1) V2) := fun V2 e2 hh => ⟨zr_i (by omega) (by omega), ih _ _ _ (by omega) (by omega) (by omega) e2 hb (by omega) hsb hsp (fun t a b' c' d => by
          by_cases ht : t = i
          · subst ht; exact hh c' d
          · exact hm t a (by omega) c' d)⟩
        refine br_c (fun y => ?_) (fun y => keep V1 e1 (fun z => absurd ((an0 (by omega) hop).mpr z) y))
        have y' := (an0 (by omega) hop).mp y
        refine m_bitsOf (by omega) (m_bitsOf (by omega) (br_c (fun z => keep V1 e1 (fun _ _ => ⟨z, fun e => ?_⟩)) (fun z => ?_)))
        · rcases hor with ho | ho
          · subst ho
            have := bc_eq (t := i) (by omega) hop y' (by omega)
            omega
          · omega
        · refine m_isSettling (W := W) (x := x) (om := om) (by omega) (fun v a b => by rw [e1 _ _ (by decide)]; exact h6 v a b) (fun v a b w => by rw [e1 _ _ (by decide)]; exact h7 v a b w) hx hom (fun r V2 e2 hr => ?_)
          have e3 : ∀ o j, o ≠ 618 → V2 o j = V o j := fun o j a => by rw [e2 o j a, e1 o j a]
          rcases hr with ⟨hr, hs⟩ | ⟨hr, hs⟩
          · subst hr
            refine br_f (by decide) ⟨zr_i (by omega) (by omega), ih _ _ _ (by omega) (by omega) (by omega) e3 (by omega) (Or.inr (by omega)) y' hs (fun t a b' c' d => ?_)⟩
            by_cases ht : t = i
            · subst ht; exact ⟨Int.le_refl _, fun _ => Int.le_refl _⟩
            · have := hm t a (by omega) c' d
              omega
          · subst hr
            exact br_t rfl (keep V2 e3 (fun _ w => absurd w hs))
  exact main 100000 0 op V (by decide) (by decide) (by decide) (fun _ _ _ => rfl) hop (Or.inl rfl) (fun _ _ _ x => x) hst (fun t a b => by omega)
