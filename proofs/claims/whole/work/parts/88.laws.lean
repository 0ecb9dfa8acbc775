/-! laws: rule by rule -/
def cds : List (Int × Int × List (Int × Int)) → List (Int × Int)
  | [] => []
  | r :: R => r.2.2 ++ cds R
def rlC (V : qV) (a : Int) : Int → Int → List (Int × Int × List (Int × Int)) → Prop
  | _, _, [] => True
  | q, x, r :: R => (V (a + 1) q = r.1 ∧ V (a + 2) q = r.2.1 ∧ V (a + 3) q = x + r.2.2.length) ∧ rlC V a (q + 1) (x + r.2.2.length) R
def rlM (V : qV) (b g : Int) : Int → Int → List (Int × Int × List (Int × Int)) → Prop
  | _, _, [] => True
  | q, x, r :: R => (V 606 (b + q) = r.1 ∧ V 607 (b + q) = r.2.1 ∧ V 608 (b + q) = g + x ∧ V 609 (b + q) = g + x + r.2.2.length) ∧ rlM V b g (q + 1) (x + r.2.2.length) R
def rOk (R : List (Int × Int × List (Int × Int))) : Prop := ∀ r, r ∈ R → (0 ≤ r.1 ∧ r.1 ≤ 4) ∧ (0 ≤ r.2.1 ∧ r.2.1 ≤ 9999) ∧ (r.2.2 = [] ∨ tyA r.2.2 true 15 9)
def cLw (V V' : qV) (rl : Int) (R : List (Int × Int × List (Int × Int))) : Prop :=
  (∀ o k, ¬ (o = 1 ∧ 7 ≤ k ∧ k ≤ 10) → ¬ (o = V 1 14 ∧ (k = 0 ∨ k = 5 ∨ k = 6)) → ¬ ((o = V 1 14 + 1 ∨ o = V 1 14 + 2 ∨ o = V 1 14 + 3) ∧ rl ≤ k) → ¬ (o = V 1 14 + 4 ∧ V (V 1 14) 5 ≤ k) → V' o k = V o k) ∧ V' (V 1 14) 0 = rl + R.length ∧ (0 ≤ V' (V 1 14) 6 ∧ V' (V 1 14) 6 < 1024) ∧ rlC V' (V 1 14) rl (V (V 1 14) 5) R ∧ cdC V' (V 1 14 + 4) (V (V 1 14) 5) (cds R) ∧ (∀ k, tb (V (V 1 14) 6) k = true → tb (V' (V 1 14) 6) k = true) ∧ usL (V' (V 1 14) 6) (cds R)
def mLf (V V' : qV) (l rl : Int) : Prop := ∀ o k, ¬ (o = 602 ∧ 14 ≤ k ∧ k ≤ 18) → ¬ ((o = 604 ∨ o = 605) ∧ V 602 19 + V 602 18 ≤ k ∧ k < V 602 19 + 400) → ¬ ((606 ≤ o ∧ o ≤ 609) ∧ 12 * l + rl ≤ k) → ¬ (o = 610 ∧ k = l) → V' o k = V o k
def rLw (V V' : qV) (l rl : Int) (R : List (Int × Int × List (Int × Int))) : Prop := mLf V V' l rl ∧ V' 602 15 = -1 ∧ V' 610 l = rl + R.length ∧ V' 602 18 = V 602 18 + (cds R).length ∧ rlM V' (12 * l) (V 602 19) rl (V 602 18) R ∧ cdM V' (V 602 19 + V 602 18) (cds R)
def rLb (V V' : qV) (l rl r p : Int) : Prop := mLf V V' l rl ∧ V' 602 15 = p ∧ V' 602 16 = r
theorem rlC_fr {V V' : qV} {a : Int} : ∀ (R : List (Int × Int × List (Int × Int))) (q x : Int), rlC V a q x R → (∀ o k, (o = a + 1 ∨ o = a + 2 ∨ o = a + 3) → q ≤ k → k < q + R.length → V' o k = V o k) → rlC V' a q x R
  | [], _, _, _, _ => trivial
  | r :: R, q, x, h, hf => by
    have e : ((r :: R).length : Int) = (R.length : Int) + 1 := by simp
    refine ⟨⟨?_, ?_, ?_⟩, rlC_fr R (q + 1) _ h.2 (fun o k y z w => hf o k y (by omega) (by omega))⟩
    · rw [hf _ _ (Or.inl rfl) (by omega) (by omega)]; exact h.1.1
    · rw [hf _ _ (Or.inr (Or.inl rfl)) (by omega) (by omega)]; exact h.1.2.1
    · rw [hf _ _ (Or.inr (Or.inr rfl)) (by omega) (by omega)]; exact h.1.2.2
section
variable {t : Int → Int} {n : Int} {kd vl pl : Int → Int} {m i rl : Int} {V : qV}
theorem m_isMoreR {Q : Int → qV → Prop} (hT : TK t n kd vl pl m) (h0 : 0 ≤ i) (h1 : i ≤ m) (h : rSt t n pl V i 0) (k1 : i < m → ∀ V', rPo t n pl V V' 0 i [] → Q 1 V') (k0 : i = m → ∀ V', rPo t n pl V V' 0 i [] → Q 0 V') : W_X11_isMore V Q := by
  refine m_hereR hT h0 h1 h (fun V' p e => ?_)
  have s := p.st h (by simp; exact h.2.2.2.2.2.1.2)
  rw [e, s.1.1]
  by_cases lt : i < m
  · obtain ⟨nx, a, _⟩ := hT.2.2.2.1 i h0 lt
    exact br_f (by omega) (k1 lt V' p)
  · have : i = m := by omega
    refine br_t ?_ (k0 this V' p)
    rw [this, hT.2.2.2.2.1.1]; omega
theorem o_law (hT : TK t n kd vl pl m) (hB : ∀ p, 0 ≤ bt t n p ∧ bt t n p < 256) : ∀ (u : Nat) (i rl : Int), 0 ≤ i → i ≤ m → m ≤ i + u → (0 ≤ rl ∧ rl ≤ 12) → ∃ r j R, ((r = 0 ∧ ((cds R).length : Int) ≤ m - i ∧ rOk R ∧ rl + (R.length : Int) ≤ 12) ∨ ((r = 1 ∨ r = 2 ∨ r = 3) ∧ 0 ≤ j ∧ j ≤ m)) ∧ (∀ (V : qV) (Q : Int → qV → Prop) (f : Nat), cRs kd vl pl m V i rl → 13 - rl < f → (r = 0 → ∀ V', cLw V V' rl R → Q 1 V') → (r ≠ 0 → ∀ V', cRb V V' r (pl j) → Q 0 V') → lp_X6_readLaw_8 (fun _ V4 => Q 1 V4) Q f rl V) ∧ (∀ (l : Int) (V : qV) (K : qV → Prop) (f : Nat), rRs t n pl V i l rl → 401 < i + f → (r = 0 → ∀ V', rLw V V' l rl R → K V') → (r ≠ 0 → ∀ V', rLb V V' l rl r (pl j) → K V') → lp_X11_law_73 K f V) := by
  have hm : m ≤ 400 := by have := hT.1; have := hT.2.1; omega
  have fin : ∀ (rl : Int), (0 ≤ rl ∧ rl ≤ 12) → ∃ r j R, ((r = 0 ∧ ((cds R).length : Int) ≤ m - m ∧ rOk R ∧ rl + (R.length : Int) ≤ 12) ∨ ((r = 1 ∨ r = 2 ∨ r = 3) ∧ 0 ≤ j ∧ j ≤ m)) ∧ (∀ (V : qV) (Q : Int → qV → Prop) (f : Nat), cRs kd vl pl m V m rl → 13 - rl < f → (r = 0 → ∀ V', cLw V V' rl R → Q 1 V') → (r ≠ 0 → ∀ V', cRb V V' r (pl j) → Q 0 V') → lp_X6_readLaw_8 (fun _ V4 => Q 1 V4) Q f rl V) ∧ (∀ (l : Int) (V : qV) (K : qV → Prop) (f : Nat), rRs t n pl V m l rl → 401 < m + f → (r = 0 → ∀ V', rLw V V' l rl R → K V') → (r ≠ 0 → ∀ V', rLb V V' l rl r (pl j) → K V') → lp_X11_law_73 K f V) := fun rl hrl => by
    refine ⟨0, m, [], Or.inl ⟨rfl, by simp [cds], fun r hr => by simp at hr, by simp; omega⟩, fun V Q f s hf k1 k2 => ?_, fun l V K f s hf k1 k2 => ?_⟩
    · obtain ⟨f, rfl⟩ : ∃ g, f = g + 1 := ⟨f - 1, by omega⟩
      rw [lp_X6_readLaw_8, s.2.1.2.1]
      refine br_f (by omega) (br_t hT.2.2.2.2.1.2.1 (k1 rfl V ⟨fun _ _ _ _ _ _ => rfl, by rw [s.2.2.2.2.1.1]; simp, s.2.2.2.2.2, trivial, trivial, fun _ x => x, fun c hc => by simp [cds] at hc⟩))
    · obtain ⟨f, rfl⟩ : ∃ g, f = g + 1 := ⟨f - 1, by omega⟩
      rw [lp_X11_law_73]
      refine m_fine1 s.1.2.1 (br_f (by decide) (m_isMoreR hT (by have := hT.2.1; omega) (Int.le_refl _) s.1 (fun x => by omega) (fun _ V' p => br_t rfl (k1 rfl V' ⟨fun o k x y _ _ => p.1 o k x y, p.2.1, ?_, ?_, trivial, trivial⟩))))
      · rw [p.1 _ _ (by omega) (by omega), s.2.2.2.1]; simp
      · rw [p.2.2.2.2.2.1]; simp [cds]
  intro u
  induction u with
  | zero =>
    intro i rl i0 i1 i2 hrl
    have : i = m := by omega
    subst this
    exact fin rl hrl
  | succ u ih =>
    intro i rl i0 i1 i2 hrl
    by_cases im : i = m
    · subst im; exact fin rl hrl
    · have lt : i < m := by omega
      have k0 : kd i ≠ 0 := by have := tk_kd hT i0 lt; omega
      obtain ⟨r, j, w, c, L, out, cs, rs⟩ := o_rule hT hB i i0 i1 rl hrl
      rcases out with ⟨hr, hj, hl, hw, hc, hty, h12⟩ | ⟨hr, hj⟩
      · subst hr
        obtain ⟨r2, j2, R2, out2, cs2, rs2⟩ := ih j (rl + 1) (by omega) hj.2 (by omega) (by omega)
        have el : (((w, c, L) :: R2).length : Int) = R2.length + 1 := by simp
        have ec : ((cds ((w, c, L) :: R2)).length : Int) = L.length + (cds R2).length := by simp [cds]
        refine ⟨r2, j2, (w, c, L) :: R2, ?_, fun V Q f s hf k1 k2 => ?_, fun l V K f s hf k1 k2 => ?_⟩
        · rcases out2 with ⟨a1, a2, a3, a4⟩ | a
          · refine Or.inl ⟨a1, by omega, fun r hr => ?_, by omega⟩
            rcases List.mem_cons.mp hr with x | x
            · subst x; exact ⟨hw, hc, hty⟩
            · exact a3 r x
          · exact Or.inr a
        · obtain ⟨f, rfl⟩ : ∃ g, f = g + 1 := ⟨f - 1, by omega⟩
          rw [lp_X6_readLaw_8, s.2.1.2.1]
          refine br_f (by omega) (br_f k0 (cs V _ s (fun _ V1 p1 => br_f (by decide) ⟨zr_i (by omega) (by omega), ?_⟩) (fun x => absurd rfl x)))
          have b6 := s.2.2.1
          have e14 : V1 1 14 = V 1 14 := p1.1 _ _ (by omega) (by omega) (by omega) (by omega)
          obtain ⟨p1, p2, p3, p4, p5, p6, p7⟩ := p1
          refine cs2 V1 Q f p2 (by omega) (fun hr V2 q => k1 hr V2 ?_) (fun hr V2 b => k2 hr V2 ?_)
          · obtain ⟨q1, q2, q3, q4, q5, q6, q7⟩ := q
            rw [e14] at q1 q2 q3 q4 q5 q6 q7
            rw [p4] at q1 q4 q5
            refine ⟨fun o k x y z v => ?_, by rw [q2, el]; omega, q3, ⟨⟨?_, ?_, ?_⟩, q4⟩, ?_, fun k x => q6 k (p6 k x), fun d hd h1' => ?_⟩
            · rw [q1 o k x y (by omega) (by omega)]; exact p1 o k x y (by omega) v
            · rw [q1 _ _ (by omega) (by omega) (by omega) (by omega)]; exact p3.1
            · rw [q1 _ _ (by omega) (by omega) (by omega) (by omega)]; exact p3.2.1
            · rw [q1 _ _ (by omega) (by omega) (by omega) (by omega)]; exact p3.2.2
            · show cdC V2 (V 1 14 + 4) (V (V 1 14) 5) (L ++ cds R2)
              rw [cdC_ap]
              exact ⟨cdC_fr L _ p5 (fun k a b => q1 _ _ (by omega) (by omega) (by omega) (by omega)), q5⟩
            · rcases List.mem_append.mp hd with x | x
              · exact q6 _ (p7 d x h1')
              · exact q7 d x h1'
          · refine ⟨fun o k x y => ?_, b.2⟩
            rw [b.1 o k x (by rw [e14]; exact y)]
            exact p1 o k (by omega) (by omega) (by omega) (by omega)
        · obtain ⟨f, rfl⟩ : ∃ g, f = g + 1 := ⟨f - 1, by omega⟩
          rw [lp_X11_law_73]
          have hl3 := s.2.2.1
          refine m_fine1 s.1.2.1 (br_f (by decide) (m_isMoreR hT i0 i1 s.1 (fun _ V1 p1 => br_f (by decide) ?_) (fun x => absurd x im)))
          have s1 : rRs t n pl V1 i l rl := ⟨p1.st s.1 (by simp; exact s.1.2.2.2.2.2.1.2), by rw [p1.1 _ _ (by omega) (by omega)]; exact s.2.1, hl3, by rw [p1.1 _ _ (by omega) (by omega)]; exact s.2.2.2.1, by rw [p1.2.2.2.2.2.1]; simp; exact s.2.2.2.2⟩
          have e18 : V1 602 18 = V 602 18 := by rw [p1.2.2.2.2.2.1]; simp
          have e19 : V1 602 19 = V 602 19 := p1.e.1
          refine rs l V1 _ s1 (fun _ V2 q => ?_) (fun x => absurd rfl x)
          obtain ⟨q1, q2, q3, q4, q5⟩ := q
          rw [e18, e19] at q1 q3 q5
          rw [e18] at q4
          have g19 : V2 602 19 = V 602 19 := by rw [q1 _ _ (by omega) (by omega) (by omega) (by omega)]; exact e19
          have hV := s.1.2.2.2.2.2.1.1
          refine rs2 l V2 K f q2 (by omega) (fun hr V3 v => k1 hr V3 ?_) (fun hr V3 b => k2 hr V3 ?_)
          · obtain ⟨v1, v2, v3, v4, v5, v6⟩ := v
            unfold mLf at v1
            rw [g19, q4] at v1 v5 v6
            rw [q4] at v4
            refine ⟨fun o k x y z u => ?_, v2, by rw [v3, el]; omega, by rw [v4, ec]; omega, ⟨⟨?_, ?_, ?_, ?_⟩, v5⟩, ?_⟩
            · rw [v1 o k x (by omega) (by omega) u, q1 o k x y (by omega) u]; exact p1.1 o k x y
            · rw [v1 _ _ (by omega) (by omega) (by omega) (by omega)]; exact q3.1
            · rw [v1 _ _ (by omega) (by omega) (by omega) (by omega)]; exact q3.2.1
            · rw [v1 _ _ (by omega) (by omega) (by omega) (by omega)]; exact q3.2.2.1
            · rw [v1 _ _ (by omega) (by omega) (by omega) (by omega)]; exact q3.2.2.2
            · show cdM V3 (V 602 19 + V 602 18) (L ++ cds R2)
              rw [cdM_ap]
              refine ⟨cdM_fr L _ q5 (fun o k x a b => v1 o k (by omega) (by omega) (by omega) (by omega)), ?_⟩
              rw [show V 602 19 + V 602 18 + (L.length : Int) = V 602 19 + (V 602 18 + L.length) by omega]; exact v6
          · obtain ⟨v1, v2, v3⟩ := b
            unfold mLf at v1
            rw [g19, q4] at v1
            refine ⟨fun o k x y z u => ?_, v2, v3⟩
            rw [v1 o k x (by omega) (by omega) u, q1 o k x y (by omega) u]; exact p1.1 o k x y
      · have hne : r ≠ 0 := by omega
        have hjp := tk_sp hT hj.1 hj.2
        refine ⟨r, j, [], Or.inr ⟨hr, hj⟩, fun V Q f s hf k1 k2 => ?_, fun l V K f s hf k1 k2 => ?_⟩
        · obtain ⟨f, rfl⟩ : ∃ g, f = g + 1 := ⟨f - 1, by omega⟩
          rw [lp_X6_readLaw_8, s.2.1.2.1]
          exact br_f (by omega) (br_f k0 (cs V _ s (fun x => absurd x hne) (fun _ V' b => br_t rfl (k2 hne V' b))))
        · obtain ⟨f, rfl⟩ : ∃ g, f = g + 2 := ⟨f - 2, by omega⟩
          rw [lp_X11_law_73]
          have hl3 := s.2.2.1
          refine m_fine1 s.1.2.1 (br_f (by decide) (m_isMoreR hT i0 i1 s.1 (fun _ V1 p1 => br_f (by decide) ?_) (fun x => absurd x im)))
          have s1 : rRs t n pl V1 i l rl := ⟨p1.st s.1 (by simp; exact s.1.2.2.2.2.2.1.2), by rw [p1.1 _ _ (by omega) (by omega)]; exact s.2.1, hl3, by rw [p1.1 _ _ (by omega) (by omega)]; exact s.2.2.2.1, by rw [p1.2.2.2.2.2.1]; simp; exact s.2.2.2.2⟩
          have e18 : V1 602 18 = V 602 18 := by rw [p1.2.2.2.2.2.1]; simp
          have e19 : V1 602 19 = V 602 19 := p1.e.1
          refine rs l V1 _ s1 (fun x => absurd x hne) (fun _ V2 b => ?_)
          obtain ⟨b1, b2, b3⟩ := b
          rw [e18, e19] at b1
          rw [lp_X11_law_73]
          refine m_fine0 (by rw [b2]; omega) (br_t rfl (k2 hne V2 ⟨fun o k x y z u => ?_, b2, b3⟩))
          rw [b1 o k x y (by omega) u]; exact p1.1 o k x y
end
