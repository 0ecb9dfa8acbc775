/-! weights of worlds -/
def wtF (w : Int → Int) (v : Int) : Nat → Int64
  | 0 => 1
  | n + 1 => wtF w v n * (if w n = 2 then (if tb v n then (iI (w (10 + n))).toInt64 else (iI (10 - w (10 + n))).toInt64) else 1)
theorem wtF_s {w : Int → Int} {v i : Int} (h : 0 ≤ i) : wtF w v (i + 1).toNat = wtF w v i.toNat * (if w i = 2 then (if tb v i then (iI (w (10 + i))).toInt64 else (iI (10 - w (10 + i))).toInt64) else 1) := by
  rw [show (i + 1).toNat = i.toNat + 1 by omega, wtF, Int.toNat_of_nonneg h]
theorem wtF_cg {w : Int → Int} {v u : Int} : ∀ n : Nat, (∀ k : Int, 0 ≤ k → k < n → tb v k = tb u k) → wtF w v n = wtF w u n
  | 0, _ => rfl
  | n + 1, h => by rw [wtF, wtF, wtF_cg n (fun k a b => h k a (by omega)), h n (by omega) (by omega)]
theorem m_weightOf {v : Int} {V : qV} {Q : Int64 → Prop} (hv : 0 ≤ v ∧ v < 1024) (hw : ∀ k, 0 ≤ k → k < 10 → 1 ≤ V 603 (10 + k) ∧ V 603 (10 + k) ≤ 9) (k : Q (wtF (V 603) v 10)) : W_X11_weightOf v V Q := by
  have main : ∀ (g : Nat) (i : Int) (x : Int64), 0 ≤ i → i ≤ 10 → 10 < i + g → x = wtF (V 603) v i.toNat → lp_X11_weightOf_5 v V (fun l2x11 l4x11 => Q l2x11) g x i := by
    intro g
    induction g with
    | zero => intro i x p q r; omega
    | succ g ih =>
      intro i x p q r hx
      rw [lp_X11_weightOf_5]
      have es := wtF_s (w := V 603) (v := v) p
      have ts := tb_sh (x := v) (k := i) hv.1 (by omega) p (by omega)
      refine br_c (fun c => ?_) (fun c => ⟨zr_i (by omega) (by omega), by omega, ?_⟩)
      · have : i = 10 := by omega
        subst this
        rw [hx]; exact k
      · have h9 := hw i p (by omega)
        rw [show (0 : Int) + i = i by omega]
        refine br_c (fun y => ?_) (fun y => ⟨zr_i (by omega) (by omega), ih _ _ (by omega) (by omega) (by omega) ?_⟩)
        · rw [if_pos y] at es
          refine br_c (fun z => ⟨zr_i (by omega) (by omega), by omega, zr_i (by omega) (by omega), ih _ _ (by omega) (by omega) (by omega) ?_⟩) (fun z => ⟨zr_i (by omega) (by omega), by omega, zr_i (by omega) (by omega), zr_i (by omega) (by omega), ih _ _ (by omega) (by omega) (by omega) ?_⟩)
          · have t1 : tb v i = true := by
              cases ht : tb v i with
              | true => rfl
              | false => rw [ht] at ts; rw [ts] at z; exact absurd z (by decide)
            rw [es, t1, if_pos rfl, hx]
          · have t1 : tb v i = false := by
              cases ht : tb v i with
              | false => rfl
              | true => rw [ht] at ts; rw [ts] at z; exact absurd rfl z
            rw [es, t1, hx]; rfl
        · rw [es, if_neg y, hx, Int64.mul_one]
  exact main 100000 0 1 (by decide) (by decide) (by decide) rfl
theorem tb_hi {u : Nat} {v : Int} (h0 : 0 ≤ v) (h1 : v < ((2 ^ u : Nat) : Int)) : tb v u = false ∧ tb (v + ((2 ^ u : Nat) : Int)) u = true ∧ ∀ k : Int, 0 ≤ k → k < u → tb (v + ((2 ^ u : Nat) : Int)) k = tb v k := by
  obtain ⟨n, rfl⟩ := Int.eq_ofNat_of_zero_le h0
  have h2 : n < 2 ^ u := by omega
  have e : ((n : Int) + ((2 ^ u : Nat) : Int)).toNat = 2 ^ u + n := by omega
  unfold tb
  refine ⟨?_, ?_, fun k a b => ?_⟩
  · rw [Int.toNat_natCast, Int.toNat_natCast]; exact Nat.testBit_lt_two_pow h2
  · rw [e, Int.toNat_natCast, Nat.testBit_two_pow_add_eq, Nat.testBit_lt_two_pow h2]; rfl
  · rw [e, Int.toNat_natCast, Nat.testBit_two_pow_add_gt (by omega)]
theorem s_fillWeights {w : Int → Int} {V : qV} {J : qJ} {Q : qJ → Prop} (hU : tU V 12 w) (k : ∀ J', (∀ o j, o ≠ 167 → J' o j = J o j) → (∀ v, 0 ≤ v → v < 1024 → J' 167 v = wtF w v 10) → Q J') : W_X10_fillWeights V J Q := by
  have inner : ∀ (u : Nat) (a b : Int) (J0 : qJ) (K : Int → qJ → Prop), u < 10 → (∀ i J', (∀ o j, o ≠ 167 → J' o j = J0 o j) → (∀ v, 0 ≤ v → v < ((2 ^ u : Nat) : Int) → J' 167 v = J0 167 v * (iI b).toInt64 ∧ J' 167 (v + ((2 ^ u : Nat) : Int)) = J0 167 v * (iI a).toInt64) → K i J') → ∀ (g : Nat) (i : Int) (J1 : qJ), 0 ≤ i → i ≤ ((2 ^ u : Nat) : Int) → ((2 ^ u : Nat) : Int) < i + g → (∀ o j, o ≠ 167 → J1 o j = J0 o j) → (∀ v, 0 ≤ v → v < i → J1 167 v = J0 167 v * (iI b).toInt64 ∧ J1 167 (v + ((2 ^ u : Nat) : Int)) = J0 167 v * (iI a).toInt64) → (∀ v, i ≤ v → v < ((2 ^ u : Nat) : Int) → J1 167 v = J0 167 v) → lp_X10_fillWeights_82 u a b ((2 ^ u : Nat) : Int) V K g i J1 := by
    intro u a b J0 K hu hK g
    have hp : (2 ^ u : Nat) ≤ 2 ^ 9 := Nat.pow_le_pow_right (by decide) (by omega)
    generalize hH : (2 ^ u : Nat) = H at hp hK ⊢
    have hp' : (H : Int) ≤ 512 := by omega
    clear hp hH
    induction g with
    | zero => intro i J1 p q r; omega
    | succ g ih =>
      intro i J1 p q r e1 e2 e3
      rw [lp_X10_fillWeights_82]
      refine br_c (fun c => hK i J1 e1 (fun v x y => e2 v x (by omega))) (fun c => ⟨zr_i (by omega) (by omega), br_f (by omega) ⟨zr_i (by omega) (by omega), by omega, by omega, by omega, by omega, zr_i (by omega) (by omega), ih _ _ (by omega) (by omega) (by omega) (fun o j x => ?_) (fun v x y => ?_) (fun v x y => ?_)⟩⟩)
      · rw [qu_o _ _ x, qu_o _ _ x]; exact e1 o j x
      · by_cases hv : v = i
        · subst hv
          rw [qu_s, qu_e (by omega), qu_e (by omega), qu_s, e3 v (by omega) (by omega)]
          exact ⟨rfl, rfl⟩
        · rw [qu_e (by omega), qu_e (by omega), qu_e (by omega), qu_e (by omega)]
          exact e2 v x (by omega)
      · rw [qu_e (by omega), qu_e (by omega)]
        exact e3 v (by omega) y
  have main : ∀ (g : Nat) (u : Nat) (J1 : qJ), u ≤ 10 → 10 < u + g → (∀ o j, o ≠ 167 → J1 o j = J o j) → (∀ v, 0 ≤ v → v < ((2 ^ u : Nat) : Int) → J1 167 v = wtF w v u) → lp_X10_fillWeights_9 V (fun l1x16 J16 => Q J16) g u J1 := by
    intro g
    induction g with
    | zero => intro u J1 q r; omega
    | succ g ih =>
      intro u J1 q r e1 e2
      rw [lp_X10_fillWeights_9]
      refine br_c (fun c => ?_) (fun c => ⟨by omega, ?_⟩)
      · have : u = 10 := by omega
        subst this
        exact k J1 e1 (fun v x y => e2 v x y)
      · have hk := hU.2 u (by omega) (by omega)
        rw [show (12 : Int) + 2 = 14 from rfl, show (12 : Int) + 3 = 15 from rfl] at hk
        have hs : zshl 1 (u : Int) = ((2 ^ u : Nat) : Int) := zshl_1 u (by omega)
        have hp : (2 ^ u : Nat) ≤ 2 ^ 9 := Nat.pow_le_pow_right (by decide) (by omega)
        have p0 : 0 < 2 ^ u := Nat.two_pow_pos u
        have pe : 2 ^ (u + 1) = 2 * 2 ^ u := by rw [Nat.pow_succ]; omega
        rw [hs, hk.1.1, hk.2.1]
        have step : ∀ (a b : Int) (i : Int) (J' : qJ), (if w u = 2 then (iI (w (10 + u))).toInt64 else 1) = (iI a).toInt64 → (if w u = 2 then (iI (10 - w (10 + u))).toInt64 else 1) = (iI b).toInt64 → (∀ o j, o ≠ 167 → J' o j = J1 o j) → (∀ v, 0 ≤ v → v < ((2 ^ u : Nat) : Int) → J' 167 v = J1 167 v * (iI b).toInt64 ∧ J' 167 (v + ((2 ^ u : Nat) : Int)) = J1 167 v * (iI a).toInt64) → (zr ((u : Int) + 1) ∧ lp_X10_fillWeights_9 V (fun l1x16 J16 => Q J16) g ((u : Int) + 1) J') := fun a b i J' ha hb x1 x2 => by
          refine ⟨zr_i (by omega) (by omega), ?_⟩
          have := ih (u + 1) J' (by omega) (by omega) (fun o j x => by rw [x1 o j x, e1 o j x]) (fun v y1 y2 => ?_)
          · rw [show (((u + 1 : Nat)) : Int) = (u : Int) + 1 by omega] at this; exact this
          · rw [wtF]
            by_cases hv : v < ((2 ^ u : Nat) : Int)
            · have t := tb_hi y1 hv
              rw [(x2 v y1 hv).1, e2 v y1 hv, ← hb, t.1]; simp
            · have t := tb_hi (u := u) (v := v - ((2 ^ u : Nat) : Int)) (by omega) (by omega)
              rw [show v - ((2 ^ u : Nat) : Int) + ((2 ^ u : Nat) : Int) = v by omega] at t
              have := (x2 (v - ((2 ^ u : Nat) : Int)) (by omega) (by omega)).2
              rw [show v - ((2 ^ u : Nat) : Int) + ((2 ^ u : Nat) : Int) = v by omega] at this
              rw [this, e2 _ (by omega) (by omega), ← ha, t.2.1, wtF_cg u (fun k p q => (t.2.2 k p q).symm)]; simp
        refine br_c (fun y => ⟨by omega, by omega, zr_i (by omega) (by omega), ?_⟩) (fun y => ?_)
        · exact inner u _ _ J1 _ (by omega) (fun i J' x1 x2 => step _ _ i J' (by rw [if_pos y]) (by rw [if_pos y]) x1 x2) 100000 0 J1 (by decide) (by omega) (by omega) (fun _ _ _ => rfl) (fun v x y => by omega) (fun _ _ _ => rfl)
        · exact inner u _ _ J1 _ (by omega) (fun i J' x1 x2 => step _ _ i J' (by rw [if_neg y]; decide) (by rw [if_neg y]; decide) x1 x2) 100000 0 J1 (by decide) (by omega) (by omega) (fun _ _ _ => rfl) (fun v x y => by omega) (fun _ _ _ => rfl)
  exact main 100000 0 (qu J 167 0 1) (by decide) (by decide) (fun o j x => qu_o _ _ x _) (fun v x y => by
    have : v = 0 := by omega
    subst this; rw [qu_s]; rfl)
def smF (p : Int → Bool) (g : Int → Int64) : Nat → Int64
  | 0 => 0
  | n + 1 => smF p g n + (if p n then g n else 0)
theorem smF_s {p : Int → Bool} {g : Int → Int64} {i : Int} (h : 0 ≤ i) : smF p g (i + 1).toNat = smF p g i.toNat + (if p i then g i else 0) := by
  rw [show (i + 1).toNat = i.toNat + 1 by omega, smF, Int.toNat_of_nonneg h]
theorem s_weightOf {w : Int → Int} {o r : Int} {p : Int → Bool} {V : qV} {J : qJ} {Q : Int64 → qJ → Prop} (hU : tU V 12 w) (ho : (o = 166 ∧ r = 0) ∨ ((o = 156 ∨ o = 158) ∧ 0 ≤ r ∧ r ≤ 4)) (hp : ∀ v, 0 ≤ v → v < 1024 → sv J o r v = p v) (k : ∀ J', (∀ o j, o ≠ 167 → J' o j = J o j) → Q (smF p (fun v => wtF w v 10) 1024) J') : W_X10_weightOf o r V J Q := by
  refine s_fillWeights hU (fun J' j1 j2 => ?_)
  have main : ∀ (g : Nat) (i : Int) (x : Int64), 0 ≤ i → i ≤ 1024 → 1024 < i + g → x = smF p (fun v => wtF w v 10) i.toNat → lp_X10_weightOf_9 o r V J' (fun l3x6 l5x6 => Q l3x6 J') g x i := by
    intro g
    induction g with
    | zero => intro i x p q r; omega
    | succ g ih =>
      intro i x p0 q r1 hx
      rw [lp_X10_weightOf_9]
      have es := smF_s (p := p) (g := fun v => wtF w v 10) p0
      refine br_c (fun c => ?_) (fun c => s_hasWorld ho (by omega) ?_)
      · have : i = 1024 := by omega
        subst this
        rw [hx]; exact k J' j1
      · have e : sv J' o r i = p i := by rw [← hp i p0 (by omega)]; unfold sv; rw [j1 _ _ (by omega)]
        rw [e]
        cases hz : p i with
        | false => exact br_t rfl ⟨zr_i (by omega) (by omega), ih _ _ (by omega) (by omega) (by omega) (by rw [es, hz, hx]; simp)⟩
        | true => exact br_f (by decide) ⟨by omega, zr_i (by omega) (by omega), ih _ _ (by omega) (by omega) (by omega) (by rw [es, hz, hx, j2 i p0 (by omega)]; simp)⟩
  exact main 100000 0 0 (by decide) (by decide) (by decide) rfl
theorem Rel.fws {n : Int} {V : qV} {J J' : qJ} (h : Rel n V J) (hJ : ∀ o j, o ≠ 166 → o ≠ 167 → J' o j = J o j) : Rel n V J' := h.sc0 (by omega) (fun _ _ _ => rfl) (fun o j _ _ _ d e _ => hJ o j d e)
theorem m_fWo {n : Int} {V : qV} {J : qJ} {Q : qV → Prop} (h : Rel n V J) (k : ∀ V', Rel (n + 1) V' J → V' 602 0 = 0 → V' 603 = V 603 → (∀ v, 0 ≤ v → v < 1024 → V' 616 v = bit01 (wB V v)) → V' 602 25 = cntB (wB V) 1024 → Q V') : W_X11_findWorlds (qu V 602 0 0) Q := by
  obtain ⟨hU, hP, hG, hF, hC, hS, hA⟩ := h.2.2.2.1
  have e : ∀ o j, o ≠ 602 → (qu V 602 0 0) o j = V o j := fun o j x => q602 _ _ _ x
  have ew : wB (qu V 602 0 0) = wB V := by funext v; exact wB_fr (fun o j a b => e o j (by omega)) v
  refine m_findWorlds (by rw [q603]; exact hA.1.2) (fun c a b => cW_fr (fun o j a b => e o j (by omega)) (h.2.2.2.2.2.1 c a (by rw [q603] at b; exact b))) (fun V1 w1 w2 w3 w4 => k V1 ?_ ?_ ?_ ?_ ?_)
  · exact h.sc0 (by omega) (fun o j p => by rw [w1 o j (by unfold scrC at p; omega) (by unfold scrC at p; omega) (by unfold scrC at p; omega) (by unfold scrC at p; omega), qu_e (by unfold scrC at p; omega)]) (fun _ _ _ _ _ _ _ _ => rfl)
  · rw [w1 _ _ (by decide) (by decide) (by decide) (by omega)]; exact qs0 _
  · funext j; rw [w1 _ _ (by decide) (by decide) (by decide) (by omega)]; exact e _ _ (by decide)
  · rw [ew] at w3; exact w3
  · rw [ew] at w4; exact w4
theorem t_world {n : Int} {a : Int} {V : qV} {J : qJ} {P : qV → qJ → Prop} (h : Rel n V J) (hP0 : ∀ V2 J2, Rel (n + 1) V2 J2 → P V2 J2) : W_X10_world a V J (fun r J1 => W_X11_world a V (fun s V2 => V2 602 0 = 0 ∧ r = s ∧ P V2 J1)) := by
  refine pI_0 h (fun J1 hp => ?_)
  have hr : Rel n V J1 := by
    obtain ⟨p1, p2, p3, p4⟩ := hp
    have h7 := h.2.2.2.2.2.2.1
    exact h.sc (by omega) (fun _ _ _ _ _ _ => rfl) (fun o j x => p2 o j (by omega) (by omega) (by omega) (by omega) (by omega)) h7 p3
  have mod : ∀ Q : Int → qV → Prop, (∀ V', Rel (n + 1) V' J1 → V' 602 0 = 0 → (∀ v, 0 ≤ v → v < 1024 → V' 616 v = bit01 (wB V v)) → lp_X11_world_13 a V' (fun l2x7 l3x7 => Q (-1) V') Q 100000 0 0) → W_X11_world a V Q := fun Q k => m_fWo hr (fun V' x1 x2 x3 x4 x5 => k V' x1 x2 x4)
  have main : ∀ (g g' : Nat) (i c : Int), 0 ≤ i → i ≤ 1024 → 1024 < i + g → 1024 < i + g' → 0 ≤ c → c ≤ i → (∀ Q : Int → qV → Prop, (∀ V', Rel (n + 1) V' J1 → V' 602 0 = 0 → (∀ v, 0 ≤ v → v < 1024 → V' 616 v = bit01 (wB V v)) → lp_X11_world_13 a V' (fun l2x7 l3x7 => Q (-1) V') Q g' c i) → W_X11_world a V Q) → lp_X10_world_8 a V J1 (fun l2x6 l3x6 => W_X11_world a V (fun s V2 => V2 602 0 = 0 ∧ -1 = s ∧ P V2 J1)) (fun r J1 => W_X11_world a V (fun s V2 => V2 602 0 = 0 ∧ r = s ∧ P V2 J1)) g c i := by
    intro g
    induction g with
    | zero => intro g' i c p q r; omega
    | succ g ih =>
      intro g' i c p q r r' c0 c1 hm
      obtain ⟨g', rfl⟩ : ∃ k, g' = k + 1 := ⟨g' - 1, by omega⟩
      rw [lp_X10_world_8]
      refine br_c (fun y => ?_) (fun y => s_hasWorld (Or.inl ⟨rfl, rfl⟩) (by omega) ?_)
      · exact hm _ (fun V' x1 x2 x3 => by rw [lp_X11_world_13]; exact br_t y ⟨x2, rfl, hP0 _ _ x1⟩)
      · rw [sv_0, hp.2.2.2 i p (by omega)]
        cases hz : wB V i with
        | false =>
          refine br_t rfl ⟨zr_i (by omega) (by omega), ih g' _ _ (by omega) (by omega) (by omega) (by omega) c0 (by omega) (fun Q k => hm Q (fun V' x1 x2 x3 => ?_))⟩
          rw [lp_X11_world_13, x3 i p (by omega), hz]
          exact br_f y ⟨by omega, br_t rfl ⟨zr_i (by omega) (by omega), k V' x1 x2 x3⟩⟩
        | true =>
          refine br_f (by decide) (br_c (fun z => hm _ (fun V' x1 x2 x3 => ?_)) (fun z => ⟨zr_i (by omega) (by omega), zr_i (by omega) (by omega), ih g' _ _ (by omega) (by omega) (by omega) (by omega) (by omega) (by omega) (fun Q k => hm Q (fun V' x1 x2 x3 => ?_))⟩))
          · rw [lp_X11_world_13, x3 i p (by omega), hz]
            exact br_f y ⟨by omega, br_f (by decide) (br_t z ⟨x2, rfl, hP0 _ _ x1⟩)⟩
          · rw [lp_X11_world_13, x3 i p (by omega), hz]
            exact br_f y ⟨by omega, br_f (by decide) (br_f z ⟨zr_i (by omega) (by omega), zr_i (by omega) (by omega), k V' x1 x2 x3⟩)⟩
  exact main 100000 100000 0 0 (by decide) (by decide) (by decide) (by decide) (by decide) (by decide) mod
theorem hw9 {V : qV} (hU : tU V 12 (V 603)) : ∀ k, 0 ≤ k → k < 10 → 1 ≤ V 603 (10 + k) ∧ V 603 (10 + k) ≤ 9 := fun k a b => (hU.2 k a b).2.2
theorem t_all {n : Int} {V : qV} {J : qJ} {P : qV → qJ → Prop} (h : Rel n V J) (hP0 : ∀ V2 J2, Rel (n + 1) V2 J2 → P V2 J2) : W_X10_all V J (fun r J1 => W_X11_all V (fun s V2 => V2 602 0 = 0 ∧ r = s ∧ P V2 J1)) := by
  have hU := h.2.2.2.1.1
  refine pI_0 h (fun J1 hp => ?_)
  have hr : Rel n V J1 := by
    obtain ⟨p1, p2, p3, p4⟩ := hp
    have h7 := h.2.2.2.2.2.2.1
    exact h.sc (by omega) (fun _ _ _ _ _ _ => rfl) (fun o j x => p2 o j (by omega) (by omega) (by omega) (by omega) (by omega)) h7 p3
  refine s_weightOf (p := wB V) hU (Or.inl ⟨rfl, rfl⟩) (fun v a b => by rw [sv_0]; exact hp.2.2.2 v a b) (fun J2 j1 => ?_)
  have hr2 : Rel n V J2 := hr.fws (fun o j a b => j1 o j b)
  refine m_fWo hr2 (fun V2 x1 x2 x3 x4 x5 => ?_)
  have main : ∀ (g : Nat) (i : Int) (x : Int64), 0 ≤ i → i ≤ 1024 → 1024 < i + g → x = smF (wB V) (fun v => wtF (V 603) v 10) i.toNat → lp_X11_all_13 V2 (fun l1x7 l3x7 => V2 602 0 = 0 ∧ smF (wB V) (fun v => wtF (V 603) v 10) 1024 = l1x7 ∧ P V2 J2) g x i := by
    intro g
    induction g with
    | zero => intro i x p q r; omega
    | succ g ih =>
      intro i x p0 q r hx
      rw [lp_X11_all_13]
      have es := smF_s (p := wB V) (g := fun v => wtF (V 603) v 10) p0
      refine br_c (fun c => ?_) (fun c => ⟨by omega, ?_⟩)
      · have : i = 1024 := by omega
        subst this
        exact ⟨x2, hx.symm, hP0 _ _ x1⟩
      · rw [x4 i p0 (by omega)]
        cases hz : wB V i with
        | false => exact br_t rfl ⟨zr_i (by omega) (by omega), ih _ _ (by omega) (by omega) (by omega) (by rw [es, hz, hx]; simp)⟩
        | true => exact br_f (by decide) (m_weightOf (by omega) (by rw [x3]; exact hw9 hU) ⟨zr_i (by omega) (by omega), ih _ _ (by omega) (by omega) (by omega) (by rw [es, hz, hx, x3]; simp)⟩)
  exact main 100000 0 0 (by decide) (by decide) (by decide) rfl
theorem dF.r {n f l : Int} {V V1 : qV} {J J1 : qJ} (h : Rel n V J) (d : dF f l V J V1 J1) : Rel n V1 J1 := by
  obtain ⟨d1, d2, d3, d4, d6, d7, d8⟩ := d
  refine h.sc (by omega) (fun o j p q r s => d1 o j (by omega) (by unfold scrC at p; omega) (by unfold scrC at p; omega) (by unfold scrC at p; omega)) (fun o j p => d2 o j (by omega) (by omega) (by omega) (by omega)) ?_ d3
  have h7 := h.2.2.2.2.2.2.1
  have h9 := h7.2.2.2.2.1.2
  exact h7.fr (by omega) (fun o j p q => d1 o j (by omega) (by omega) (by omega) (by omega)) (fun j => d1 _ j (by omega) (by omega) (by omega) (by omega))
theorem t_part {n : Int} {a b c : Int} {V : qV} {J : qJ} {P : qV → qJ → Prop} (h : Rel n V J) (hP0 : ∀ V2 J2, Rel (n + 1) V2 J2 → P V2 J2) : W_X10_part a b c V J (fun r V1 J1 => W_X11_part a b c V1 (fun s V2 => V2 602 0 = 0 ∧ r = s ∧ P V2 J1)) (fun E V1 J1 => (E = "java/lang/IndexOutOfBoundsException" ∧ W_X11_part a b c V1 (fun s V2 => V2 602 0 = 1 ∧ P V2 J1)) ∨ (E = "java/lang/IllegalArgumentException" ∧ W_X11_part a b c V1 (fun s V2 => V2 602 0 = 2 ∧ P V2 J1))) := by
  have h142 := h.2.2.2.1.2.2.2.1.1
  have hU := h.2.2.2.1.1
  refine if ha : 0 ≤ a ∧ a < V 12 10 then ?_ else s_dF0 ha (Or.inl ⟨rfl, m_asks0 h ha (br_t rfl ⟨qu_s _ _ _ _, hP0 _ _ h.th⟩)⟩)
  refine if hl : 0 ≤ b ∧ b < V 0 2 then ?_ else s_dF2 ha (by omega) hl (Or.inr ⟨rfl, m_asks2 h ha hl (br_t rfl ⟨qu_s _ _ _ _, hP0 _ _ h.th⟩)⟩)
  refine s_decideFind h ha hl (fun V1 J1 d => ?_)
  have hr1 := d.r h
  have ask : ∀ {Q : Int → qV → Prop}, Q 1 (qu V1 602 0 0) → W_X11_asks a b (qu V1 602 0 0) Q := fun {Q} k => by
    have g0 := d.1
    exact m_asks hr1 (by rw [g0 _ _ (by decide) (by decide) (by decide) (by decide)]; exact ha) (by rw [g0 _ _ (by decide) (by decide) (by decide) (by decide)]; exact hl) k
  refine if hc : 0 ≤ c ∧ c ≤ 4 then ?_ else s_tR0 hc (Or.inr ⟨rfl, ask (br_f (by decide) (m_in0 hc (m_may0 (qs0 _) (by decide) (br_t rfl ⟨qu_s _ _ _ _, hP0 _ _ hr1.th⟩))))⟩)
  refine s_tR1 hc ?_
  have hU1 : tU V1 12 (V 603) := hU.fr (fun o j p q => d.1 _ _ (by omega) (by omega) (by omega) (by omega))
  refine s_weightOf (p := fun v => wB V v && decide (whF (nmM (V 603) a) (LiM V b) (fun i => V 606 (12 * b + i)) (V 610 b) v = c)) hU1 (Or.inr ⟨Or.inl rfl, hc⟩) (fun v p q => d.2.2.2.1 v p q c hc.1 hc.2) (fun J2 j1 => ?_)
  refine ask (br_f (by decide) (m_in1 hc (m_may1 (qs0 _) (br_f (by decide) (m_whoB h ha hl d (fun V2 x => ?_))))))
  have hr2 : Rel (n + 1) V2 J2 := x.1.fws (fun o j a b => j1 o j b)
  obtain ⟨x1, x2, x3, x4, x5, x6, x7⟩ := x
  have main : ∀ (g : Nat) (i : Int) (x : Int64), 0 ≤ i → i ≤ 1024 → 1024 < i + g → x = smF (fun v => wB V v && decide (whF (nmM (V 603) a) (LiM V b) (fun i => V 606 (12 * b + i)) (V 610 b) v = c)) (fun v => wtF (V 603) v 10) i.toNat → lp_X11_part_42 c V2 (fun l1x7 l3x7 => V2 602 0 = 0 ∧ smF (fun v => wB V v && decide (whF (nmM (V 603) a) (LiM V b) (fun i => V 606 (12 * b + i)) (V 610 b) v = c)) (fun v => wtF (V 603) v 10) 1024 = l1x7 ∧ P V2 J2) g x i := by
    intro g
    induction g with
    | zero => intro i x p q r; omega
    | succ g ih =>
      intro i x p0 q r hx
      rw [lp_X11_part_42]
      have es := smF_s (p := fun v => wB V v && decide (whF (nmM (V 603) a) (LiM V b) (fun i => V 606 (12 * b + i)) (V 610 b) v = c)) (g := fun v => wtF (V 603) v 10) p0
      refine br_c (fun y => ?_) (fun y => ⟨by omega, ?_⟩)
      · have : i = 1024 := by omega
        subst this
        exact ⟨x2, hx.symm, hP0 _ _ hr2⟩
      · rw [x4 i p0 (by omega)]
        cases hz : wB V i with
        | false => exact br_t rfl ⟨zr_i (by omega) (by omega), ih _ _ (by omega) (by omega) (by omega) (by rw [es, hz, hx]; simp)⟩
        | true =>
          refine br_f (by decide) ⟨by omega, ?_⟩
          rw [x6 i p0 (by omega) hz]
          refine br_c (fun z => m_weightOf (by omega) (by rw [x3]; exact hw9 hU) ⟨zr_i (by omega) (by omega), ih _ _ (by omega) (by omega) (by omega) (by rw [es, hz, hx, x3]; simp [z])⟩) (fun z => ⟨zr_i (by omega) (by omega), ih _ _ (by omega) (by omega) (by omega) (by rw [es, hz, hx]; simp [z])⟩)
  exact main 100000 0 0 (by decide) (by decide) (by decide) rfl
