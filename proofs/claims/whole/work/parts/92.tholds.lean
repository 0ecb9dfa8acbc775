/-! holds: what is new, and the call -/
theorem Rel.hd {n n' s : Int} {V V' : qV} {J J' : qJ} {L : List (Int × Int)} (h : Rel n V J) (hn : n ≤ n') (hs : V 603 593 = s) (hs8 : s < 8) (hV : ∀ o j, ((12 ≤ o ∧ o ≤ 150) ∧ ¬ (o = 12 ∧ j = 0)) ∨ (159 ≤ o ∧ o ≤ 165) ∨ (173 ≤ o ∧ o ≤ 601) ∨ (o = 603 ∧ j ≠ 593) ∨ o = 2 ∨ o = 613 ∨ o = 621 ∨ o = 623 ∨ (625 ≤ o ∧ o < 1000000) ∨ o = 0 ∨ (o = 602 ∧ (j = 33 ∨ j = 11)) ∨ (606 ≤ o ∧ o ≤ 610) ∨ (o = 611 ∧ j ≠ s) ∨ o = 612 → V' o j = V o j) (hc : ∀ o j, (o = 604 ∨ o = 605) → ¬ (420 * (3 + s) ≤ j ∧ j < 420 * (3 + s) + 400) → V' o j = V o j)
    (h611 : V' 611 s = 420 * (3 + s) + L.length) (cM : cdM V' (420 * (3 + s)) L) (ty : tyA L true 15 9) (hL : (L.length : Int) ≤ 400) (h12 : V' 12 0 = s + 1) (h593 : V' 603 593 = s + 1) (hJ : ∀ o j, o ≠ 13 → o ≠ 152 → J' o j = J o j) (hb' : ∀ v, 0 ≤ v → v < 1024 → (hb (J' 13 (v / 64)) (v % 64) = true ↔ hb (J 13 (v / 64)) (v % 64) = true ∧ run (fun _ => 0) v L [] = [1])) (h151 : V' 151 3 = 0) (ht : V' 1 1 = 0 ∧ V' 602 12 = 0) (hf : V' 1 12 = V' 602 20) : Rel n' V' J' := by
  obtain ⟨h1, h2, h3, h4, h5, h6, h7, h8, h9⟩ := h
  obtain ⟨t1, t2, t3, t4, t5, t6, t7⟩ := h4
  have s0 : 0 ≤ s := by have := t7.1; omega
  have w : ∀ k, k ≠ 593 → V' 603 k = V 603 k := fun k a => hV _ _ (by omega)
  have ewI : ∀ i, wI V' i = wI V i := fun i => by funext k; unfold wI; exact hV _ _ (by omega)
  have wr : wrun L [] = some [true] := ty [] (by decide) (by decide)
  have ne : 0 < L.length := by
    cases L with
    | nil => exact absurd wr (by simp [wrun])
    | cons c L => simp
  have csO : ∀ c v, 0 ≤ c → c < s → (cS V' c v ↔ cS V c v) := fun c v a b => cS_fr2 (h6 c a (by omega)) (fun o j x y z => hc o j x (by omega)) (hV _ _ (by omega)) v
  have csN : ∀ v, cS V' s v ↔ run (fun _ => 0) v L [] = [1] := fun v => by
    unfold cS
    rw [h611, show (420 * (3 + s) + (L.length : Int) - 420 * (3 + s)).toNat = L.length by omega, cdM_seg L _ cM]
  refine ⟨⟨⟨by rw [ht.1, ht.2], by rw [ht.2]; omega, by rw [ht.2]; omega⟩, fun k p q => by rw [hV _ _ (by omega), hV _ _ (by omega)]; exact h1.2 k p q⟩, hf, ⟨by rw [hV 0 2 (by omega), hV 602 11 (by omega)]; exact h3.1, fun l p q => ?_⟩, ⟨?_, ?_, ?_, ?_, ?_, ?_, ⟨by rw [h12, h593]; omega, fun v a b => ?_⟩⟩, ⟨by rw [hV 0 5 (by omega), hV 602 33 (by omega)]; exact h5.1, fun i p q => ?_, fun i j p q r => ?_⟩, fun c p q => ?_, ?_, ⟨by rw [h151]; decide, fun x => by rw [h151] at x; omega⟩, fun k p q => ?_⟩
  · rw [hV 602 11 (by omega)] at q
    have l3 := h3.1
    exact (h3.2 l p q).fr2 (fun o j x y => hV o j (by omega)) (fun o j x y z => hc o j x (by omega)) (fun o j x y z w => hV o j (by omega)) (hV _ _ (by omega)) (hV _ _ (by omega))
  · exact t1.fw (hV _ _ (by omega)) (fun o j a b => hV o j (by omega)) (fun k a b => w k (by omega))
  · exact t2.fw (hV _ _ (by omega)) (fun o j a b => hV o j (by omega)) (fun k a b => w k (by omega))
  · exact t3.fw (fun o j a b => hV o j (by omega)) (fun k a b => w k (by omega))
  · exact t4.fw (hV _ _ (by omega)) (fun o j a b => hV o j (by omega)) (fun k a b => w k (by omega)) (w _ (by decide)) (fun k a b => w k (by have := t6.1; omega)) (by rw [w _ (by decide)]; omega) (by rw [w _ (by decide)]; omega)
  · exact t5.fw (hV _ _ (by omega)) (fun o j a b => hV o j (by omega)) (fun k a b => w k (by omega)) (by rw [w _ (by decide)]; omega) (by rw [w _ (by decide)]; omega)
  · exact t6.fw (hV _ _ (by omega)) (fun o j a b => hV o j (by omega)) (fun k a b => w k (by omega)) (by rw [w _ (by decide)]; omega) (by rw [w _ (by decide)]; omega)
  · rw [h593, show (12 : Int) + 1 = 13 from rfl, hb' v a b]
    have old := t7.2 v a b
    rw [hs, show (12 : Int) + 1 = 13 from rfl] at old
    rw [old]
    constructor
    · rintro ⟨x, y⟩ c c0 c1
      by_cases e : c = s
      · subst e; exact (csN v).mpr y
      · exact (csO c v c0 (by omega)).mpr (x c c0 (by omega))
    · intro x
      exact ⟨fun c c0 c1 => (csO c v c0 c1).mp (x c c0 (by omega)), (csN v).mp (x s s0 (by omega))⟩
  · rw [hV 602 33 (by omega)] at q
    have hi : i = 0 ∨ i = 1 ∨ i = 2 := by have := h5.1; omega
    rw [ewI, h593]
    have g := h5.2.1 i p q
    exact ⟨tR_cg (g.1.fr (V' := V') (J' := J') (fun o j p q => hV o j (by omega)) (fun j => hJ _ _ (by omega) (by omega))) (fun c v a b => csO c v a (by have := g.2; omega)), by have := g.2; omega⟩
  · rw [hV 602 33 (by omega)] at r
    rw [ewI, ewI]; exact h5.2.2 i j p q r
  · rw [h593] at q
    by_cases e : c = s
    · subst e
      refine ⟨by rw [h611]; omega, ?_⟩
      rw [h611, show (420 * (3 + c) + (L.length : Int) - 420 * (3 + c)).toNat = L.length by omega, cdM_seg L _ cM]; exact wr
    · exact cW_fr2 (h6 c p (by omega)) (fun o j x y z => hc o j x (by omega)) (hV _ _ (by omega))
  · exact h7.fr hn (fun o j p q => hV o j (by omega)) (fun j => hV _ _ (by have := h7.2.2.2.2.1.2; omega))
  · rw [hV _ _ (by omega)]; exact h9 k p q
/-- a text that was refused: no condition more -/
theorem Rel.hb0 {n n' s : Int} {V V' : qV} {J : qJ} (h : Rel n V J) (hn : n ≤ n') (hs : V 603 593 = s) (hV : ∀ o j, (12 ≤ o ∧ o ≤ 165) ∨ (173 ≤ o ∧ o ≤ 601) ∨ o = 603 ∨ o = 2 ∨ o = 613 ∨ o = 621 ∨ o = 623 ∨ (625 ≤ o ∧ o < 1000000) ∨ o = 0 ∨ (o = 602 ∧ (j = 33 ∨ j = 11)) ∨ (606 ≤ o ∧ o ≤ 612) → V' o j = V o j) (hc : ∀ o j, (o = 604 ∨ o = 605) → ¬ (420 * (3 + s) ≤ j ∧ j < 420 * (3 + s) + 400) → V' o j = V o j) (ht : V' 1 1 = 0 ∧ V' 602 12 = 0) (hf : V' 1 12 = V' 602 20) : Rel n' V' J := by
  obtain ⟨h1, h2, h3, h4, h5, h6, h7, h8, h9⟩ := h
  have e603 : V' 603 = V 603 := by funext j; exact hV _ _ (by omega)
  have ewI : ∀ i, wI V' i = wI V i := fun i => by funext k; unfold wI; exact hV _ _ (by omega)
  have s0 : 0 ≤ s := by have := h4.2.2.2.2.2.2.1; omega
  have csE : ∀ c v, 0 ≤ c → c < s → (cS V' c v ↔ cS V c v) := fun c v a b => cS_fr2 (h6 c a (by omega)) (fun o j x y z => hc o j x (by omega)) (hV _ _ (by omega)) v
  refine ⟨⟨⟨by rw [ht.1, ht.2], by rw [ht.2]; omega, by rw [ht.2]; omega⟩, fun k p q => by rw [hV _ _ (by omega), hV _ _ (by omega)]; exact h1.2 k p q⟩, hf, ⟨by rw [hV 0 2 (by omega), hV 602 11 (by omega)]; exact h3.1, fun l p q => ?_⟩, ?_, ⟨by rw [hV 0 5 (by omega), hV 602 33 (by omega)]; exact h5.1, fun i p q => ?_, fun i j p q r => ?_⟩, fun c p q => ?_, ?_, ?_, fun k p q => ?_⟩
  · rw [hV 602 11 (by omega)] at q
    have l3 := h3.1
    exact (h3.2 l p q).fr2 (fun o j x y => hV o j (by omega)) (fun o j x y z => hc o j x (by omega)) (fun o j x y z w => hV o j (by omega)) (hV _ _ (by omega)) (hV _ _ (by omega))
  · rw [e603]
    exact tR_cg (h4.fr (V' := V') (J' := J) (fun o j p q => hV o j (by omega)) (fun j => rfl)) (fun c v a b => csE c v a (by omega))
  · rw [hV 602 33 (by omega)] at q
    have hi : i = 0 ∨ i = 1 ∨ i = 2 := by have := h5.1; omega
    rw [ewI, e603]
    have g := h5.2.1 i p q
    exact ⟨tR_cg (g.1.fr (V' := V') (J' := J) (fun o j p q => hV o j (by omega)) (fun j => rfl)) (fun c v a b => csE c v a (by have := g.2; omega)), g.2⟩
  · rw [hV 602 33 (by omega)] at r
    rw [ewI, ewI]; exact h5.2.2 i j p q r
  · rw [e603] at q
    exact cW_fr2 (h6 c p q) (fun o j x y z => hc o j x (by omega)) (hV _ _ (by omega))
  · exact h7.fr hn (fun o j p q => hV o j (by omega)) (fun j => hV _ _ (by have := h7.2.2.2.2.1.2; omega))
  · refine ⟨by rw [hV _ _ (by omega)]; exact h8.1, fun q v p r => ?_⟩
    rw [hV _ _ (by omega)] at q
    exact h8.2 q v p r
  · rw [hV _ _ (by omega)]; exact h9 k p q
theorem s_narrowL {V : qV} {J : qJ} {K : Int → qJ → Prop} (k : ∀ i J', (∀ o j, o ≠ 13 → J' o j = J o j) → (∀ j, 0 ≤ j → j < 16 → J' 13 j = J 13 j &&& J 152 j) → K i J') : lp_X2_narrow_10 V K 100000 0 J := by
  have main : ∀ (g : Nat) (i : Int) (J1 : qJ), 0 ≤ i → i ≤ 16 → 16 < i + g → (∀ o j, o ≠ 13 → J1 o j = J o j) → (∀ j, 0 ≤ j → j < i → J1 13 j = J 13 j &&& J 152 j) → (∀ j, i ≤ j → J1 13 j = J 13 j) → lp_X2_narrow_10 V K g i J1 := by
    intro g
    induction g with
    | zero => intro i J1 p q r; omega
    | succ g ih =>
      intro i J1 p q r e1 e2 e3
      rw [lp_X2_narrow_10]
      refine br_c (fun x => k i J1 e1 (fun j a b => e2 j a (by omega))) (fun x => br_f x ⟨by omega, by omega, by omega, zr_i (by omega) (by omega), ih _ _ (by omega) (by omega) (by omega) (fun o j y => by rw [qu_o _ _ y]; exact e1 o j y) (fun j a b => ?_) (fun j a => ?_)⟩)
      · by_cases z : j = i
        · subst z; rw [qu_s, e3 j (by omega), e1 152 _ (by decide)]
        · rw [qu_e (by omega)]; exact e2 j a (by omega)
      · rw [qu_e (by omega)]; exact e3 j (by omega)
  exact main 100000 0 J (by decide) (by decide) (by decide) (fun _ _ _ => rfl) (fun j a b => by omega) (fun _ _ => rfl)
def KH (S : Int) (Q : Int → qV → Prop) (W : qV) : Prop := W_X11_fine (qu W 602 20 (W 602 15)) (fun r101 => ((r101 = 0 → (zr (((qu W 602 20 (W 602 15)) 602 16) - 10) ∧ Q (((qu W 602 20 (W 602 15)) 602 16) - 10) (qu W 602 20 (W 602 15)))) ∧ (¬ r101 = 0 → (zr (((qu W 602 20 (W 602 15)) 602 19) + ((qu W 602 20 (W 602 15)) 602 18)) ∧ ((0 ≤ S ∧ S < 8) ∧ (zr (((qu (qu W 602 20 (W 602 15)) 611 S (((qu W 602 20 (W 602 15)) 602 19) + ((qu W 602 20 (W 602 15)) 602 18))) 603 593) + 1) ∧ Q ((qu (qu (qu W 602 20 (W 602 15)) 611 S (((qu W 602 20 (W 602 15)) 602 19) + ((qu W 602 20 (W 602 15)) 602 18))) 603 593 (((qu (qu W 602 20 (W 602 15)) 611 S (((qu W 602 20 (W 602 15)) 602 19) + ((qu W 602 20 (W 602 15)) 602 18))) 603 593) + 1)) 603 593) (qu (qu (qu W 602 20 (W 602 15)) 611 S (((qu W 602 20 (W 602 15)) 602 19) + ((qu W 602 20 (W 602 15)) 602 18))) 603 593 (((qu (qu W 602 20 (W 602 15)) 611 S (((qu W 602 20 (W 602 15)) 602 19) + ((qu W 602 20 (W 602 15)) 602 18))) 603 593) + 1))))))))
theorem t_holds {n : Int} {a : Int} {V : qV} {J : qJ} {P : qV → qJ → Prop} (h0 : ∀ j, V 1000001 j = 0) (h : Rel n V J) (hP0 : ∀ V2 J2, Rel (n + 1) V2 J2 → P V2 J2) : W_X10_holds a V J (fun r V1 J1 => W_X11_holds a V1 (fun s V2 => V2 602 0 = 0 ∧ r = s ∧ P V2 J1)) (fun E V1 J1 => E = "java/lang/IllegalArgumentException" ∧ W_X11_holds a V1 (fun s V2 => V2 602 0 = 1 ∧ P V2 J1)) := by
  have htp := h.1
  have hlw := h.2.2.1
  have tp1 : V 1 1 = V 602 12 ∧ 0 ≤ V 602 12 ∧ V 602 12 ≤ 400 := htp.1
  have l3 : V 0 2 = V 602 11 ∧ 0 ≤ V 602 11 ∧ V 602 11 ≤ 3 := hlw.1
  have c8 : V 12 0 = V 603 593 ∧ 0 ≤ V 603 593 ∧ V 603 593 ≤ 8 := h.2.2.2.1.2.2.2.2.2.2.1
  have e12 : (qu V 602 0 0) 602 12 = V 602 12 := qu_e (by decide)
  by_cases ha : 0 ≤ a ∧ a ≤ V 1 1
  · refine br_f (by omega) (br_t ha.2 ?_)
    have v0 : ∀ o j, ¬ (o = 1 ∧ (j = 1 ∨ j = 12)) → (qu (qu V 1 1 0) 1 12 (-1)) o j = V o j := fun o j x => by rw [qu_e (by omega), qu_e (by omega)]
    have v1 : (qu (qu V 1 1 0) 1 12 (-1)) 1 1 = 0 := by rw [qu_e (by decide), qu_s]
    have v2 : (qu (qu V 1 1 0) 1 12 (-1)) 1 12 = -1 := qu_s _ _ _ _
    show (((qu (qu V 1 1 0) 1 12 (-1)) 12 0 < 8 → _) ∧ (¬ (qu (qu V 1 1 0) 1 12 (-1)) 12 0 < 8 → _))
    generalize (qu (qu V 1 1 0) 1 12 (-1)) = V1 at v0 v1 v2 ⊢
    rw [v0 12 0 (by omega)]
    -- the reference, up to its reading
    have M : ∀ (Vc : qV) (Q : Int → qV → Prop), (∀ j, Vc 602 j = V 602 j) → Vc 603 593 = V 603 593 → (V 603 593 = 8 → Q (-1) (bgV (qu Vc 602 0 0) a 1260)) → (V 603 593 < 8 → W_X11_anyOf (bgV (qu Vc 602 0 0) a (420 * (3 + V 603 593))) (fun V97 => W_X11_need 59 V97 (fun V98 => W_X11_fine V98 (fun r99 => ((r99 = 0 → KH (V 603 593) Q V98) ∧ (¬ r99 = 0 → W_X11_isMore V98 (fun r108 V108 => ((r108 = 0 → KH (V 603 593) Q V108) ∧ (¬ r108 = 0 → W_X11_wrong 1 (V108 602 14) V108 (fun V117 => KH (V 603 593) Q V117)))))))))) → W_X11_holds a Vc Q := fun Vc Q f f2 k3 k => by
      have g12 : (qu Vc 602 0 0) 602 12 = V 602 12 := by rw [qu_e (by decide)]; exact f _
      have g593 : (qu Vc 602 0 0) 603 593 = V 603 593 := by rw [qu_o _ _ (by decide)]; exact f2
      refine br_f (by omega) (br_f (by rw [g12]; omega) (m_may1 (qs0 _) (br_f (by decide) ?_)))
      rw [g593]
      refine br_c (fun x => m_begin (by decide) (br_t (by omega) (k3 (by omega)))) (fun x => ⟨zr_i (by omega) (by omega), m_begin (by omega) (br_f (by omega) (k (by omega)))⟩)
    refine br_c (fun hl => ?_) (fun hl => ?_)
    · have s8 : V 603 593 < 8 := by omega
      refine s_start (t := V 613) (n := a) ⟨ha.1, by omega⟩ (fun k p q => by rw [v0 _ _ (by omega)]; exact htp.2 k p q) (by decide) (fun m kd vl pl V3 hT s3 e14 e5 e6 f3 => ?_)
      have hB : ∀ p, 0 ≤ bt (V 613) a p ∧ bt (V 613) a p < 256 := fun p => by
        by_cases x : 0 ≤ p ∧ p < a
        · rw [bt_i x]; exact (htp.2 p x.1 (by omega)).2
        · rw [bt_o x]; omega
      obtain ⟨r, j, L, out, cs, rs⟩ := o_cond hT hB
      have fc : ∀ (V4 : qV), (∀ o k, ¬ (o = 1 ∧ 7 ≤ k ∧ k ≤ 12) → ¬ (6 ≤ o ∧ o ≤ 10) → V4 o k = V3 o k) → (∀ o k, ¬ (o = 1 ∧ ((6 ≤ k ∧ k ≤ 12) ∨ k = 1 ∨ k = 2 ∨ k = 14)) → ¬ (3 ≤ o ∧ o ≤ 10) → V4 o k = V o k) := fun V4 f4 o k x y => by
        rw [f4 o k (by omega) (by omega), f3 o k (by omega) (by omega) (by omega)]; exact v0 o k (by omega)
      have RS : ∀ (Vc : qV), (∀ k, Vc 613 k = V 613 k) → rSt (V 613) a pl (bgV (qu Vc 602 0 0) a (420 * (3 + V 603 593))) 0 0 := fun Vc f => bgV_st (V := qu Vc 602 0 0) (b := 420 * (3 + V 603 593)) hT (fun k p q => by rw [qu_o _ _ (by decide), f]; exact ⟨rfl, (htp.2 k p q).2⟩) (by omega)
      rcases out with ⟨hr, hL, ty⟩ | ⟨hr, hj⟩
      · subst hr
        refine cs V3 (fun r2 V2 => ((r2 = 0 → (zr ((V2 1 11) - 10) ∧ W_X11_holds a V2 (fun s V4 => V4 602 0 = 0 ∧ ((V2 1 11) - 10) = s ∧ P V4 J))) ∧ (¬ r2 = 0 → W_X2_narrow 1000001 V2 J (fun V5 J3 => (zr ((V5 12 0) + 1) ∧ W_X11_holds a (qu V5 12 0 ((V5 12 0) + 1)) (fun s V4 => V4 602 0 = 0 ∧ ((qu V5 12 0 ((V5 12 0) + 1)) 12 0) = s ∧ P V4 J3)))))) s3 e14 e5 ?_ ?_
        rotate_left
        · intro x; exact absurd rfl x
        intro _ V4 c4
        obtain ⟨c1, c2, c3, c5, c6, c7⟩ := c4
        have f4 := fc V4 (fun o k x y => c1 o k (by omega) y)
        have g11 : V4 1 1 = 0 := by rw [c1 _ _ (by omega) (by omega), f3 _ _ (by omega) (by omega) (by omega)]; exact v1
        have g112 : V4 1 12 = -1 := by rw [c1 _ _ (by omega) (by omega), f3 _ _ (by omega) (by omega) (by omega)]; exact v2
        refine br_f (by decide) ?_
        have wr : wrun L [] = some [true] := ty [] (by decide) (by decide)
        have neL : L ≠ [] := fun x => by rw [x] at wr; exact absurd wr (by simp [wrun])
        refine s_work (nm := fun _ => 0) (L := L) (a := 0) (b := L.length) (by decide) (by decide) (by decide) (by decide) (by omega) hL (by rw [if_pos rfl]) c2 (Or.inr wr) (cdC_cod L 0 c3) (fun n _ _ => by rw [f4 _ _ (by omega) (by omega), h0]) (fun V5 J5 w1 w2 w3 w4 => s_narrowL (fun i J6 x1 x2 => ?_))
        have g12 : V5 12 0 = V 603 593 := by rw [w2 _ _ (by decide) (by decide), f4 _ _ (by omega) (by omega)]; exact c8.1
        dsimp only
        rw [g12]
        have f6 : ∀ o k, ¬ (o = 1 ∧ ((6 ≤ k ∧ k ≤ 12) ∨ k = 1 ∨ k = 2 ∨ k = 14)) → ¬ (3 ≤ o ∧ o ≤ 10) → o ≠ 151 → o ≠ 153 → ¬ (o = 12 ∧ k = 0) → (qu V5 12 0 (V 603 593 + 1)) o k = V o k := fun o k x y z u v => by rw [qu_e v, w2 o k z u]; exact f4 o k x y
        have gs : (qu V5 12 0 (V 603 593 + 1)) 12 0 = V 603 593 + 1 := qu_s _ _ _ _
        rw [gs]
        refine ⟨zr_i (by omega) (by omega), M _ _ (fun j => f6 _ _ (by omega) (by omega) (by decide) (by decide) (by omega)) (f6 _ _ (by omega) (by omega) (by decide) (by decide) (by omega)) (fun x => by omega) (fun _ => rs _ (KH (V 603 593) _) (RS _ (fun k => f6 _ _ (by omega) (by omega) (by decide) (by decide) (by omega))) bgV_v.2.2.2.2.2.2.1 (fun _ V7 p7 => ?_) (fun x => absurd rfl x))⟩
        have b19 : bgV (qu (qu V5 12 0 (V 603 593 + 1)) 602 0 0) a (420 * (3 + V 603 593)) 602 19 = 420 * (3 + V 603 593) := bgV_v.2.2.2.2.2.2.2
        have b18 : bgV (qu (qu V5 12 0 (V 603 593 + 1)) 602 0 0) a (420 * (3 + V 603 593)) 602 18 = 0 := bgV_v.2.2.2.2.2.2.1
        have e19 := p7.e.1
        obtain ⟨q1, q2, q3, q4, q5, q6, q7⟩ := p7
        unfold rFr at q1
        rw [b19, b18] at q1 q7
        rw [b18] at q6
        rw [b19] at e19
        rw [Int.add_zero] at q7
        have fv : ∀ o k, ¬ (o = 602 ∧ ((12 ≤ k ∧ k ≤ 20) ∨ k = 0)) → ¬ ((o = 604 ∨ o = 605) ∧ 420 * (3 + V 603 593) ≤ k ∧ k < 420 * (3 + V 603 593) + 400) → V7 o k = (qu V5 12 0 (V 603 593 + 1)) o k := fun o k x y => by
          rw [q1 o k (by omega) (by omega), bgV_o (by omega), qu_e (by omega)]
        have m15 : (qu V7 602 20 (V7 602 15)) 602 15 = -1 := by rw [qu_e (by decide)]; exact q2
        unfold KH
        refine m_fine1 m15 (br_f (by decide) ?_)
        rw [q2]
        have y19 : (qu V7 602 20 (-1)) 602 19 = 420 * (3 + V 603 593) := by rw [qu_e (by decide)]; exact e19
        have y18 : (qu V7 602 20 (-1)) 602 18 = L.length := by rw [qu_e (by decide), q6]; omega
        rw [y19, y18]
        have y593 : (qu (qu V7 602 20 (-1)) 611 (V 603 593) (420 * (3 + V 603 593) + L.length)) 603 593 = V 603 593 := by rw [qu_o _ _ (by decide), qu_o _ _ (by decide), fv _ _ (by omega) (by omega)]; exact f6 _ _ (by omega) (by omega) (by decide) (by decide) (by omega)
        rw [y593, qu_s]
        have fz : ∀ o k, ¬ (o = 602 ∧ k = 20) → ¬ (o = 611 ∧ k = V 603 593) → ¬ (o = 603 ∧ k = 593) → (qu (qu (qu V7 602 20 (-1)) 611 (V 603 593) (420 * (3 + V 603 593) + L.length)) 603 593 (V 603 593 + 1)) o k = V7 o k := fun o k x y z => by rw [qu_e z, qu_e y, qu_e x]
        refine ⟨zr_i (by omega) (by omega), by omega, zr_i (by omega) (by omega), ?_, rfl, hP0 _ _ ?_⟩
        · rw [fz _ _ (by omega) (by omega) (by omega), q1 _ _ (by omega) (by omega), bgV_o (by omega), qu_s]
        · refine h.hd (L := L) (by omega) rfl s8 (fun o k x => ?_) (fun o k x y => ?_) ?_ ?_ ty hL ?_ (qu_s _ _ _ _) ?_ (fun v a b => ?_) ?_ ⟨?_, ?_⟩ ?_
          · rw [fz o k (by omega) (by omega) (by omega), fv o k (by omega) (by omega)]; exact f6 o k (by omega) (by omega) (by omega) (by omega) (by omega)
          · rw [fz o k (by omega) (by omega) (by omega), fv o k (by omega) (by omega)]; exact f6 o k (by omega) (by omega) (by omega) (by omega) (by omega)
          · rw [qu_o _ _ (by decide), qu_s]
          · exact cdM_fr L _ q7 (fun o k x _ _ => fz o k (by omega) (by omega) (by omega))
          · rw [fz _ _ (by omega) (by omega) (by omega), fv _ _ (by omega) (by omega)]; exact gs
          · intro o k x y
            rw [x1 o k x, w3 o k y]
          · have v64 : 0 ≤ v / 64 ∧ v / 64 < 16 := by omega
            rw [x2 _ v64.1 v64.2, hb_and, Bool.and_eq_true, w3 13 _ (by decide), w4 v a b]
            constructor
            · rintro ⟨y, z⟩; exact ⟨y, z.resolve_left neL⟩
            · rintro ⟨y, z⟩; exact ⟨y, Or.inr z⟩
          · rw [fz _ _ (by omega) (by omega) (by omega), fv _ _ (by omega) (by omega), qu_e (by omega)]; exact w1
          · rw [fz _ _ (by omega) (by omega) (by omega), fv _ _ (by omega) (by omega), qu_e (by omega), w2 _ _ (by decide) (by decide)]; exact g11
          · rw [fz _ _ (by omega) (by omega) (by omega), q1 _ _ (by omega) (by omega)]; exact bgV_v.1
          · rw [fz _ _ (by omega) (by omega) (by omega), fv _ _ (by omega) (by omega), qu_e (by omega), w2 _ _ (by decide) (by decide), g112, qu_o _ _ (by decide), qu_o _ _ (by decide), qu_s]
      · have hne : r ≠ 0 := by omega
        refine cs V3 (fun r2 V2 => ((r2 = 0 → (zr ((V2 1 11) - 10) ∧ W_X11_holds a V2 (fun s V4 => V4 602 0 = 0 ∧ ((V2 1 11) - 10) = s ∧ P V4 J))) ∧ (¬ r2 = 0 → W_X2_narrow 1000001 V2 J (fun V5 J3 => (zr ((V5 12 0) + 1) ∧ W_X11_holds a (qu V5 12 0 ((V5 12 0) + 1)) (fun s V4 => V4 602 0 = 0 ∧ ((qu V5 12 0 ((V5 12 0) + 1)) 12 0) = s ∧ P V4 J3)))))) s3 e14 e5 ?_ ?_
        · intro x; exact absurd x hne
        intro _ V4 b4
        have f4 := fc V4 (fun o k x y => b4.1 o k x (by rw [e14]; omega))
        have g11 : V4 1 1 = 0 := by rw [b4.1 _ _ (by omega) (by rw [e14]; omega), f3 _ _ (by omega) (by omega) (by omega)]; exact v1
        refine br_t rfl ?_
        rw [b4.2.1]
        refine ⟨zr_i (by omega) (by omega), M _ _ (fun j => f4 _ _ (by omega) (by omega)) (f4 _ _ (by omega) (by omega)) (fun x => by omega) (fun _ => rs _ (KH (V 603 593) _) (RS _ (fun k => f4 _ _ (by omega) (by omega))) bgV_v.2.2.2.2.2.2.1 (fun x => absurd x hne) (fun _ V7 p7 => ?_))⟩
        obtain ⟨q1, q2, q3⟩ := p7
        have b19 : bgV (qu V4 602 0 0) a (420 * (3 + V 603 593)) 602 19 = 420 * (3 + V 603 593) := bgV_v.2.2.2.2.2.2.2
        have b18 : bgV (qu V4 602 0 0) a (420 * (3 + V 603 593)) 602 18 = 0 := bgV_v.2.2.2.2.2.2.1
        unfold rFr at q1
        rw [b19, b18] at q1
        have jp := (tk_sp hT hj.1 hj.2).2.1
        have fv : ∀ o k, ¬ (o = 602 ∧ ((12 ≤ k ∧ k ≤ 20) ∨ k = 0)) → ¬ ((o = 604 ∨ o = 605) ∧ 420 * (3 + V 603 593) ≤ k ∧ k < 420 * (3 + V 603 593) + 400) → (qu V7 602 20 (V7 602 15)) o k = V4 o k := fun o k x y => by
          rw [qu_e (by omega), q1 o k (by omega) (by omega), bgV_o (by omega), qu_e (by omega)]
        have z16 : (qu V7 602 20 (V7 602 15)) 602 16 = r := by rw [qu_e (by decide)]; exact q3
        unfold KH
        refine m_fine0 (by rw [qu_e (by decide), q2]; omega) (br_t rfl ?_)
        rw [z16]
        refine ⟨zr_i (by omega) (by omega), ?_, rfl, hP0 _ _ ?_⟩
        · rw [qu_e (by decide), q1 _ _ (by omega) (by omega), bgV_o (by omega), qu_s]
        -- conditions stay as they were
        have fz : ∀ o k, ¬ (o = 1 ∧ ((6 ≤ k ∧ k ≤ 12) ∨ k = 1 ∨ k = 2 ∨ k = 14)) → ¬ (3 ≤ o ∧ o ≤ 10) → ¬ (o = 602 ∧ ((12 ≤ k ∧ k ≤ 20) ∨ k = 0)) → ¬ ((o = 604 ∨ o = 605) ∧ 420 * (3 + V 603 593) ≤ k ∧ k < 420 * (3 + V 603 593) + 400) → (qu V7 602 20 (V7 602 15)) o k = V o k := fun o k a1 a2 a3 a4 => by rw [fv o k a3 a4]; exact f4 o k a1 a2
        exact h.hb0 (by omega) rfl (fun o k x => fz o k (by omega) (by omega) (by omega) (by omega)) (fun o k x y => fz o k (by omega) (by omega) (by omega) (by omega)) ⟨by rw [fv _ _ (by omega) (by omega)]; exact g11, by rw [qu_e (by decide), q1 _ _ (by omega) (by omega)]; exact bgV_v.1⟩ (by rw [fv _ _ (by omega) (by omega), qu_s, b4.2.2, q2])
    · have s8 : V 603 593 = 8 := by omega
      refine M V1 _ (fun j => v0 _ _ (by omega)) (v0 _ _ (by omega)) (fun _ => ⟨by rw [bgV_o (by omega), qu_s], rfl, hP0 _ _ ?_⟩) (fun x => by omega)
      have fz : ∀ o k, ¬ (o = 602 ∧ ((12 ≤ k ∧ k ≤ 20) ∨ k = 0)) → ¬ (o = 1 ∧ (k = 1 ∨ k = 12)) → bgV (qu V1 602 0 0) a 1260 o k = V o k := fun o k x y => by rw [bgV_o (by omega), qu_e (by omega)]; exact v0 o k y
      exact h.hb0 (by omega) rfl (fun o k x => fz o k (by omega) (by omega)) (fun o k x y => fz o k (by omega) (by omega)) ⟨by rw [bgV_o (by omega), qu_e (by omega)]; exact v1, bgV_v.1⟩ (by rw [bgV_o (by omega), qu_e (by omega), bgV_v.2.1]; exact v2)
  · have bad : W_X11_holds a V (fun s V2 => V2 602 0 = 1 ∧ P V2 J) := by
      have gg : ∀ (Q : Int → qV → Prop), Q 0 (qu (qu V 602 0 0) 602 0 1) → W_X11_may 0 1 (qu V 602 0 0) Q := fun Q k => m_may0 (qs0 _) (by decide) k
      exact br_c (fun x => gg _ (br_t rfl ⟨qu_s _ _ _ _, hP0 _ _ h.th⟩)) (fun x => br_t (by rw [e12]; omega) (gg _ (br_t rfl ⟨qu_s _ _ _ _, hP0 _ _ h.th⟩)))
    exact br_c (fun x => ⟨rfl, bad⟩) (fun x => br_f (by omega) ⟨rfl, bad⟩)
