/-! law -/
theorem rlM_fr {V V' : qV} {b g : Int} : ∀ (R : List (Int × Int × List (Int × Int))) (q x : Int), rlM V b g q x R → (∀ o k, 606 ≤ o → o ≤ 609 → V' o k = V o k) → rlM V' b g q x R
  | [], _, _, _, _ => trivial
  | r :: R, q, x, h, hf => by
    refine ⟨⟨?_, ?_, ?_, ?_⟩, rlM_fr R (q + 1) _ h.2 hf⟩
    · rw [hf _ _ (by decide) (by decide)]; exact h.1.1
    · rw [hf _ _ (by decide) (by decide)]; exact h.1.2.1
    · rw [hf _ _ (by decide) (by decide)]; exact h.1.2.2.1
    · rw [hf _ _ (by decide) (by decide)]; exact h.1.2.2.2
theorem w_goOn0 {kd vl : Int → Int} {m : Int} {V : qV} {Q : qV → Prop} (h3 : V 3 = kd) (h4 : V 4 = vl) (h6 : V 1 6 = m + 1) (h7 : V 1 7 = -1) (hm : 0 ≤ m ∧ m ≤ 400) (k : ∀ V', (∀ o j, ¬ (o = 1 ∧ 7 ≤ j ∧ j ≤ 9) → V' o j = V o j) → V' 1 7 = 0 → V' 1 8 = kd 0 → V' 1 9 = vl 0 → Q V') : W_X6_goOn V Q := by
  unfold W_X6_goOn
  have e : max 0 (min ((V 1 7) + 1) (min ((V 1 6) - 1) 400)) = 0 := by rw [h7, h6]; omega
  rw [e]
  have e2 : (qu V 1 7 0) 1 7 = 0 := qu_s _ _ _ _
  have e3 : (qu V 1 7 0) 3 0 = kd 0 := by rw [qu_o _ _ (by decide), h3]
  rw [e2, e3]
  have e4 : (qu (qu V 1 7 0) 1 8 (kd 0)) 1 7 = 0 := by rw [qu_e (by decide)]; exact e2
  have e5 : (qu (qu V 1 7 0) 1 8 (kd 0)) 4 0 = vl 0 := by rw [qu_o _ _ (by decide), qu_o _ _ (by decide), h4]
  rw [e4, e5]
  exact ⟨by rw [h7]; exact zr_i (by decide) (by decide), by rw [h6]; exact zr_i (by omega) (by omega), by decide, by decide, k _ (fun a j x => by rw [qu_e (by omega), qu_e (by omega), qu_e (by omega)]) (by rw [qu_e (by decide)]; exact e4) (by rw [qu_e (by decide), qu_s]) (qu_s _ _ _ _)⟩
theorem s_start {t : Int → Int} {n a : Int} {V : qV} {Q : qV → Prop} (hn : 0 ≤ n ∧ n ≤ 400) (ht : ∀ k, 0 ≤ k → k < 400 → V 2 k = (t k).bmod 256 ∧ 0 ≤ t k ∧ t k < 256) (ha : 6 ≤ a) (k : ∀ m kd vl pl V', TK t n kd vl pl m → cRs kd vl pl m V' 0 0 → V' 1 14 = a → V' a 5 = 0 → V' a 6 = 0 → (∀ o j, ¬ (o = 1 ∧ (j = 2 ∨ (6 ≤ j ∧ j ≤ 10) ∨ j = 14)) → ¬ (3 ≤ o ∧ o ≤ 5) → ¬ (o = a ∧ (j = 0 ∨ j = 5 ∨ j = 6)) → V' o j = V o j) → Q V') : W_X6_start n a V Q := by
  unfold W_X6_start
  rw [show min n 400 = n by omega]
  refine s_cut (t := t) (n := n) ⟨hn, qu_s _ _ _ _, fun k a b => by rw [qu_o _ _ (by decide)]; exact ht k a b⟩ (fun m V2 f1 f2 f3 => ?_)
  have e14 : (qu (qu V2 1 10 0) 1 14 a) 1 14 = a := qu_s _ _ _ _
  rw [e14]
  unfold W_X3_clear
  have f4 : ∀ o j, ¬ (o = 1 ∧ (j = 7 ∨ j = 10 ∨ j = 14)) → ¬ (o = a ∧ (j = 0 ∨ j = 5 ∨ j = 6)) → (qu (qu (qu (qu (qu (qu V2 1 10 0) 1 14 a) a 0 0) a 5 0) a 6 0) 1 7 (-1)) o j = V2 o j := fun o j x y => by rw [qu_e (by omega), qu_e (by omega), qu_e (by omega), qu_e (by omega), qu_e (by omega), qu_e (by omega)]
  refine w_goOn0 (kd := V2 3) (vl := V2 4) (m := m) (by funext x; exact f4 _ _ (by omega) (by omega)) (by funext x; exact f4 _ _ (by omega) (by omega)) (by rw [f4 _ _ (by omega) (by omega)]; exact f2) (qu_s _ _ _ _) ⟨f3.2.1.1, by have := f3.2.1; omega⟩ (fun V7 g1 g2 g3 g4 => ?_)
  have g5 : ∀ o j, ¬ (o = 1 ∧ (7 ≤ j ∧ j ≤ 10 ∨ j = 14)) → ¬ (o = a ∧ (j = 0 ∨ j = 5 ∨ j = 6)) → V7 o j = V2 o j := fun o j x y => by rw [g1 o j (by omega)]; exact f4 o j (by omega) y
  have h14 : V7 1 14 = a := by rw [g1 _ _ (by omega), qu_e (by decide), qu_e (by omega), qu_e (by omega), qu_e (by omega), qu_s]
  have h0 : V7 a 0 = 0 := by rw [g1 _ _ (by omega), qu_e (by omega), qu_e (by omega), qu_e (by omega), qu_s]
  have h5 : V7 a 5 = 0 := by rw [g1 _ _ (by omega), qu_e (by omega), qu_e (by omega), qu_s]
  have h6 : V7 a 6 = 0 := by rw [g1 _ _ (by omega), qu_e (by omega), qu_s]
  refine k m (V2 3) (V2 4) (V2 5) V7 f3 ⟨⟨?_, ?_, ?_, ?_⟩, ⟨g2, g3, g4, ?_⟩, ?_, ?_, ?_, ?_⟩ h14 h5 h6 (fun o j x y z => ?_)
  · funext x; exact g5 _ _ (by omega) (by omega)
  · funext x; exact g5 _ _ (by omega) (by omega)
  · funext x; exact g5 _ _ (by omega) (by omega)
  · rw [g5 _ _ (by omega) (by omega)]; exact f2
  · rw [g1 _ _ (by omega), qu_e (by decide), qu_e (by omega), qu_e (by omega), qu_e (by omega), qu_e (by decide), qu_s]
  · rw [h14]; exact ha
  · rw [h14, h5]; decide
  · rw [h14, h0]; decide
  · rw [h14, h6]; decide
  · rw [g5 o j (by omega) z, f1 o j (by omega) (by omega) (by omega) (by omega), qu_e (by omega)]
def bgV (V : qV) (n b : Int) : qV := qu (qu (qu (qu (qu (qu (qu (qu V 602 12 0) 602 20 (-1)) 602 13 n) 602 14 0) 602 15 (-1)) 602 17 0) 602 18 0) 602 19 b
theorem bgV_o {V : qV} {n b o j : Int} (h : ¬ (o = 602 ∧ (j = 12 ∨ j = 13 ∨ j = 14 ∨ j = 15 ∨ j = 17 ∨ j = 18 ∨ j = 19 ∨ j = 20))) : bgV V n b o j = V o j := by
  unfold bgV
  rw [qu_e (by omega), qu_e (by omega), qu_e (by omega), qu_e (by omega), qu_e (by omega), qu_e (by omega), qu_e (by omega), qu_e (by omega)]
theorem bgV_v {V : qV} {n b : Int} : bgV V n b 602 12 = 0 ∧ bgV V n b 602 20 = -1 ∧ bgV V n b 602 13 = n ∧ bgV V n b 602 14 = 0 ∧ bgV V n b 602 15 = -1 ∧ bgV V n b 602 17 = 0 ∧ bgV V n b 602 18 = 0 ∧ bgV V n b 602 19 = b := by
  unfold bgV
  refine ⟨?_, ?_, ?_, ?_, ?_, ?_, ?_, qu_s _ _ _ _⟩
  · rw [qu_e (by decide), qu_e (by decide), qu_e (by decide), qu_e (by decide), qu_e (by decide), qu_e (by decide), qu_e (by decide), qu_s]
  · rw [qu_e (by decide), qu_e (by decide), qu_e (by decide), qu_e (by decide), qu_e (by decide), qu_e (by decide), qu_s]
  · rw [qu_e (by decide), qu_e (by decide), qu_e (by decide), qu_e (by decide), qu_e (by decide), qu_s]
  · rw [qu_e (by decide), qu_e (by decide), qu_e (by decide), qu_e (by decide), qu_s]
  · rw [qu_e (by decide), qu_e (by decide), qu_e (by decide), qu_s]
  · rw [qu_e (by decide), qu_e (by decide), qu_s]
  · rw [qu_e (by decide), qu_s]
theorem m_begin {n b : Int} {V : qV} {Q : qV → Prop} (hb' : 0 ≤ b ∧ b ≤ 10) (k : Q (bgV V n (420 * b))) : W_X11_beginsReading n b V Q := ⟨zr_i (by omega) (by omega), k⟩
theorem bgV_st {t : Int → Int} {n b m : Int} {kd vl pl : Int → Int} {V : qV} (hT : TK t n kd vl pl m) (ht : ∀ k, 0 ≤ k → k < 400 → V 613 k = t k ∧ 0 ≤ t k ∧ t k < 256) (hb' : 0 ≤ b ∧ b ≤ 4200) : rSt t n pl (bgV V n b) 0 0 := by
  have v := bgV_v (V := V) (n := n) (b := b)
  refine ⟨⟨v.2.2.1, hT.1, fun k a b => by rw [bgV_o (by omega)]; exact ht k a b⟩, v.2.2.2.2.1, by rw [v.2.2.2.1]; have := hT.1; omega, by rw [v.2.2.2.1]; exact hT.2.2.1, v.2.2.2.2.2.1, by rw [v.2.2.2.2.2.2.1]; omega, by rw [v.2.2.2.2.2.2.2]; exact hb'⟩
theorem t_law {n : Int} {a : Int} {V : qV} {J : qJ} {P : qV → Prop} (h : Rel n V J) (hP0 : ∀ V2, Rel (n + 1) V2 J → P V2) : W_X10_law a V (fun r V1 => W_X11_law a V1 (fun s V2 => V2 602 0 = 0 ∧ r = s ∧ P V2)) (fun E V1 => (E = "java/lang/IllegalArgumentException" ∧ W_X11_law a V1 (fun s V2 => V2 602 0 = 1 ∧ P V2))) := by
  have htp := h.1
  have hlw := h.2.2.1
  have tp1 : V 1 1 = V 602 12 ∧ 0 ≤ V 602 12 ∧ V 602 12 ≤ 400 := htp.1
  have e12 : (qu V 602 0 0) 602 12 = V 602 12 := qu_e (by decide)
  by_cases ha : 0 ≤ a ∧ a ≤ V 1 1
  · refine br_f (by omega) (br_t ha.2 ?_)
    -- the tape is emptied
    have v0 : ∀ o j, ¬ (o = 1 ∧ (j = 1 ∨ j = 12)) → (qu (qu V 1 1 0) 1 12 (-1)) o j = V o j := fun o j x => by rw [qu_e (by omega), qu_e (by omega)]
    have v1 : (qu (qu V 1 1 0) 1 12 (-1)) 1 1 = 0 := by rw [qu_e (by decide), qu_s]
    have v2 : (qu (qu V 1 1 0) 1 12 (-1)) 1 12 = -1 := qu_s _ _ _ _
    show (((qu (qu V 1 1 0) 1 12 (-1)) 0 2 < 3 → _) ∧ (¬ (qu (qu V 1 1 0) 1 12 (-1)) 0 2 < 3 → _))
    generalize (qu (qu V 1 1 0) 1 12 (-1)) = V1 at v0 v1 v2 ⊢
    rw [v0 0 2 (by omega)]
    have l3 := hlw.1
    -- the reference, up to its reading
    have M : ∀ (Vc : qV) (Q : Int → qV → Prop), (∀ j, j ≠ 1 → Vc 602 j = V 602 j) → (V 602 11 = 3 → Q (-1) (bgV (qu Vc 602 0 0) a 0)) → (V 602 11 < 3 → lp_X11_law_73 (fun V84 => W_X11_fine (qu V84 602 20 (V84 602 15)) (fun r86 => ((r86 = 0 → (zr (((qu V84 602 20 (V84 602 15)) 602 16) - 10) ∧ Q (((qu V84 602 20 (V84 602 15)) 602 16) - 10) (qu V84 602 20 (V84 602 15)))) ∧ (¬ r86 = 0 → ((0 ≤ (qu V84 602 20 (V84 602 15)) 602 11 ∧ (qu V84 602 20 (V84 602 15)) 602 11 < 3) ∧ lp_X11_law_132 (fun l2x89 V89 => (zr ((V89 602 11) + 1) ∧ (zr (((qu V89 602 11 ((V89 602 11) + 1)) 602 11) - 1) ∧ Q (((qu V89 602 11 ((V89 602 11) + 1)) 602 11) - 1) (qu V89 602 11 ((V89 602 11) + 1))))) 100000 ((qu (qu V84 602 20 (V84 602 15)) 612 ((qu V84 602 20 (V84 602 15)) 602 11) 0) 602 19) (qu (qu V84 602 20 (V84 602 15)) 612 ((qu V84 602 20 (V84 602 15)) 602 11) 0)))))) 100000 (qu (bgV (qu Vc 602 0 0) a (420 * V 602 11)) 610 (V 602 11) 0)) → W_X11_law a Vc Q := fun Vc Q f k3 k => by
      have g12 : (qu Vc 602 0 0) 602 12 = V 602 12 := by rw [qu_e (by decide)]; exact f _ (by decide)
      have g11 : (qu Vc 602 0 0) 602 11 = V 602 11 := by rw [qu_e (by decide)]; exact f _ (by decide)
      refine br_f (by omega) (br_f (by rw [g12]; omega) (m_may1 (qs0 _) (br_f (by decide) ?_)))
      rw [g11]
      refine br_c (fun x => m_begin (by decide) (br_t (by rw [bgV_o (by omega), g11]; omega) (k3 (by omega)))) (fun x => m_begin (by omega) ?_)
      have b11 : bgV (qu Vc 602 0 0) a (420 * V 602 11) 602 11 = V 602 11 := by rw [bgV_o (by omega)]; exact g11
      rw [b11]
      exact br_f (by omega) ⟨by omega, k (by omega)⟩
    refine br_c (fun hl => ⟨by omega, ?_⟩) (fun hl => ?_)
    · -- a law is read
      have lb : 0 ≤ V 602 11 ∧ V 602 11 < 3 := by omega
      rw [l3.1]
      refine s_start (t := V 613) (n := a) ⟨ha.1, by have := htp.1; omega⟩ (fun k p q => by rw [v0 _ _ (by omega)]; exact htp.2 k p q) (by omega) (fun m kd vl pl V3 hT s3 e14 e5 e6 f3 => ?_)
      have hB : ∀ p, 0 ≤ bt (V 613) a p ∧ bt (V 613) a p < 256 := fun p => by
        by_cases x : 0 ≤ p ∧ p < a
        · rw [bt_i x]; exact (htp.2 p x.1 (by have := htp.1; omega)).2
        · rw [bt_o x]; omega
      have am := hT.2.1
      obtain ⟨r, j, R, out, cs, rs⟩ := o_law hT hB 400 0 0 (by decide) am.1 (by have := htp.1; omega) (by decide)
      -- class cells outside its reader and the law's own
      have fc : ∀ (V4 : qV), (∀ o k, ¬ (o = 1 ∧ 7 ≤ k ∧ k ≤ 12) → ¬ (V3 1 14 ≤ o ∧ o ≤ V3 1 14 + 4) → V4 o k = V3 o k) → (∀ o k, ¬ (o = 1 ∧ ((6 ≤ k ∧ k ≤ 12) ∨ k = 1 ∨ k = 2 ∨ k = 14)) → ¬ (3 ≤ o ∧ o ≤ 5) → ¬ (173 + 5 * V 602 11 ≤ o ∧ o ≤ 173 + 5 * V 602 11 + 4) → V4 o k = V o k) := fun V4 f4 o k x y z => by
        rw [f4 o k (by omega) (by rw [e14]; exact z), f3 o k (by omega) y (by omega)]; exact v0 o k (by omega)
      -- the reference's run
      have RS : ∀ (Vc : qV) (K : qV → Prop), (∀ o k, ¬ (o = 1 ∧ ((6 ≤ k ∧ k ≤ 12) ∨ k = 1 ∨ k = 2 ∨ k = 14)) → ¬ (3 ≤ o ∧ o ≤ 5) → ¬ (173 + 5 * V 602 11 ≤ o ∧ o ≤ 173 + 5 * V 602 11 + 4) → o ≠ 0 → Vc o k = V o k) → (r = 0 → ∀ V', rLw (qu (bgV (qu Vc 602 0 0) a (420 * V 602 11)) 610 (V 602 11) 0) V' (V 602 11) 0 R → K V') → (r ≠ 0 → ∀ V', rLb (qu (bgV (qu Vc 602 0 0) a (420 * V 602 11)) 610 (V 602 11) 0) V' (V 602 11) 0 r (pl j) → K V') → lp_X11_law_73 K 100000 (qu (bgV (qu Vc 602 0 0) a (420 * V 602 11)) 610 (V 602 11) 0) := fun Vc K f k1 k2 => by
        have st := bgV_st (V := qu Vc 602 0 0) (b := 420 * V 602 11) hT (fun k p q => by rw [qu_o _ _ (by decide), f _ _ (by omega) (by omega) (by omega) (by decide)]; exact ⟨rfl, (htp.2 k p q).2⟩) (by omega)
        refine rs (V 602 11) _ K 100000 ⟨st.q (by decide) (by decide), ?_, lb, qu_s _ _ _ _, ?_⟩ (by omega) k1 k2
        · rw [qu_o _ _ (by decide), bgV_o (by omega), qu_e (by decide)]; exact f _ _ (by omega) (by omega) (by omega) (by decide)
        · rw [qu_o _ _ (by decide), bgV_v.2.2.2.2.2.2.1]; decide
      rcases out with ⟨hr, hcd, hok, h12⟩ | ⟨hr, hj⟩
      · subst hr
        refine cs V3 (fun r4 V4 => ((r4 = 0 → (zr ((V4 1 11) - 10) ∧ W_X11_law a V4 (fun s V2 => V2 602 0 = 0 ∧ ((V4 1 11) - 10) = s ∧ P V2))) ∧ (¬ r4 = 0 → (zr ((V4 0 2) + 1) ∧ (zr (((qu V4 0 2 ((V4 0 2) + 1)) 0 2) - 1) ∧ W_X11_law a (qu V4 0 2 ((V4 0 2) + 1)) (fun s V2 => V2 602 0 = 0 ∧ (((qu V4 0 2 ((V4 0 2) + 1)) 0 2) - 1) = s ∧ P V2)))))) 100000 s3 (by omega) ?_ ?_
        rotate_left
        · intro x; exact absurd rfl x
        intro _ V4 p4
        refine br_f (by decide) ?_
        obtain ⟨q1, q2, q3, q4, q5, q6, q7⟩ := p4
        rw [e14] at q1 q2 q3 q4 q5 q6 q7
        rw [e5] at q1 q4 q5
        have f4 := fc V4 (fun o k x y => q1 o k (by omega) (by rw [e14] at y; omega) (by rw [e14] at y; omega) (by rw [e14] at y; omega))
        have g02 : V4 0 2 = V 602 11 := by rw [f4 _ _ (by omega) (by omega) (by omega)]; exact l3.1
        have g11 : V4 1 1 = 0 := by rw [q1 _ _ (by omega) (by omega) (by omega) (by omega), f3 _ _ (by omega) (by omega) (by omega)]; exact v1
        have g112 : V4 1 12 = -1 := by rw [q1 _ _ (by omega) (by omega) (by omega) (by omega), f3 _ _ (by omega) (by omega) (by omega)]; exact v2
        rw [g02]
        have gs : (qu V4 0 2 (V 602 11 + 1)) 0 2 = V 602 11 + 1 := qu_s _ _ _ _
        rw [gs]
        refine ⟨zr_i (by omega) (by omega), zr_i (by omega) (by omega), ?_⟩
        have f5 : ∀ o k, ¬ (o = 1 ∧ ((6 ≤ k ∧ k ≤ 12) ∨ k = 1 ∨ k = 2 ∨ k = 14)) → ¬ (3 ≤ o ∧ o ≤ 5) → ¬ (173 + 5 * V 602 11 ≤ o ∧ o ≤ 173 + 5 * V 602 11 + 4) → ¬ (o = 0 ∧ k = 2) → (qu V4 0 2 (V 602 11 + 1)) o k = V o k := fun o k x y z w => by rw [qu_e w]; exact f4 o k x y z
        refine M _ _ (fun j _ => f5 _ _ (by omega) (by omega) (by omega) (by omega)) (fun x => by omega) (fun _ => RS _ _ (fun o k x y z w => f5 o k x y z (by omega)) (fun _ V' v => ?_) (fun x => absurd rfl x))
        obtain ⟨w1, w2, w3, w4, w5, w6⟩ := v
        have b19 : (qu (bgV (qu (qu V4 0 2 (V 602 11 + 1)) 602 0 0) a (420 * V 602 11)) 610 (V 602 11) 0) 602 19 = 420 * V 602 11 := by rw [qu_o _ _ (by decide)]; exact bgV_v.2.2.2.2.2.2.2
        have b18 : (qu (bgV (qu (qu V4 0 2 (V 602 11 + 1)) 602 0 0) a (420 * V 602 11)) 610 (V 602 11) 0) 602 18 = 0 := by rw [qu_o _ _ (by decide)]; exact bgV_v.2.2.2.2.2.2.1
        unfold mLf at w1
        rw [b19, b18] at w1 w5 w6
        rw [b18] at w4
        -- V' against the class's last state
        have fv : ∀ o k, ¬ (o = 602 ∧ ((12 ≤ k ∧ k ≤ 20) ∨ k = 0)) → ¬ ((o = 604 ∨ o = 605) ∧ 420 * V 602 11 ≤ k ∧ k < 420 * V 602 11 + 400) → ¬ ((606 ≤ o ∧ o ≤ 609) ∧ 12 * V 602 11 ≤ k) → ¬ (o = 610 ∧ k = V 602 11) → V' o k = (qu V4 0 2 (V 602 11 + 1)) o k := fun o k x y z u => by
          rw [w1 o k (by omega) (by omega) (by omega) u, qu_e u, bgV_o (by omega), qu_e (by omega)]
        have fx : ∀ o k, ¬ (o = 602 ∧ k = 20) → ¬ (o = 612 ∧ k = V 602 11) → (qu (qu V' 602 20 (-1)) 612 (V 602 11) 0) o k = V' o k := fun o k x y => by rw [qu_e y, qu_e x]
        have x11 : V' 602 11 = V 602 11 := by rw [fv _ _ (by omega) (by omega) (by omega) (by omega)]; exact f5 _ _ (by omega) (by omega) (by omega) (by omega)
        have x11' : (qu V' 602 20 (-1)) 602 11 = V 602 11 := by rw [qu_e (by decide)]; exact x11
        have x19 : V' 602 19 = 420 * V 602 11 := by rw [w1 _ _ (by omega) (by omega) (by omega) (by omega)]; exact b19
        have x0 : V' 602 0 = 0 := by rw [w1 _ _ (by omega) (by omega) (by omega) (by omega), qu_o _ _ (by decide), bgV_o (by omega), qu_s]
        have x12 : V' 602 12 = 0 := by rw [w1 _ _ (by omega) (by omega) (by omega) (by omega), qu_o _ _ (by decide)]; exact bgV_v.1
        refine m_fine1 (by rw [qu_e (by decide)]; exact w2) (br_f (by decide) ?_)
        rw [w2, x11']
        have y19 : (qu (qu V' 602 20 (-1)) 612 (V 602 11) 0) 602 19 = 420 * V 602 11 := by rw [fx _ _ (by omega) (by omega)]; exact x19
        rw [y19]
        refine ⟨lb, m_used (L := cds R) y19 (c := (cds R).length) (by rw [fx _ _ (by omega) (by omega), w4]; omega) (l := V 602 11) (by rw [fx _ _ (by omega) (by omega)]; exact x11) lb (by omega) ⟨rfl, by omega⟩ (cdM_fr _ _ (by rw [Int.add_zero] at w6; exact w6) (fun o k x _ _ => fx o k (by omega) (by omega))) (cds_2 hok) (qu_s _ _ _ _) (fun i u hu hu2 => ?_)⟩
        rw [qu_qu]
        have fy : ∀ o k, ¬ (o = 602 ∧ (k = 20 ∨ k = 11)) → ¬ (o = 612 ∧ k = V 602 11) → (qu (qu (qu V' 602 20 (-1)) 612 (V 602 11) u) 602 11 (V 602 11 + 1)) o k = V' o k := fun o k x y => by rw [qu_e (by omega), qu_e y, qu_e (by omega)]
        have y11 : (qu (qu V' 602 20 (-1)) 612 (V 602 11) u) 602 11 = V 602 11 := by rw [qu_o _ _ (by decide)]; exact x11'
        rw [y11]
        have ys : (qu (qu (qu V' 602 20 (-1)) 612 (V 602 11) u) 602 11 (V 602 11 + 1)) 602 11 = V 602 11 + 1 := qu_s _ _ _ _
        rw [ys]
        refine ⟨zr_i (by omega) (by omega), zr_i (by omega) (by omega), by rw [fy _ _ (by omega) (by omega)]; exact x0, rfl, hP0 _ ?_⟩
        -- all cells against those at the call
        have fz : ∀ o k, ¬ (o = 1 ∧ ((6 ≤ k ∧ k ≤ 12) ∨ k = 1 ∨ k = 2 ∨ k = 14)) → ¬ (3 ≤ o ∧ o ≤ 5) → ¬ (173 + 5 * V 602 11 ≤ o ∧ o ≤ 173 + 5 * V 602 11 + 4) → ¬ (o = 0 ∧ k = 2) → ¬ (o = 602 ∧ ((11 ≤ k ∧ k ≤ 20) ∨ k = 0)) → ¬ ((o = 604 ∨ o = 605) ∧ 420 * V 602 11 ≤ k ∧ k < 420 * V 602 11 + 400) → ¬ ((606 ≤ o ∧ o ≤ 609) ∧ 12 * V 602 11 ≤ k) → ¬ ((o = 610 ∨ o = 612) ∧ k = V 602 11) → (qu (qu (qu V' 602 20 (-1)) 612 (V 602 11) u) 602 11 (V 602 11 + 1)) o k = V o k := fun o k a1 a2 a3 a4 a5 a6 a7 a8 => by
          rw [fy o k (by omega) (by omega), fv o k (by omega) a6 a7 (by omega)]; exact f5 o k a1 a2 a3 a4
        have fk : ∀ o k, 173 ≤ o → o ≤ 187 → (qu (qu (qu V' 602 20 (-1)) 612 (V 602 11) u) 602 11 (V 602 11 + 1)) o k = V4 o k := fun o k a1 a2 => by
          rw [fy o k (by omega) (by omega), fv o k (by omega) (by omega) (by omega) (by omega), qu_e (by omega)]
        refine h.lw (by omega) (fun o j x => fz o j (by omega) (by omega) (by omega) (by omega) (by omega) (by omega) (by omega) (by omega)) (fun o j x y => fz o j (by omega) (by omega) (by omega) (by omega) (by omega) (by omega) (by omega) (by omega)) ⟨?_, ?_⟩ ?_ ⟨⟨?_, ?_, ?_⟩, fun l' p q => ?_⟩
        · rw [fy _ _ (by omega) (by omega), fv _ _ (by omega) (by omega) (by omega) (by omega), qu_e (by omega)]; exact g11
        · rw [fy _ _ (by omega) (by omega)]; exact x12
        · rw [fy _ _ (by omega) (by omega), fv _ _ (by omega) (by omega) (by omega) (by omega), qu_e (by omega), qu_e (by decide), qu_e (by omega), qu_s]; exact g112
        · rw [ys, fy _ _ (by omega) (by omega), fv _ _ (by omega) (by omega) (by omega) (by omega)]; exact gs
        · rw [ys]; omega
        · rw [ys]; omega
        · rw [ys] at q
          by_cases el : l' = V 602 11
          · subst el
            have z610 : (qu (qu (qu V' 602 20 (-1)) 612 (V 602 11) u) 602 11 (V 602 11 + 1)) 610 (V 602 11) = R.length := by rw [fy _ _ (by omega) (by omega), w3]; omega
            have z612 : (qu (qu (qu V' 602 20 (-1)) 612 (V 602 11) u) 602 11 (V 602 11 + 1)) 612 (V 602 11) = u := by rw [qu_o _ _ (by decide), qu_s]
            refine lR_new hok (by omega) (by omega) ?_ z610 (rlC_fr R _ _ q4 (fun o k x _ _ => fk o k (by omega) (by omega))) (rlM_fr R _ _ w5 (fun o k x y => fy o k (by omega) (by omega))) (cdC_fr _ _ q5 (fun k _ _ => fk _ _ (by omega) (by omega))) (cdM_fr _ _ (by rw [Int.add_zero] at w6; exact w6) (fun o k x _ _ => fy o k (by omega) (by omega))) ?_ ?_ (by rw [z612]; exact hu) (by rw [z612]; exact hu2)
            · rw [fk _ _ (by omega) (by omega), q2]; omega
            · rw [fk _ _ (by omega) (by omega)]; exact q7
            · rw [fk _ _ (by omega) (by omega)]; exact q3
          · refine (hlw.2 l' p (by omega)).fr2 (fun o j x y => fz o j (by omega) (by omega) (by omega) (by omega) (by omega) (by omega) (by omega) (by omega)) (fun o j x y z => fz o j (by omega) (by omega) (by omega) (by omega) (by omega) (by omega) (by omega) (by omega)) (fun o j x y z w => fz o j (by omega) (by omega) (by omega) (by omega) (by omega) (by omega) (by omega) (by omega)) (fz _ _ (by omega) (by omega) (by omega) (by omega) (by omega) (by omega) (by omega) (by omega)) (fz _ _ (by omega) (by omega) (by omega) (by omega) (by omega) (by omega) (by omega) (by omega))
      · have hne : r ≠ 0 := by omega
        refine cs V3 (fun r4 V4 => ((r4 = 0 → (zr ((V4 1 11) - 10) ∧ W_X11_law a V4 (fun s V2 => V2 602 0 = 0 ∧ ((V4 1 11) - 10) = s ∧ P V2))) ∧ (¬ r4 = 0 → (zr ((V4 0 2) + 1) ∧ (zr (((qu V4 0 2 ((V4 0 2) + 1)) 0 2) - 1) ∧ W_X11_law a (qu V4 0 2 ((V4 0 2) + 1)) (fun s V2 => V2 602 0 = 0 ∧ (((qu V4 0 2 ((V4 0 2) + 1)) 0 2) - 1) = s ∧ P V2)))))) 100000 s3 (by omega) ?_ ?_
        · intro x; exact absurd x hne
        intro _ V4 b4
        refine br_t rfl ?_
        have f4 := fc V4 b4.1
        have g11 : V4 1 1 = 0 := by rw [b4.1 _ _ (by omega) (by rw [e14]; omega), f3 _ _ (by omega) (by omega) (by omega)]; exact v1
        rw [b4.2.1]
        refine ⟨zr_i (by omega) (by omega), ?_⟩
        refine M _ _ (fun j _ => f4 _ _ (by omega) (by omega) (by omega)) (fun x => by omega) (fun _ => RS _ _ (fun o k x y z _ => f4 o k x y z) (fun x => absurd x hne) (fun _ V' v => ?_))
        obtain ⟨w1, w2, w3⟩ := v
        have b19 : (qu (bgV (qu V4 602 0 0) a (420 * V 602 11)) 610 (V 602 11) 0) 602 19 = 420 * V 602 11 := by rw [qu_o _ _ (by decide)]; exact bgV_v.2.2.2.2.2.2.2
        have b18 : (qu (bgV (qu V4 602 0 0) a (420 * V 602 11)) 610 (V 602 11) 0) 602 18 = 0 := by rw [qu_o _ _ (by decide)]; exact bgV_v.2.2.2.2.2.2.1
        unfold mLf at w1
        rw [b19, b18] at w1
        have jp := (tk_sp hT hj.1 hj.2).2.1
        have fv : ∀ o k, ¬ (o = 602 ∧ ((12 ≤ k ∧ k ≤ 20) ∨ k = 0)) → ¬ ((o = 604 ∨ o = 605) ∧ 420 * V 602 11 ≤ k ∧ k < 420 * V 602 11 + 400) → ¬ ((606 ≤ o ∧ o ≤ 609) ∧ 12 * V 602 11 ≤ k) → ¬ (o = 610 ∧ k = V 602 11) → (qu V' 602 20 (V' 602 15)) o k = V4 o k := fun o k x y z u => by
          rw [qu_e (by omega), w1 o k (by omega) (by omega) (by omega) u, qu_e u, bgV_o (by omega), qu_e (by omega)]
        have fz : ∀ o k, ¬ (o = 1 ∧ ((6 ≤ k ∧ k ≤ 12) ∨ k = 1 ∨ k = 2 ∨ k = 14)) → ¬ (3 ≤ o ∧ o ≤ 5) → ¬ (173 + 5 * V 602 11 ≤ o ∧ o ≤ 173 + 5 * V 602 11 + 4) → ¬ (o = 602 ∧ ((12 ≤ k ∧ k ≤ 20) ∨ k = 0)) → ¬ ((o = 604 ∨ o = 605) ∧ 420 * V 602 11 ≤ k ∧ k < 420 * V 602 11 + 400) → ¬ ((606 ≤ o ∧ o ≤ 609) ∧ 12 * V 602 11 ≤ k) → ¬ (o = 610 ∧ k = V 602 11) → (qu V' 602 20 (V' 602 15)) o k = V o k := fun o k a1 a2 a3 a5 a6 a7 a8 => by
          rw [fv o k a5 a6 a7 a8]; exact f4 o k a1 a2 a3
        have z16 : (qu V' 602 20 (V' 602 15)) 602 16 = r := by rw [qu_e (by decide)]; exact w3
        refine m_fine0 (by rw [qu_e (by decide), w2]; omega) (br_t rfl ?_)
        rw [z16]
        have x0 : (qu V' 602 20 (V' 602 15)) 602 0 = 0 := by rw [qu_e (by decide), w1 _ _ (by omega) (by omega) (by omega) (by omega), qu_o _ _ (by decide), bgV_o (by omega), qu_s]
        refine ⟨zr_i (by omega) (by omega), x0, rfl, hP0 _ (h.lw (by omega) (fun o j x => fz o j (by omega) (by omega) (by omega) (by omega) (by omega) (by omega) (by omega)) (fun o j x y => fz o j (by omega) (by omega) (by omega) (by omega) (by omega) (by omega) (by omega)) ⟨?_, ?_⟩ ?_ ⟨?_, fun l' p q => ?_⟩)⟩
        · rw [fv _ _ (by omega) (by omega) (by omega) (by omega)]; exact g11
        · rw [qu_e (by decide), w1 _ _ (by omega) (by omega) (by omega) (by omega), qu_o _ _ (by decide)]; exact bgV_v.1
        · rw [fv _ _ (by omega) (by omega) (by omega) (by omega), qu_s, b4.2.2, w2]
        · rw [fz _ _ (by omega) (by omega) (by omega) (by omega) (by omega) (by omega) (by omega), fz _ _ (by omega) (by omega) (by omega) (by omega) (by omega) (by omega) (by omega)]; exact l3
        · rw [fz _ _ (by omega) (by omega) (by omega) (by omega) (by omega) (by omega) (by omega)] at q
          refine (hlw.2 l' p q).fr2 (fun o j x y => fz o j (by omega) (by omega) (by omega) (by omega) (by omega) (by omega) (by omega)) (fun o j x y z => fz o j (by omega) (by omega) (by omega) (by omega) (by omega) (by omega) (by omega)) (fun o j x y z w => fz o j (by omega) (by omega) (by omega) (by omega) (by omega) (by omega) (by omega)) (fz _ _ (by omega) (by omega) (by omega) (by omega) (by omega) (by omega) (by omega)) (fz _ _ (by omega) (by omega) (by omega) (by omega) (by omega) (by omega) (by omega))
    · -- no law more
      have l33 : V 602 11 = 3 := by omega
      refine M V1 _ (fun j _ => v0 _ _ (by omega)) (fun _ => ⟨by rw [bgV_o (by omega), qu_s], rfl, hP0 _ ?_⟩) (fun x => by omega)
      have fz : ∀ o k, ¬ (o = 602 ∧ ((12 ≤ k ∧ k ≤ 20) ∨ k = 0)) → ¬ (o = 1 ∧ (k = 1 ∨ k = 12)) → bgV (qu V1 602 0 0) a 0 o k = V o k := fun o k x y => by rw [bgV_o (by omega), qu_e (by omega)]; exact v0 o k y
      refine h.lw (by omega) (fun o j x => fz o j (by omega) (by omega)) (fun o j x y => fz o j (by omega) (by omega)) ⟨?_, bgV_v.1⟩ ?_ ⟨?_, fun l' p q => ?_⟩
      · rw [bgV_o (by omega), qu_e (by omega)]; exact v1
      · rw [bgV_o (by omega), qu_e (by omega), bgV_v.2.1]; exact v2
      · rw [fz _ _ (by omega) (by omega), fz _ _ (by omega) (by omega)]; exact l3
      · rw [fz _ _ (by omega) (by omega)] at q
        exact (hlw.2 l' p q).fr2 (fun o j x y => fz o j (by omega) (by omega)) (fun o j x y z => fz o j (by omega) (by omega)) (fun o j x y z w => fz o j (by omega) (by omega)) (fz _ _ (by omega) (by omega)) (fz _ _ (by omega) (by omega))
  · -- not that many bytes
    have bad : W_X11_law a V (fun s V2 => V2 602 0 = 1 ∧ P V2) := by
      have g : W_X11_may 0 1 (qu V 602 0 0) (fun r2 V2 => (r2 = 0 ∧ V2 = qu (qu V 602 0 0) 602 0 1)) := m_may0 (qs0 _) (by decide) ⟨rfl, rfl⟩
      have gg : ∀ (Q : Int → qV → Prop), Q 0 (qu (qu V 602 0 0) 602 0 1) → W_X11_may 0 1 (qu V 602 0 0) Q := fun Q k => m_may0 (qs0 _) (by decide) k
      exact br_c (fun x => gg _ (br_t rfl ⟨qu_s _ _ _ _, hP0 _ h.th⟩)) (fun x => br_t (by rw [e12]; have := htp.1; omega) (gg _ (br_t rfl ⟨qu_s _ _ _ _, hP0 _ h.th⟩)))
    exact br_c (fun x => ⟨rfl, bad⟩) (fun x => br_f (by omega) ⟨rfl, bad⟩)
