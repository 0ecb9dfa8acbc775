/-! what was told, told on: parts that stay -/
section
variable {V V' : qV} {t : Int} {w w' : Int → Int}
theorem tU.fw (h : tU V t w) (h4 : V' t 4 = V t 4) (hV : ∀ o j, t + 2 ≤ o → o ≤ t + 3 → V' o j = V o j) (hw : ∀ k, 0 ≤ k → k ≤ 20 → w' k = w k) : tU V' t w' :=
  ⟨by rw [h4, hw _ (by decide) (by decide)]; exact h.1, fun k a b => by rw [hV _ _ (by omega) (by omega), hV _ _ (by omega) (by omega), hw _ a (by omega), hw _ (by omega) (by omega)]; exact h.2 k a b⟩
theorem pR.fw {o p : Int} (h : pR V o w p) (hp : 0 ≤ p ∧ p < 16) (hV : ∀ q j, o ≤ q → q ≤ o + 1 → V' q j = V q j) (hw : ∀ k, 22 ≤ k → k ≤ 133 → w' k = w k) : pR V' o w' p :=
  ⟨by rw [hV _ _ (by omega) (by omega), hw _ (by omega) (by omega)]; exact h.1, by rw [hV _ _ (by omega) (by omega), hw _ (by omega) (by omega)]; exact h.2.1, by rw [hV _ _ (by omega) (by omega), hw _ (by omega) (by omega)]; exact h.2.2.1, fun k a b => by rw [hV _ _ (by omega) (by omega), hw _ (by omega) (by omega)]; exact h.2.2.2 k a b⟩
theorem tP.fw (h : tP V t w) (h8 : V' t 8 = V t 8) (hV : ∀ o j, t + 10 ≤ o → o < t + 42 → V' o j = V o j) (hw : ∀ k, 21 ≤ k → k ≤ 133 → w' k = w k) : tP V' t w' :=
  ⟨by rw [h8, hw _ (by decide) (by decide)]; exact h.1, fun p a b => by
    rw [hw _ (by decide) (by decide)] at b
    exact (h.2 p a b).fw (by have := h.1; omega) (fun q j c d => hV q j (by omega) (by have := h.1; omega)) (fun k c d => hw k (by omega) d)⟩
theorem tG.fw (h : tG V t w) (hV : ∀ o j, t + 4 ≤ o → o ≤ t + 5 → V' o j = V o j) (hw : ∀ k, 134 ≤ k → k ≤ 141 → w' k = w k) : tG V' t w' :=
  fun k a b => by rw [hV _ _ (by omega) (by omega), hV _ _ (by omega) (by omega), hw _ (by omega) (by omega), hw _ (by omega) (by omega)]; exact h k a b
theorem lastTo_fw {f : Int} : ∀ n : Nat, (∀ k : Int, 433 ≤ k → k < 433 + 4 * n → w' k = w k) → lastTo w' f n = lastTo w f n
  | 0, _ => rfl
  | n + 1, h => by rw [lastTo, lastTo, h _ (by omega) (by omega), h _ (by omega) (by omega), lastTo_fw n (fun k a b => h k a (by omega))]
theorem fR.fw {o b many today many' today' : Int} (h : fR V o w b many today) (hb : 0 ≤ b) (hV : ∀ q j, o ≤ q → q ≤ o + 3 → V' q j = V q j) (hw : ∀ k, b ≤ k → k < b + 27 → w' k = w k) (hm : many ≤ many') (ht : today ≤ today') : fR V' o w' b many' today' := by
  obtain ⟨h0, h1, h2, h3, h4, h5, h6, h7, h9, hh⟩ := h
  have e : ∀ k, b ≤ k → k < b + 27 → w' k = w k := hw
  have v : ∀ j, V' o j = V o j := fun j => hV _ _ (by omega) (by omega)
  refine ⟨by rw [v, e _ (by omega) (by omega)]; exact h0, by rw [v, e _ (by omega) (by omega)]; exact h1, by rw [v, e _ (by omega) (by omega)]; exact h2, by rw [v, e _ (by omega) (by omega)]; exact h3, by rw [v, e _ (by omega) (by omega)]; exact h4, ?_, ?_, ?_, by rw [v, e _ (by omega) (by omega)]; exact h9, fun i a c => ?_⟩
  · rw [v, e _ (by omega) (by omega)]; exact ⟨h5.1, h5.2.1, by omega⟩
  · rw [v, e _ (by omega) (by omega), e _ (by omega) (by omega)]; exact h6
  · rw [v, e _ (by omega) (by omega)]; exact ⟨h7.1, h7.2.1, by omega⟩
  · rw [e _ (by omega) (by omega)] at c
    rw [hV _ _ (by omega) (by omega), hV _ _ (by omega) (by omega), hV _ _ (by omega) (by omega), e _ (by omega) (by omega), e _ (by omega) (by omega), e _ (by omega) (by omega)]
    have := hh i a c
    exact ⟨⟨this.1.1, this.1.2.1, by omega⟩, this.2⟩
theorem tF.fw (h : tF V t w) (h10 : V' t 10 = V t 10) (hV : ∀ o j, t + 42 ≤ o → o < t + 74 → V' o j = V o j) (hw : ∀ k, 142 ≤ k → k ≤ 358 → w' k = w k) (h432 : w' 432 = w 432) (hp : ∀ k, 433 ≤ k → k < 433 + 4 * w 432 → w' k = w k) (h21 : w 21 ≤ w' 21) (h20 : w 20 ≤ w' 20) : tF V' t w' :=
  ⟨by rw [h10, hw _ (by decide) (by decide)]; exact h.1, fun f a b => by
    rw [hw _ (by decide) (by decide)] at b
    have h1 := h.1
    refine ⟨(h.2 f a b).1.fw (by omega) (fun q j c d => hV q j (by omega) (by omega)) (fun k c d => hw k (by omega) (by omega)) h21 h20, ?_⟩
    rw [hV _ _ (by omega) (by omega), h432, lastTo_fw _ (fun k c d => hp k c (by omega))]
    exact (h.2 f a b).2⟩
theorem tC.fw (h : tC V t w) (h12 : V' t 12 = V t 12) (hV : ∀ o j, t + 74 ≤ o → o < t + 98 → V' o j = V o j) (hw : ∀ k, 359 ≤ k → k ≤ 431 → w' k = w k) (h142 : w 142 ≤ w' 142) (h21 : w 21 ≤ w' 21) : tC V' t w' :=
  ⟨by rw [h12, hw _ (by decide) (by decide)]; exact h.1, fun c a b => by
    rw [hw _ (by decide) (by decide)] at b
    have h1 := h.1
    have h2 := h.2 c a b
    rw [hV _ _ (by omega) (by omega), hV _ _ (by omega) (by omega), hV _ _ (by omega) (by omega), hw (360 + 3 * c) (by omega) (by omega), hw (360 + 3 * c + 1) (by omega) (by omega), hw (360 + 3 * c + 2) (by omega) (by omega)]
    exact ⟨⟨h2.1.1, h2.1.2.1, by omega⟩, ⟨h2.2.1.1, h2.2.1.2.1, by omega⟩, h2.2.2⟩⟩
theorem tS.fw (h : tS V t w) (h14 : V' t 14 = V t 14) (hV : ∀ o j, t + 98 ≤ o → o < t + 138 → V' o j = V o j) (hw : ∀ k, 432 ≤ k → k ≤ 592 → w' k = w k) (h142 : w 142 ≤ w' 142) (h21 : w 21 ≤ w' 21) : tS V' t w' :=
  ⟨by rw [h14, hw _ (by decide) (by decide)]; exact h.1, fun c a b => by
    rw [hw _ (by decide) (by decide)] at b
    have h1 := h.1
    have h2 := h.2 c a b
    rw [hV _ _ (by omega) (by omega), hV _ _ (by omega) (by omega), hV _ _ (by omega) (by omega), hV _ _ (by omega) (by omega), hw (433 + 4 * c) (by omega) (by omega), hw (433 + 4 * c + 1) (by omega) (by omega), hw (433 + 4 * c + 2) (by omega) (by omega), hw (433 + 4 * c + 3) (by omega) (by omega)]
    exact ⟨⟨h2.1.1, h2.1.2.1, by omega⟩, ⟨h2.2.1.1, h2.2.1.2.1, by omega⟩, ⟨h2.2.2.1.1, h2.2.2.1.2.1, by omega⟩, h2.2.2.2⟩⟩
theorem tA.fw {J J' : qJ} {cs : Int → Int → Prop} (h : tA V J t w cs) (h0 : V' t 0 = V t 0) (hw : w' 593 = w 593) (hJ : ∀ j, J' (t + 1) j = J (t + 1) j) : tA V' J' t w' cs :=
  ⟨by rw [h0, hw]; exact h.1, fun v a b => by rw [hJ, hw]; exact h.2 v a b⟩
end
/-- what was told is told on; all else but scratch stays -/
theorem Rel.tl {n n' : Int} {V V' : qV} {J J' : qJ} (h : Rel n V J) (hn : n ≤ n') (hV : ∀ o j, ¬ scrC o j → ¬ (12 ≤ o ∧ o ≤ 149) → o ≠ 603 → V' o j = V o j) (hJ : ∀ o j, o ≠ 13 → J' o j = J o j) (h593 : V' 603 593 = V 603 593) (ht : tR V' J' 12 (V' 603) (cS V)) : Rel n' V' J' := by
  obtain ⟨h1, h2, h3, h4, h5, h6, h7, h8, h9⟩ := h
  have a : ∀ o j, (173 ≤ o ∧ o ≤ 601) ∨ (604 ≤ o ∧ o ≤ 613) ∨ o = 0 ∨ o = 2 ∨ o = 621 ∨ o = 623 ∨ o = 151 ∨ o = 152 ∨ (159 ≤ o ∧ o ≤ 165) ∨ 625 ≤ o → V' o j = V o j := fun o j ho => hV o j (by unfold scrC; omega) (by omega) (by omega)
  have b : ∀ o j, (o = 1 ∧ (j = 1 ∨ j = 12)) ∨ (o = 602 ∧ (j = 11 ∨ j = 12 ∨ j = 20 ∨ j = 33)) → V' o j = V o j := fun o j ho => hV o j (by unfold scrC; omega) (by omega) (by omega)
  have ecs : cS V' = cS V := cS_fr (fun o j p q => a o j (by omega))
  have ewI : ∀ i, wI V' i = wI V i := fun i => by funext k; unfold wI; exact a _ _ (by omega)
  refine ⟨?_, ?_, ?_, ?_, ?_, ?_, ?_, ?_, ?_⟩
  · refine ⟨by rw [b _ _ (by omega), b _ _ (by omega)]; exact h1.1, fun k p q => ?_⟩
    rw [a _ _ (by omega), a _ _ (by omega)]; exact h1.2 k p q
  · rw [b _ _ (by omega), b _ _ (by omega)]; exact h2
  · refine ⟨by rw [a _ _ (by omega), b _ _ (by omega)]; exact h3.1, fun l p q => ?_⟩
    rw [b _ _ (by omega)] at q
    exact (h3.2 l p q).fr (by have := h3.1; omega) (fun o j ho => a o j (by omega))
  · rw [ecs]; exact ht
  · refine ⟨by rw [a _ _ (by omega), b _ _ (by omega)]; exact h5.1, fun i p q => ?_, fun i j p q r => ?_⟩
    · rw [b _ _ (by omega)] at q
      have hi : i = 0 ∨ i = 1 ∨ i = 2 := by have := h5.1; omega
      rw [ewI, h593, ecs]
      exact ⟨(h5.2.1 i p q).1.fr (fun o j p q => a o j (by omega)) (fun j => hJ _ _ (by omega)), (h5.2.1 i p q).2⟩
    · rw [b _ _ (by omega)] at r
      rw [ewI, ewI]; exact h5.2.2 i j p q r
  · intro c p q
    rw [h593] at q
    have := h6 c p q
    unfold cW at this ⊢
    rw [a 611 _ (by omega), seg_fr (fun o j ho => a o j (by omega))]; exact this
  · exact h7.fr hn (fun o j p q => a o j (by omega)) (fun j => a _ _ (by have := h7.2.2.2.2.1.2; omega))
  · refine ⟨by rw [a _ _ (by omega)]; exact h8.1, fun q v p r => ?_⟩
    rw [a _ _ (by omega)] at q
    have := h8.2 q v p r
    unfold s0 at this ⊢
    rw [hJ _ _ (by decide)]; exact this
  · intro k p q
    rw [a _ _ (by omega)]; exact h9 k p q
/-- nothing but scratch, the riddle and the judge apart -/
theorem Rel.sc0 {n n' : Int} {V V' : qV} {J J' : qJ} (h : Rel n V J) (hn : n ≤ n') (hV : ∀ o j, ¬ scrC o j → V' o j = V o j) (hJ : ∀ o j, o ≠ 154 → o ≠ 156 → o ≠ 158 → o ≠ 166 → o ≠ 167 → o ≠ 624 → J' o j = J o j) : Rel n' V' J' := by
  have a : ∀ o j, o = 151 ∨ (159 ≤ o ∧ o ≤ 165) ∨ 625 ≤ o → V' o j = V o j := fun o j ho => hV o j (by unfold scrC; omega)
  refine h.sc hn (fun o j p _ _ _ => hV o j p) (fun o j ho => hJ o j (by omega) (by omega) (by omega) (by omega) (by omega) (by omega)) ?_ ?_
  · have h7 := h.2.2.2.2.2.2.1
    exact h7.fr hn (fun o j p q => a o j (by omega)) (fun j => hV _ _ (by have := h7.2.2.2.2.1.2; unfold scrC; omega))
  · have h8 := h.2.2.2.2.2.2.2.1
    refine ⟨by rw [a _ _ (by omega)]; exact h8.1, fun q v p r => ?_⟩
    rw [a _ _ (by omega)] at q
    have := h8.2 q v p r
    unfold s0 at this ⊢
    rw [hJ _ _ (by decide) (by decide) (by decide) (by decide) (by decide) (by decide)]; exact this
theorem fl_x {α : Type} {f : Int → Int → α} {o a b i j : Int} {c : Int → α} (h : ¬ (i = o ∧ a ≤ j ∧ j < b)) : fl f o a b c i j = f i j := by simp only [fl]; rw [if_neg h]
theorem fl_y {α : Type} {f : Int → Int → α} {o a b i j : Int} {c : Int → α} (h : i = o ∧ a ≤ j ∧ j < b) : fl f o a b c i j = c j := by simp only [fl]; rw [if_pos h]
theorem qu_y {α : Type} {f : Int → Int → α} {a k i j : Int} {v : α} (h : i = a ∧ j = k) : qu f a k v i j = v := by obtain ⟨rfl, rfl⟩ := h; exact qu_s _ _ _ _
