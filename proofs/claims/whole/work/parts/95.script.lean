/-! the script: no call changes it -/
def zSc (S : zS) (Q : zQ) : zQ := fun o S' I' J' => Q o S' I' J' ∧ (S'.2.1 (zXB + 4)).2 = (S.2.1 (zXB + 4)).2 ∧ ∀ j, S'.1 (zXB + 4) j = S.1 (zXB + 4) j
theorem zScr.e {X : zX} {S S' : zS} (h : zScr X S) (h' : zScr X S') : (S'.2.1 (zXB + 4)).2 = (S.2.1 (zXB + 4)).2 ∧ ∀ j, S'.1 (zXB + 4) j = S.1 (zXB + 4) j :=
  ⟨h'.1.trans h.1.symm, fun j => (h'.2 j).trans (h.2 j).symm⟩
theorem Z.scr {μ : zM} {d kc ks pc : Nat} {L : zL} {st : List Value} {S : zS} {I : zI} {J : zJ} {Q : zQ} (h : Z μ d kc ks pc L st S I J Q) : Z μ d kc ks pc L st S I J (zSc S Q) := by
  intro p l e R s m args below meth c X D aC ad ad0 n0 ls H locs cells slots mc ms hF hB hH hG hS hL hc hs
  intro T hT X0
  obtain ⟨t, a1, o, b1, b2, b3⟩ := h p l e R s m args below meth c X D aC ad ad0 n0 ls H locs cells slots mc ms hF hB hH hG hS hL hc hs T hT X0
  refine ⟨t, a1, o, b1, b2, ?_⟩
  rcases b3 with ⟨⟨⟨v, S', I', J', ad', e1, e2, e3, e4⟩, f⟩, b4⟩ | ⟨q, r1, E, ce, L0, ⟨⟨S', I', J', ad', e2, e3, e4⟩, f⟩, rest⟩
  · exact Or.inl ⟨⟨⟨v, S', I', J', ad', e1, ⟨e2, zScr.e hH.2.2.2.2 e3.2.2.2.2⟩, e3, e4⟩, f⟩, b4⟩
  · exact Or.inr ⟨q, r1, E, ce, L0, ⟨⟨S', I', J', ad', ⟨e2, zScr.e hH.2.2.2.2 e3.2.2.2.2⟩, e3, e4⟩, f⟩, rest⟩
/-- what the law reads of the script -/
def scV (V V' : qV) : Prop := V' 1000005 0 = V 1000005 0 ∧ ∀ j, 0 ≤ j → V' 1000004 j = V 1000004 j
theorem scV.of {S S' : zS} {V V' : qV} (h : qB S V) (h' : qB S' V') (e : (S'.2.1 (zXB + 4)).2 = (S.2.1 (zXB + 4)).2 ∧ ∀ j, S'.1 (zXB + 4) j = S.1 (zXB + 4) j) : scV V V' := by
  obtain ⟨h1, h2, h3, h4, h5, h6, h7, h8⟩ := h
  obtain ⟨k1, k2, k3, k4, k5, k6, k7, k8⟩ := h'
  refine ⟨?_, fun j hj => ?_⟩
  · have := e.1
    rw [h8.2.2, k8.2.2] at this
    omega
  · obtain ⟨x, x1, x2⟩ := h7 j.toNat
    obtain ⟨y, y1, y2⟩ := k7 j.toNat
    rw [Int.toNat_of_nonneg hj] at x2 y2
    have exy : x = y := Option.some.inj (x1.symm.trans ((e.2 j.toNat).symm.trans y1))
    rw [exy, ← y2] at x2
    exact ((iI_eq (h2 _ _) (k2 _ _)).mp x2).symm
section
variable {μ : zM} {d kc ks pc nx k : Nat} {L : zL} {st : List Value} {S : zS} {I : zI} {J : zJ} {Q : zQ} {tb : zTb} {V : qV}
theorem q_sld {z : Int} (hB : qB S V) (ht : zT μ tb) (hk : zat tb k = some (pc, .iaload, 1, nx)) (hz : 0 ≤ z ∧ z < V 1000005 0) (kk : Z μ d kc ks nx L (.int (iI (V 1000004 z)) :: st) S I J Q) : Z μ d kc ks pc L (.int (iI z) :: .ref (zXB + 4) :: st) S I J Q := by
  obtain ⟨h1, h2, h3, h4, h5, h6, h7, h8⟩ := hB
  obtain ⟨x, x1, x2⟩ := h7 z.toNat
  rw [Int.toNat_of_nonneg hz.1] at x2
  refine z_sld ht hk (iI_idx hz.1) (by rw [h8.2.2]; omega) (by rw [h8.2.2]; omega) x1 ?_
  rw [← x2]; exact kk
theorem q_slen (hB : qB S V) (ht : zT μ tb) (hk : zat tb k = some (pc, .arraylength, 1, nx)) (kk : Z μ d kc ks nx L (.int (iI (V 1000005 0)) :: st) S I J Q) : Z μ d kc ks pc L (.ref (zXB + 4) :: st) S I J Q := by
  have h8 := hB.2.2.2.2.2.2.2
  refine z_slen ht hk ?_
  rw [h8.2.2, ← iI_idx h8.1]; exact kk
end
