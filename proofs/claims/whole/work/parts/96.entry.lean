/-! the law itself: its frame, what it reads, what it looks at behind a call -/
def M_E : zM := (yL_law_, code, 8, ret, [])
def QE : zQ := fun o _ _ _ => o = .inl (some (.int 1))
abbrev LE (i : Int) (a b c : Option Value) : zL := [some (.ref (zXB + 4)), some (.ref 0), some (.ref 602), some (.ref 624), some (.int (iI i)), a, b, c]
theorem LE_f {i : Int} {a b c : Option Value} : ∀ (j : Nat) (v : Value), (LE i none none none)[j]? = some (some v) → (LE i a b c)[j]? = some (some v)
  | 0, _, h => h
  | 1, _, h => h
  | 2, _, h => h
  | 3, _, h => h
  | 4, _, h => h
  | 5, _, h => by cases h
  | 6, _, h => by cases h
  | 7, _, h => by cases h
  | j + 8, _, h => by simp [LE] at h
theorem zRbE {n : Nat} {i : Int} (hn : 625 ≤ n) : zRb n (LE i none none none) [] := by
  refine ⟨fun j v h => ?_, fun v h => nomatch h⟩
  match j, h with
  | 0, h => cases h; simp [zrb]
  | 1, h => cases h; simp only [zrb, Bool.or_eq_true, decide_eq_true_eq]; exact Or.inl (Nat.lt_of_lt_of_le (by decide) hn)
  | 2, h => cases h; simp only [zrb, Bool.or_eq_true, decide_eq_true_eq]; exact Or.inl (Nat.lt_of_lt_of_le (by decide) hn)
  | 3, h => cases h; simp only [zrb, Bool.or_eq_true, decide_eq_true_eq]; exact Or.inl (Nat.lt_of_lt_of_le (by decide) hn)
  | 4, h => cases h; rfl
  | 5, h => cases h
  | 6, h => cases h
  | 7, h => cases h
  | j + 8, h => simp [LE] at h
theorem Rel.out {n : Int} {V : qV} {J : qJ} (h : Rel n V J) (x : Int64) : Rel n V (qu J 624 0 x) := h.sc0 (Int.le_refl _) (fun _ _ _ => rfl) (fun o j _ _ _ _ _ h => qu_o _ _ h j)
theorem scV.tr {V V1 V2 : qV} (h : scV V V1) (k : scV V1 V2) : scV V V2 := ⟨k.1.trans h.1, fun j hj => (k.2 j hj).trans (h.2 j hj)⟩
section
variable {μ : zM} {d kc ks kc' ks' pc nx k : Nat} {L L' : zL} {st : List Value} {S : zS} {I : zI} {J : zJ} {Q : zQ} {tb : zTb} {V : qV}
theorem Z.wid (h : Z μ d kc' ks' pc L st S I J Q) (h1 : kc' ≤ kc) (h2 : ks' ≤ ks) : Z μ d kc ks pc L st S I J Q := fun p l e R s m args below meth c X D aC ad ad0 n0 ls H locs cells slots mc ms hF hB hH hG hS hL hc hs => h p l e R s m args below meth c X D aC ad ad0 n0 ls H locs cells slots mc ms hF hB hH hG hS hL (by omega) (by omega)
theorem Z.sub (h : Z μ d kc ks pc L st S I J Q) (hl : ∀ (j : Nat) (v : Value), L[j]? = some (some v) → L'[j]? = some (some v)) : Z μ d kc ks pc L' st S I J Q := fun p l e R s m args below meth c X D aC ad ad0 n0 ls H locs cells slots mc ms hF hB hH hG hS hL hc hs => h p l e R s m args below meth c X D aC ad ad0 n0 ls H locs cells slots mc ms hF hB hH hG hS ⟨hL.1, hL.2.1, fun j v hj => hL.2.2 j v (hl j v hj)⟩ hc hs
/-- script[i + j] -/
theorem q_arg {i j a : Int} {p1 p2 p3 p4 : Nat} (hB : qB S V) (ht : zT μ tb) (h1 : zat tb k = some (pc, .aload_n 0, 1, p1)) (h2 : zat tb (k + 1) = some (p1, .iload 4, 2, p2)) (h3 : zat tb (k + 2) = some (p2, .iconst j, 1, p3)) (h4 : zat tb (k + 3) = some (p3, .iadd, 1, p4)) (h5 : zat tb (k + 4) = some (p4, .iaload, 1, nx))
    (l0 : L[0]? = some (some (.ref (zXB + 4)))) (l4 : L[4]? = some (some (.int (iI i)))) (hz : 0 ≤ i + j ∧ i + j < V 1000005 0) (he : V 1000004 (i + j) = a) (kk : Z μ d kc ks nx L (.int (iI a) :: st) S I J Q) : Z μ d kc ks pc L st S I J Q := by
  refine z_aload_n ht h1 l0 (z_iload ht h2 l4 (y_iconst ht h3 (y_iadd ht h4 (q_sld hB ht h5 hz ?_))))
  rw [he]; exact kk
end
