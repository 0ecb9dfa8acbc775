section
variable {μ : zM} {d kc ks pc nx k : Nat} {L : zL} {st : List Value} {S : zS} {I : zI} {J : zJ} {Q : zQ} {tb : zTb}
theorem y_switchK {dflt lo hi off x : Int} {offs : Array Int} {len j tgt : Nat} (ht : zT μ tb) (hk : zat tb k = some (pc, .tableswitch dflt lo hi offs, len, nx)) (hx : x = lo + (j : Int)) (hh : lo + (j : Int) ≤ hi) (hz : zr x) (ho : offs[j]? = some off) (hg : (pc : Int) + off = (tgt : Int)) (kk : Z μ d kc ks tgt L st S I J Q) : Z μ d kc ks pc L (.int (iI x) :: st) S I J Q := by
  intro p l e R s m args below meth c X D aC ad ad0 n0 ls H locs cells slots mc ms hF hB hH hG hS hL hc hs
  obtain ⟨hd, rfl⟩ := ht.at hk
  have ex : (iI x).toInt = x := iI_toInt hz
  refine lv_tableIn hF.1 hF.2.1 hd (x := iI x) (off := off) (by rw [ex]; omega) (by rw [ex]; omega) (by rw [ex, show (x - lo).toNat = j by omega]; exact ho) hg (kk p l e R s m args below meth c X D aC ad ad0 n0 ls H locs cells slots mc ms hF hB hH hG hS hL hc hs)
theorem y_switchD {dflt lo hi x : Int} {offs : Array Int} {len tgt : Nat} (ht : zT μ tb) (hk : zat tb k = some (pc, .tableswitch dflt lo hi offs, len, nx)) (hx : x < lo ∨ hi < x) (hz : zr x) (hg : (pc : Int) + dflt = (tgt : Int)) (kk : Z μ d kc ks tgt L st S I J Q) : Z μ d kc ks pc L (.int (iI x) :: st) S I J Q := by
  intro p l e R s m args below meth c X D aC ad ad0 n0 ls H locs cells slots mc ms hF hB hH hG hS hL hc hs
  obtain ⟨hd, rfl⟩ := ht.at hk
  exact lv_tableOut hF.1 hF.2.1 hd (by rw [iI_toInt hz]; exact hx) hg (kk p l e R s m args below meth c X D aC ad ad0 n0 ls H locs cells slots mc ms hF hB hH hG hS hL hc hs)
end
