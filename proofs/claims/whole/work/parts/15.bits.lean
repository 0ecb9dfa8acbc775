/-! bit work of ints, by its own value; reads at a place that is a Nat -/
def zand (a b : Int) : Int := (iI a &&& iI b).toInt
def zor (a b : Int) : Int := (iI a ||| iI b).toInt
def zxor (a b : Int) : Int := (iI a ^^^ iI b).toInt
def zshl (a b : Int) : Int := (iI a <<< (iI b &&& 31)).toInt
def zshr (a b : Int) : Int := (iI a >>> (iI b &&& 31)).toInt
def zlc (x y : Int64) : Int := (lg_cmp x y).toInt
theorem zand_r (a b : Int) : zr (zand a b) := zr_of _
theorem zor_r (a b : Int) : zr (zor a b) := zr_of _
theorem zxor_r (a b : Int) : zr (zxor a b) := zr_of _
theorem zshl_r (a b : Int) : zr (zshl a b) := zr_of _
theorem zshr_r (a b : Int) : zr (zshr a b) := zr_of _
theorem zlc_r (x y : Int64) : zr (zlc x y) := zr_of _
section
variable {μ : zM} {d kc ks pc nx k : Nat} {L : zL} {st : List Value} {S : zS} {I : zI} {V : Nat → Nat → Int} {J : zJ} {Q : zQ} {tb : zTb}
theorem y_iand {x y : Int} (ht : zT μ tb) (hk : zat tb k = some (pc, .iand, 1, nx)) (kk : Z μ d kc ks nx L (.int (iI (zand x y)) :: st) S I J Q) : Z μ d kc ks pc L (.int (iI y) :: .int (iI x) :: st) S I J Q := z_iand ht hk (y_raw (iI_of _) kk)
theorem y_ior {x y : Int} (ht : zT μ tb) (hk : zat tb k = some (pc, .ior, 1, nx)) (kk : Z μ d kc ks nx L (.int (iI (zor x y)) :: st) S I J Q) : Z μ d kc ks pc L (.int (iI y) :: .int (iI x) :: st) S I J Q := z_ior ht hk (y_raw (iI_of _) kk)
theorem y_ixor {x y : Int} (ht : zT μ tb) (hk : zat tb k = some (pc, .ixor, 1, nx)) (kk : Z μ d kc ks nx L (.int (iI (zxor x y)) :: st) S I J Q) : Z μ d kc ks pc L (.int (iI y) :: .int (iI x) :: st) S I J Q := z_ixor ht hk (y_raw (iI_of _) kk)
theorem y_ishl {x y : Int} (ht : zT μ tb) (hk : zat tb k = some (pc, .ishl, 1, nx)) (kk : Z μ d kc ks nx L (.int (iI (zshl x y)) :: st) S I J Q) : Z μ d kc ks pc L (.int (iI y) :: .int (iI x) :: st) S I J Q := z_ishl ht hk (y_raw (iI_of _) kk)
theorem y_ishr {x y : Int} (ht : zT μ tb) (hk : zat tb k = some (pc, .ishr, 1, nx)) (kk : Z μ d kc ks nx L (.int (iI (zshr x y)) :: st) S I J Q) : Z μ d kc ks pc L (.int (iI y) :: .int (iI x) :: st) S I J Q := z_ishr ht hk (y_raw (iI_of _) kk)
theorem y_lcmp {x y : Int64} (ht : zT μ tb) (hk : zat tb k = some (pc, .lcmp, 1, nx)) (kk : Z μ d kc ks nx L (.int (iI (zlc x y)) :: st) S I J Q) : Z μ d kc ks pc L (.long y :: .long x :: st) S I J Q := z_lcmp ht hk (y_raw (iI_of _) kk)
theorem y_ialdN {a n j : Nat} {z : Int} (ht : zT μ tb) (hk : zat tb k = some (pc, .iaload, 1, nx)) (ha : a < S.2.2) (hkd : S.2.1 a = (100, n)) (hz : z = (j : Int)) (hj : j < n) (hn : n ≤ 1000000) (kk : Z μ d kc ks nx L (.int (iI (V a j)) :: st) S (zi V) J Q) : Z μ d kc ks pc L (.int (iI z) :: .ref a :: st) S (zi V) J Q := z_iald ht hk ha hkd (by rw [hz, iI_nat]) hj hn kk
theorem y_baldN {a n j : Nat} {z : Int} (ht : zT μ tb) (hk : zat tb k = some (pc, .baload, 1, nx)) (ha : a < S.2.2) (hkd : S.2.1 a = (102, n)) (hz : z = (j : Int)) (hj : j < n) (hn : n ≤ 1000000) (kk : Z μ d kc ks nx L (.int (iI (V a j)) :: st) S (zi V) J Q) : Z μ d kc ks pc L (.int (iI z) :: .ref a :: st) S (zi V) J Q := z_bald ht hk ha hkd (by rw [hz, iI_nat]) hj hn kk
theorem y_zaldN {a n j : Nat} {z : Int} (ht : zT μ tb) (hk : zat tb k = some (pc, .baload, 1, nx)) (ha : a < S.2.2) (hkd : S.2.1 a = (103, n)) (hz : z = (j : Int)) (hj : j < n) (hn : n ≤ 1000000) (kk : Z μ d kc ks nx L (.int (iI (V a j)) :: st) S (zi V) J Q) : Z μ d kc ks pc L (.int (iI z) :: .ref a :: st) S (zi V) J Q := z_zald ht hk ha hkd (by rw [hz, iI_nat]) hj hn kk
theorem y_laldN {a n j : Nat} {z : Int} (ht : zT μ tb) (hk : zat tb k = some (pc, .laload, 1, nx)) (ha : a < S.2.2) (hkd : S.2.1 a = (101, n)) (hz : z = (j : Int)) (hj : j < n) (hn : n ≤ 1000000) (kk : Z μ d kc ks nx L (.long (J a j) :: st) S I J Q) : Z μ d kc ks pc L (.int (iI z) :: .ref a :: st) S I J Q := z_lald ht hk ha hkd (by rw [hz, iI_nat]) hj hn kk
theorem y_iastN {a n j : Nat} {z v : Int} (ht : zT μ tb) (hk : zat tb k = some (pc, .iastore, 1, nx)) (ha : a < S.2.2) (hkd : S.2.1 a = (100, n)) (hz : z = (j : Int)) (hj : j < n) (hn : n ≤ 1000000) (kk : Z μ d kc ks nx L st S (zi (zu V a j v)) J Q) : Z μ d kc ks pc L (.int (iI v) :: .int (iI z) :: .ref a :: st) S (zi V) J Q := z_iast ht hk ha hkd (by rw [hz, iI_nat]) hj hn (by rw [zi_zu]; exact kk)
theorem y_lastN {a n j : Nat} {z : Int} {v : Int64} (ht : zT μ tb) (hk : zat tb k = some (pc, .lastore, 1, nx)) (ha : a < S.2.2) (hkd : S.2.1 a = (101, n)) (hz : z = (j : Int)) (hj : j < n) (hn : n ≤ 1000000) (kk : Z μ d kc ks nx L st S I (zu J a j v) Q) : Z μ d kc ks pc L (.long v :: .int (iI z) :: .ref a :: st) S I J Q := z_last ht hk ha hkd (by rw [hz, iI_nat]) hj hn kk
theorem y_zastN {a n j : Nat} {z v : Int} (ht : zT μ tb) (hk : zat tb k = some (pc, .bastore, 1, nx)) (ha : a < S.2.2) (hkd : S.2.1 a = (103, n)) (hz : z = (j : Int)) (hj : j < n) (hn : n ≤ 1000000) (hv : v = 0 ∨ v = 1) (kk : Z μ d kc ks nx L st S (zi (zu V a j v)) J Q) : Z μ d kc ks pc L (.int (iI v) :: .int (iI z) :: .ref a :: st) S (zi V) J Q := z_zast ht hk ha hkd (by rw [hz, iI_nat]) hj hn (by rcases hv with rfl | rfl; exact Or.inl rfl; exact Or.inr rfl) (by rw [zi_zu]; exact kk)
theorem y_bastN {a n j : Nat} {z v : Int} (ht : zT μ tb) (hk : zat tb k = some (pc, .bastore, 1, nx)) (ha : a < S.2.2) (hkd : S.2.1 a = (102, n)) (hz : z = (j : Int)) (hj : j < n) (hn : n ≤ 1000000) (hv : -128 ≤ v) (hv2 : v < 128) (kk : Z μ d kc ks nx L st S (zi (zu V a j v)) J Q) : Z μ d kc ks pc L (.int (iI v) :: .int (iI z) :: .ref a :: st) S (zi V) J Q := z_bast ht hk ha hkd (by rw [hz, iI_nat]) hj hn (by rw [iI_byte hv hv2, zi_zu]; exact kk)
theorem y_aaldN {a t n b j : Nat} {C : String} {z : Int} (ht : zT μ tb) (hk : zat tb k = some (pc, .aaload, 1, nx)) (ha : a < S.2.2) (hkd : S.2.1 a = (100 + t, n)) (h4 : 4 ≤ t) (hty : zty[t]? = some (.object C)) (hz : z = (j : Int)) (hj : j < n) (hn : n ≤ 1000000) (hr : S.1 a j = some b) (kk : Z μ d kc ks nx L (.ref b :: st) S I J Q) : Z μ d kc ks pc L (.int (iI z) :: .ref a :: st) S I J Q := z_aald ht hk ha hkd h4 hty (by rw [hz, iI_nat]) hj hn hr kk
end
