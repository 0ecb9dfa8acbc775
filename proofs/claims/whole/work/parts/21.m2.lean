/-! the reference: counts over persons -/
def bitsF (v : Int) : Nat → Int
  | 0 => 0
  | k + 1 => bitsF v k + zand (zshr v (k : Int)) 1
set_option maxHeartbeats 4000000 in
set_option maxRecDepth 20000 in
theorem lp_bitsOf {S : zS} {V : Nat → Nat → Int} {J : zJ} {v : Int} (d : Nat) (hv : zr v) : ∀ (f k : Nat), k ≤ 12 → 12 - k < f → Z M_X11_bitsOf d 0 0 4 [some (.int (iI (v))), some (.int (iI (bitsF v k))), some (.int (iI ((k : Int))))] [] S (zi V) J (zRt (some (.int (iI (bitsF v 12)))) S (zi V) J) := by
  intro f
  induction f with
  | zero => intro k h1 h2; omega
  | succ f ih =>
    intro k h1 h2
    refine z_iload_n Q_X11_bitsOf (k := 4) rfl rfl ?_
    refine y_bipush Q_X11_bitsOf (k := 5) rfl (by decide) ?_
    refine y_icmp_ge 24 Q_X11_bitsOf (k := 6) rfl (by decide) ⟨by omega, by omega⟩ ⟨by decide, by decide⟩ (fun c7 => ?_) (fun c7 => ?_)
    · refine z_iload_n Q_X11_bitsOf (k := 17) rfl rfl ?_
      exact y_iret Q_X11_bitsOf (k := 18) rfl rfl (by rw [show k = 12 by omega]; exact zRt_i _ _ _ _)
    · refine z_iload_n Q_X11_bitsOf (k := 7) rfl rfl ?_
      refine z_iload_n Q_X11_bitsOf (k := 8) rfl rfl ?_
      refine z_iload_n Q_X11_bitsOf (k := 9) rfl rfl ?_
      refine y_ishr Q_X11_bitsOf (k := 10) rfl ?_
      refine y_iconst Q_X11_bitsOf (k := 11) rfl ?_
      refine y_iand Q_X11_bitsOf (k := 12) rfl ?_
      refine y_iadd Q_X11_bitsOf (k := 13) rfl ?_
      refine y_istore_n (L' := [some (.int (iI (v))), some (.int (iI ((bitsF v k + zand (zshr (v) ((k : Int))) (1))))), some (.int (iI ((k : Int))))]) Q_X11_bitsOf (k := 14) rfl (by decide) rfl ?_
      refine y_iinc (L' := [some (.int (iI (v))), some (.int (iI ((bitsF v k + zand (zshr (v) ((k : Int))) (1))))), some (.int (iI ((k : Int) + 1)))]) Q_X11_bitsOf (k := 15) rfl (by decide) rfl rfl ?_
      refine z_goto (tgt := 4) Q_X11_bitsOf (k := 16) rfl (by decide) ?_
      exact y_loc (by simp [bitsF]) (ih (k + 1) (by omega) (by omega))
set_option maxHeartbeats 4000000 in
set_option maxRecDepth 20000 in
theorem c_bitsOf {S : zS} {V : Nat → Nat → Int} {J : zJ} {v : Int} (d : Nat) (hv : zr v) : Z M_X11_bitsOf d 0 0 0 [some (.int (iI (v))), none, none] [] S (zi V) J (zRt (some (.int (iI (bitsF v 12)))) S (zi V) J) := by
  refine y_iconst Q_X11_bitsOf (k := 0) rfl ?_
  refine y_istore_n (L' := [some (.int (iI (v))), some (.int (iI (0))), none]) Q_X11_bitsOf (k := 1) rfl (by decide) rfl ?_
  refine y_iconst Q_X11_bitsOf (k := 2) rfl ?_
  refine y_istore_n (L' := [some (.int (iI (v))), some (.int (iI (0))), some (.int (iI (0)))]) Q_X11_bitsOf (k := 3) rfl (by decide) rfl ?_
  exact lp_bitsOf d hv 13 0 (by omega) (by omega)
def hvF (w : Nat → Int) (marks : Int) : Nat → Int
  | 0 => 0
  | k + 1 => hvF w marks k + if zand (w (38 + k)) marks = marks then 1 else 0
set_option maxHeartbeats 4000000 in
set_option maxRecDepth 20000 in
theorem lp_have {S : zS} {V : Nat → Nat → Int} {J : zJ} {marks : Int} (d : Nat) (hS : zSh S) (hV : ∀ a j, zr (V a j)) (hm : zr marks) {n : Nat} (hn : V 603 21 = (n : Int)) (hn2 : n ≤ 16) : ∀ (f k : Nat), k ≤ n → n - k < f → Z M_X11_have d 0 0 4 [some (.ref 602), some (.int (iI (marks))), some (.int (iI (hvF (V 603) marks k))), some (.int (iI ((k : Int))))] [] S (zi V) J (zRt (some (.int (iI (hvF (V 603) marks n)))) S (zi V) J) := by
  intro f
  induction f with
  | zero => intro k h1 h2; omega
  | succ f ih =>
    intro k h1 h2
    refine z_iload_n Q_X11_have (k := 4) rfl rfl ?_
    refine z_aload_n Q_X11_have (k := 5) rfl rfl ?_
    refine z_getR Q_X11_have (k := 6) rfl F_X11_13 rfl (n_ hS rfl) (k_602 hS) (r_602_1 hS) ?_
    refine y_bipush Q_X11_have (k := 7) rfl (by decide) ?_
    refine y_ialdN Q_X11_have (k := 8) rfl (n_ hS rfl) (k_603 hS) (z := 21) (j := 21) rfl (by decide) (by decide) ?_
    refine y_icmp_ge 44 Q_X11_have (k := 9) rfl (by decide) ⟨by omega, by omega⟩ (hV _ _) (fun c12 => ?_) (fun c12 => ?_)
    · refine z_iload_n Q_X11_have (k := 28) rfl rfl ?_
      exact y_iret Q_X11_have (k := 29) rfl rfl (by rw [show k = n by omega]; exact zRt_i _ _ _ _)
    · refine z_iload_n Q_X11_have (k := 10) rfl rfl ?_
      refine z_aload_n Q_X11_have (k := 11) rfl rfl ?_
      refine z_getR Q_X11_have (k := 12) rfl F_X11_13 rfl (n_ hS rfl) (k_602 hS) (r_602_1 hS) ?_
      refine y_bipush Q_X11_have (k := 13) rfl (by decide) ?_
      refine z_iload_n Q_X11_have (k := 14) rfl rfl ?_
      refine y_iadd Q_X11_have (k := 15) rfl ?_
      refine y_ialdN Q_X11_have (k := 16) rfl (n_ hS rfl) (k_603 hS) (z := (38 + (k : Int))) (j := (38 + k)) (by omega) (by omega) (by decide) ?_
      refine z_iload_n Q_X11_have (k := 17) rfl rfl ?_
      refine y_iand Q_X11_have (k := 18) rfl ?_
      refine z_iload_n Q_X11_have (k := 19) rfl rfl ?_
      refine y_icmp_ne 35 Q_X11_have (k := 20) rfl (by decide) (zand_r _ _) hm (fun c28 => ?_) (fun c28 => ?_)
      · refine y_iconst Q_X11_have (k := 23) rfl ?_
        refine y_iadd Q_X11_have (k := 24) rfl ?_
        refine y_istore_n (L' := [some (.ref 602), some (.int (iI (marks))), some (.int (iI ((hvF (V 603) marks k + 0)))), some (.int (iI ((k : Int))))]) Q_X11_have (k := 25) rfl (by decide) rfl ?_
        refine y_iinc (L' := [some (.ref 602), some (.int (iI (marks))), some (.int (iI ((hvF (V 603) marks k + 0)))), some (.int (iI ((k : Int) + 1)))]) Q_X11_have (k := 26) rfl (by decide) rfl rfl ?_
        refine z_goto (tgt := 4) Q_X11_have (k := 27) rfl (by decide) ?_
        exact y_loc (by simp [hvF, c28]) (ih (k + 1) (by omega) (by omega))
      · refine y_iconst Q_X11_have (k := 21) rfl ?_
        refine z_goto (tgt := 36) Q_X11_have (k := 22) rfl (by decide) ?_
        refine y_iadd Q_X11_have (k := 24) rfl ?_
        refine y_istore_n (L' := [some (.ref 602), some (.int (iI (marks))), some (.int (iI ((hvF (V 603) marks k + 1)))), some (.int (iI ((k : Int))))]) Q_X11_have (k := 25) rfl (by decide) rfl ?_
        refine y_iinc (L' := [some (.ref 602), some (.int (iI (marks))), some (.int (iI ((hvF (V 603) marks k + 1)))), some (.int (iI ((k : Int) + 1)))]) Q_X11_have (k := 26) rfl (by decide) rfl rfl ?_
        refine z_goto (tgt := 4) Q_X11_have (k := 27) rfl (by decide) ?_
        exact y_loc (by simp [hvF, c28]) (ih (k + 1) (by omega) (by omega))
set_option maxHeartbeats 4000000 in
set_option maxRecDepth 20000 in
theorem c_have {S : zS} {V : Nat → Nat → Int} {J : zJ} {marks : Int} (d : Nat) (hS : zSh S) (hV : ∀ a j, zr (V a j)) (hm : zr marks) {n : Nat} (hn : V 603 21 = (n : Int)) (hn2 : n ≤ 16) : Z M_X11_have d 0 0 0 [some (.ref 602), some (.int (iI (marks))), none, none] [] S (zi V) J (zRt (some (.int (iI (hvF (V 603) marks n)))) S (zi V) J) := by
  refine y_iconst Q_X11_have (k := 0) rfl ?_
  refine y_istore_n (L' := [some (.ref 602), some (.int (iI (marks))), some (.int (iI (0))), none]) Q_X11_have (k := 1) rfl (by decide) rfl ?_
  refine y_iconst Q_X11_have (k := 2) rfl ?_
  refine y_istore_n (L' := [some (.ref 602), some (.int (iI (marks))), some (.int (iI (0))), some (.int (iI (0)))]) Q_X11_have (k := 3) rfl (by decide) rfl ?_
  exact lp_have d hS hV hm hn hn2 (n + 1) 0 (by omega) (by omega)
