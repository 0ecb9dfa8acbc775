/-! the reference: names of a find -/
set_option maxHeartbeats 4000000 in
set_option maxRecDepth 20000 in
theorem c_find_ {S : zS} {V : Nat → Nat → Int} {J : zJ} (d f : Nat) : Z M_X11_find_ d 0 0 0 [some (.int (iI ((f : Int))))] [] S (zi V) J (zRt (some (.int (iI (143 + 27 * (f : Int))))) S (zi V) J) := by
  refine y_sipush Q_X11_find_ (k := 0) rfl (by decide) ?_
  refine y_bipush Q_X11_find_ (k := 1) rfl (by decide) ?_
  refine z_iload_n Q_X11_find_ (k := 2) rfl rfl ?_
  refine y_imul Q_X11_find_ (k := 3) rfl ?_
  refine y_iadd Q_X11_find_ (k := 4) rfl ?_
  exact y_iret Q_X11_find_ (k := 5) rfl rfl (⟨rfl, rfl, rfl, rfl⟩)
set_option maxHeartbeats 4000000 in
set_option maxRecDepth 20000 in
theorem c_isFirstMark {S : zS} {V : Nat → Nat → Int} {J : zJ} {v m : Int} (d : Nat) : Z M_X11_isFirstMark d 0 0 0 [some (.int (iI (v))), some (.int (iI (m)))] [] S (zi V) J (zRt (some (.int (iI (if zshr v m = 1 then 1 else 0)))) S (zi V) J) := by
  refine z_iload_n Q_X11_isFirstMark (k := 0) rfl rfl ?_
  refine z_iload_n Q_X11_isFirstMark (k := 1) rfl rfl ?_
  refine y_ishr Q_X11_isFirstMark (k := 2) rfl ?_
  refine y_iconst Q_X11_isFirstMark (k := 3) rfl ?_
  refine y_icmp_ne 11 Q_X11_isFirstMark (k := 4) rfl (by decide) (zshr_r _ _) ⟨by decide, by decide⟩ (fun c4 => ?_) (fun c4 => ?_)
  · refine y_iconst Q_X11_isFirstMark (k := 7) rfl ?_
    exact y_zret Q_X11_isFirstMark (k := 8) rfl rfl (by first | exact Or.inl rfl | exact Or.inr rfl | omega) (by simp only [if_neg (show ¬ zshr v m = 1 by omega)]; exact zRt_i _ _ _ _)
  · refine y_iconst Q_X11_isFirstMark (k := 5) rfl ?_
    refine z_goto (tgt := 12) Q_X11_isFirstMark (k := 6) rfl (by decide) ?_
    exact y_zret Q_X11_isFirstMark (k := 8) rfl rfl (by first | exact Or.inl rfl | exact Or.inr rfl | omega) (by simp only [if_pos (show zshr v m = 1 by omega)]; exact zRt_i _ _ _ _)
def alF (w : Nat → Int) (pl : Nat) : Nat → Int
  | 0 => 0
  | k + 1 => alF w pl k + w (70 + 4 * k + pl)
def owF (w : Nat → Int) (pl : Nat) : Nat → Int
  | 0 => 0
  | k + 1 => owF w pl k + if w (22 + k) = 0 then w (70 + 4 * k + pl) else 0
def ownR (w : Nat → Int) (pl n : Nat) : Int := if alF w pl n = 0 then 0 else (100 * owF w pl n).tdiv (alF w pl n)
theorem alF_b {w : Nat → Int} {pl : Nat} (h : ∀ p, p < 16 → 0 ≤ w (70 + 4 * p + pl) ∧ w (70 + 4 * p + pl) ≤ 99) : ∀ n, n ≤ 16 → 0 ≤ alF w pl n ∧ alF w pl n ≤ 99 * n ∧ 0 ≤ owF w pl n ∧ owF w pl n ≤ 99 * n
  | 0, _ => by simp [alF, owF]
  | n + 1, hn => by
    have h1 := alF_b h n (by omega)
    have h2 := h n (by omega)
    simp only [alF, owF]
    split <;> refine ⟨?_, ?_, ?_, ?_⟩ <;> push_cast <;> omega
set_option maxHeartbeats 4000000 in
set_option maxRecDepth 20000 in
theorem lp_ownOf {S : zS} {V : Nat → Nat → Int} {J : zJ} (d : Nat) (hS : zSh S) (hV : ∀ a j, zr (V a j)) {n pl : Nat} (hn : V 603 21 = (n : Int)) (hn2 : n ≤ 16) (hpl : pl < 4) (hp : ∀ p, p < 16 → 0 ≤ V 603 (70 + 4 * p + pl) ∧ V 603 (70 + 4 * p + pl) ≤ 99) : ∀ (f : Nat) (k : Nat), k ≤ n → n - k < f → Z M_X11_ownOf d 0 0 7 [some (.ref 602), some (.int (iI ((pl : Int)))), some (.int (iI (alF (V 603) pl k))), some (.int (iI (owF (V 603) pl k))), some (.int (iI ((k : Int))))] [] S (zi V) J (zRt (some (.int (iI (ownR (V 603) pl n)))) S (zi V) J) := by
  intro f
  induction f with
  | zero => intro k hk hf; omega
  | succ f ih =>
    intro k hk hf
    have hb := alF_b hp k (by omega)
    refine z_iload Q_X11_ownOf (k := 6) rfl rfl ?_
    refine z_aload_n Q_X11_ownOf (k := 7) rfl rfl ?_
    refine z_getR Q_X11_ownOf (k := 8) rfl F_X11_13 rfl (n_ hS rfl) (k_602 hS) (r_602_1 hS) ?_
    refine y_bipush Q_X11_ownOf (k := 9) rfl (by decide) ?_
    refine y_ialdN Q_X11_ownOf (k := 10) rfl (n_ hS rfl) (k_603 hS) (z := 21) (j := 21) rfl (by decide) (by decide) ?_
    refine y_icmp_ge 76 Q_X11_ownOf (k := 11) rfl (by decide) ⟨by omega, by omega⟩ (hV _ _) (fun c16 => ?_) (fun c16 => ?_)
    · refine z_iload_n Q_X11_ownOf (k := 49) rfl rfl ?_
      refine y_if_ne 84 Q_X11_ownOf (k := 50) rfl (by decide) ⟨by omega, by omega⟩ (fun c77 => ?_) (fun c77 => ?_)
      · refine y_bipush Q_X11_ownOf (k := 53) rfl (by decide) ?_
        refine z_iload_n Q_X11_ownOf (k := 54) rfl rfl ?_
        refine y_imul Q_X11_ownOf (k := 55) rfl ?_
        refine z_iload_n Q_X11_ownOf (k := 56) rfl rfl ?_
        refine y_idiv Q_X11_ownOf (k := 57) rfl ⟨by omega, by omega⟩ (by first | decide | omega) ⟨by omega, by omega⟩ ?_
        exact y_iret Q_X11_ownOf (k := 58) rfl rfl (by rw [ownR, if_neg (by rw [← show k = n by omega]; assumption), ← show k = n by omega]; exact zRt_i _ _ _ _)
      · refine y_iconst Q_X11_ownOf (k := 51) rfl ?_
        refine z_goto (tgt := 90) Q_X11_ownOf (k := 52) rfl (by decide) ?_
        exact y_iret Q_X11_ownOf (k := 58) rfl rfl (by rw [ownR, if_pos (by rw [← show k = n by omega]; assumption)]; exact zRt_i _ _ _ _)
    · refine z_iload_n Q_X11_ownOf (k := 12) rfl rfl ?_
      refine z_aload_n Q_X11_ownOf (k := 13) rfl rfl ?_
      refine z_getR Q_X11_ownOf (k := 14) rfl F_X11_13 rfl (n_ hS rfl) (k_602 hS) (r_602_1 hS) ?_
      refine y_bipush Q_X11_ownOf (k := 15) rfl (by decide) ?_
      refine y_iconst Q_X11_ownOf (k := 16) rfl ?_
      refine z_iload Q_X11_ownOf (k := 17) rfl rfl ?_
      refine y_imul Q_X11_ownOf (k := 18) rfl ?_
      refine y_iadd Q_X11_ownOf (k := 19) rfl ?_
      refine z_iload_n Q_X11_ownOf (k := 20) rfl rfl ?_
      refine y_iadd Q_X11_ownOf (k := 21) rfl ?_
      refine y_ialdN Q_X11_ownOf (k := 22) rfl (n_ hS rfl) (k_603 hS) (z := ((70 + (4 * (k : Int))) + (pl : Int))) (j := ((70 + (4 * k)) + pl)) (by omega) (by omega) (by decide) ?_
      refine y_iadd Q_X11_ownOf (k := 23) rfl ?_
      refine y_istore_n (L' := [some (.ref 602), some (.int (iI ((pl : Int)))), some (.int (iI ((alF (V 603) pl k + V 603 (((70 + (4 * k)) + pl)))))), some (.int (iI (owF (V 603) pl k))), some (.int (iI ((k : Int))))]) Q_X11_ownOf (k := 24) rfl (by decide) rfl ?_
      refine z_iload_n Q_X11_ownOf (k := 25) rfl rfl ?_
      refine z_aload_n Q_X11_ownOf (k := 26) rfl rfl ?_
      refine z_getR Q_X11_ownOf (k := 27) rfl F_X11_13 rfl (n_ hS rfl) (k_602 hS) (r_602_1 hS) ?_
      refine y_bipush Q_X11_ownOf (k := 28) rfl (by decide) ?_
      refine z_iload Q_X11_ownOf (k := 29) rfl rfl ?_
      refine y_iadd Q_X11_ownOf (k := 30) rfl ?_
      refine y_ialdN Q_X11_ownOf (k := 31) rfl (n_ hS rfl) (k_603 hS) (z := (22 + (k : Int))) (j := (22 + k)) (by omega) (by omega) (by decide) ?_
      refine y_if_ne 67 Q_X11_ownOf (k := 32) rfl (by decide) (hV _ _) (fun c47 => ?_) (fun c47 => ?_)
      · refine y_iconst Q_X11_ownOf (k := 44) rfl ?_
        refine y_iadd Q_X11_ownOf (k := 45) rfl ?_
        refine y_istore_n (L' := [some (.ref 602), some (.int (iI ((pl : Int)))), some (.int (iI ((alF (V 603) pl k + V 603 (((70 + (4 * k)) + pl)))))), some (.int (iI ((owF (V 603) pl k + 0)))), some (.int (iI ((k : Int))))]) Q_X11_ownOf (k := 46) rfl (by decide) rfl ?_
        refine y_iinc (L' := [some (.ref 602), some (.int (iI ((pl : Int)))), some (.int (iI ((alF (V 603) pl k + V 603 (((70 + (4 * k)) + pl)))))), some (.int (iI ((owF (V 603) pl k + 0)))), some (.int (iI ((k : Int) + 1)))]) Q_X11_ownOf (k := 47) rfl (by decide) rfl rfl ?_
        refine z_goto (tgt := 7) Q_X11_ownOf (k := 48) rfl (by decide) ?_
        exact y_loc (by simp [alF, owF, c47, Nat.add_assoc]) (ih (k + 1) (by omega) (by omega))
      · refine z_aload_n Q_X11_ownOf (k := 33) rfl rfl ?_
        refine z_getR Q_X11_ownOf (k := 34) rfl F_X11_13 rfl (n_ hS rfl) (k_602 hS) (r_602_1 hS) ?_
        refine y_bipush Q_X11_ownOf (k := 35) rfl (by decide) ?_
        refine y_iconst Q_X11_ownOf (k := 36) rfl ?_
        refine z_iload Q_X11_ownOf (k := 37) rfl rfl ?_
        refine y_imul Q_X11_ownOf (k := 38) rfl ?_
        refine y_iadd Q_X11_ownOf (k := 39) rfl ?_
        refine z_iload_n Q_X11_ownOf (k := 40) rfl rfl ?_
        refine y_iadd Q_X11_ownOf (k := 41) rfl ?_
        refine y_ialdN Q_X11_ownOf (k := 42) rfl (n_ hS rfl) (k_603 hS) (z := ((70 + (4 * (k : Int))) + (pl : Int))) (j := ((70 + (4 * k)) + pl)) (by omega) (by omega) (by decide) ?_
        refine z_goto (tgt := 68) Q_X11_ownOf (k := 43) rfl (by decide) ?_
        refine y_iadd Q_X11_ownOf (k := 45) rfl ?_
        refine y_istore_n (L' := [some (.ref 602), some (.int (iI ((pl : Int)))), some (.int (iI ((alF (V 603) pl k + V 603 (((70 + (4 * k)) + pl)))))), some (.int (iI ((owF (V 603) pl k + V 603 (((70 + (4 * k)) + pl)))))), some (.int (iI ((k : Int))))]) Q_X11_ownOf (k := 46) rfl (by decide) rfl ?_
        refine y_iinc (L' := [some (.ref 602), some (.int (iI ((pl : Int)))), some (.int (iI ((alF (V 603) pl k + V 603 (((70 + (4 * k)) + pl)))))), some (.int (iI ((owF (V 603) pl k + V 603 (((70 + (4 * k)) + pl)))))), some (.int (iI ((k : Int) + 1)))]) Q_X11_ownOf (k := 47) rfl (by decide) rfl rfl ?_
        refine z_goto (tgt := 7) Q_X11_ownOf (k := 48) rfl (by decide) ?_
        exact y_loc (by simp [alF, owF, c47, Nat.add_assoc]) (ih (k + 1) (by omega) (by omega))
set_option maxHeartbeats 4000000 in
set_option maxRecDepth 20000 in
theorem c_ownOf {S : zS} {V : Nat → Nat → Int} {J : zJ} (d : Nat) (hS : zSh S) (hV : ∀ a j, zr (V a j)) {n pl : Nat} (hn : V 603 21 = (n : Int)) (hn2 : n ≤ 16) (hpl : pl < 4) (hp : ∀ p, p < 16 → 0 ≤ V 603 (70 + 4 * p + pl) ∧ V 603 (70 + 4 * p + pl) ≤ 99) : Z M_X11_ownOf d 0 0 0 [some (.ref 602), some (.int (iI ((pl : Int)))), none, none, none] [] S (zi V) J (zRt (some (.int (iI (ownR (V 603) pl n)))) S (zi V) J) := by
  refine y_iconst Q_X11_ownOf (k := 0) rfl ?_
  refine y_istore_n (L' := [some (.ref 602), some (.int (iI ((pl : Int)))), some (.int (iI (0))), none, none]) Q_X11_ownOf (k := 1) rfl (by decide) rfl ?_
  refine y_iconst Q_X11_ownOf (k := 2) rfl ?_
  refine y_istore_n (L' := [some (.ref 602), some (.int (iI ((pl : Int)))), some (.int (iI (0))), some (.int (iI (0))), none]) Q_X11_ownOf (k := 3) rfl (by decide) rfl ?_
  refine y_iconst Q_X11_ownOf (k := 4) rfl ?_
  refine y_istore (L' := [some (.ref 602), some (.int (iI ((pl : Int)))), some (.int (iI (0))), some (.int (iI (0))), some (.int (iI (0)))]) Q_X11_ownOf (k := 5) rfl (by decide) rfl ?_
  exact lp_ownOf d hS hV hn hn2 hpl hp (n + 1) 0 (by omega) (by omega)
