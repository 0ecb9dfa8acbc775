/-! the reference: small methods -/
set_option maxHeartbeats 4000000 in
set_option maxRecDepth 20000 in
theorem c_within {S : zS} {V : Nat → Nat → Int} {J : zJ} {v a b : Int} (d : Nat) (hv : zr v) (ha : zr a) (hb : zr b) : Z M_X11_within d 0 0 0 [some (.int (iI (v))), some (.int (iI (a))), some (.int (iI (b)))] [] S (zi V) J (zRt (some (.int (iI (if a ≤ v ∧ v ≤ b then 1 else 0)))) S (zi V) J) := by
  refine z_iload_n Q_X11_within (k := 0) rfl rfl ?_
  refine z_iload_n Q_X11_within (k := 1) rfl rfl ?_
  refine y_icmp_lt 14 Q_X11_within (k := 2) rfl (by decide) hv ha (fun c2 => ?_) (fun c2 => ?_)
  · refine y_iconst Q_X11_within (k := 8) rfl ?_
    exact y_zret Q_X11_within (k := 9) rfl rfl (by first | exact Or.inl rfl | exact Or.inr rfl | omega) (by rw [if_neg (by omega)]; exact zRt_i _ _ _ _)
  · refine z_iload_n Q_X11_within (k := 3) rfl rfl ?_
    refine z_iload_n Q_X11_within (k := 4) rfl rfl ?_
    refine y_icmp_gt 14 Q_X11_within (k := 5) rfl (by decide) hv hb (fun c7 => ?_) (fun c7 => ?_)
    · refine y_iconst Q_X11_within (k := 8) rfl ?_
      exact y_zret Q_X11_within (k := 9) rfl rfl (by first | exact Or.inl rfl | exact Or.inr rfl | omega) (by rw [if_neg (by omega)]; exact zRt_i _ _ _ _)
    · refine y_iconst Q_X11_within (k := 6) rfl ?_
      refine z_goto (tgt := 15) Q_X11_within (k := 7) rfl (by decide) ?_
      exact y_zret Q_X11_within (k := 9) rfl rfl (by first | exact Or.inl rfl | exact Or.inr rfl | omega) (by rw [if_pos (by omega)]; exact zRt_i _ _ _ _)
set_option maxHeartbeats 4000000 in
set_option maxRecDepth 20000 in
theorem c_isSmall {S : zS} {V : Nat → Nat → Int} {J : zJ} {v : Int} (d : Nat) (hv : zr v) : Z M_X11_isSmall d 0 0 0 [some (.int (iI (v)))] [] S (zi V) J (zRt (some (.int (iI (if 97 ≤ v ∧ v ≤ 122 then 1 else 0)))) S (zi V) J) := by
  refine z_iload_n Q_X11_isSmall (k := 0) rfl rfl ?_
  refine y_bipush Q_X11_isSmall (k := 1) rfl (by decide) ?_
  refine y_icmp_lt 16 Q_X11_isSmall (k := 2) rfl (by decide) hv ⟨by decide, by decide⟩ (fun c3 => ?_) (fun c3 => ?_)
  · refine y_iconst Q_X11_isSmall (k := 8) rfl ?_
    exact y_zret Q_X11_isSmall (k := 9) rfl rfl (by first | exact Or.inl rfl | exact Or.inr rfl | omega) (by rw [if_neg (by omega)]; exact zRt_i _ _ _ _)
  · refine z_iload_n Q_X11_isSmall (k := 3) rfl rfl ?_
    refine y_bipush Q_X11_isSmall (k := 4) rfl (by decide) ?_
    refine y_icmp_gt 16 Q_X11_isSmall (k := 5) rfl (by decide) hv ⟨by decide, by decide⟩ (fun c9 => ?_) (fun c9 => ?_)
    · refine y_iconst Q_X11_isSmall (k := 8) rfl ?_
      exact y_zret Q_X11_isSmall (k := 9) rfl rfl (by first | exact Or.inl rfl | exact Or.inr rfl | omega) (by rw [if_neg (by omega)]; exact zRt_i _ _ _ _)
    · refine y_iconst Q_X11_isSmall (k := 6) rfl ?_
      refine z_goto (tgt := 17) Q_X11_isSmall (k := 7) rfl (by decide) ?_
      exact y_zret Q_X11_isSmall (k := 9) rfl rfl (by first | exact Or.inl rfl | exact Or.inr rfl | omega) (by rw [if_pos (by omega)]; exact zRt_i _ _ _ _)
set_option maxHeartbeats 4000000 in
set_option maxRecDepth 20000 in
theorem c_isDigit {S : zS} {V : Nat → Nat → Int} {J : zJ} {v : Int} (d : Nat) (hv : zr v) : Z M_X11_isDigit d 0 0 0 [some (.int (iI (v)))] [] S (zi V) J (zRt (some (.int (iI (if 48 ≤ v ∧ v ≤ 57 then 1 else 0)))) S (zi V) J) := by
  refine z_iload_n Q_X11_isDigit (k := 0) rfl rfl ?_
  refine y_bipush Q_X11_isDigit (k := 1) rfl (by decide) ?_
  refine y_icmp_lt 16 Q_X11_isDigit (k := 2) rfl (by decide) hv ⟨by decide, by decide⟩ (fun c3 => ?_) (fun c3 => ?_)
  · refine y_iconst Q_X11_isDigit (k := 8) rfl ?_
    exact y_zret Q_X11_isDigit (k := 9) rfl rfl (by first | exact Or.inl rfl | exact Or.inr rfl | omega) (by rw [if_neg (by omega)]; exact zRt_i _ _ _ _)
  · refine z_iload_n Q_X11_isDigit (k := 3) rfl rfl ?_
    refine y_bipush Q_X11_isDigit (k := 4) rfl (by decide) ?_
    refine y_icmp_gt 16 Q_X11_isDigit (k := 5) rfl (by decide) hv ⟨by decide, by decide⟩ (fun c9 => ?_) (fun c9 => ?_)
    · refine y_iconst Q_X11_isDigit (k := 8) rfl ?_
      exact y_zret Q_X11_isDigit (k := 9) rfl rfl (by first | exact Or.inl rfl | exact Or.inr rfl | omega) (by rw [if_neg (by omega)]; exact zRt_i _ _ _ _)
    · refine y_iconst Q_X11_isDigit (k := 6) rfl ?_
      refine z_goto (tgt := 17) Q_X11_isDigit (k := 7) rfl (by decide) ?_
      exact y_zret Q_X11_isDigit (k := 9) rfl rfl (by first | exact Or.inl rfl | exact Or.inr rfl | omega) (by rw [if_pos (by omega)]; exact zRt_i _ _ _ _)
set_option maxHeartbeats 4000000 in
set_option maxRecDepth 20000 in
theorem c_thrown {S : zS} {V : Nat → Nat → Int} {J : zJ} (hS : zSh S) (d : Nat) : Z M_X11_thrown d 0 0 0 [some (.ref 602)] [] S (zi V) J (zRt (some (.int (iI (V 602 0)))) S (zi V) J) := by
  refine z_aload_n Q_X11_thrown (k := 0) rfl rfl ?_
  refine y_getI Q_X11_thrown (k := 1) rfl F_X11_1 rfl (n_ hS rfl) (k_602 hS) ?_
  exact y_iret Q_X11_thrown (k := 2) rfl rfl (⟨rfl, rfl, rfl, rfl⟩)
