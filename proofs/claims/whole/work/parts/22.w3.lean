/-! methods keep their predicates -/
set_option maxHeartbeats 4000000 in
set_option maxRecDepth 20000 in
theorem w_X11_thrown {S : zS} {V : qV} {J : qJ} {Q : Int → Prop} (d : Nat) (hB : qB S V) (h : W_X11_thrown V Q) : Z M_X11_thrown d 0 0 0 [some (.ref 602)] [] S (qi V) (qj J) (qP_i S V J Q) := by
  unfold W_X11_thrown at h
  refine z_aload_n Q_X11_thrown (k := 0) rfl rfl ?_
  refine q_getI (o := 602) (z := 0) Q_X11_thrown (k := 1) rfl F_X11_1 rfl rfl rfl (n_ hB.1 rfl) (k_602 hB.1) ?_
  exact y_iret Q_X11_thrown (k := 2) rfl rfl (qI_i (hB.2.1 _ _) h)
set_option maxHeartbeats 4000000 in
set_option maxRecDepth 20000 in
theorem w_X11_may {S : zS} {V : qV} {J : qJ} {Q : Int → qV → Prop} (d : Nat) (hB : qB S V) {a1 : Int} (z1 : zr a1) (b1 : a1 = 0 ∨ a1 = 1) {a2 : Int} (z2 : zr a2) (h : W_X11_may a1 a2 V Q) : Z M_X11_may d 0 0 0 [some (.ref 602), some (.int (iI a1)), some (.int (iI a2))] [] S (qi V) (qj J) (qP_zV S J Q) := by
  unfold W_X11_may at h
  refine z_iload_n Q_X11_may (k := 0) rfl rfl ?_
  refine y_if_ne 16 Q_X11_may (k := 1) rfl (by decide) z1 (fun c => ?_) (fun c => ?_)
  · replace h := h.2 c
    refine z_aload_n Q_X11_may (k := 8) rfl rfl ?_
    refine q_getI (o := 602) (z := 0) Q_X11_may (k := 9) rfl F_X11_1 rfl rfl rfl (n_ hB.1 rfl) (k_602 hB.1) ?_
    refine y_if_ne 27 Q_X11_may (k := 10) rfl (by decide) (hB.2.1 _ _) (fun c => ?_) (fun c => ?_)
    · replace h := h.2 c
      refine y_iconst Q_X11_may (k := 13) rfl ?_
      exact y_zret Q_X11_may (k := 14) rfl rfl (Or.inl rfl) (qI_zV hB ⟨by decide, by decide⟩ (Or.inl rfl) h)
    · replace h := h.1 c
      refine y_iconst Q_X11_may (k := 11) rfl ?_
      refine z_goto (tgt := 28) Q_X11_may (k := 12) rfl (by decide) ?_
      exact y_zret Q_X11_may (k := 14) rfl rfl (Or.inr rfl) (qI_zV hB ⟨by decide, by decide⟩ (Or.inr rfl) h)
  · replace h := h.1 c
    refine z_aload_n Q_X11_may (k := 2) rfl rfl ?_
    refine q_getI (o := 602) (z := 0) Q_X11_may (k := 3) rfl F_X11_1 rfl rfl rfl (n_ hB.1 rfl) (k_602 hB.1) ?_
    refine y_if_ne 16 Q_X11_may (k := 4) rfl (by decide) (hB.2.1 _ _) (fun c => ?_) (fun c => ?_)
    · replace h := h.2 c
      refine z_aload_n Q_X11_may (k := 8) rfl rfl ?_
      refine q_getI (o := 602) (z := 0) Q_X11_may (k := 9) rfl F_X11_1 rfl rfl rfl (n_ hB.1 rfl) (k_602 hB.1) ?_
      refine y_if_ne 27 Q_X11_may (k := 10) rfl (by decide) (hB.2.1 _ _) (fun c => ?_) (fun c => ?_)
      · replace h := h.2 c
        refine y_iconst Q_X11_may (k := 13) rfl ?_
        exact y_zret Q_X11_may (k := 14) rfl rfl (Or.inl rfl) (qI_zV hB ⟨by decide, by decide⟩ (Or.inl rfl) h)
      · replace h := h.1 c
        refine y_iconst Q_X11_may (k := 11) rfl ?_
        refine z_goto (tgt := 28) Q_X11_may (k := 12) rfl (by decide) ?_
        exact y_zret Q_X11_may (k := 14) rfl rfl (Or.inr rfl) (qI_zV hB ⟨by decide, by decide⟩ (Or.inr rfl) h)
    · replace h := h.1 c
      refine z_aload_n Q_X11_may (k := 5) rfl rfl ?_
      refine z_iload_n Q_X11_may (k := 6) rfl rfl ?_
      refine q_putI (o := 602) (z := 0) Q_X11_may (k := 7) rfl F_X11_1 rfl rfl rfl (n_ hB.1 rfl) (k_602 hB.1) ?_
      have hB1 := qB.u (a := 602) (j := 0) (x := a2) hB z2 (Or.inl (by decide))
      refine z_aload_n Q_X11_may (k := 8) rfl rfl ?_
      refine q_getI (o := 602) (z := 0) Q_X11_may (k := 9) rfl F_X11_1 rfl rfl rfl (n_ hB1.1 rfl) (k_602 hB1.1) ?_
      refine y_if_ne 27 Q_X11_may (k := 10) rfl (by decide) (hB1.2.1 _ _) (fun c => ?_) (fun c => ?_)
      · replace h := h.2 c
        refine y_iconst Q_X11_may (k := 13) rfl ?_
        exact y_zret Q_X11_may (k := 14) rfl rfl (Or.inl rfl) (qI_zV hB1 ⟨by decide, by decide⟩ (Or.inl rfl) h)
      · replace h := h.1 c
        refine y_iconst Q_X11_may (k := 11) rfl ?_
        refine z_goto (tgt := 28) Q_X11_may (k := 12) rfl (by decide) ?_
        exact y_zret Q_X11_may (k := 14) rfl rfl (Or.inr rfl) (qI_zV hB1 ⟨by decide, by decide⟩ (Or.inr rfl) h)
set_option maxHeartbeats 4000000 in
set_option maxRecDepth 20000 in
theorem w_X11_within {S : zS} {V : qV} {J : qJ} {Q : Int → Prop} (d : Nat) (hB : qB S V) {a0 : Int} (z0 : zr a0) {a1 : Int} (z1 : zr a1) {a2 : Int} (z2 : zr a2) (h : W_X11_within a0 a1 a2 V Q) : Z M_X11_within d 0 0 0 [some (.int (iI a0)), some (.int (iI a1)), some (.int (iI a2))] [] S (qi V) (qj J) (qP_z S V J Q) := by
  unfold W_X11_within at h
  refine z_iload_n Q_X11_within (k := 0) rfl rfl ?_
  refine z_iload_n Q_X11_within (k := 1) rfl rfl ?_
  refine y_icmp_lt 14 Q_X11_within (k := 2) rfl (by decide) z0 z1 (fun c => ?_) (fun c => ?_)
  · replace h := h.1 c
    refine y_iconst Q_X11_within (k := 8) rfl ?_
    exact y_zret Q_X11_within (k := 9) rfl rfl (Or.inl rfl) (qI_z ⟨by decide, by decide⟩ (Or.inl rfl) h)
  · replace h := h.2 c
    refine z_iload_n Q_X11_within (k := 3) rfl rfl ?_
    refine z_iload_n Q_X11_within (k := 4) rfl rfl ?_
    refine y_icmp_gt 14 Q_X11_within (k := 5) rfl (by decide) z0 z2 (fun c => ?_) (fun c => ?_)
    · replace h := h.1 c
      refine y_iconst Q_X11_within (k := 8) rfl ?_
      exact y_zret Q_X11_within (k := 9) rfl rfl (Or.inl rfl) (qI_z ⟨by decide, by decide⟩ (Or.inl rfl) h)
    · replace h := h.2 c
      refine y_iconst Q_X11_within (k := 6) rfl ?_
      refine z_goto (tgt := 15) Q_X11_within (k := 7) rfl (by decide) ?_
      exact y_zret Q_X11_within (k := 9) rfl rfl (Or.inr rfl) (qI_z ⟨by decide, by decide⟩ (Or.inr rfl) h)
set_option maxHeartbeats 4000000 in
set_option maxRecDepth 20000 in
theorem v_X11_feed_23 {S : zS} {J : qJ} {K : Int → qV → Prop} {Q : Int → qV → Prop} {kc ks : Nat} (d : Nat) {l1 : Int} (z1 : zr l1) {l2 : Int} (z2 : zr l2) {l3 : Int} (z3 : zr l3) {l4 : Int} (z4 : zr l4) {l5 : Int} (z5 : zr l5) (hK : ∀ (l6 : Int) (V : qV), qB S V → zr l6 → K l6 V → Z M_X11_feed d kc ks 120 [some (.ref 602), some (.int (iI l1)), some (.int (iI l2)), some (.int (iI l3)), some (.int (iI l4)), some (.int (iI l5)), some (.int (iI l6)), none] [] S (qi V) (qj J) (qP_iV S J Q)) : ∀ (f : Nat) (l6 : Int) (V : qV), qB S V → zr l6 → lp_X11_feed_23 l1 l2 l3 l4 l5 K f l6 V → Z M_X11_feed d kc ks 23 [some (.ref 602), some (.int (iI l1)), some (.int (iI l2)), some (.int (iI l3)), some (.int (iI l4)), some (.int (iI l5)), some (.int (iI l6)), none] [] S (qi V) (qj J) (qP_iV S J Q) := by
  intro f
  induction f with
  | zero =>
    intro l6 V hB z6 h
    exact h.elim
  | succ f ih =>
    intro l6 V hB z6 h
    rw [lp_X11_feed_23] at h
    refine z_iload Q_X11_feed (k := 13) rfl rfl ?_
    refine y_bipush Q_X11_feed (k := 14) rfl (by decide) ?_
    refine y_icmp_ge 120 Q_X11_feed (k := 15) rfl (by decide) z6 ⟨by decide, by decide⟩ (fun c => ?_) (fun c => ?_)
    · replace h := h.1 c
      exact y_fg (zsb_c rfl (zsb_c rfl (zsb_c rfl (zsb_c rfl (zsb_c rfl (zsb_c rfl (zsb_c rfl (zsb_n zsb_e)))))))) (hK l6 V hB z6 h)
    · replace h := h.2 c
      refine z_iload Q_X11_feed (k := 16) rfl rfl ?_
      refine y_iconst Q_X11_feed (k := 17) rfl ?_
      refine y_icmp_ge 40 Q_X11_feed (k := 18) rfl (by decide) z6 ⟨by decide, by decide⟩ (fun c => ?_) (fun c => ?_)
      · replace h := h.1 c
        refine z_iload Q_X11_feed (k := 21) rfl rfl ?_
        refine y_bipush Q_X11_feed (k := 22) rfl (by decide) ?_
        refine y_icmp_ge 51 Q_X11_feed (k := 23) rfl (by decide) z6 ⟨by decide, by decide⟩ (fun c => ?_) (fun c => ?_)
        · replace h := h.1 c
          refine z_iload Q_X11_feed (k := 26) rfl rfl ?_
          refine y_bipush Q_X11_feed (k := 27) rfl (by decide) ?_
          refine y_icmp_ge 62 Q_X11_feed (k := 28) rfl (by decide) z6 ⟨by decide, by decide⟩ (fun c => ?_) (fun c => ?_)
          · replace h := h.1 c
            refine z_iload Q_X11_feed (k := 31) rfl rfl ?_
            refine y_bipush Q_X11_feed (k := 32) rfl (by decide) ?_
            refine y_icmp_ge 74 Q_X11_feed (k := 33) rfl (by decide) z6 ⟨by decide, by decide⟩ (fun c => ?_) (fun c => ?_)
            · replace h := h.1 c
              refine z_iload Q_X11_feed (k := 36) rfl rfl ?_
              refine y_istore (L' := [some (.ref 602), some (.int (iI l1)), some (.int (iI l2)), some (.int (iI l3)), some (.int (iI l4)), some (.int (iI l5)), some (.int (iI l6)), some (.int (iI l5))]) Q_X11_feed (k := 37) rfl (by decide) rfl ?_
              refine z_aload_n Q_X11_feed (k := 38) rfl rfl ?_
              refine z_getR (b := 613) Q_X11_feed (k := 39) rfl F_X11_47 rfl (n_ hB.1 rfl) (k_602 hB.1) (r_602_21 hB.1) ?_
              refine z_aload_n Q_X11_feed (k := 40) rfl rfl ?_
              refine q_getI (o := 602) (z := 12) Q_X11_feed (k := 41) rfl F_X11_82 rfl rfl rfl (n_ hB.1 rfl) (k_602 hB.1) ?_
              refine z_iload Q_X11_feed (k := 42) rfl rfl ?_
              refine y_bipush Q_X11_feed (k := 43) rfl (by decide) ?_
              refine y_bipush Q_X11_feed (k := 44) rfl (by decide) ?_
              refine z_iload Q_X11_feed (k := 45) rfl rfl ?_
              refine y_iconst Q_X11_feed (k := 46) rfl ?_
              refine q_irem Q_X11_feed (k := 47) rfl z6 (by decide) ⟨by decide, by decide⟩ ?_
              obtain ⟨q3, h⟩ := h
              refine y_imul Q_X11_feed (k := 48) rfl ?_
              obtain ⟨q4, h⟩ := h
              refine y_isub Q_X11_feed (k := 49) rfl ?_
              refine y_ishr Q_X11_feed (k := 50) rfl ?_
              refine y_sipush Q_X11_feed (k := 51) rfl (by decide) ?_
              refine y_iand Q_X11_feed (k := 52) rfl ?_
              obtain ⟨q5, h⟩ := h
              refine q_iast (o := 613) (N := 400) Q_X11_feed (k := 53) rfl rfl (n_ hB.1 rfl) (k_613 hB.1) rfl q5 (by decide) ?_
              have hB6 := qB.u (a := 613) (j := V 602 12) (x := zand (zshr l5 (24 - (8 * (l6.tmod 4)))) 255) hB (zand_r _ _) (Or.inl (by decide))
              refine z_aload_n Q_X11_feed (k := 54) rfl rfl ?_
              refine z_dup Q_X11_feed (k := 55) rfl rfl ?_
              refine q_getI (o := 602) (z := 12) Q_X11_feed (k := 56) rfl F_X11_82 rfl rfl rfl (n_ hB6.1 rfl) (k_602 hB6.1) ?_
              refine y_iconst Q_X11_feed (k := 57) rfl ?_
              obtain ⟨q7, h⟩ := h
              refine y_iadd Q_X11_feed (k := 58) rfl ?_
              refine q_putI (o := 602) (z := 12) Q_X11_feed (k := 59) rfl F_X11_82 rfl rfl rfl (n_ hB6.1 rfl) (k_602 hB6.1) ?_
              have hB8 := qB.u (a := 602) (j := 12) (x := ((qu V 613 (V 602 12) (zand (zshr l5 (24 - (8 * (l6.tmod 4)))) 255)) 602 12) + 1) hB6 q7 (Or.inl (by decide))
              obtain ⟨q9, h⟩ := h
              refine y_iinc (L' := [some (.ref 602), some (.int (iI l1)), some (.int (iI l2)), some (.int (iI l3)), some (.int (iI l4)), some (.int (iI l5)), some (.int (iI (l6 + 1))), some (.int (iI l5))]) Q_X11_feed (k := 60) rfl (by decide) rfl rfl ?_
              refine z_goto (tgt := 23) Q_X11_feed (k := 61) rfl (by decide) ?_
              exact y_fg (zsb_c rfl (zsb_c rfl (zsb_c rfl (zsb_c rfl (zsb_c rfl (zsb_c rfl (zsb_c rfl (zsb_n zsb_e)))))))) (ih (l6 + 1) (qu (qu V 613 (V 602 12) (zand (zshr l5 (24 - (8 * (l6.tmod 4)))) 255)) 602 12 (((qu V 613 (V 602 12) (zand (zshr l5 (24 - (8 * (l6.tmod 4)))) 255)) 602 12) + 1)) hB8 q9 h)
            · replace h := h.2 c
              refine z_iload Q_X11_feed (k := 34) rfl rfl ?_
              refine z_goto (tgt := 76) Q_X11_feed (k := 35) rfl (by decide) ?_
              refine y_istore (L' := [some (.ref 602), some (.int (iI l1)), some (.int (iI l2)), some (.int (iI l3)), some (.int (iI l4)), some (.int (iI l5)), some (.int (iI l6)), some (.int (iI l4))]) Q_X11_feed (k := 37) rfl (by decide) rfl ?_
              refine z_aload_n Q_X11_feed (k := 38) rfl rfl ?_
              refine z_getR (b := 613) Q_X11_feed (k := 39) rfl F_X11_47 rfl (n_ hB.1 rfl) (k_602 hB.1) (r_602_21 hB.1) ?_
              refine z_aload_n Q_X11_feed (k := 40) rfl rfl ?_
              refine q_getI (o := 602) (z := 12) Q_X11_feed (k := 41) rfl F_X11_82 rfl rfl rfl (n_ hB.1 rfl) (k_602 hB.1) ?_
              refine z_iload Q_X11_feed (k := 42) rfl rfl ?_
              refine y_bipush Q_X11_feed (k := 43) rfl (by decide) ?_
              refine y_bipush Q_X11_feed (k := 44) rfl (by decide) ?_
              refine z_iload Q_X11_feed (k := 45) rfl rfl ?_
              refine y_iconst Q_X11_feed (k := 46) rfl ?_
              refine q_irem Q_X11_feed (k := 47) rfl z6 (by decide) ⟨by decide, by decide⟩ ?_
              obtain ⟨q10, h⟩ := h
              refine y_imul Q_X11_feed (k := 48) rfl ?_
              obtain ⟨q11, h⟩ := h
              refine y_isub Q_X11_feed (k := 49) rfl ?_
              refine y_ishr Q_X11_feed (k := 50) rfl ?_
              refine y_sipush Q_X11_feed (k := 51) rfl (by decide) ?_
              refine y_iand Q_X11_feed (k := 52) rfl ?_
              obtain ⟨q12, h⟩ := h
              refine q_iast (o := 613) (N := 400) Q_X11_feed (k := 53) rfl rfl (n_ hB.1 rfl) (k_613 hB.1) rfl q12 (by decide) ?_
              have hB13 := qB.u (a := 613) (j := V 602 12) (x := zand (zshr l4 (24 - (8 * (l6.tmod 4)))) 255) hB (zand_r _ _) (Or.inl (by decide))
              refine z_aload_n Q_X11_feed (k := 54) rfl rfl ?_
              refine z_dup Q_X11_feed (k := 55) rfl rfl ?_
              refine q_getI (o := 602) (z := 12) Q_X11_feed (k := 56) rfl F_X11_82 rfl rfl rfl (n_ hB13.1 rfl) (k_602 hB13.1) ?_
              refine y_iconst Q_X11_feed (k := 57) rfl ?_
              obtain ⟨q14, h⟩ := h
              refine y_iadd Q_X11_feed (k := 58) rfl ?_
              refine q_putI (o := 602) (z := 12) Q_X11_feed (k := 59) rfl F_X11_82 rfl rfl rfl (n_ hB13.1 rfl) (k_602 hB13.1) ?_
              have hB15 := qB.u (a := 602) (j := 12) (x := ((qu V 613 (V 602 12) (zand (zshr l4 (24 - (8 * (l6.tmod 4)))) 255)) 602 12) + 1) hB13 q14 (Or.inl (by decide))
              obtain ⟨q16, h⟩ := h
              refine y_iinc (L' := [some (.ref 602), some (.int (iI l1)), some (.int (iI l2)), some (.int (iI l3)), some (.int (iI l4)), some (.int (iI l5)), some (.int (iI (l6 + 1))), some (.int (iI l4))]) Q_X11_feed (k := 60) rfl (by decide) rfl rfl ?_
              refine z_goto (tgt := 23) Q_X11_feed (k := 61) rfl (by decide) ?_
              exact y_fg (zsb_c rfl (zsb_c rfl (zsb_c rfl (zsb_c rfl (zsb_c rfl (zsb_c rfl (zsb_c rfl (zsb_n zsb_e)))))))) (ih (l6 + 1) (qu (qu V 613 (V 602 12) (zand (zshr l4 (24 - (8 * (l6.tmod 4)))) 255)) 602 12 (((qu V 613 (V 602 12) (zand (zshr l4 (24 - (8 * (l6.tmod 4)))) 255)) 602 12) + 1)) hB15 q16 h)
          · replace h := h.2 c
            refine z_iload_n Q_X11_feed (k := 29) rfl rfl ?_
            refine z_goto (tgt := 76) Q_X11_feed (k := 30) rfl (by decide) ?_
            refine y_istore (L' := [some (.ref 602), some (.int (iI l1)), some (.int (iI l2)), some (.int (iI l3)), some (.int (iI l4)), some (.int (iI l5)), some (.int (iI l6)), some (.int (iI l3))]) Q_X11_feed (k := 37) rfl (by decide) rfl ?_
            refine z_aload_n Q_X11_feed (k := 38) rfl rfl ?_
            refine z_getR (b := 613) Q_X11_feed (k := 39) rfl F_X11_47 rfl (n_ hB.1 rfl) (k_602 hB.1) (r_602_21 hB.1) ?_
            refine z_aload_n Q_X11_feed (k := 40) rfl rfl ?_
            refine q_getI (o := 602) (z := 12) Q_X11_feed (k := 41) rfl F_X11_82 rfl rfl rfl (n_ hB.1 rfl) (k_602 hB.1) ?_
            refine z_iload Q_X11_feed (k := 42) rfl rfl ?_
            refine y_bipush Q_X11_feed (k := 43) rfl (by decide) ?_
            refine y_bipush Q_X11_feed (k := 44) rfl (by decide) ?_
            refine z_iload Q_X11_feed (k := 45) rfl rfl ?_
            refine y_iconst Q_X11_feed (k := 46) rfl ?_
            refine q_irem Q_X11_feed (k := 47) rfl z6 (by decide) ⟨by decide, by decide⟩ ?_
            obtain ⟨q17, h⟩ := h
            refine y_imul Q_X11_feed (k := 48) rfl ?_
            obtain ⟨q18, h⟩ := h
            refine y_isub Q_X11_feed (k := 49) rfl ?_
            refine y_ishr Q_X11_feed (k := 50) rfl ?_
            refine y_sipush Q_X11_feed (k := 51) rfl (by decide) ?_
            refine y_iand Q_X11_feed (k := 52) rfl ?_
            obtain ⟨q19, h⟩ := h
            refine q_iast (o := 613) (N := 400) Q_X11_feed (k := 53) rfl rfl (n_ hB.1 rfl) (k_613 hB.1) rfl q19 (by decide) ?_
            have hB20 := qB.u (a := 613) (j := V 602 12) (x := zand (zshr l3 (24 - (8 * (l6.tmod 4)))) 255) hB (zand_r _ _) (Or.inl (by decide))
            refine z_aload_n Q_X11_feed (k := 54) rfl rfl ?_
            refine z_dup Q_X11_feed (k := 55) rfl rfl ?_
            refine q_getI (o := 602) (z := 12) Q_X11_feed (k := 56) rfl F_X11_82 rfl rfl rfl (n_ hB20.1 rfl) (k_602 hB20.1) ?_
            refine y_iconst Q_X11_feed (k := 57) rfl ?_
            obtain ⟨q21, h⟩ := h
            refine y_iadd Q_X11_feed (k := 58) rfl ?_
            refine q_putI (o := 602) (z := 12) Q_X11_feed (k := 59) rfl F_X11_82 rfl rfl rfl (n_ hB20.1 rfl) (k_602 hB20.1) ?_
            have hB22 := qB.u (a := 602) (j := 12) (x := ((qu V 613 (V 602 12) (zand (zshr l3 (24 - (8 * (l6.tmod 4)))) 255)) 602 12) + 1) hB20 q21 (Or.inl (by decide))
            obtain ⟨q23, h⟩ := h
            refine y_iinc (L' := [some (.ref 602), some (.int (iI l1)), some (.int (iI l2)), some (.int (iI l3)), some (.int (iI l4)), some (.int (iI l5)), some (.int (iI (l6 + 1))), some (.int (iI l3))]) Q_X11_feed (k := 60) rfl (by decide) rfl rfl ?_
            refine z_goto (tgt := 23) Q_X11_feed (k := 61) rfl (by decide) ?_
            exact y_fg (zsb_c rfl (zsb_c rfl (zsb_c rfl (zsb_c rfl (zsb_c rfl (zsb_c rfl (zsb_c rfl (zsb_n zsb_e)))))))) (ih (l6 + 1) (qu (qu V 613 (V 602 12) (zand (zshr l3 (24 - (8 * (l6.tmod 4)))) 255)) 602 12 (((qu V 613 (V 602 12) (zand (zshr l3 (24 - (8 * (l6.tmod 4)))) 255)) 602 12) + 1)) hB22 q23 h)
        · replace h := h.2 c
          refine z_iload_n Q_X11_feed (k := 24) rfl rfl ?_
          refine z_goto (tgt := 76) Q_X11_feed (k := 25) rfl (by decide) ?_
          refine y_istore (L' := [some (.ref 602), some (.int (iI l1)), some (.int (iI l2)), some (.int (iI l3)), some (.int (iI l4)), some (.int (iI l5)), some (.int (iI l6)), some (.int (iI l2))]) Q_X11_feed (k := 37) rfl (by decide) rfl ?_
          refine z_aload_n Q_X11_feed (k := 38) rfl rfl ?_
          refine z_getR (b := 613) Q_X11_feed (k := 39) rfl F_X11_47 rfl (n_ hB.1 rfl) (k_602 hB.1) (r_602_21 hB.1) ?_
          refine z_aload_n Q_X11_feed (k := 40) rfl rfl ?_
          refine q_getI (o := 602) (z := 12) Q_X11_feed (k := 41) rfl F_X11_82 rfl rfl rfl (n_ hB.1 rfl) (k_602 hB.1) ?_
          refine z_iload Q_X11_feed (k := 42) rfl rfl ?_
          refine y_bipush Q_X11_feed (k := 43) rfl (by decide) ?_
          refine y_bipush Q_X11_feed (k := 44) rfl (by decide) ?_
          refine z_iload Q_X11_feed (k := 45) rfl rfl ?_
          refine y_iconst Q_X11_feed (k := 46) rfl ?_
          refine q_irem Q_X11_feed (k := 47) rfl z6 (by decide) ⟨by decide, by decide⟩ ?_
          obtain ⟨q24, h⟩ := h
          refine y_imul Q_X11_feed (k := 48) rfl ?_
          obtain ⟨q25, h⟩ := h
          refine y_isub Q_X11_feed (k := 49) rfl ?_
          refine y_ishr Q_X11_feed (k := 50) rfl ?_
          refine y_sipush Q_X11_feed (k := 51) rfl (by decide) ?_
          refine y_iand Q_X11_feed (k := 52) rfl ?_
          obtain ⟨q26, h⟩ := h
          refine q_iast (o := 613) (N := 400) Q_X11_feed (k := 53) rfl rfl (n_ hB.1 rfl) (k_613 hB.1) rfl q26 (by decide) ?_
          have hB27 := qB.u (a := 613) (j := V 602 12) (x := zand (zshr l2 (24 - (8 * (l6.tmod 4)))) 255) hB (zand_r _ _) (Or.inl (by decide))
          refine z_aload_n Q_X11_feed (k := 54) rfl rfl ?_
          refine z_dup Q_X11_feed (k := 55) rfl rfl ?_
          refine q_getI (o := 602) (z := 12) Q_X11_feed (k := 56) rfl F_X11_82 rfl rfl rfl (n_ hB27.1 rfl) (k_602 hB27.1) ?_
          refine y_iconst Q_X11_feed (k := 57) rfl ?_
          obtain ⟨q28, h⟩ := h
          refine y_iadd Q_X11_feed (k := 58) rfl ?_
          refine q_putI (o := 602) (z := 12) Q_X11_feed (k := 59) rfl F_X11_82 rfl rfl rfl (n_ hB27.1 rfl) (k_602 hB27.1) ?_
          have hB29 := qB.u (a := 602) (j := 12) (x := ((qu V 613 (V 602 12) (zand (zshr l2 (24 - (8 * (l6.tmod 4)))) 255)) 602 12) + 1) hB27 q28 (Or.inl (by decide))
          obtain ⟨q30, h⟩ := h
          refine y_iinc (L' := [some (.ref 602), some (.int (iI l1)), some (.int (iI l2)), some (.int (iI l3)), some (.int (iI l4)), some (.int (iI l5)), some (.int (iI (l6 + 1))), some (.int (iI l2))]) Q_X11_feed (k := 60) rfl (by decide) rfl rfl ?_
          refine z_goto (tgt := 23) Q_X11_feed (k := 61) rfl (by decide) ?_
          exact y_fg (zsb_c rfl (zsb_c rfl (zsb_c rfl (zsb_c rfl (zsb_c rfl (zsb_c rfl (zsb_c rfl (zsb_n zsb_e)))))))) (ih (l6 + 1) (qu (qu V 613 (V 602 12) (zand (zshr l2 (24 - (8 * (l6.tmod 4)))) 255)) 602 12 (((qu V 613 (V 602 12) (zand (zshr l2 (24 - (8 * (l6.tmod 4)))) 255)) 602 12) + 1)) hB29 q30 h)
      · replace h := h.2 c
        refine z_iload_n Q_X11_feed (k := 19) rfl rfl ?_
        refine z_goto (tgt := 76) Q_X11_feed (k := 20) rfl (by decide) ?_
        refine y_istore (L' := [some (.ref 602), some (.int (iI l1)), some (.int (iI l2)), some (.int (iI l3)), some (.int (iI l4)), some (.int (iI l5)), some (.int (iI l6)), some (.int (iI l1))]) Q_X11_feed (k := 37) rfl (by decide) rfl ?_
        refine z_aload_n Q_X11_feed (k := 38) rfl rfl ?_
        refine z_getR (b := 613) Q_X11_feed (k := 39) rfl F_X11_47 rfl (n_ hB.1 rfl) (k_602 hB.1) (r_602_21 hB.1) ?_
        refine z_aload_n Q_X11_feed (k := 40) rfl rfl ?_
        refine q_getI (o := 602) (z := 12) Q_X11_feed (k := 41) rfl F_X11_82 rfl rfl rfl (n_ hB.1 rfl) (k_602 hB.1) ?_
        refine z_iload Q_X11_feed (k := 42) rfl rfl ?_
        refine y_bipush Q_X11_feed (k := 43) rfl (by decide) ?_
        refine y_bipush Q_X11_feed (k := 44) rfl (by decide) ?_
        refine z_iload Q_X11_feed (k := 45) rfl rfl ?_
        refine y_iconst Q_X11_feed (k := 46) rfl ?_
        refine q_irem Q_X11_feed (k := 47) rfl z6 (by decide) ⟨by decide, by decide⟩ ?_
        obtain ⟨q31, h⟩ := h
        refine y_imul Q_X11_feed (k := 48) rfl ?_
        obtain ⟨q32, h⟩ := h
        refine y_isub Q_X11_feed (k := 49) rfl ?_
        refine y_ishr Q_X11_feed (k := 50) rfl ?_
        refine y_sipush Q_X11_feed (k := 51) rfl (by decide) ?_
        refine y_iand Q_X11_feed (k := 52) rfl ?_
        obtain ⟨q33, h⟩ := h
        refine q_iast (o := 613) (N := 400) Q_X11_feed (k := 53) rfl rfl (n_ hB.1 rfl) (k_613 hB.1) rfl q33 (by decide) ?_
        have hB34 := qB.u (a := 613) (j := V 602 12) (x := zand (zshr l1 (24 - (8 * (l6.tmod 4)))) 255) hB (zand_r _ _) (Or.inl (by decide))
        refine z_aload_n Q_X11_feed (k := 54) rfl rfl ?_
        refine z_dup Q_X11_feed (k := 55) rfl rfl ?_
        refine q_getI (o := 602) (z := 12) Q_X11_feed (k := 56) rfl F_X11_82 rfl rfl rfl (n_ hB34.1 rfl) (k_602 hB34.1) ?_
        refine y_iconst Q_X11_feed (k := 57) rfl ?_
        obtain ⟨q35, h⟩ := h
        refine y_iadd Q_X11_feed (k := 58) rfl ?_
        refine q_putI (o := 602) (z := 12) Q_X11_feed (k := 59) rfl F_X11_82 rfl rfl rfl (n_ hB34.1 rfl) (k_602 hB34.1) ?_
        have hB36 := qB.u (a := 602) (j := 12) (x := ((qu V 613 (V 602 12) (zand (zshr l1 (24 - (8 * (l6.tmod 4)))) 255)) 602 12) + 1) hB34 q35 (Or.inl (by decide))
        obtain ⟨q37, h⟩ := h
        refine y_iinc (L' := [some (.ref 602), some (.int (iI l1)), some (.int (iI l2)), some (.int (iI l3)), some (.int (iI l4)), some (.int (iI l5)), some (.int (iI (l6 + 1))), some (.int (iI l1))]) Q_X11_feed (k := 60) rfl (by decide) rfl rfl ?_
        refine z_goto (tgt := 23) Q_X11_feed (k := 61) rfl (by decide) ?_
        exact y_fg (zsb_c rfl (zsb_c rfl (zsb_c rfl (zsb_c rfl (zsb_c rfl (zsb_c rfl (zsb_c rfl (zsb_n zsb_e)))))))) (ih (l6 + 1) (qu (qu V 613 (V 602 12) (zand (zshr l1 (24 - (8 * (l6.tmod 4)))) 255)) 602 12 (((qu V 613 (V 602 12) (zand (zshr l1 (24 - (8 * (l6.tmod 4)))) 255)) 602 12) + 1)) hB36 q37 h)
set_option maxHeartbeats 4000000 in
set_option maxRecDepth 20000 in
theorem w_X11_feed {S : zS} {V : qV} {J : qJ} {Q : Int → qV → Prop} (d : Nat) (hB : qB S V) {a1 : Int} (z1 : zr a1) {a2 : Int} (z2 : zr a2) {a3 : Int} (z3 : zr a3) {a4 : Int} (z4 : zr a4) {a5 : Int} (z5 : zr a5) (h : W_X11_feed a1 a2 a3 a4 a5 V Q) : Z M_X11_feed d 0 0 0 [some (.ref 602), some (.int (iI a1)), some (.int (iI a2)), some (.int (iI a3)), some (.int (iI a4)), some (.int (iI a5)), none, none] [] S (qi V) (qj J) (qP_iV S J Q) := by
  unfold W_X11_feed at h
  refine z_aload_n Q_X11_feed (k := 0) rfl rfl ?_
  refine y_iconst Q_X11_feed (k := 1) rfl ?_
  refine q_putI (o := 602) (z := 0) Q_X11_feed (k := 2) rfl F_X11_1 rfl rfl rfl (n_ hB.1 rfl) (k_602 hB.1) ?_
  have hB1 := qB.u (a := 602) (j := 0) (x := 0) hB ⟨by decide, by decide⟩ (Or.inl (by decide))
  refine z_aload_n Q_X11_feed (k := 3) rfl rfl ?_
  refine q_getI (o := 602) (z := 12) Q_X11_feed (k := 4) rfl F_X11_82 rfl rfl rfl (n_ hB1.1 rfl) (k_602 hB1.1) ?_
  refine y_bipush Q_X11_feed (k := 5) rfl (by decide) ?_
  obtain ⟨q2, h⟩ := h
  refine y_iadd Q_X11_feed (k := 6) rfl ?_
  refine y_sipush Q_X11_feed (k := 7) rfl (by decide) ?_
  refine y_icmp_le 20 Q_X11_feed (k := 8) rfl (by decide) q2 ⟨by decide, by decide⟩ (fun c => ?_) (fun c => ?_)
  · replace h := h.1 c
    refine y_iconst Q_X11_feed (k := 11) rfl ?_
    refine y_istore (L' := [some (.ref 602), some (.int (iI a1)), some (.int (iI a2)), some (.int (iI a3)), some (.int (iI a4)), some (.int (iI a5)), some (.int (iI 0)), none]) Q_X11_feed (k := 12) rfl (by decide) rfl ?_
    refine y_fg (zsb_c rfl (zsb_c rfl (zsb_c rfl (zsb_c rfl (zsb_c rfl (zsb_c rfl (zsb_c rfl (zsb_n zsb_e)))))))) (v_X11_feed_23 d z1 z2 z3 z4 z5 (fun l6x38 V38 hB38 zl6x38 h => ?_) 100000 0 (qu V 602 0 0) hB1 ⟨by decide, by decide⟩ h)
    refine z_aload_n Q_X11_feed (k := 62) rfl rfl ?_
    refine q_getI (o := 602) (z := 12) Q_X11_feed (k := 63) rfl F_X11_82 rfl rfl rfl (n_ hB38.1 rfl) (k_602 hB38.1) ?_
    exact y_iret Q_X11_feed (k := 64) rfl rfl (qI_iV hB38 (hB38.2.1 _ _) h)
  · replace h := h.2 c
    refine y_iconst Q_X11_feed (k := 9) rfl ?_
    exact y_iret Q_X11_feed (k := 10) rfl rfl (qI_iV hB1 ⟨by decide, by decide⟩ h)
set_option maxHeartbeats 4000000 in
set_option maxRecDepth 20000 in
theorem w_X11_fine {S : zS} {V : qV} {J : qJ} {Q : Int → Prop} (d : Nat) (hB : qB S V) (h : W_X11_fine V Q) : Z M_X11_fine d 0 0 0 [some (.ref 602)] [] S (qi V) (qj J) (qP_z S V J Q) := by
  unfold W_X11_fine at h
  refine z_aload_n Q_X11_fine (k := 0) rfl rfl ?_
  refine q_getI (o := 602) (z := 15) Q_X11_fine (k := 1) rfl F_X11_85 rfl rfl rfl (n_ hB.1 rfl) (k_602 hB.1) ?_
  refine y_iconst Q_X11_fine (k := 2) rfl ?_
  refine y_icmp_ne 12 Q_X11_fine (k := 3) rfl (by decide) (hB.2.1 _ _) ⟨by decide, by decide⟩ (fun c => ?_) (fun c => ?_)
  · replace h := h.2 c
    refine y_iconst Q_X11_fine (k := 6) rfl ?_
    exact y_zret Q_X11_fine (k := 7) rfl rfl (Or.inl rfl) (qI_z ⟨by decide, by decide⟩ (Or.inl rfl) h)
  · replace h := h.1 c
    refine y_iconst Q_X11_fine (k := 4) rfl ?_
    refine z_goto (tgt := 13) Q_X11_fine (k := 5) rfl (by decide) ?_
    exact y_zret Q_X11_fine (k := 7) rfl rfl (Or.inr rfl) (qI_z ⟨by decide, by decide⟩ (Or.inr rfl) h)
set_option maxHeartbeats 4000000 in
set_option maxRecDepth 20000 in
theorem w_X11_wrong {S : zS} {V : qV} {J : qJ} {Q : qV → Prop} (d : Nat) (hB : qB S V) {a1 : Int} (z1 : zr a1) {a2 : Int} (z2 : zr a2) (h : W_X11_wrong a1 a2 V Q) : Z M_X11_wrong d 0 0 0 [some (.ref 602), some (.int (iI a1)), some (.int (iI a2))] [] S (qi V) (qj J) (qP_uV S J Q) := by
  unfold W_X11_wrong at h
  refine z_aload_n Q_X11_wrong (k := 0) rfl rfl ?_
  refine q_getI (o := 602) (z := 15) Q_X11_wrong (k := 1) rfl F_X11_85 rfl rfl rfl (n_ hB.1 rfl) (k_602 hB.1) ?_
  refine y_iconst Q_X11_wrong (k := 2) rfl ?_
  refine y_icmp_eq 9 Q_X11_wrong (k := 3) rfl (by decide) (hB.2.1 _ _) ⟨by decide, by decide⟩ (fun c => ?_) (fun c => ?_)
  · replace h := h.1 c
    refine z_aload_n Q_X11_wrong (k := 5) rfl rfl ?_
    refine z_iload_n Q_X11_wrong (k := 6) rfl rfl ?_
    refine q_putI (o := 602) (z := 15) Q_X11_wrong (k := 7) rfl F_X11_85 rfl rfl rfl (n_ hB.1 rfl) (k_602 hB.1) ?_
    have hB1 := qB.u (a := 602) (j := 15) (x := a2) hB z2 (Or.inl (by decide))
    refine z_aload_n Q_X11_wrong (k := 8) rfl rfl ?_
    refine z_iload_n Q_X11_wrong (k := 9) rfl rfl ?_
    refine q_putI (o := 602) (z := 16) Q_X11_wrong (k := 10) rfl F_X11_88 rfl rfl rfl (n_ hB1.1 rfl) (k_602 hB1.1) ?_
    have hB2 := qB.u (a := 602) (j := 16) (x := a1) hB1 z1 (Or.inl (by decide))
    exact z_vret Q_X11_wrong (k := 11) rfl rfl (qI_uV hB2 h)
  · replace h := h.2 c
    exact z_vret Q_X11_wrong (k := 4) rfl rfl (qI_uV hB h)
set_option maxHeartbeats 4000000 in
set_option maxRecDepth 20000 in
theorem v_X11_here_0 {S : zS} {J : qJ} {K : qV → Prop} {Q : Int → qV → Prop} {kc ks : Nat} (d : Nat) (hK : ∀ (V : qV), qB S V → K V → Z M_X11_here d kc ks 38 [some (.ref 602)] [] S (qi V) (qj J) (qP_iV S J Q)) : ∀ (f : Nat) (V : qV), qB S V → lp_X11_here_0 K f V → Z M_X11_here d kc ks 0 [some (.ref 602)] [] S (qi V) (qj J) (qP_iV S J Q) := by
  intro f
  induction f with
  | zero =>
    intro V hB h
    exact h.elim
  | succ f ih =>
    intro V hB h
    rw [lp_X11_here_0] at h
    refine z_aload_n Q_X11_here (k := 0) rfl rfl ?_
    refine q_getI (o := 602) (z := 14) Q_X11_here (k := 1) rfl F_X11_91 rfl rfl rfl (n_ hB.1 rfl) (k_602 hB.1) ?_
    refine z_aload_n Q_X11_here (k := 2) rfl rfl ?_
    refine q_getI (o := 602) (z := 13) Q_X11_here (k := 3) rfl F_X11_94 rfl rfl rfl (n_ hB.1 rfl) (k_602 hB.1) ?_
    refine y_icmp_ge 38 Q_X11_here (k := 4) rfl (by decide) (hB.2.1 _ _) (hB.2.1 _ _) (fun c => ?_) (fun c => ?_)
    · replace h := h.1 c
      exact y_fg (zsb_c rfl zsb_e) (hK V hB h)
    · replace h := h.2 c
      refine z_aload_n Q_X11_here (k := 5) rfl rfl ?_
      refine z_getR (b := 613) Q_X11_here (k := 6) rfl F_X11_47 rfl (n_ hB.1 rfl) (k_602 hB.1) (r_602_21 hB.1) ?_
      refine z_aload_n Q_X11_here (k := 7) rfl rfl ?_
      refine q_getI (o := 602) (z := 14) Q_X11_here (k := 8) rfl F_X11_91 rfl rfl rfl (n_ hB.1 rfl) (k_602 hB.1) ?_
      obtain ⟨q1, h⟩ := h
      refine q_iald (o := 613) (N := 400) Q_X11_here (k := 9) rfl rfl (n_ hB.1 rfl) (k_613 hB.1) rfl q1 (by decide) ?_
      refine y_bipush Q_X11_here (k := 10) rfl (by decide) ?_
      refine y_icmp_ne 38 Q_X11_here (k := 11) rfl (by decide) (hB.2.1 _ _) ⟨by decide, by decide⟩ (fun c => ?_) (fun c => ?_)
      · replace h := h.2 c
        exact y_fg (zsb_c rfl zsb_e) (hK V hB h)
      · replace h := h.1 c
        refine z_aload_n Q_X11_here (k := 12) rfl rfl ?_
        refine z_dup Q_X11_here (k := 13) rfl rfl ?_
        refine q_getI (o := 602) (z := 14) Q_X11_here (k := 14) rfl F_X11_91 rfl rfl rfl (n_ hB.1 rfl) (k_602 hB.1) ?_
        refine y_iconst Q_X11_here (k := 15) rfl ?_
        obtain ⟨q2, h⟩ := h
        refine y_iadd Q_X11_here (k := 16) rfl ?_
        refine q_putI (o := 602) (z := 14) Q_X11_here (k := 17) rfl F_X11_91 rfl rfl rfl (n_ hB.1 rfl) (k_602 hB.1) ?_
        have hB3 := qB.u (a := 602) (j := 14) (x := (V 602 14) + 1) hB q2 (Or.inl (by decide))
        refine z_goto (tgt := 0) Q_X11_here (k := 18) rfl (by decide) ?_
        exact y_fg (zsb_c rfl zsb_e) (ih (qu V 602 14 ((V 602 14) + 1)) hB3 h)
set_option maxHeartbeats 4000000 in
set_option maxRecDepth 20000 in
theorem w_X11_here {S : zS} {V : qV} {J : qJ} {Q : Int → qV → Prop} (d : Nat) (hB : qB S V) (h : W_X11_here V Q) : Z M_X11_here d 0 0 0 [some (.ref 602)] [] S (qi V) (qj J) (qP_iV S J Q) := by
  unfold W_X11_here at h
  refine y_fg (zsb_c rfl zsb_e) (v_X11_here_0 d (fun V4 hB4 h => ?_) 100000 V hB h)
  refine z_aload_n Q_X11_here (k := 19) rfl rfl ?_
  refine q_getI (o := 602) (z := 14) Q_X11_here (k := 20) rfl F_X11_91 rfl rfl rfl (n_ hB4.1 rfl) (k_602 hB4.1) ?_
  refine z_aload_n Q_X11_here (k := 21) rfl rfl ?_
  refine q_getI (o := 602) (z := 13) Q_X11_here (k := 22) rfl F_X11_94 rfl rfl rfl (n_ hB4.1 rfl) (k_602 hB4.1) ?_
  refine y_icmp_ge 61 Q_X11_here (k := 23) rfl (by decide) (hB4.2.1 _ _) (hB4.2.1 _ _) (fun c => ?_) (fun c => ?_)
  · replace h := h.1 c
    refine y_iconst Q_X11_here (k := 30) rfl ?_
    exact y_iret Q_X11_here (k := 31) rfl rfl (qI_iV hB4 ⟨by decide, by decide⟩ h)
  · replace h := h.2 c
    refine z_aload_n Q_X11_here (k := 24) rfl rfl ?_
    refine z_getR (b := 613) Q_X11_here (k := 25) rfl F_X11_47 rfl (n_ hB4.1 rfl) (k_602 hB4.1) (r_602_21 hB4.1) ?_
    refine z_aload_n Q_X11_here (k := 26) rfl rfl ?_
    refine q_getI (o := 602) (z := 14) Q_X11_here (k := 27) rfl F_X11_91 rfl rfl rfl (n_ hB4.1 rfl) (k_602 hB4.1) ?_
    obtain ⟨q5, h⟩ := h
    refine q_iald (o := 613) (N := 400) Q_X11_here (k := 28) rfl rfl (n_ hB4.1 rfl) (k_613 hB4.1) rfl q5 (by decide) ?_
    refine z_goto (tgt := 62) Q_X11_here (k := 29) rfl (by decide) ?_
    exact y_iret Q_X11_here (k := 31) rfl rfl (qI_iV hB4 (hB4.2.1 _ _) h)
set_option maxHeartbeats 4000000 in
set_option maxRecDepth 20000 in
theorem w_X11_isSmall {S : zS} {V : qV} {J : qJ} {Q : Int → Prop} (d : Nat) (hB : qB S V) {a0 : Int} (z0 : zr a0) (h : W_X11_isSmall a0 V Q) : Z M_X11_isSmall d 0 0 0 [some (.int (iI a0))] [] S (qi V) (qj J) (qP_z S V J Q) := by
  unfold W_X11_isSmall at h
  refine z_iload_n Q_X11_isSmall (k := 0) rfl rfl ?_
  refine y_bipush Q_X11_isSmall (k := 1) rfl (by decide) ?_
  refine y_icmp_lt 16 Q_X11_isSmall (k := 2) rfl (by decide) z0 ⟨by decide, by decide⟩ (fun c => ?_) (fun c => ?_)
  · replace h := h.1 c
    refine y_iconst Q_X11_isSmall (k := 8) rfl ?_
    exact y_zret Q_X11_isSmall (k := 9) rfl rfl (Or.inl rfl) (qI_z ⟨by decide, by decide⟩ (Or.inl rfl) h)
  · replace h := h.2 c
    refine z_iload_n Q_X11_isSmall (k := 3) rfl rfl ?_
    refine y_bipush Q_X11_isSmall (k := 4) rfl (by decide) ?_
    refine y_icmp_gt 16 Q_X11_isSmall (k := 5) rfl (by decide) z0 ⟨by decide, by decide⟩ (fun c => ?_) (fun c => ?_)
    · replace h := h.1 c
      refine y_iconst Q_X11_isSmall (k := 8) rfl ?_
      exact y_zret Q_X11_isSmall (k := 9) rfl rfl (Or.inl rfl) (qI_z ⟨by decide, by decide⟩ (Or.inl rfl) h)
    · replace h := h.2 c
      refine y_iconst Q_X11_isSmall (k := 6) rfl ?_
      refine z_goto (tgt := 17) Q_X11_isSmall (k := 7) rfl (by decide) ?_
      exact y_zret Q_X11_isSmall (k := 9) rfl rfl (Or.inr rfl) (qI_z ⟨by decide, by decide⟩ (Or.inr rfl) h)
set_option maxHeartbeats 4000000 in
set_option maxRecDepth 20000 in
theorem w_X11_isDigit {S : zS} {V : qV} {J : qJ} {Q : Int → Prop} (d : Nat) (hB : qB S V) {a0 : Int} (z0 : zr a0) (h : W_X11_isDigit a0 V Q) : Z M_X11_isDigit d 0 0 0 [some (.int (iI a0))] [] S (qi V) (qj J) (qP_z S V J Q) := by
  unfold W_X11_isDigit at h
  refine z_iload_n Q_X11_isDigit (k := 0) rfl rfl ?_
  refine y_bipush Q_X11_isDigit (k := 1) rfl (by decide) ?_
  refine y_icmp_lt 16 Q_X11_isDigit (k := 2) rfl (by decide) z0 ⟨by decide, by decide⟩ (fun c => ?_) (fun c => ?_)
  · replace h := h.1 c
    refine y_iconst Q_X11_isDigit (k := 8) rfl ?_
    exact y_zret Q_X11_isDigit (k := 9) rfl rfl (Or.inl rfl) (qI_z ⟨by decide, by decide⟩ (Or.inl rfl) h)
  · replace h := h.2 c
    refine z_iload_n Q_X11_isDigit (k := 3) rfl rfl ?_
    refine y_bipush Q_X11_isDigit (k := 4) rfl (by decide) ?_
    refine y_icmp_gt 16 Q_X11_isDigit (k := 5) rfl (by decide) z0 ⟨by decide, by decide⟩ (fun c => ?_) (fun c => ?_)
    · replace h := h.1 c
      refine y_iconst Q_X11_isDigit (k := 8) rfl ?_
      exact y_zret Q_X11_isDigit (k := 9) rfl rfl (Or.inl rfl) (qI_z ⟨by decide, by decide⟩ (Or.inl rfl) h)
    · replace h := h.2 c
      refine y_iconst Q_X11_isDigit (k := 6) rfl ?_
      refine z_goto (tgt := 17) Q_X11_isDigit (k := 7) rfl (by decide) ?_
      exact y_zret Q_X11_isDigit (k := 9) rfl rfl (Or.inr rfl) (qI_z ⟨by decide, by decide⟩ (Or.inr rfl) h)
set_option maxHeartbeats 4000000 in
set_option maxRecDepth 20000 in
theorem w_X11_atPlace {S : zS} {V : qV} {J : qJ} {Q : Int → Prop} (d : Nat) (hB : qB S V) {a1 : Int} (z1 : zr a1) (h : W_X11_atPlace a1 V Q) : Z M_X11_atPlace d 0 0 0 [some (.ref 602), some (.int (iI a1))] [] S (qi V) (qj J) (qP_i S V J Q) := by
  unfold W_X11_atPlace at h
  refine z_iload_n Q_X11_atPlace (k := 0) rfl rfl ?_
  refine z_aload_n Q_X11_atPlace (k := 1) rfl rfl ?_
  refine q_getI (o := 602) (z := 13) Q_X11_atPlace (k := 2) rfl F_X11_94 rfl rfl rfl (n_ hB.1 rfl) (k_602 hB.1) ?_
  refine y_icmp_ge 17 Q_X11_atPlace (k := 3) rfl (by decide) z1 (hB.2.1 _ _) (fun c => ?_) (fun c => ?_)
  · replace h := h.1 c
    refine y_iconst Q_X11_atPlace (k := 9) rfl ?_
    exact y_iret Q_X11_atPlace (k := 10) rfl rfl (qI_i ⟨by decide, by decide⟩ h)
  · replace h := h.2 c
    refine z_aload_n Q_X11_atPlace (k := 4) rfl rfl ?_
    refine z_getR (b := 613) Q_X11_atPlace (k := 5) rfl F_X11_47 rfl (n_ hB.1 rfl) (k_602 hB.1) (r_602_21 hB.1) ?_
    refine z_iload_n Q_X11_atPlace (k := 6) rfl rfl ?_
    obtain ⟨q1, h⟩ := h
    refine q_iald (o := 613) (N := 400) Q_X11_atPlace (k := 7) rfl rfl (n_ hB.1 rfl) (k_613 hB.1) rfl q1 (by decide) ?_
    refine z_goto (tgt := 18) Q_X11_atPlace (k := 8) rfl (by decide) ?_
    exact y_iret Q_X11_atPlace (k := 10) rfl rfl (qI_i (hB.2.1 _ _) h)
set_option maxHeartbeats 4000000 in
set_option maxRecDepth 20000 in
theorem v_X11_word_14 {S : zS} {V : qV} {J : qJ} {K : Int → Int → Int → Prop} {Q : Int → qV → Prop} {kc ks : Nat} (d : Nat) (hB : qB S V) (hK : ∀ (l1 : Int) (l2 : Int) (l3 : Int), zr l1 → zr l2 → zr l3 → K l1 l2 l3 → Z M_X11_word (d + 1) kc ks 67 [some (.ref 602), some (.int (iI l1)), some (.int (iI l2)), some (.int (iI l3))] [] S (qi V) (qj J) (qP_iV S J Q)) : ∀ (f : Nat) (l1 : Int) (l2 : Int) (l3 : Int), zr l1 → zr l2 → zr l3 → lp_X11_word_14 V K f l1 l2 l3 → Z M_X11_word (d + 1) kc ks 14 [some (.ref 602), some (.int (iI l1)), some (.int (iI l2)), some (.int (iI l3))] [] S (qi V) (qj J) (qP_iV S J Q) := by
  intro f
  induction f with
  | zero =>
    intro l1 l2 l3 z1 z2 z3 h
    exact h.elim
  | succ f ih =>
    intro l1 l2 l3 z1 z2 z3 h
    rw [lp_X11_word_14] at h
    refine z_iload_n Q_X11_word (k := 10) rfl rfl ?_
    refine z_aload_n Q_X11_word (k := 11) rfl rfl ?_
    refine q_getI (o := 602) (z := 13) Q_X11_word (k := 12) rfl F_X11_94 rfl rfl rfl (n_ hB.1 rfl) (k_602 hB.1) ?_
    refine y_icmp_ge 67 Q_X11_word (k := 13) rfl (by decide) z3 (hB.2.1 _ _) (fun c => ?_) (fun c => ?_)
    · replace h := h.1 c
      exact y_fg (zsb_c rfl (zsb_c rfl (zsb_c rfl (zsb_c rfl zsb_e)))) (hK l1 l2 l3 z1 z2 z3 h)
    · replace h := h.2 c
      refine z_aload_n Q_X11_word (k := 14) rfl rfl ?_
      refine z_getR (b := 613) Q_X11_word (k := 15) rfl F_X11_47 rfl (n_ hB.1 rfl) (k_602 hB.1) (r_602_21 hB.1) ?_
      refine z_iload_n Q_X11_word (k := 16) rfl rfl ?_
      obtain ⟨q2, h⟩ := h
      refine q_iald (o := 613) (N := 400) Q_X11_word (k := 17) rfl rfl (n_ hB.1 rfl) (k_613 hB.1) rfl q2 (by decide) ?_
      refine q_callS1_z Q_X11_word (k := 18) rfl rfl K_X11_isSmall S_X11_isSmall L_X11_101 (Nat.le_of_ble_eq_true rfl) (Nat.le_of_ble_eq_true rfl) rfl (Nat.zero_le _) (Nat.zero_le _) (w_X11_isSmall d hB (hB.2.1 _ _) h) (fun r3 hz3 hb3 h => ?_)
      refine y_if_eq 67 Q_X11_word (k := 19) rfl (by decide) hz3 (fun c => ?_) (fun c => ?_)
      · replace h := h.1 c
        exact y_fg (zsb_c rfl (zsb_c rfl (zsb_c rfl (zsb_c rfl zsb_e)))) (hK l1 l2 l3 z1 z2 z3 h)
      · replace h := h.2 c
        refine z_iload_n Q_X11_word (k := 20) rfl rfl ?_
        refine y_bipush Q_X11_word (k := 21) rfl (by decide) ?_
        refine y_icmp_ge 56 Q_X11_word (k := 22) rfl (by decide) z2 ⟨by decide, by decide⟩ (fun c => ?_) (fun c => ?_)
        · replace h := h.1 c
          refine y_iconst Q_X11_word (k := 34) rfl ?_
          refine y_istore_n (L' := [some (.ref 602), some (.int (iI 0)), some (.int (iI l2)), some (.int (iI l3))]) Q_X11_word (k := 35) rfl (by decide) rfl ?_
          obtain ⟨q4, h⟩ := h
          refine y_iinc (L' := [some (.ref 602), some (.int (iI 0)), some (.int (iI (l2 + 1))), some (.int (iI l3))]) Q_X11_word (k := 36) rfl (by decide) rfl rfl ?_
          obtain ⟨q5, h⟩ := h
          refine y_iinc (L' := [some (.ref 602), some (.int (iI 0)), some (.int (iI (l2 + 1))), some (.int (iI (l3 + 1)))]) Q_X11_word (k := 37) rfl (by decide) rfl rfl ?_
          refine z_goto (tgt := 14) Q_X11_word (k := 38) rfl (by decide) ?_
          exact y_fg (zsb_c rfl (zsb_c rfl (zsb_c rfl (zsb_c rfl zsb_e)))) (ih 0 (l2 + 1) (l3 + 1) ⟨by decide, by decide⟩ q4 q5 h)
        · replace h := h.2 c
          refine z_iload_n Q_X11_word (k := 23) rfl rfl ?_
          refine y_iconst Q_X11_word (k := 24) rfl ?_
          refine y_ishl Q_X11_word (k := 25) rfl ?_
          refine z_aload_n Q_X11_word (k := 26) rfl rfl ?_
          refine z_getR (b := 613) Q_X11_word (k := 27) rfl F_X11_47 rfl (n_ hB.1 rfl) (k_602 hB.1) (r_602_21 hB.1) ?_
          refine z_iload_n Q_X11_word (k := 28) rfl rfl ?_
          obtain ⟨q6, h⟩ := h
          refine q_iald (o := 613) (N := 400) Q_X11_word (k := 29) rfl rfl (n_ hB.1 rfl) (k_613 hB.1) rfl q6 (by decide) ?_
          refine y_bipush Q_X11_word (k := 30) rfl (by decide) ?_
          obtain ⟨q7, h⟩ := h
          refine y_isub Q_X11_word (k := 31) rfl ?_
          refine y_ior Q_X11_word (k := 32) rfl ?_
          refine z_goto (tgt := 57) Q_X11_word (k := 33) rfl (by decide) ?_
          refine y_istore_n (L' := [some (.ref 602), some (.int (iI (zor (zshl l1 5) ((V 613 l3) - 96)))), some (.int (iI l2)), some (.int (iI l3))]) Q_X11_word (k := 35) rfl (by decide) rfl ?_
          obtain ⟨q8, h⟩ := h
          refine y_iinc (L' := [some (.ref 602), some (.int (iI (zor (zshl l1 5) ((V 613 l3) - 96)))), some (.int (iI (l2 + 1))), some (.int (iI l3))]) Q_X11_word (k := 36) rfl (by decide) rfl rfl ?_
          obtain ⟨q9, h⟩ := h
          refine y_iinc (L' := [some (.ref 602), some (.int (iI (zor (zshl l1 5) ((V 613 l3) - 96)))), some (.int (iI (l2 + 1))), some (.int (iI (l3 + 1)))]) Q_X11_word (k := 37) rfl (by decide) rfl rfl ?_
          refine z_goto (tgt := 14) Q_X11_word (k := 38) rfl (by decide) ?_
          exact y_fg (zsb_c rfl (zsb_c rfl (zsb_c rfl (zsb_c rfl zsb_e)))) (ih (zor (zshl l1 5) ((V 613 l3) - 96)) (l2 + 1) (l3 + 1) (zor_r _ _) q8 q9 h)
set_option maxHeartbeats 4000000 in
set_option maxRecDepth 20000 in
theorem w_X11_word {S : zS} {V : qV} {J : qJ} {Q : Int → qV → Prop} (d : Nat) (hB : qB S V) (h : W_X11_word V Q) : Z M_X11_word (d + 1) 0 0 0 [some (.ref 602), none, none, none] [] S (qi V) (qj J) (qP_iV S J Q) := by
  unfold W_X11_word at h
  refine z_aload_n Q_X11_word (k := 0) rfl rfl ?_
  refine q_callV0_iV Q_X11_word (k := 1) rfl rfl K_X11_here V_X11_here L_X11_97 (n_ hB.1 rfl) (k_602 hB.1) (Nat.le_of_ble_eq_true rfl) (Nat.le_of_ble_eq_true rfl) rfl (Nat.zero_le _) (Nat.zero_le _) (w_X11_here d hB  h) (fun r1 V1 hB1 hz1 h => ?_)
  refine z_pop Q_X11_word (k := 2) rfl rfl ?_
  refine y_iconst Q_X11_word (k := 3) rfl ?_
  refine y_istore_n (L' := [some (.ref 602), some (.int (iI 0)), none, none]) Q_X11_word (k := 4) rfl (by decide) rfl ?_
  refine y_iconst Q_X11_word (k := 5) rfl ?_
  refine y_istore_n (L' := [some (.ref 602), some (.int (iI 0)), some (.int (iI 0)), none]) Q_X11_word (k := 6) rfl (by decide) rfl ?_
  refine z_aload_n Q_X11_word (k := 7) rfl rfl ?_
  refine q_getI (o := 602) (z := 14) Q_X11_word (k := 8) rfl F_X11_91 rfl rfl rfl (n_ hB1.1 rfl) (k_602 hB1.1) ?_
  refine y_istore_n (L' := [some (.ref 602), some (.int (iI 0)), some (.int (iI 0)), some (.int (iI (V1 602 14)))]) Q_X11_word (k := 9) rfl (by decide) rfl ?_
  refine y_fg (zsb_c rfl (zsb_c rfl (zsb_c rfl (zsb_c rfl zsb_e)))) (v_X11_word_14 d hB1 (fun l1x10 l2x10 l3x10 zl1x10 zl2x10 zl3x10 h => ?_) 100000 0 0 (V1 602 14) ⟨by decide, by decide⟩ ⟨by decide, by decide⟩ (hB1.2.1 _ _) h)
  refine z_iload_n Q_X11_word (k := 39) rfl rfl ?_
  refine y_bipush Q_X11_word (k := 40) rfl (by decide) ?_
  refine y_icmp_le 77 Q_X11_word (k := 41) rfl (by decide) zl2x10 ⟨by decide, by decide⟩ (fun c => ?_) (fun c => ?_)
  · replace h := h.1 c
    refine z_iload_n Q_X11_word (k := 44) rfl rfl ?_
    exact y_iret Q_X11_word (k := 45) rfl rfl (qI_iV hB1 zl1x10 h)
  · replace h := h.2 c
    refine y_iconst Q_X11_word (k := 42) rfl ?_
    refine z_goto (tgt := 78) Q_X11_word (k := 43) rfl (by decide) ?_
    exact y_iret Q_X11_word (k := 45) rfl rfl (qI_iV hB1 ⟨by decide, by decide⟩ h)
set_option maxHeartbeats 4000000 in
set_option maxRecDepth 20000 in
theorem v_X11_pass_0 {S : zS} {J : qJ} {K : qV → Prop} {Q : qV → Prop} {kc ks : Nat} (d : Nat) (hK : ∀ (V : qV), qB S V → K V → Z M_X11_pass (d + 1) kc ks 39 [some (.ref 602)] [] S (qi V) (qj J) (qP_uV S J Q)) : ∀ (f : Nat) (V : qV), qB S V → lp_X11_pass_0 K f V → Z M_X11_pass (d + 1) kc ks 0 [some (.ref 602)] [] S (qi V) (qj J) (qP_uV S J Q) := by
  intro f
  induction f with
  | zero =>
    intro V hB h
    exact h.elim
  | succ f ih =>
    intro V hB h
    rw [lp_X11_pass_0] at h
    refine z_aload_n Q_X11_pass (k := 0) rfl rfl ?_
    refine q_getI (o := 602) (z := 14) Q_X11_pass (k := 1) rfl F_X11_91 rfl rfl rfl (n_ hB.1 rfl) (k_602 hB.1) ?_
    refine z_aload_n Q_X11_pass (k := 2) rfl rfl ?_
    refine q_getI (o := 602) (z := 13) Q_X11_pass (k := 3) rfl F_X11_94 rfl rfl rfl (n_ hB.1 rfl) (k_602 hB.1) ?_
    refine y_icmp_ge 39 Q_X11_pass (k := 4) rfl (by decide) (hB.2.1 _ _) (hB.2.1 _ _) (fun c => ?_) (fun c => ?_)
    · replace h := h.1 c
      exact y_fg (zsb_c rfl zsb_e) (hK V hB h)
    · replace h := h.2 c
      refine z_aload_n Q_X11_pass (k := 5) rfl rfl ?_
      refine z_getR (b := 613) Q_X11_pass (k := 6) rfl F_X11_47 rfl (n_ hB.1 rfl) (k_602 hB.1) (r_602_21 hB.1) ?_
      refine z_aload_n Q_X11_pass (k := 7) rfl rfl ?_
      refine q_getI (o := 602) (z := 14) Q_X11_pass (k := 8) rfl F_X11_91 rfl rfl rfl (n_ hB.1 rfl) (k_602 hB.1) ?_
      obtain ⟨q1, h⟩ := h
      refine q_iald (o := 613) (N := 400) Q_X11_pass (k := 9) rfl rfl (n_ hB.1 rfl) (k_613 hB.1) rfl q1 (by decide) ?_
      refine q_callS1_z Q_X11_pass (k := 10) rfl rfl K_X11_isSmall S_X11_isSmall L_X11_101 (Nat.le_of_ble_eq_true rfl) (Nat.le_of_ble_eq_true rfl) rfl (Nat.zero_le _) (Nat.zero_le _) (w_X11_isSmall d hB (hB.2.1 _ _) h) (fun r2 hz2 hb2 h => ?_)
      refine y_if_eq 39 Q_X11_pass (k := 11) rfl (by decide) hz2 (fun c => ?_) (fun c => ?_)
      · replace h := h.1 c
        exact y_fg (zsb_c rfl zsb_e) (hK V hB h)
      · replace h := h.2 c
        refine z_aload_n Q_X11_pass (k := 12) rfl rfl ?_
        refine z_dup Q_X11_pass (k := 13) rfl rfl ?_
        refine q_getI (o := 602) (z := 14) Q_X11_pass (k := 14) rfl F_X11_91 rfl rfl rfl (n_ hB.1 rfl) (k_602 hB.1) ?_
        refine y_iconst Q_X11_pass (k := 15) rfl ?_
        obtain ⟨q3, h⟩ := h
        refine y_iadd Q_X11_pass (k := 16) rfl ?_
        refine q_putI (o := 602) (z := 14) Q_X11_pass (k := 17) rfl F_X11_91 rfl rfl rfl (n_ hB.1 rfl) (k_602 hB.1) ?_
        have hB4 := qB.u (a := 602) (j := 14) (x := (V 602 14) + 1) hB q3 (Or.inl (by decide))
        refine z_goto (tgt := 0) Q_X11_pass (k := 18) rfl (by decide) ?_
        exact y_fg (zsb_c rfl zsb_e) (ih (qu V 602 14 ((V 602 14) + 1)) hB4 h)
set_option maxHeartbeats 4000000 in
set_option maxRecDepth 20000 in
theorem w_X11_pass {S : zS} {V : qV} {J : qJ} {Q : qV → Prop} (d : Nat) (hB : qB S V) (h : W_X11_pass V Q) : Z M_X11_pass (d + 1) 0 0 0 [some (.ref 602)] [] S (qi V) (qj J) (qP_uV S J Q) := by
  unfold W_X11_pass at h
  refine y_fg (zsb_c rfl zsb_e) (v_X11_pass_0 d (fun V5 hB5 h => ?_) 100000 V hB h)
  exact z_vret Q_X11_pass (k := 19) rfl rfl (qI_uV hB5 h)
set_option maxHeartbeats 4000000 in
set_option maxRecDepth 20000 in
theorem w_X11_nameOf {S : zS} {V : qV} {J : qJ} {Q : Int → Prop} (d : Nat) (hB : qB S V) {a0 : Int} (z0 : zr a0) (h : W_X11_nameOf a0 V Q) : Z M_X11_nameOf d 0 0 0 [some (.int (iI a0))] [] S (qi V) (qj J) (qP_i S V J Q) := by
  unfold W_X11_nameOf at h
  refine z_iload_n Q_X11_nameOf (k := 0) rfl rfl ?_
  refine y_sipush Q_X11_nameOf (k := 1) rfl (by decide) ?_
  refine y_icmp_ne 11 Q_X11_nameOf (k := 2) rfl (by decide) z0 ⟨by decide, by decide⟩ (fun c => ?_) (fun c => ?_)
  · replace h := h.2 c
    refine z_iload_n Q_X11_nameOf (k := 5) rfl rfl ?_
    refine z_ldc Q_X11_nameOf (k := 6) rfl cC_X11_105 (y_raw (y := 17171557) rfl ?_)
    refine y_icmp_ne 21 Q_X11_nameOf (k := 7) rfl (by decide) z0 ⟨by decide, by decide⟩ (fun c => ?_) (fun c => ?_)
    · replace h := h.2 c
      refine z_iload_n Q_X11_nameOf (k := 10) rfl rfl ?_
      refine z_ldc Q_X11_nameOf (k := 11) rfl cC_X11_106 (y_raw (y := 24627848) rfl ?_)
      refine y_icmp_ne 31 Q_X11_nameOf (k := 12) rfl (by decide) z0 ⟨by decide, by decide⟩ (fun c => ?_) (fun c => ?_)
      · replace h := h.2 c
        refine z_iload_n Q_X11_nameOf (k := 15) rfl rfl ?_
        refine z_ldc Q_X11_nameOf (k := 16) rfl cC_X11_107 (y_raw (y := 773206180) rfl ?_)
        refine y_icmp_ne 41 Q_X11_nameOf (k := 17) rfl (by decide) z0 ⟨by decide, by decide⟩ (fun c => ?_) (fun c => ?_)
        · replace h := h.2 c
          refine z_iload_n Q_X11_nameOf (k := 20) rfl rfl ?_
          refine z_ldc Q_X11_nameOf (k := 21) rfl cC_X11_108 (y_raw (y := 13683059) rfl ?_)
          refine y_icmp_ne 51 Q_X11_nameOf (k := 22) rfl (by decide) z0 ⟨by decide, by decide⟩ (fun c => ?_) (fun c => ?_)
          · replace h := h.2 c
            refine z_iload_n Q_X11_nameOf (k := 25) rfl rfl ?_
            refine z_ldc Q_X11_nameOf (k := 26) rfl cC_X11_109 (y_raw (y := 591429) rfl ?_)
            refine y_icmp_ne 61 Q_X11_nameOf (k := 27) rfl (by decide) z0 ⟨by decide, by decide⟩ (fun c => ?_) (fun c => ?_)
            · replace h := h.2 c
              refine z_iload_n Q_X11_nameOf (k := 30) rfl rfl ?_
              refine y_sipush Q_X11_nameOf (k := 31) rfl (by decide) ?_
              refine y_icmp_ne 73 Q_X11_nameOf (k := 32) rfl (by decide) z0 ⟨by decide, by decide⟩ (fun c => ?_) (fun c => ?_)
              · replace h := h.2 c
                refine z_iload_n Q_X11_nameOf (k := 35) rfl rfl ?_
                refine y_sipush Q_X11_nameOf (k := 36) rfl (by decide) ?_
                refine y_icmp_ne 85 Q_X11_nameOf (k := 37) rfl (by decide) z0 ⟨by decide, by decide⟩ (fun c => ?_) (fun c => ?_)
                · replace h := h.2 c
                  refine z_iload_n Q_X11_nameOf (k := 40) rfl rfl ?_
                  refine z_ldc Q_X11_nameOf (k := 41) rfl cC_X11_110 (y_raw (y := 3744932) rfl ?_)
                  refine y_icmp_ne 96 Q_X11_nameOf (k := 42) rfl (by decide) z0 ⟨by decide, by decide⟩ (fun c => ?_) (fun c => ?_)
                  · replace h := h.2 c
                    refine z_iload_n Q_X11_nameOf (k := 45) rfl rfl ?_
                    refine z_ldc Q_X11_nameOf (k := 46) rfl cC_X11_111 (y_raw (y := 113288627) rfl ?_)
                    refine y_icmp_ne 107 Q_X11_nameOf (k := 47) rfl (by decide) z0 ⟨by decide, by decide⟩ (fun c => ?_) (fun c => ?_)
                    · replace h := h.2 c
                      refine y_iconst Q_X11_nameOf (k := 50) rfl ?_
                      exact y_iret Q_X11_nameOf (k := 51) rfl rfl (qI_i ⟨by decide, by decide⟩ h)
                    · replace h := h.1 c
                      refine y_bipush Q_X11_nameOf (k := 48) rfl (by decide) ?_
                      refine z_goto (tgt := 108) Q_X11_nameOf (k := 49) rfl (by decide) ?_
                      exact y_iret Q_X11_nameOf (k := 51) rfl rfl (qI_i ⟨by decide, by decide⟩ h)
                  · replace h := h.1 c
                    refine y_bipush Q_X11_nameOf (k := 43) rfl (by decide) ?_
                    refine z_goto (tgt := 108) Q_X11_nameOf (k := 44) rfl (by decide) ?_
                    exact y_iret Q_X11_nameOf (k := 51) rfl rfl (qI_i ⟨by decide, by decide⟩ h)
                · replace h := h.1 c
                  refine y_bipush Q_X11_nameOf (k := 38) rfl (by decide) ?_
                  refine z_goto (tgt := 108) Q_X11_nameOf (k := 39) rfl (by decide) ?_
                  exact y_iret Q_X11_nameOf (k := 51) rfl rfl (qI_i ⟨by decide, by decide⟩ h)
              · replace h := h.1 c
                refine y_bipush Q_X11_nameOf (k := 33) rfl (by decide) ?_
                refine z_goto (tgt := 108) Q_X11_nameOf (k := 34) rfl (by decide) ?_
                exact y_iret Q_X11_nameOf (k := 51) rfl rfl (qI_i ⟨by decide, by decide⟩ h)
            · replace h := h.1 c
              refine y_iconst Q_X11_nameOf (k := 28) rfl ?_
              refine z_goto (tgt := 108) Q_X11_nameOf (k := 29) rfl (by decide) ?_
              exact y_iret Q_X11_nameOf (k := 51) rfl rfl (qI_i ⟨by decide, by decide⟩ h)
          · replace h := h.1 c
            refine y_iconst Q_X11_nameOf (k := 23) rfl ?_
            refine z_goto (tgt := 108) Q_X11_nameOf (k := 24) rfl (by decide) ?_
            exact y_iret Q_X11_nameOf (k := 51) rfl rfl (qI_i ⟨by decide, by decide⟩ h)
        · replace h := h.1 c
          refine y_iconst Q_X11_nameOf (k := 18) rfl ?_
          refine z_goto (tgt := 108) Q_X11_nameOf (k := 19) rfl (by decide) ?_
          exact y_iret Q_X11_nameOf (k := 51) rfl rfl (qI_i ⟨by decide, by decide⟩ h)
      · replace h := h.1 c
        refine y_iconst Q_X11_nameOf (k := 13) rfl ?_
        refine z_goto (tgt := 108) Q_X11_nameOf (k := 14) rfl (by decide) ?_
        exact y_iret Q_X11_nameOf (k := 51) rfl rfl (qI_i ⟨by decide, by decide⟩ h)
    · replace h := h.1 c
      refine y_iconst Q_X11_nameOf (k := 8) rfl ?_
      refine z_goto (tgt := 108) Q_X11_nameOf (k := 9) rfl (by decide) ?_
      exact y_iret Q_X11_nameOf (k := 51) rfl rfl (qI_i ⟨by decide, by decide⟩ h)
  · replace h := h.1 c
    refine y_iconst Q_X11_nameOf (k := 3) rfl ?_
    refine z_goto (tgt := 108) Q_X11_nameOf (k := 4) rfl (by decide) ?_
    exact y_iret Q_X11_nameOf (k := 51) rfl rfl (qI_i ⟨by decide, by decide⟩ h)
set_option maxHeartbeats 4000000 in
set_option maxRecDepth 20000 in
theorem w_X11_whoOf {S : zS} {V : qV} {J : qJ} {Q : Int → Prop} (d : Nat) (hB : qB S V) {a0 : Int} (z0 : zr a0) (h : W_X11_whoOf a0 V Q) : Z M_X11_whoOf d 0 0 0 [some (.int (iI a0))] [] S (qi V) (qj J) (qP_i S V J Q) := by
  unfold W_X11_whoOf at h
  refine z_iload_n Q_X11_whoOf (k := 0) rfl rfl ?_
  refine z_ldc Q_X11_whoOf (k := 1) rfl cC_X11_112 (y_raw (y := 211226802) rfl ?_)
  refine y_icmp_ne 10 Q_X11_whoOf (k := 2) rfl (by decide) z0 ⟨by decide, by decide⟩ (fun c => ?_) (fun c => ?_)
  · replace h := h.2 c
    refine z_iload_n Q_X11_whoOf (k := 5) rfl rfl ?_
    refine z_ldc Q_X11_whoOf (k := 6) rfl cC_X11_113 (y_raw (y := 16496818) rfl ?_)
    refine y_icmp_ne 20 Q_X11_whoOf (k := 7) rfl (by decide) z0 ⟨by decide, by decide⟩ (fun c => ?_) (fun c => ?_)
    · replace h := h.2 c
      refine z_iload_n Q_X11_whoOf (k := 10) rfl rfl ?_
      refine z_ldc Q_X11_whoOf (k := 11) rfl cC_X11_114 (y_raw (y := 254268868) rfl ?_)
      refine y_icmp_ne 30 Q_X11_whoOf (k := 12) rfl (by decide) z0 ⟨by decide, by decide⟩ (fun c => ?_) (fun c => ?_)
      · replace h := h.2 c
        refine z_iload_n Q_X11_whoOf (k := 15) rfl rfl ?_
        refine z_ldc Q_X11_whoOf (k := 16) rfl cC_X11_115 (y_raw (y := 269899955) rfl ?_)
        refine y_icmp_ne 40 Q_X11_whoOf (k := 17) rfl (by decide) z0 ⟨by decide, by decide⟩ (fun c => ?_) (fun c => ?_)
        · replace h := h.2 c
          refine z_iload_n Q_X11_whoOf (k := 20) rfl rfl ?_
          refine z_ldc Q_X11_whoOf (k := 21) rfl cC_X11_116 (y_raw (y := 3751662) rfl ?_)
          refine y_icmp_ne 50 Q_X11_whoOf (k := 22) rfl (by decide) z0 ⟨by decide, by decide⟩ (fun c => ?_) (fun c => ?_)
          · replace h := h.2 c
            refine y_iconst Q_X11_whoOf (k := 25) rfl ?_
            exact y_iret Q_X11_whoOf (k := 26) rfl rfl (qI_i ⟨by decide, by decide⟩ h)
          · replace h := h.1 c
            refine y_iconst Q_X11_whoOf (k := 23) rfl ?_
            refine z_goto (tgt := 51) Q_X11_whoOf (k := 24) rfl (by decide) ?_
            exact y_iret Q_X11_whoOf (k := 26) rfl rfl (qI_i ⟨by decide, by decide⟩ h)
        · replace h := h.1 c
          refine y_iconst Q_X11_whoOf (k := 18) rfl ?_
          refine z_goto (tgt := 51) Q_X11_whoOf (k := 19) rfl (by decide) ?_
          exact y_iret Q_X11_whoOf (k := 26) rfl rfl (qI_i ⟨by decide, by decide⟩ h)
      · replace h := h.1 c
        refine y_iconst Q_X11_whoOf (k := 13) rfl ?_
        refine z_goto (tgt := 51) Q_X11_whoOf (k := 14) rfl (by decide) ?_
        exact y_iret Q_X11_whoOf (k := 26) rfl rfl (qI_i ⟨by decide, by decide⟩ h)
    · replace h := h.1 c
      refine y_iconst Q_X11_whoOf (k := 8) rfl ?_
      refine z_goto (tgt := 51) Q_X11_whoOf (k := 9) rfl (by decide) ?_
      exact y_iret Q_X11_whoOf (k := 26) rfl rfl (qI_i ⟨by decide, by decide⟩ h)
  · replace h := h.1 c
    refine y_iconst Q_X11_whoOf (k := 3) rfl ?_
    refine z_goto (tgt := 51) Q_X11_whoOf (k := 4) rfl (by decide) ?_
    exact y_iret Q_X11_whoOf (k := 26) rfl rfl (qI_i ⟨by decide, by decide⟩ h)
set_option maxHeartbeats 4000000 in
set_option maxRecDepth 20000 in
theorem v_X11_readNumber_39 {S : zS} {J : qJ} {K : Int → qV → Prop} {Q : Int → qV → Prop} {kc ks : Nat} (d : Nat) {l2 : Int} (z2 : zr l2) (hK : ∀ (l3 : Int) (V : qV), qB S V → zr l3 → K l3 V → Z M_X11_readNumber (d + 1) kc ks 109 [some (.ref 602), none, some (.int (iI l2)), some (.int (iI l3))] [] S (qi V) (qj J) (qP_iV S J Q)) : ∀ (f : Nat) (l3 : Int) (V : qV), qB S V → zr l3 → lp_X11_readNumber_39 l2 K f l3 V → Z M_X11_readNumber (d + 1) kc ks 39 [some (.ref 602), none, some (.int (iI l2)), some (.int (iI l3))] [] S (qi V) (qj J) (qP_iV S J Q) := by
  intro f
  induction f with
  | zero =>
    intro l3 V hB z3 h
    exact h.elim
  | succ f ih =>
    intro l3 V hB z3 h
    rw [lp_X11_readNumber_39] at h
    refine z_aload_n Q_X11_readNumber (k := 23) rfl rfl ?_
    refine q_getI (o := 602) (z := 14) Q_X11_readNumber (k := 24) rfl F_X11_91 rfl rfl rfl (n_ hB.1 rfl) (k_602 hB.1) ?_
    refine z_aload_n Q_X11_readNumber (k := 25) rfl rfl ?_
    refine q_getI (o := 602) (z := 13) Q_X11_readNumber (k := 26) rfl F_X11_94 rfl rfl rfl (n_ hB.1 rfl) (k_602 hB.1) ?_
    refine y_icmp_ge 109 Q_X11_readNumber (k := 27) rfl (by decide) (hB.2.1 _ _) (hB.2.1 _ _) (fun c => ?_) (fun c => ?_)
    · replace h := h.1 c
      exact y_fg (zsb_c rfl (zsb_n (zsb_c rfl (zsb_c rfl zsb_e)))) (hK l3 V hB z3 h)
    · replace h := h.2 c
      refine z_aload_n Q_X11_readNumber (k := 28) rfl rfl ?_
      refine z_getR (b := 613) Q_X11_readNumber (k := 29) rfl F_X11_47 rfl (n_ hB.1 rfl) (k_602 hB.1) (r_602_21 hB.1) ?_
      refine z_aload_n Q_X11_readNumber (k := 30) rfl rfl ?_
      refine q_getI (o := 602) (z := 14) Q_X11_readNumber (k := 31) rfl F_X11_91 rfl rfl rfl (n_ hB.1 rfl) (k_602 hB.1) ?_
      obtain ⟨q4, h⟩ := h
      refine q_iald (o := 613) (N := 400) Q_X11_readNumber (k := 32) rfl rfl (n_ hB.1 rfl) (k_613 hB.1) rfl q4 (by decide) ?_
      refine q_callS1_z Q_X11_readNumber (k := 33) rfl rfl K_X11_isDigit S_X11_isDigit L_X11_121 (Nat.le_of_ble_eq_true rfl) (Nat.le_of_ble_eq_true rfl) rfl (Nat.zero_le _) (Nat.zero_le _) (w_X11_isDigit d hB (hB.2.1 _ _) h) (fun r5 hz5 hb5 h => ?_)
      refine y_if_eq 109 Q_X11_readNumber (k := 34) rfl (by decide) hz5 (fun c => ?_) (fun c => ?_)
      · replace h := h.1 c
        exact y_fg (zsb_c rfl (zsb_n (zsb_c rfl (zsb_c rfl zsb_e)))) (hK l3 V hB z3 h)
      · replace h := h.2 c
        refine z_iload_n Q_X11_readNumber (k := 35) rfl rfl ?_
        refine y_sipush Q_X11_readNumber (k := 36) rfl (by decide) ?_
        refine y_icmp_le 78 Q_X11_readNumber (k := 37) rfl (by decide) z3 ⟨by decide, by decide⟩ (fun c => ?_) (fun c => ?_)
        · replace h := h.1 c
          refine y_bipush Q_X11_readNumber (k := 40) rfl (by decide) ?_
          refine z_iload_n Q_X11_readNumber (k := 41) rfl rfl ?_
          obtain ⟨q6, h⟩ := h
          refine y_imul Q_X11_readNumber (k := 42) rfl ?_
          refine z_aload_n Q_X11_readNumber (k := 43) rfl rfl ?_
          refine z_getR (b := 613) Q_X11_readNumber (k := 44) rfl F_X11_47 rfl (n_ hB.1 rfl) (k_602 hB.1) (r_602_21 hB.1) ?_
          refine z_aload_n Q_X11_readNumber (k := 45) rfl rfl ?_
          refine q_getI (o := 602) (z := 14) Q_X11_readNumber (k := 46) rfl F_X11_91 rfl rfl rfl (n_ hB.1 rfl) (k_602 hB.1) ?_
          obtain ⟨q7, h⟩ := h
          refine q_iald (o := 613) (N := 400) Q_X11_readNumber (k := 47) rfl rfl (n_ hB.1 rfl) (k_613 hB.1) rfl q7 (by decide) ?_
          obtain ⟨q8, h⟩ := h
          refine y_iadd Q_X11_readNumber (k := 48) rfl ?_
          refine y_bipush Q_X11_readNumber (k := 49) rfl (by decide) ?_
          obtain ⟨q9, h⟩ := h
          refine y_isub Q_X11_readNumber (k := 50) rfl ?_
          refine y_istore_n (L' := [some (.ref 602), none, some (.int (iI l2)), some (.int (iI (((10 * l3) + (V 613 (V 602 14))) - 48)))]) Q_X11_readNumber (k := 51) rfl (by decide) rfl ?_
          refine z_aload_n Q_X11_readNumber (k := 52) rfl rfl ?_
          refine z_dup Q_X11_readNumber (k := 53) rfl rfl ?_
          refine q_getI (o := 602) (z := 14) Q_X11_readNumber (k := 54) rfl F_X11_91 rfl rfl rfl (n_ hB.1 rfl) (k_602 hB.1) ?_
          refine y_iconst Q_X11_readNumber (k := 55) rfl ?_
          obtain ⟨q10, h⟩ := h
          refine y_iadd Q_X11_readNumber (k := 56) rfl ?_
          refine q_putI (o := 602) (z := 14) Q_X11_readNumber (k := 57) rfl F_X11_91 rfl rfl rfl (n_ hB.1 rfl) (k_602 hB.1) ?_
          have hB11 := qB.u (a := 602) (j := 14) (x := (V 602 14) + 1) hB q10 (Or.inl (by decide))
          refine z_goto (tgt := 39) Q_X11_readNumber (k := 58) rfl (by decide) ?_
          exact y_fg (zsb_c rfl (zsb_n (zsb_c rfl (zsb_c rfl zsb_e)))) (ih (((10 * l3) + (V 613 (V 602 14))) - 48) (qu V 602 14 ((V 602 14) + 1)) hB11 q9 h)
        · replace h := h.2 c
          refine y_sipush Q_X11_readNumber (k := 38) rfl (by decide) ?_
          refine z_goto (tgt := 95) Q_X11_readNumber (k := 39) rfl (by decide) ?_
          refine y_istore_n (L' := [some (.ref 602), none, some (.int (iI l2)), some (.int (iI 10000))]) Q_X11_readNumber (k := 51) rfl (by decide) rfl ?_
          refine z_aload_n Q_X11_readNumber (k := 52) rfl rfl ?_
          refine z_dup Q_X11_readNumber (k := 53) rfl rfl ?_
          refine q_getI (o := 602) (z := 14) Q_X11_readNumber (k := 54) rfl F_X11_91 rfl rfl rfl (n_ hB.1 rfl) (k_602 hB.1) ?_
          refine y_iconst Q_X11_readNumber (k := 55) rfl ?_
          obtain ⟨q12, h⟩ := h
          refine y_iadd Q_X11_readNumber (k := 56) rfl ?_
          refine q_putI (o := 602) (z := 14) Q_X11_readNumber (k := 57) rfl F_X11_91 rfl rfl rfl (n_ hB.1 rfl) (k_602 hB.1) ?_
          have hB13 := qB.u (a := 602) (j := 14) (x := (V 602 14) + 1) hB q12 (Or.inl (by decide))
          refine z_goto (tgt := 39) Q_X11_readNumber (k := 58) rfl (by decide) ?_
          exact y_fg (zsb_c rfl (zsb_n (zsb_c rfl (zsb_c rfl zsb_e)))) (ih 10000 (qu V 602 14 ((V 602 14) + 1)) hB13 ⟨by decide, by decide⟩ h)
set_option maxHeartbeats 4000000 in
set_option maxRecDepth 20000 in
theorem w_X11_readNumber {S : zS} {V : qV} {J : qJ} {Q : Int → qV → Prop} (d : Nat) (hB : qB S V) (h : W_X11_readNumber V Q) : Z M_X11_readNumber (d + 1) 0 0 0 [some (.ref 602), none, none, none] [] S (qi V) (qj J) (qP_iV S J Q) := by
  unfold W_X11_readNumber at h
  refine z_aload_n Q_X11_readNumber (k := 0) rfl rfl ?_
  refine q_callV0_z Q_X11_readNumber (k := 1) rfl rfl K_X11_fine V_X11_fine L_X11_117 (n_ hB.1 rfl) (k_602 hB.1) (Nat.le_of_ble_eq_true rfl) (Nat.le_of_ble_eq_true rfl) rfl (Nat.zero_le _) (Nat.zero_le _) (w_X11_fine d hB  h) (fun r1 hz1 hb1 h => ?_)
  refine y_if_ne 9 Q_X11_readNumber (k := 2) rfl (by decide) hz1 (fun c => ?_) (fun c => ?_)
  · replace h := h.2 c
    refine z_aload_n Q_X11_readNumber (k := 5) rfl rfl ?_
    refine q_callV0_iV Q_X11_readNumber (k := 6) rfl rfl K_X11_here V_X11_here L_X11_97 (n_ hB.1 rfl) (k_602 hB.1) (Nat.le_of_ble_eq_true rfl) (Nat.le_of_ble_eq_true rfl) rfl (Nat.zero_le _) (Nat.zero_le _) (w_X11_here d hB  h) (fun r2 V2 hB2 hz2 h => ?_)
    refine y_istore_n (L' := [some (.ref 602), some (.int (iI r2)), none, none]) Q_X11_readNumber (k := 7) rfl (by decide) rfl ?_
    refine z_aload_n Q_X11_readNumber (k := 8) rfl rfl ?_
    refine q_getI (o := 602) (z := 14) Q_X11_readNumber (k := 9) rfl F_X11_91 rfl rfl rfl (n_ hB2.1 rfl) (k_602 hB2.1) ?_
    refine y_istore_n (L' := [some (.ref 602), some (.int (iI r2)), some (.int (iI (V2 602 14))), none]) Q_X11_readNumber (k := 10) rfl (by decide) rfl ?_
    refine y_iconst Q_X11_readNumber (k := 11) rfl ?_
    refine y_istore_n (L' := [some (.ref 602), some (.int (iI r2)), some (.int (iI (V2 602 14))), some (.int (iI 0))]) Q_X11_readNumber (k := 12) rfl (by decide) rfl ?_
    refine z_iload_n Q_X11_readNumber (k := 13) rfl rfl ?_
    refine q_callS1_z Q_X11_readNumber (k := 14) rfl rfl K_X11_isDigit S_X11_isDigit L_X11_121 (Nat.le_of_ble_eq_true rfl) (Nat.le_of_ble_eq_true rfl) rfl (Nat.zero_le _) (Nat.zero_le _) (w_X11_isDigit d hB2 hz2 h) (fun r3 hz3 hb3 h => ?_)
    refine y_if_ne 39 Q_X11_readNumber (k := 15) rfl (by decide) hz3 (fun c => ?_) (fun c => ?_)
    · replace h := h.2 c
      refine y_fg (zsb_c rfl (zsb_n (zsb_c rfl (zsb_c rfl zsb_e)))) (v_X11_readNumber_39 d (hB2.2.1 _ _) (fun l3x14 V14 hB14 zl3x14 h => ?_) 100000 0 V2 hB2 ⟨by decide, by decide⟩ h)
      refine z_iload_n Q_X11_readNumber (k := 59) rfl rfl ?_
      refine y_sipush Q_X11_readNumber (k := 60) rfl (by decide) ?_
      refine y_icmp_le 122 Q_X11_readNumber (k := 61) rfl (by decide) zl3x14 ⟨by decide, by decide⟩ (fun c => ?_) (fun c => ?_)
      · replace h := h.1 c
        refine z_iload_n Q_X11_readNumber (k := 66) rfl rfl ?_
        exact y_iret Q_X11_readNumber (k := 67) rfl rfl (qI_iV hB14 zl3x14 h)
      · replace h := h.2 c
        refine z_aload_n Q_X11_readNumber (k := 62) rfl rfl ?_
        refine y_iconst Q_X11_readNumber (k := 63) rfl ?_
        refine z_iload_n Q_X11_readNumber (k := 64) rfl rfl ?_
        refine q_callV2_uV Q_X11_readNumber (k := 65) rfl rfl K_X11_wrong V_X11_wrong L_X11_124 (n_ hB14.1 rfl) (k_602 hB14.1) (Nat.le_of_ble_eq_true rfl) (Nat.le_of_ble_eq_true rfl) rfl (Nat.zero_le _) (Nat.zero_le _) (w_X11_wrong d hB14 ⟨by decide, by decide⟩ (hB2.2.1 _ _) h) (fun V15 hB15 h => ?_)
        refine z_iload_n Q_X11_readNumber (k := 66) rfl rfl ?_
        exact y_iret Q_X11_readNumber (k := 67) rfl rfl (qI_iV hB15 zl3x14 h)
    · replace h := h.1 c
      refine z_aload_n Q_X11_readNumber (k := 16) rfl rfl ?_
      refine y_iconst Q_X11_readNumber (k := 17) rfl ?_
      refine z_aload_n Q_X11_readNumber (k := 18) rfl rfl ?_
      refine q_getI (o := 602) (z := 14) Q_X11_readNumber (k := 19) rfl F_X11_91 rfl rfl rfl (n_ hB2.1 rfl) (k_602 hB2.1) ?_
      refine q_callV2_uV Q_X11_readNumber (k := 20) rfl rfl K_X11_wrong V_X11_wrong L_X11_124 (n_ hB2.1 rfl) (k_602 hB2.1) (Nat.le_of_ble_eq_true rfl) (Nat.le_of_ble_eq_true rfl) rfl (Nat.zero_le _) (Nat.zero_le _) (w_X11_wrong d hB2 ⟨by decide, by decide⟩ (hB2.2.1 _ _) h) (fun V16 hB16 h => ?_)
      refine y_iconst Q_X11_readNumber (k := 21) rfl ?_
      exact y_iret Q_X11_readNumber (k := 22) rfl rfl (qI_iV hB16 ⟨by decide, by decide⟩ h)
  · replace h := h.1 c
    refine y_iconst Q_X11_readNumber (k := 3) rfl ?_
    exact y_iret Q_X11_readNumber (k := 4) rfl rfl (qI_iV hB ⟨by decide, by decide⟩ h)
set_option maxHeartbeats 4000000 in
set_option maxRecDepth 20000 in
theorem w_X11_need {S : zS} {V : qV} {J : qJ} {Q : qV → Prop} (d : Nat) (hB : qB S V) {a1 : Int} (z1 : zr a1) (h : W_X11_need a1 V Q) : Z M_X11_need (d + 1) 0 0 0 [some (.ref 602), some (.int (iI a1))] [] S (qi V) (qj J) (qP_uV S J Q) := by
  unfold W_X11_need at h
  refine z_aload_n Q_X11_need (k := 0) rfl rfl ?_
  refine q_callV0_z Q_X11_need (k := 1) rfl rfl K_X11_fine V_X11_fine L_X11_117 (n_ hB.1 rfl) (k_602 hB.1) (Nat.le_of_ble_eq_true rfl) (Nat.le_of_ble_eq_true rfl) rfl (Nat.zero_le _) (Nat.zero_le _) (w_X11_fine d hB  h) (fun r1 hz1 hb1 h => ?_)
  refine y_if_eq 24 Q_X11_need (k := 2) rfl (by decide) hz1 (fun c => ?_) (fun c => ?_)
  · replace h := h.1 c
    refine z_aload_n Q_X11_need (k := 12) rfl rfl ?_
    refine q_callV0_z Q_X11_need (k := 13) rfl rfl K_X11_fine V_X11_fine L_X11_117 (n_ hB.1 rfl) (k_602 hB.1) (Nat.le_of_ble_eq_true rfl) (Nat.le_of_ble_eq_true rfl) rfl (Nat.zero_le _) (Nat.zero_le _) (w_X11_fine d hB  h) (fun r2 hz2 hb2 h => ?_)
    refine y_if_eq 41 Q_X11_need (k := 14) rfl (by decide) hz2 (fun c => ?_) (fun c => ?_)
    · replace h := h.1 c
      exact z_vret Q_X11_need (k := 21) rfl rfl (qI_uV hB h)
    · replace h := h.2 c
      refine z_aload_n Q_X11_need (k := 15) rfl rfl ?_
      refine z_dup Q_X11_need (k := 16) rfl rfl ?_
      refine q_getI (o := 602) (z := 14) Q_X11_need (k := 17) rfl F_X11_91 rfl rfl rfl (n_ hB.1 rfl) (k_602 hB.1) ?_
      refine y_iconst Q_X11_need (k := 18) rfl ?_
      obtain ⟨q3, h⟩ := h
      refine y_iadd Q_X11_need (k := 19) rfl ?_
      refine q_putI (o := 602) (z := 14) Q_X11_need (k := 20) rfl F_X11_91 rfl rfl rfl (n_ hB.1 rfl) (k_602 hB.1) ?_
      have hB4 := qB.u (a := 602) (j := 14) (x := (V 602 14) + 1) hB q3 (Or.inl (by decide))
      exact z_vret Q_X11_need (k := 21) rfl rfl (qI_uV hB4 h)
  · replace h := h.2 c
    refine z_aload_n Q_X11_need (k := 3) rfl rfl ?_
    refine q_callV0_iV Q_X11_need (k := 4) rfl rfl K_X11_here V_X11_here L_X11_97 (n_ hB.1 rfl) (k_602 hB.1) (Nat.le_of_ble_eq_true rfl) (Nat.le_of_ble_eq_true rfl) rfl (Nat.zero_le _) (Nat.zero_le _) (w_X11_here d hB  h) (fun r5 V5 hB5 hz5 h => ?_)
    refine z_iload_n Q_X11_need (k := 5) rfl rfl ?_
    refine y_icmp_eq 24 Q_X11_need (k := 6) rfl (by decide) hz5 z1 (fun c => ?_) (fun c => ?_)
    · replace h := h.1 c
      refine z_aload_n Q_X11_need (k := 12) rfl rfl ?_
      refine q_callV0_z Q_X11_need (k := 13) rfl rfl K_X11_fine V_X11_fine L_X11_117 (n_ hB5.1 rfl) (k_602 hB5.1) (Nat.le_of_ble_eq_true rfl) (Nat.le_of_ble_eq_true rfl) rfl (Nat.zero_le _) (Nat.zero_le _) (w_X11_fine d hB5  h) (fun r6 hz6 hb6 h => ?_)
      refine y_if_eq 41 Q_X11_need (k := 14) rfl (by decide) hz6 (fun c => ?_) (fun c => ?_)
      · replace h := h.1 c
        exact z_vret Q_X11_need (k := 21) rfl rfl (qI_uV hB5 h)
      · replace h := h.2 c
        refine z_aload_n Q_X11_need (k := 15) rfl rfl ?_
        refine z_dup Q_X11_need (k := 16) rfl rfl ?_
        refine q_getI (o := 602) (z := 14) Q_X11_need (k := 17) rfl F_X11_91 rfl rfl rfl (n_ hB5.1 rfl) (k_602 hB5.1) ?_
        refine y_iconst Q_X11_need (k := 18) rfl ?_
        obtain ⟨q7, h⟩ := h
        refine y_iadd Q_X11_need (k := 19) rfl ?_
        refine q_putI (o := 602) (z := 14) Q_X11_need (k := 20) rfl F_X11_91 rfl rfl rfl (n_ hB5.1 rfl) (k_602 hB5.1) ?_
        have hB8 := qB.u (a := 602) (j := 14) (x := (V5 602 14) + 1) hB5 q7 (Or.inl (by decide))
        exact z_vret Q_X11_need (k := 21) rfl rfl (qI_uV hB8 h)
    · replace h := h.2 c
      refine z_aload_n Q_X11_need (k := 7) rfl rfl ?_
      refine y_iconst Q_X11_need (k := 8) rfl ?_
      refine z_aload_n Q_X11_need (k := 9) rfl rfl ?_
      refine q_getI (o := 602) (z := 14) Q_X11_need (k := 10) rfl F_X11_91 rfl rfl rfl (n_ hB5.1 rfl) (k_602 hB5.1) ?_
      refine q_callV2_uV Q_X11_need (k := 11) rfl rfl K_X11_wrong V_X11_wrong L_X11_124 (n_ hB5.1 rfl) (k_602 hB5.1) (Nat.le_of_ble_eq_true rfl) (Nat.le_of_ble_eq_true rfl) rfl (Nat.zero_le _) (Nat.zero_le _) (w_X11_wrong d hB5 ⟨by decide, by decide⟩ (hB5.2.1 _ _) h) (fun V9 hB9 h => ?_)
      refine z_aload_n Q_X11_need (k := 12) rfl rfl ?_
      refine q_callV0_z Q_X11_need (k := 13) rfl rfl K_X11_fine V_X11_fine L_X11_117 (n_ hB9.1 rfl) (k_602 hB9.1) (Nat.le_of_ble_eq_true rfl) (Nat.le_of_ble_eq_true rfl) rfl (Nat.zero_le _) (Nat.zero_le _) (w_X11_fine d hB9  h) (fun r10 hz10 hb10 h => ?_)
      refine y_if_eq 41 Q_X11_need (k := 14) rfl (by decide) hz10 (fun c => ?_) (fun c => ?_)
      · replace h := h.1 c
        exact z_vret Q_X11_need (k := 21) rfl rfl (qI_uV hB9 h)
      · replace h := h.2 c
        refine z_aload_n Q_X11_need (k := 15) rfl rfl ?_
        refine z_dup Q_X11_need (k := 16) rfl rfl ?_
        refine q_getI (o := 602) (z := 14) Q_X11_need (k := 17) rfl F_X11_91 rfl rfl rfl (n_ hB9.1 rfl) (k_602 hB9.1) ?_
        refine y_iconst Q_X11_need (k := 18) rfl ?_
        obtain ⟨q11, h⟩ := h
        refine y_iadd Q_X11_need (k := 19) rfl ?_
        refine q_putI (o := 602) (z := 14) Q_X11_need (k := 20) rfl F_X11_91 rfl rfl rfl (n_ hB9.1 rfl) (k_602 hB9.1) ?_
        have hB12 := qB.u (a := 602) (j := 14) (x := (V9 602 14) + 1) hB9 q11 (Or.inl (by decide))
        exact z_vret Q_X11_need (k := 21) rfl rfl (qI_uV hB12 h)
set_option maxHeartbeats 4000000 in
set_option maxRecDepth 20000 in
theorem w_X11_emit {S : zS} {V : qV} {J : qJ} {Q : qV → Prop} (d : Nat) (hB : qB S V) {a1 : Int} (z1 : zr a1) {a2 : Int} (z2 : zr a2) (h : W_X11_emit a1 a2 V Q) : Z M_X11_emit (d + 1) 0 0 0 [some (.ref 602), some (.int (iI a1)), some (.int (iI a2))] [] S (qi V) (qj J) (qP_uV S J Q) := by
  unfold W_X11_emit at h
  refine z_aload_n Q_X11_emit (k := 0) rfl rfl ?_
  refine q_callV0_z Q_X11_emit (k := 1) rfl rfl K_X11_fine V_X11_fine L_X11_117 (n_ hB.1 rfl) (k_602 hB.1) (Nat.le_of_ble_eq_true rfl) (Nat.le_of_ble_eq_true rfl) rfl (Nat.zero_le _) (Nat.zero_le _) (w_X11_fine d hB  h) (fun r1 hz1 hb1 h => ?_)
  refine y_if_ne 8 Q_X11_emit (k := 2) rfl (by decide) hz1 (fun c => ?_) (fun c => ?_)
  · replace h := h.2 c
    refine z_aload_n Q_X11_emit (k := 4) rfl rfl ?_
    refine z_getR (b := 604) Q_X11_emit (k := 5) rfl F_X11_17 rfl (n_ hB.1 rfl) (k_602 hB.1) (r_602_2 hB.1) ?_
    refine z_aload_n Q_X11_emit (k := 6) rfl rfl ?_
    refine q_getI (o := 602) (z := 19) Q_X11_emit (k := 7) rfl F_X11_128 rfl rfl rfl (n_ hB.1 rfl) (k_602 hB.1) ?_
    refine z_aload_n Q_X11_emit (k := 8) rfl rfl ?_
    refine q_getI (o := 602) (z := 18) Q_X11_emit (k := 9) rfl F_X11_131 rfl rfl rfl (n_ hB.1 rfl) (k_602 hB.1) ?_
    obtain ⟨q2, h⟩ := h
    refine y_iadd Q_X11_emit (k := 10) rfl ?_
    refine z_iload_n Q_X11_emit (k := 11) rfl rfl ?_
    obtain ⟨q3, h⟩ := h
    refine q_iast (o := 604) (N := 4620) Q_X11_emit (k := 12) rfl rfl (n_ hB.1 rfl) (k_604 hB.1) rfl q3 (by decide) ?_
    have hB4 := qB.u (a := 604) (j := (V 602 19) + (V 602 18)) (x := a1) hB z1 (Or.inl (by decide))
    refine z_aload_n Q_X11_emit (k := 13) rfl rfl ?_
    refine z_getR (b := 605) Q_X11_emit (k := 14) rfl F_X11_20 rfl (n_ hB4.1 rfl) (k_602 hB4.1) (r_602_3 hB4.1) ?_
    refine z_aload_n Q_X11_emit (k := 15) rfl rfl ?_
    refine q_getI (o := 602) (z := 19) Q_X11_emit (k := 16) rfl F_X11_128 rfl rfl rfl (n_ hB4.1 rfl) (k_602 hB4.1) ?_
    refine z_aload_n Q_X11_emit (k := 17) rfl rfl ?_
    refine q_getI (o := 602) (z := 18) Q_X11_emit (k := 18) rfl F_X11_131 rfl rfl rfl (n_ hB4.1 rfl) (k_602 hB4.1) ?_
    obtain ⟨q5, h⟩ := h
    refine y_iadd Q_X11_emit (k := 19) rfl ?_
    refine z_iload_n Q_X11_emit (k := 20) rfl rfl ?_
    obtain ⟨q6, h⟩ := h
    refine q_iast (o := 605) (N := 4620) Q_X11_emit (k := 21) rfl rfl (n_ hB4.1 rfl) (k_605 hB4.1) rfl q6 (by decide) ?_
    have hB7 := qB.u (a := 605) (j := ((qu V 604 ((V 602 19) + (V 602 18)) a1) 602 19) + ((qu V 604 ((V 602 19) + (V 602 18)) a1) 602 18)) (x := a2) hB4 z2 (Or.inl (by decide))
    refine z_aload_n Q_X11_emit (k := 22) rfl rfl ?_
    refine z_dup Q_X11_emit (k := 23) rfl rfl ?_
    refine q_getI (o := 602) (z := 18) Q_X11_emit (k := 24) rfl F_X11_131 rfl rfl rfl (n_ hB7.1 rfl) (k_602 hB7.1) ?_
    refine y_iconst Q_X11_emit (k := 25) rfl ?_
    obtain ⟨q8, h⟩ := h
    refine y_iadd Q_X11_emit (k := 26) rfl ?_
    refine q_putI (o := 602) (z := 18) Q_X11_emit (k := 27) rfl F_X11_131 rfl rfl rfl (n_ hB7.1 rfl) (k_602 hB7.1) ?_
    have hB9 := qB.u (a := 602) (j := 18) (x := ((qu (qu V 604 ((V 602 19) + (V 602 18)) a1) 605 (((qu V 604 ((V 602 19) + (V 602 18)) a1) 602 19) + ((qu V 604 ((V 602 19) + (V 602 18)) a1) 602 18)) a2) 602 18) + 1) hB7 q8 (Or.inl (by decide))
    exact z_vret Q_X11_emit (k := 28) rfl rfl (qI_uV hB9 h)
  · replace h := h.1 c
    exact z_vret Q_X11_emit (k := 3) rfl rfl (qI_uV hB h)
set_option maxHeartbeats 4000000 in
set_option maxRecDepth 20000 in
theorem w_X11_opensOne {S : zS} {V : qV} {J : qJ} {Q : qV → Prop} (d : Nat) (hB : qB S V) {a1 : Int} (z1 : zr a1) (h : W_X11_opensOne a1 V Q) : Z M_X11_opensOne (d + 1) 0 0 0 [some (.ref 602), some (.int (iI a1))] [] S (qi V) (qj J) (qP_uV S J Q) := by
  unfold W_X11_opensOne at h
  refine z_aload_n Q_X11_opensOne (k := 0) rfl rfl ?_
  refine q_callV0_z Q_X11_opensOne (k := 1) rfl rfl K_X11_fine V_X11_fine L_X11_117 (n_ hB.1 rfl) (k_602 hB.1) (Nat.le_of_ble_eq_true rfl) (Nat.le_of_ble_eq_true rfl) rfl (Nat.zero_le _) (Nat.zero_le _) (w_X11_fine d hB  h) (fun r1 hz1 hb1 h => ?_)
  refine y_if_eq 25 Q_X11_opensOne (k := 2) rfl (by decide) hz1 (fun c => ?_) (fun c => ?_)
  · replace h := h.1 c
    refine z_aload_n Q_X11_opensOne (k := 12) rfl rfl ?_
    refine q_callV0_z Q_X11_opensOne (k := 13) rfl rfl K_X11_fine V_X11_fine L_X11_117 (n_ hB.1 rfl) (k_602 hB.1) (Nat.le_of_ble_eq_true rfl) (Nat.le_of_ble_eq_true rfl) rfl (Nat.zero_le _) (Nat.zero_le _) (w_X11_fine d hB  h) (fun r2 hz2 hb2 h => ?_)
    refine y_if_eq 42 Q_X11_opensOne (k := 14) rfl (by decide) hz2 (fun c => ?_) (fun c => ?_)
    · replace h := h.1 c
      refine z_aload_n Q_X11_opensOne (k := 21) rfl rfl ?_
      refine z_dup Q_X11_opensOne (k := 22) rfl rfl ?_
      refine q_getI (o := 602) (z := 17) Q_X11_opensOne (k := 23) rfl F_X11_134 rfl rfl rfl (n_ hB.1 rfl) (k_602 hB.1) ?_
      refine y_iconst Q_X11_opensOne (k := 24) rfl ?_
      obtain ⟨q3, h⟩ := h
      refine y_iadd Q_X11_opensOne (k := 25) rfl ?_
      refine q_putI (o := 602) (z := 17) Q_X11_opensOne (k := 26) rfl F_X11_134 rfl rfl rfl (n_ hB.1 rfl) (k_602 hB.1) ?_
      have hB4 := qB.u (a := 602) (j := 17) (x := (V 602 17) + 1) hB q3 (Or.inl (by decide))
      exact z_vret Q_X11_opensOne (k := 27) rfl rfl (qI_uV hB4 h)
    · replace h := h.2 c
      refine z_aload_n Q_X11_opensOne (k := 15) rfl rfl ?_
      refine z_dup Q_X11_opensOne (k := 16) rfl rfl ?_
      refine q_getI (o := 602) (z := 14) Q_X11_opensOne (k := 17) rfl F_X11_91 rfl rfl rfl (n_ hB.1 rfl) (k_602 hB.1) ?_
      refine z_iload_n Q_X11_opensOne (k := 18) rfl rfl ?_
      obtain ⟨q5, h⟩ := h
      refine y_iadd Q_X11_opensOne (k := 19) rfl ?_
      refine q_putI (o := 602) (z := 14) Q_X11_opensOne (k := 20) rfl F_X11_91 rfl rfl rfl (n_ hB.1 rfl) (k_602 hB.1) ?_
      have hB6 := qB.u (a := 602) (j := 14) (x := (V 602 14) + a1) hB q5 (Or.inl (by decide))
      refine z_aload_n Q_X11_opensOne (k := 21) rfl rfl ?_
      refine z_dup Q_X11_opensOne (k := 22) rfl rfl ?_
      refine q_getI (o := 602) (z := 17) Q_X11_opensOne (k := 23) rfl F_X11_134 rfl rfl rfl (n_ hB6.1 rfl) (k_602 hB6.1) ?_
      refine y_iconst Q_X11_opensOne (k := 24) rfl ?_
      obtain ⟨q7, h⟩ := h
      refine y_iadd Q_X11_opensOne (k := 25) rfl ?_
      refine q_putI (o := 602) (z := 17) Q_X11_opensOne (k := 26) rfl F_X11_134 rfl rfl rfl (n_ hB6.1 rfl) (k_602 hB6.1) ?_
      have hB8 := qB.u (a := 602) (j := 17) (x := ((qu V 602 14 ((V 602 14) + a1)) 602 17) + 1) hB6 q7 (Or.inl (by decide))
      exact z_vret Q_X11_opensOne (k := 27) rfl rfl (qI_uV hB8 h)
  · replace h := h.2 c
    refine z_aload_n Q_X11_opensOne (k := 3) rfl rfl ?_
    refine q_getI (o := 602) (z := 17) Q_X11_opensOne (k := 4) rfl F_X11_134 rfl rfl rfl (n_ hB.1 rfl) (k_602 hB.1) ?_
    refine y_bipush Q_X11_opensOne (k := 5) rfl (by decide) ?_
    refine y_icmp_ne 25 Q_X11_opensOne (k := 6) rfl (by decide) (hB.2.1 _ _) ⟨by decide, by decide⟩ (fun c => ?_) (fun c => ?_)
    · replace h := h.2 c
      refine z_aload_n Q_X11_opensOne (k := 12) rfl rfl ?_
      refine q_callV0_z Q_X11_opensOne (k := 13) rfl rfl K_X11_fine V_X11_fine L_X11_117 (n_ hB.1 rfl) (k_602 hB.1) (Nat.le_of_ble_eq_true rfl) (Nat.le_of_ble_eq_true rfl) rfl (Nat.zero_le _) (Nat.zero_le _) (w_X11_fine d hB  h) (fun r9 hz9 hb9 h => ?_)
      refine y_if_eq 42 Q_X11_opensOne (k := 14) rfl (by decide) hz9 (fun c => ?_) (fun c => ?_)
      · replace h := h.1 c
        refine z_aload_n Q_X11_opensOne (k := 21) rfl rfl ?_
        refine z_dup Q_X11_opensOne (k := 22) rfl rfl ?_
        refine q_getI (o := 602) (z := 17) Q_X11_opensOne (k := 23) rfl F_X11_134 rfl rfl rfl (n_ hB.1 rfl) (k_602 hB.1) ?_
        refine y_iconst Q_X11_opensOne (k := 24) rfl ?_
        obtain ⟨q10, h⟩ := h
        refine y_iadd Q_X11_opensOne (k := 25) rfl ?_
        refine q_putI (o := 602) (z := 17) Q_X11_opensOne (k := 26) rfl F_X11_134 rfl rfl rfl (n_ hB.1 rfl) (k_602 hB.1) ?_
        have hB11 := qB.u (a := 602) (j := 17) (x := (V 602 17) + 1) hB q10 (Or.inl (by decide))
        exact z_vret Q_X11_opensOne (k := 27) rfl rfl (qI_uV hB11 h)
      · replace h := h.2 c
        refine z_aload_n Q_X11_opensOne (k := 15) rfl rfl ?_
        refine z_dup Q_X11_opensOne (k := 16) rfl rfl ?_
        refine q_getI (o := 602) (z := 14) Q_X11_opensOne (k := 17) rfl F_X11_91 rfl rfl rfl (n_ hB.1 rfl) (k_602 hB.1) ?_
        refine z_iload_n Q_X11_opensOne (k := 18) rfl rfl ?_
        obtain ⟨q12, h⟩ := h
        refine y_iadd Q_X11_opensOne (k := 19) rfl ?_
        refine q_putI (o := 602) (z := 14) Q_X11_opensOne (k := 20) rfl F_X11_91 rfl rfl rfl (n_ hB.1 rfl) (k_602 hB.1) ?_
        have hB13 := qB.u (a := 602) (j := 14) (x := (V 602 14) + a1) hB q12 (Or.inl (by decide))
        refine z_aload_n Q_X11_opensOne (k := 21) rfl rfl ?_
        refine z_dup Q_X11_opensOne (k := 22) rfl rfl ?_
        refine q_getI (o := 602) (z := 17) Q_X11_opensOne (k := 23) rfl F_X11_134 rfl rfl rfl (n_ hB13.1 rfl) (k_602 hB13.1) ?_
        refine y_iconst Q_X11_opensOne (k := 24) rfl ?_
        obtain ⟨q14, h⟩ := h
        refine y_iadd Q_X11_opensOne (k := 25) rfl ?_
        refine q_putI (o := 602) (z := 17) Q_X11_opensOne (k := 26) rfl F_X11_134 rfl rfl rfl (n_ hB13.1 rfl) (k_602 hB13.1) ?_
        have hB15 := qB.u (a := 602) (j := 17) (x := ((qu V 602 14 ((V 602 14) + a1)) 602 17) + 1) hB13 q14 (Or.inl (by decide))
        exact z_vret Q_X11_opensOne (k := 27) rfl rfl (qI_uV hB15 h)
    · replace h := h.1 c
      refine z_aload_n Q_X11_opensOne (k := 7) rfl rfl ?_
      refine y_iconst Q_X11_opensOne (k := 8) rfl ?_
      refine z_aload_n Q_X11_opensOne (k := 9) rfl rfl ?_
      refine q_getI (o := 602) (z := 14) Q_X11_opensOne (k := 10) rfl F_X11_91 rfl rfl rfl (n_ hB.1 rfl) (k_602 hB.1) ?_
      refine q_callV2_uV Q_X11_opensOne (k := 11) rfl rfl K_X11_wrong V_X11_wrong L_X11_124 (n_ hB.1 rfl) (k_602 hB.1) (Nat.le_of_ble_eq_true rfl) (Nat.le_of_ble_eq_true rfl) rfl (Nat.zero_le _) (Nat.zero_le _) (w_X11_wrong d hB ⟨by decide, by decide⟩ (hB.2.1 _ _) h) (fun V16 hB16 h => ?_)
      refine z_aload_n Q_X11_opensOne (k := 12) rfl rfl ?_
      refine q_callV0_z Q_X11_opensOne (k := 13) rfl rfl K_X11_fine V_X11_fine L_X11_117 (n_ hB16.1 rfl) (k_602 hB16.1) (Nat.le_of_ble_eq_true rfl) (Nat.le_of_ble_eq_true rfl) rfl (Nat.zero_le _) (Nat.zero_le _) (w_X11_fine d hB16  h) (fun r17 hz17 hb17 h => ?_)
      refine y_if_eq 42 Q_X11_opensOne (k := 14) rfl (by decide) hz17 (fun c => ?_) (fun c => ?_)
      · replace h := h.1 c
        refine z_aload_n Q_X11_opensOne (k := 21) rfl rfl ?_
        refine z_dup Q_X11_opensOne (k := 22) rfl rfl ?_
        refine q_getI (o := 602) (z := 17) Q_X11_opensOne (k := 23) rfl F_X11_134 rfl rfl rfl (n_ hB16.1 rfl) (k_602 hB16.1) ?_
        refine y_iconst Q_X11_opensOne (k := 24) rfl ?_
        obtain ⟨q18, h⟩ := h
        refine y_iadd Q_X11_opensOne (k := 25) rfl ?_
        refine q_putI (o := 602) (z := 17) Q_X11_opensOne (k := 26) rfl F_X11_134 rfl rfl rfl (n_ hB16.1 rfl) (k_602 hB16.1) ?_
        have hB19 := qB.u (a := 602) (j := 17) (x := (V16 602 17) + 1) hB16 q18 (Or.inl (by decide))
        exact z_vret Q_X11_opensOne (k := 27) rfl rfl (qI_uV hB19 h)
      · replace h := h.2 c
        refine z_aload_n Q_X11_opensOne (k := 15) rfl rfl ?_
        refine z_dup Q_X11_opensOne (k := 16) rfl rfl ?_
        refine q_getI (o := 602) (z := 14) Q_X11_opensOne (k := 17) rfl F_X11_91 rfl rfl rfl (n_ hB16.1 rfl) (k_602 hB16.1) ?_
        refine z_iload_n Q_X11_opensOne (k := 18) rfl rfl ?_
        obtain ⟨q20, h⟩ := h
        refine y_iadd Q_X11_opensOne (k := 19) rfl ?_
        refine q_putI (o := 602) (z := 14) Q_X11_opensOne (k := 20) rfl F_X11_91 rfl rfl rfl (n_ hB16.1 rfl) (k_602 hB16.1) ?_
        have hB21 := qB.u (a := 602) (j := 14) (x := (V16 602 14) + a1) hB16 q20 (Or.inl (by decide))
        refine z_aload_n Q_X11_opensOne (k := 21) rfl rfl ?_
        refine z_dup Q_X11_opensOne (k := 22) rfl rfl ?_
        refine q_getI (o := 602) (z := 17) Q_X11_opensOne (k := 23) rfl F_X11_134 rfl rfl rfl (n_ hB21.1 rfl) (k_602 hB21.1) ?_
        refine y_iconst Q_X11_opensOne (k := 24) rfl ?_
        obtain ⟨q22, h⟩ := h
        refine y_iadd Q_X11_opensOne (k := 25) rfl ?_
        refine q_putI (o := 602) (z := 17) Q_X11_opensOne (k := 26) rfl F_X11_134 rfl rfl rfl (n_ hB21.1 rfl) (k_602 hB21.1) ?_
        have hB23 := qB.u (a := 602) (j := 17) (x := ((qu V16 602 14 ((V16 602 14) + a1)) 602 17) + 1) hB21 q22 (Or.inl (by decide))
        exact z_vret Q_X11_opensOne (k := 27) rfl rfl (qI_uV hB23 h)
set_option maxHeartbeats 4000000 in
set_option maxRecDepth 20000 in
theorem w_X11_closesOne {S : zS} {V : qV} {J : qJ} {Q : qV → Prop} (d : Nat) (hB : qB S V) {a1 : Int} (z1 : zr a1) (h : W_X11_closesOne a1 V Q) : Z M_X11_closesOne (d + 2) 0 0 0 [some (.ref 602), some (.int (iI a1))] [] S (qi V) (qj J) (qP_uV S J Q) := by
  unfold W_X11_closesOne at h
  refine z_aload_n Q_X11_closesOne (k := 0) rfl rfl ?_
  refine z_iload_n Q_X11_closesOne (k := 1) rfl rfl ?_
  refine q_callV1_uV Q_X11_closesOne (k := 2) rfl rfl K_X11_need V_X11_need L_X11_137 (n_ hB.1 rfl) (k_602 hB.1) (Nat.le_of_ble_eq_true rfl) (Nat.le_of_ble_eq_true rfl) rfl (Nat.zero_le _) (Nat.zero_le _) (w_X11_need d hB z1 h) (fun V1 hB1 h => ?_)
  refine z_aload_n Q_X11_closesOne (k := 3) rfl rfl ?_
  refine z_dup Q_X11_closesOne (k := 4) rfl rfl ?_
  refine q_getI (o := 602) (z := 17) Q_X11_closesOne (k := 5) rfl F_X11_134 rfl rfl rfl (n_ hB1.1 rfl) (k_602 hB1.1) ?_
  refine y_iconst Q_X11_closesOne (k := 6) rfl ?_
  obtain ⟨q2, h⟩ := h
  refine y_isub Q_X11_closesOne (k := 7) rfl ?_
  refine q_putI (o := 602) (z := 17) Q_X11_closesOne (k := 8) rfl F_X11_134 rfl rfl rfl (n_ hB1.1 rfl) (k_602 hB1.1) ?_
  have hB3 := qB.u (a := 602) (j := 17) (x := (V1 602 17) - 1) hB1 q2 (Or.inl (by decide))
  exact z_vret Q_X11_closesOne (k := 9) rfl rfl (qI_uV hB3 h)
set_option maxHeartbeats 4000000 in
set_option maxRecDepth 20000 in
theorem b_X11_term {S : zS} {V : qV} {J : qJ} {g_X11_sum : qV → (qV → Prop) → Prop} {Q : qV → Prop} (d : Nat) (hg_X11_sum : ∀ {V : qV} {Q : qV → Prop}, qB S V → g_X11_sum V Q → Z M_X11_sum (d + 2) 0 0 0 [some (.ref 602), none] [] S (qi V) (qj J) (qP_uV S J Q)) (hB : qB S V) (h : B_X11_term g_X11_sum V Q) : Z M_X11_term (d + 3) 0 0 0 [some (.ref 602), none, none] [] S (qi V) (qj J) (qP_uV S J Q) := by
  unfold B_X11_term at h
  refine z_aload_n Q_X11_term (k := 0) rfl rfl ?_
  refine q_callV0_z Q_X11_term (k := 1) rfl rfl K_X11_fine V_X11_fine L_X11_117 (n_ hB.1 rfl) (k_602 hB.1) (Nat.le_of_ble_eq_true rfl) (Nat.le_of_ble_eq_true rfl) rfl (Nat.zero_le _) (Nat.zero_le _) (w_X11_fine (d + 2) hB  h) (fun r1 hz1 hb1 h => ?_)
  refine y_if_ne 8 Q_X11_term (k := 2) rfl (by decide) hz1 (fun c => ?_) (fun c => ?_)
  · replace h := h.2 c
    refine z_aload_n Q_X11_term (k := 4) rfl rfl ?_
    refine q_callV0_iV Q_X11_term (k := 5) rfl rfl K_X11_here V_X11_here L_X11_97 (n_ hB.1 rfl) (k_602 hB.1) (Nat.le_of_ble_eq_true rfl) (Nat.le_of_ble_eq_true rfl) rfl (Nat.zero_le _) (Nat.zero_le _) (w_X11_here (d + 2) hB  h) (fun r2 V2 hB2 hz2 h => ?_)
    refine y_istore_n (L' := [some (.ref 602), some (.int (iI r2)), none]) Q_X11_term (k := 6) rfl (by decide) rfl ?_
    refine z_iload_n Q_X11_term (k := 7) rfl rfl ?_
    refine q_callS1_z Q_X11_term (k := 8) rfl rfl K_X11_isDigit S_X11_isDigit L_X11_121 (Nat.le_of_ble_eq_true rfl) (Nat.le_of_ble_eq_true rfl) rfl (Nat.zero_le _) (Nat.zero_le _) (w_X11_isDigit (d + 2) hB2 hz2 h) (fun r3 hz3 hb3 h => ?_)
    refine y_if_eq 32 Q_X11_term (k := 9) rfl (by decide) hz3 (fun c => ?_) (fun c => ?_)
    · replace h := h.1 c
      refine z_iload_n Q_X11_term (k := 16) rfl rfl ?_
      refine y_bipush Q_X11_term (k := 17) rfl (by decide) ?_
      refine y_icmp_ne 56 Q_X11_term (k := 18) rfl (by decide) hz2 ⟨by decide, by decide⟩ (fun c => ?_) (fun c => ?_)
      · replace h := h.2 c
        refine z_aload_n Q_X11_term (k := 28) rfl rfl ?_
        refine q_callV0_iV Q_X11_term (k := 29) rfl rfl K_X11_word V_X11_word L_X11_156 (n_ hB2.1 rfl) (k_602 hB2.1) (Nat.le_of_ble_eq_true rfl) (Nat.le_of_ble_eq_true rfl) rfl (Nat.zero_le _) (Nat.zero_le _) (w_X11_word (d + 1) hB2  h) (fun r4 V4 hB4 hz4 h => ?_)
        refine q_callS1_i Q_X11_term (k := 30) rfl rfl K_X11_nameOf S_X11_nameOf L_X11_159 (Nat.le_of_ble_eq_true rfl) (Nat.le_of_ble_eq_true rfl) rfl (Nat.zero_le _) (Nat.zero_le _) (w_X11_nameOf (d + 2) hB4 hz4 h) (fun r5 hz5 h => ?_)
        refine y_iconst Q_X11_term (k := 31) rfl ?_
        refine y_icmp_eq 88 Q_X11_term (k := 32) rfl (by decide) hz5 ⟨by decide, by decide⟩ (fun c => ?_) (fun c => ?_)
        · replace h := h.1 c
          refine z_aload_n Q_X11_term (k := 44) rfl rfl ?_
          refine y_iconst Q_X11_term (k := 45) rfl ?_
          refine z_aload_n Q_X11_term (k := 46) rfl rfl ?_
          refine q_getI (o := 602) (z := 14) Q_X11_term (k := 47) rfl F_X11_91 rfl rfl rfl (n_ hB4.1 rfl) (k_602 hB4.1) ?_
          refine q_callV2_uV Q_X11_term (k := 48) rfl rfl K_X11_wrong V_X11_wrong L_X11_124 (n_ hB4.1 rfl) (k_602 hB4.1) (Nat.le_of_ble_eq_true rfl) (Nat.le_of_ble_eq_true rfl) rfl (Nat.zero_le _) (Nat.zero_le _) (w_X11_wrong (d + 2) hB4 ⟨by decide, by decide⟩ (hB4.2.1 _ _) h) (fun V6 hB6 h => ?_)
          exact z_vret Q_X11_term (k := 49) rfl rfl (qI_uV hB6 h)
        · replace h := h.2 c
          refine z_aload_n Q_X11_term (k := 33) rfl rfl ?_
          refine q_callV0_iV Q_X11_term (k := 34) rfl rfl K_X11_word V_X11_word L_X11_156 (n_ hB4.1 rfl) (k_602 hB4.1) (Nat.le_of_ble_eq_true rfl) (Nat.le_of_ble_eq_true rfl) rfl (Nat.zero_le _) (Nat.zero_le _) (w_X11_word (d + 1) hB4  h) (fun r7 V7 hB7 hz7 h => ?_)
          refine q_callS1_i Q_X11_term (k := 35) rfl rfl K_X11_nameOf S_X11_nameOf L_X11_159 (Nat.le_of_ble_eq_true rfl) (Nat.le_of_ble_eq_true rfl) rfl (Nat.zero_le _) (Nat.zero_le _) (w_X11_nameOf (d + 2) hB7 hz7 h) (fun r8 hz8 h => ?_)
          refine y_istore_n (L' := [some (.ref 602), some (.int (iI r2)), some (.int (iI r8))]) Q_X11_term (k := 36) rfl (by decide) rfl ?_
          refine z_aload_n Q_X11_term (k := 37) rfl rfl ?_
          refine q_callV0_uV Q_X11_term (k := 38) rfl rfl K_X11_pass V_X11_pass L_X11_163 (n_ hB7.1 rfl) (k_602 hB7.1) (Nat.le_of_ble_eq_true rfl) (Nat.le_of_ble_eq_true rfl) rfl (Nat.zero_le _) (Nat.zero_le _) (w_X11_pass (d + 1) hB7  h) (fun V9 hB9 h => ?_)
          refine z_aload_n Q_X11_term (k := 39) rfl rfl ?_
          refine y_iconst Q_X11_term (k := 40) rfl ?_
          refine z_iload_n Q_X11_term (k := 41) rfl rfl ?_
          refine q_callV2_uV Q_X11_term (k := 42) rfl rfl K_X11_emit V_X11_emit L_X11_144 (n_ hB9.1 rfl) (k_602 hB9.1) (Nat.le_of_ble_eq_true rfl) (Nat.le_of_ble_eq_true rfl) rfl (Nat.zero_le _) (Nat.zero_le _) (w_X11_emit (d + 1) hB9 ⟨by decide, by decide⟩ hz8 h) (fun V10 hB10 h => ?_)
          refine z_goto (tgt := 97) Q_X11_term (k := 43) rfl (by decide) ?_
          exact z_vret Q_X11_term (k := 49) rfl rfl (qI_uV hB10 h)
      · replace h := h.1 c
        refine z_aload_n Q_X11_term (k := 19) rfl rfl ?_
        refine y_iconst Q_X11_term (k := 20) rfl ?_
        refine q_callV1_uV Q_X11_term (k := 21) rfl rfl K_X11_opensOne V_X11_opensOne L_X11_147 (n_ hB2.1 rfl) (k_602 hB2.1) (Nat.le_of_ble_eq_true rfl) (Nat.le_of_ble_eq_true rfl) rfl (Nat.zero_le _) (Nat.zero_le _) (w_X11_opensOne (d + 1) hB2 ⟨by decide, by decide⟩ h) (fun V11 hB11 h => ?_)
        refine z_aload_n Q_X11_term (k := 22) rfl rfl ?_
        refine q_callV0_uV Q_X11_term (k := 23) rfl rfl K_X11_sum V_X11_sum L_X11_150 (n_ hB11.1 rfl) (k_602 hB11.1) (Nat.le_of_ble_eq_true rfl) (Nat.le_of_ble_eq_true rfl) rfl (Nat.zero_le _) (Nat.zero_le _) (hg_X11_sum hB11 h) (fun V12 hB12 h => ?_)
        refine z_aload_n Q_X11_term (k := 24) rfl rfl ?_
        refine y_bipush Q_X11_term (k := 25) rfl (by decide) ?_
        refine q_callV1_uV Q_X11_term (k := 26) rfl rfl K_X11_closesOne V_X11_closesOne L_X11_153 (n_ hB12.1 rfl) (k_602 hB12.1) (Nat.le_of_ble_eq_true rfl) (Nat.le_of_ble_eq_true rfl) rfl (Nat.zero_le _) (Nat.zero_le _) (w_X11_closesOne d hB12 ⟨by decide, by decide⟩ h) (fun V13 hB13 h => ?_)
        refine z_goto (tgt := 97) Q_X11_term (k := 27) rfl (by decide) ?_
        exact z_vret Q_X11_term (k := 49) rfl rfl (qI_uV hB13 h)
    · replace h := h.2 c
      refine z_aload_n Q_X11_term (k := 10) rfl rfl ?_
      refine y_iconst Q_X11_term (k := 11) rfl ?_
      refine z_aload_n Q_X11_term (k := 12) rfl rfl ?_
      refine q_callV0_iV Q_X11_term (k := 13) rfl rfl K_X11_readNumber V_X11_readNumber L_X11_141 (n_ hB2.1 rfl) (k_602 hB2.1) (Nat.le_of_ble_eq_true rfl) (Nat.le_of_ble_eq_true rfl) rfl (Nat.zero_le _) (Nat.zero_le _) (w_X11_readNumber (d + 1) hB2  h) (fun r14 V14 hB14 hz14 h => ?_)
      refine q_callV2_uV Q_X11_term (k := 14) rfl rfl K_X11_emit V_X11_emit L_X11_144 (n_ hB14.1 rfl) (k_602 hB14.1) (Nat.le_of_ble_eq_true rfl) (Nat.le_of_ble_eq_true rfl) rfl (Nat.zero_le _) (Nat.zero_le _) (w_X11_emit (d + 1) hB14 ⟨by decide, by decide⟩ hz14 h) (fun V15 hB15 h => ?_)
      refine z_goto (tgt := 97) Q_X11_term (k := 15) rfl (by decide) ?_
      exact z_vret Q_X11_term (k := 49) rfl rfl (qI_uV hB15 h)
  · replace h := h.1 c
    exact z_vret Q_X11_term (k := 3) rfl rfl (qI_uV hB h)
set_option maxHeartbeats 4000000 in
set_option maxRecDepth 20000 in
theorem v_X11_sum_4 {S : zS} {J : qJ} {g_X11_term : qV → (qV → Prop) → Prop} {K : qV → Prop} {Q : qV → Prop} {kc ks : Nat} (d : Nat) (hg_X11_term : ∀ {V : qV} {Q : qV → Prop}, qB S V → g_X11_term V Q → Z M_X11_term (d + 2) 0 0 0 [some (.ref 602), none, none] [] S (qi V) (qj J) (qP_uV S J Q)) (hK : ∀ (V : qV), qB S V → K V → Z M_X11_sum (d + 3) kc ks 67 [some (.ref 602), none] [] S (qi V) (qj J) (qP_uV S J Q)) : ∀ (f : Nat) (V : qV), qB S V → lp_X11_sum_4 g_X11_term K f V → Z M_X11_sum (d + 3) kc ks 4 [some (.ref 602), none] [] S (qi V) (qj J) (qP_uV S J Q) := by
  intro f
  induction f with
  | zero =>
    intro V hB h
    exact h.elim
  | succ f ih =>
    intro V hB h
    rw [lp_X11_sum_4] at h
    refine z_aload_n Q_X11_sum (k := 2) rfl rfl ?_
    refine q_callV0_z Q_X11_sum (k := 3) rfl rfl K_X11_fine V_X11_fine L_X11_117 (n_ hB.1 rfl) (k_602 hB.1) (Nat.le_of_ble_eq_true rfl) (Nat.le_of_ble_eq_true rfl) rfl (Nat.zero_le _) (Nat.zero_le _) (w_X11_fine (d + 2) hB  h) (fun r2 hz2 hb2 h => ?_)
    refine y_if_eq 67 Q_X11_sum (k := 4) rfl (by decide) hz2 (fun c => ?_) (fun c => ?_)
    · replace h := h.1 c
      exact y_fg (zsb_c rfl (zsb_n zsb_e)) (hK V hB h)
    · replace h := h.2 c
      refine z_aload_n Q_X11_sum (k := 5) rfl rfl ?_
      refine q_callV0_iV Q_X11_sum (k := 6) rfl rfl K_X11_here V_X11_here L_X11_97 (n_ hB.1 rfl) (k_602 hB.1) (Nat.le_of_ble_eq_true rfl) (Nat.le_of_ble_eq_true rfl) rfl (Nat.zero_le _) (Nat.zero_le _) (w_X11_here (d + 2) hB  h) (fun r3 V3 hB3 hz3 h => ?_)
      refine y_bipush Q_X11_sum (k := 7) rfl (by decide) ?_
      refine y_icmp_eq 29 Q_X11_sum (k := 8) rfl (by decide) hz3 ⟨by decide, by decide⟩ (fun c => ?_) (fun c => ?_)
      · replace h := h.1 c
        refine z_aload_n Q_X11_sum (k := 13) rfl rfl ?_
        refine q_callV0_iV Q_X11_sum (k := 14) rfl rfl K_X11_here V_X11_here L_X11_97 (n_ hB3.1 rfl) (k_602 hB3.1) (Nat.le_of_ble_eq_true rfl) (Nat.le_of_ble_eq_true rfl) rfl (Nat.zero_le _) (Nat.zero_le _) (w_X11_here (d + 2) hB3  h) (fun r4 V4 hB4 hz4 h => ?_)
        refine y_istore_n (L' := [some (.ref 602), some (.int (iI r4))]) Q_X11_sum (k := 15) rfl (by decide) rfl ?_
        refine z_aload_n Q_X11_sum (k := 16) rfl rfl ?_
        refine z_dup Q_X11_sum (k := 17) rfl rfl ?_
        refine q_getI (o := 602) (z := 14) Q_X11_sum (k := 18) rfl F_X11_91 rfl rfl rfl (n_ hB4.1 rfl) (k_602 hB4.1) ?_
        refine y_iconst Q_X11_sum (k := 19) rfl ?_
        obtain ⟨q5, h⟩ := h
        refine y_iadd Q_X11_sum (k := 20) rfl ?_
        refine q_putI (o := 602) (z := 14) Q_X11_sum (k := 21) rfl F_X11_91 rfl rfl rfl (n_ hB4.1 rfl) (k_602 hB4.1) ?_
        have hB6 := qB.u (a := 602) (j := 14) (x := (V4 602 14) + 1) hB4 q5 (Or.inl (by decide))
        refine z_aload_n Q_X11_sum (k := 22) rfl rfl ?_
        refine q_callV0_uV Q_X11_sum (k := 23) rfl rfl K_X11_term V_X11_term L_X11_166 (n_ hB6.1 rfl) (k_602 hB6.1) (Nat.le_of_ble_eq_true rfl) (Nat.le_of_ble_eq_true rfl) rfl (Nat.zero_le _) (Nat.zero_le _) (hg_X11_term hB6 h) (fun V7 hB7 h => ?_)
        refine z_aload_n Q_X11_sum (k := 24) rfl rfl ?_
        refine z_iload_n Q_X11_sum (k := 25) rfl rfl ?_
        refine y_bipush Q_X11_sum (k := 26) rfl (by decide) ?_
        refine y_icmp_ne 59 Q_X11_sum (k := 27) rfl (by decide) hz4 ⟨by decide, by decide⟩ (fun c => ?_) (fun c => ?_)
        · replace h := h.2 c
          refine y_iconst Q_X11_sum (k := 30) rfl ?_
          refine y_iconst Q_X11_sum (k := 31) rfl ?_
          refine q_callV2_uV Q_X11_sum (k := 32) rfl rfl K_X11_emit V_X11_emit L_X11_144 (n_ hB7.1 rfl) (k_602 hB7.1) (Nat.le_of_ble_eq_true rfl) (Nat.le_of_ble_eq_true rfl) rfl (Nat.zero_le _) (Nat.zero_le _) (w_X11_emit (d + 1) hB7 ⟨by decide, by decide⟩ ⟨by decide, by decide⟩ h) (fun V8 hB8 h => ?_)
          refine z_goto (tgt := 4) Q_X11_sum (k := 33) rfl (by decide) ?_
          exact y_fg (zsb_c rfl (zsb_n zsb_e)) (ih V8 hB8 h)
        · replace h := h.1 c
          refine y_iconst Q_X11_sum (k := 28) rfl ?_
          refine z_goto (tgt := 60) Q_X11_sum (k := 29) rfl (by decide) ?_
          refine y_iconst Q_X11_sum (k := 31) rfl ?_
          refine q_callV2_uV Q_X11_sum (k := 32) rfl rfl K_X11_emit V_X11_emit L_X11_144 (n_ hB7.1 rfl) (k_602 hB7.1) (Nat.le_of_ble_eq_true rfl) (Nat.le_of_ble_eq_true rfl) rfl (Nat.zero_le _) (Nat.zero_le _) (w_X11_emit (d + 1) hB7 ⟨by decide, by decide⟩ ⟨by decide, by decide⟩ h) (fun V9 hB9 h => ?_)
          refine z_goto (tgt := 4) Q_X11_sum (k := 33) rfl (by decide) ?_
          exact y_fg (zsb_c rfl (zsb_n zsb_e)) (ih V9 hB9 h)
      · replace h := h.2 c
        refine z_aload_n Q_X11_sum (k := 9) rfl rfl ?_
        refine q_callV0_iV Q_X11_sum (k := 10) rfl rfl K_X11_here V_X11_here L_X11_97 (n_ hB3.1 rfl) (k_602 hB3.1) (Nat.le_of_ble_eq_true rfl) (Nat.le_of_ble_eq_true rfl) rfl (Nat.zero_le _) (Nat.zero_le _) (w_X11_here (d + 2) hB3  h) (fun r10 V10 hB10 hz10 h => ?_)
        refine y_bipush Q_X11_sum (k := 11) rfl (by decide) ?_
        refine y_icmp_ne 67 Q_X11_sum (k := 12) rfl (by decide) hz10 ⟨by decide, by decide⟩ (fun c => ?_) (fun c => ?_)
        · replace h := h.2 c
          exact y_fg (zsb_c rfl (zsb_n zsb_e)) (hK V10 hB10 h)
        · replace h := h.1 c
          refine z_aload_n Q_X11_sum (k := 13) rfl rfl ?_
          refine q_callV0_iV Q_X11_sum (k := 14) rfl rfl K_X11_here V_X11_here L_X11_97 (n_ hB10.1 rfl) (k_602 hB10.1) (Nat.le_of_ble_eq_true rfl) (Nat.le_of_ble_eq_true rfl) rfl (Nat.zero_le _) (Nat.zero_le _) (w_X11_here (d + 2) hB10  h) (fun r11 V11 hB11 hz11 h => ?_)
          refine y_istore_n (L' := [some (.ref 602), some (.int (iI r11))]) Q_X11_sum (k := 15) rfl (by decide) rfl ?_
          refine z_aload_n Q_X11_sum (k := 16) rfl rfl ?_
          refine z_dup Q_X11_sum (k := 17) rfl rfl ?_
          refine q_getI (o := 602) (z := 14) Q_X11_sum (k := 18) rfl F_X11_91 rfl rfl rfl (n_ hB11.1 rfl) (k_602 hB11.1) ?_
          refine y_iconst Q_X11_sum (k := 19) rfl ?_
          obtain ⟨q12, h⟩ := h
          refine y_iadd Q_X11_sum (k := 20) rfl ?_
          refine q_putI (o := 602) (z := 14) Q_X11_sum (k := 21) rfl F_X11_91 rfl rfl rfl (n_ hB11.1 rfl) (k_602 hB11.1) ?_
          have hB13 := qB.u (a := 602) (j := 14) (x := (V11 602 14) + 1) hB11 q12 (Or.inl (by decide))
          refine z_aload_n Q_X11_sum (k := 22) rfl rfl ?_
          refine q_callV0_uV Q_X11_sum (k := 23) rfl rfl K_X11_term V_X11_term L_X11_166 (n_ hB13.1 rfl) (k_602 hB13.1) (Nat.le_of_ble_eq_true rfl) (Nat.le_of_ble_eq_true rfl) rfl (Nat.zero_le _) (Nat.zero_le _) (hg_X11_term hB13 h) (fun V14 hB14 h => ?_)
          refine z_aload_n Q_X11_sum (k := 24) rfl rfl ?_
          refine z_iload_n Q_X11_sum (k := 25) rfl rfl ?_
          refine y_bipush Q_X11_sum (k := 26) rfl (by decide) ?_
          refine y_icmp_ne 59 Q_X11_sum (k := 27) rfl (by decide) hz11 ⟨by decide, by decide⟩ (fun c => ?_) (fun c => ?_)
          · replace h := h.2 c
            refine y_iconst Q_X11_sum (k := 30) rfl ?_
            refine y_iconst Q_X11_sum (k := 31) rfl ?_
            refine q_callV2_uV Q_X11_sum (k := 32) rfl rfl K_X11_emit V_X11_emit L_X11_144 (n_ hB14.1 rfl) (k_602 hB14.1) (Nat.le_of_ble_eq_true rfl) (Nat.le_of_ble_eq_true rfl) rfl (Nat.zero_le _) (Nat.zero_le _) (w_X11_emit (d + 1) hB14 ⟨by decide, by decide⟩ ⟨by decide, by decide⟩ h) (fun V15 hB15 h => ?_)
            refine z_goto (tgt := 4) Q_X11_sum (k := 33) rfl (by decide) ?_
            exact y_fg (zsb_c rfl (zsb_n zsb_e)) (ih V15 hB15 h)
          · replace h := h.1 c
            refine y_iconst Q_X11_sum (k := 28) rfl ?_
            refine z_goto (tgt := 60) Q_X11_sum (k := 29) rfl (by decide) ?_
            refine y_iconst Q_X11_sum (k := 31) rfl ?_
            refine q_callV2_uV Q_X11_sum (k := 32) rfl rfl K_X11_emit V_X11_emit L_X11_144 (n_ hB14.1 rfl) (k_602 hB14.1) (Nat.le_of_ble_eq_true rfl) (Nat.le_of_ble_eq_true rfl) rfl (Nat.zero_le _) (Nat.zero_le _) (w_X11_emit (d + 1) hB14 ⟨by decide, by decide⟩ ⟨by decide, by decide⟩ h) (fun V16 hB16 h => ?_)
            refine z_goto (tgt := 4) Q_X11_sum (k := 33) rfl (by decide) ?_
            exact y_fg (zsb_c rfl (zsb_n zsb_e)) (ih V16 hB16 h)
set_option maxHeartbeats 4000000 in
set_option maxRecDepth 20000 in
theorem b_X11_sum {S : zS} {V : qV} {J : qJ} {g_X11_term : qV → (qV → Prop) → Prop} {Q : qV → Prop} (d : Nat) (hg_X11_term : ∀ {V : qV} {Q : qV → Prop}, qB S V → g_X11_term V Q → Z M_X11_term (d + 2) 0 0 0 [some (.ref 602), none, none] [] S (qi V) (qj J) (qP_uV S J Q)) (hB : qB S V) (h : B_X11_sum g_X11_term V Q) : Z M_X11_sum (d + 3) 0 0 0 [some (.ref 602), none] [] S (qi V) (qj J) (qP_uV S J Q) := by
  unfold B_X11_sum at h
  refine z_aload_n Q_X11_sum (k := 0) rfl rfl ?_
  refine q_callV0_uV Q_X11_sum (k := 1) rfl rfl K_X11_term V_X11_term L_X11_166 (n_ hB.1 rfl) (k_602 hB.1) (Nat.le_of_ble_eq_true rfl) (Nat.le_of_ble_eq_true rfl) rfl (Nat.zero_le _) (Nat.zero_le _) (hg_X11_term hB h) (fun V1 hB1 h => ?_)
  refine y_fg (zsb_c rfl (zsb_n zsb_e)) (v_X11_sum_4 d hg_X11_term (fun V17 hB17 h => ?_) 100000 V1 hB1 h)
  exact z_vret Q_X11_sum (k := 34) rfl rfl (qI_uV hB17 h)
theorem g_ms {S : zS} {J : qJ} (d : Nat) : ∀ n : Nat, (∀ {V : qV} {Q : qV → Prop}, qB S V → G_ms n 0 V Q → Z M_X11_term (d + n + 2) 0 0 0 [some (.ref 602), none, none] [] S (qi V) (qj J) (qP_uV S J Q)) ∧ (∀ {V : qV} {Q : qV → Prop}, qB S V → G_ms n 1 V Q → Z M_X11_sum (d + n + 2) 0 0 0 [some (.ref 602), none] [] S (qi V) (qj J) (qP_uV S J Q)) := by
  intro n
  induction n with
  | zero => exact ⟨fun _ h => h.elim, fun _ h => h.elim⟩
  | succ n ih =>
    obtain ⟨i0, i1⟩ := ih
    refine ⟨?_, ?_⟩
    · intro V Q hB h
      have h2 : B_X11_term (G_ms n 1) V Q := by simpa [G_ms] using h
      exact b_X11_term (d + n) (fun hB h => i1 hB h) hB h2
    · intro V Q hB h
      have h2 : B_X11_sum (G_ms n 0) V Q := by simpa [G_ms] using h
      exact b_X11_sum (d + n) (fun hB h => i0 hB h) hB h2
theorem w_X11_term {S : zS} {V : qV} {J : qJ} {Q : qV → Prop} (d : Nat) (hB : qB S V) (h : W_X11_term V Q) : Z M_X11_term (d + 61 + 2) 0 0 0 [some (.ref 602), none, none] [] S (qi V) (qj J) (qP_uV S J Q) := (g_ms d 61).1 hB h
theorem w_X11_sum {S : zS} {V : qV} {J : qJ} {Q : qV → Prop} (d : Nat) (hB : qB S V) (h : W_X11_sum V Q) : Z M_X11_sum (d + 61 + 2) 0 0 0 [some (.ref 602), none] [] S (qi V) (qj J) (qP_uV S J Q) := (g_ms d 61).2 hB h
set_option maxHeartbeats 4000000 in
set_option maxRecDepth 20000 in
theorem v_X11_anyOf_4 {S : zS} {J : qJ} {g_X11_allOf : qV → (qV → Prop) → Prop} {K : qV → Prop} {Q : qV → Prop} {kc ks : Nat} (d : Nat) (hg_X11_allOf : ∀ {V : qV} {Q : qV → Prop}, qB S V → g_X11_allOf V Q → Z M_X11_allOf (d + 63) 0 0 0 [some (.ref 602)] [] S (qi V) (qj J) (qP_uV S J Q)) (hK : ∀ (V : qV), qB S V → K V → Z M_X11_anyOf (d + 64) kc ks 39 [some (.ref 602)] [] S (qi V) (qj J) (qP_uV S J Q)) : ∀ (f : Nat) (V : qV), qB S V → lp_X11_anyOf_4 g_X11_allOf K f V → Z M_X11_anyOf (d + 64) kc ks 4 [some (.ref 602)] [] S (qi V) (qj J) (qP_uV S J Q) := by
  intro f
  induction f with
  | zero =>
    intro V hB h
    exact h.elim
  | succ f ih =>
    intro V hB h
    rw [lp_X11_anyOf_4] at h
    refine z_aload_n Q_X11_anyOf (k := 2) rfl rfl ?_
    refine q_callV0_z Q_X11_anyOf (k := 3) rfl rfl K_X11_fine V_X11_fine L_X11_117 (n_ hB.1 rfl) (k_602 hB.1) (Nat.le_of_ble_eq_true rfl) (Nat.le_of_ble_eq_true rfl) rfl (Nat.zero_le _) (Nat.zero_le _) (w_X11_fine (d + 63) hB  h) (fun r2 hz2 hb2 h => ?_)
    refine y_if_eq 39 Q_X11_anyOf (k := 4) rfl (by decide) hz2 (fun c => ?_) (fun c => ?_)
    · replace h := h.1 c
      exact y_fg (zsb_c rfl zsb_e) (hK V hB h)
    · replace h := h.2 c
      refine z_aload_n Q_X11_anyOf (k := 5) rfl rfl ?_
      refine q_callV0_iV Q_X11_anyOf (k := 6) rfl rfl K_X11_word V_X11_word L_X11_156 (n_ hB.1 rfl) (k_602 hB.1) (Nat.le_of_ble_eq_true rfl) (Nat.le_of_ble_eq_true rfl) rfl (Nat.zero_le _) (Nat.zero_le _) (w_X11_word (d + 62) hB  h) (fun r3 V3 hB3 hz3 h => ?_)
      refine y_sipush Q_X11_anyOf (k := 7) rfl (by decide) ?_
      refine y_icmp_ne 39 Q_X11_anyOf (k := 8) rfl (by decide) hz3 ⟨by decide, by decide⟩ (fun c => ?_) (fun c => ?_)
      · replace h := h.2 c
        exact y_fg (zsb_c rfl zsb_e) (hK V3 hB3 h)
      · replace h := h.1 c
        refine z_aload_n Q_X11_anyOf (k := 9) rfl rfl ?_
        refine q_callV0_uV Q_X11_anyOf (k := 10) rfl rfl K_X11_pass V_X11_pass L_X11_163 (n_ hB3.1 rfl) (k_602 hB3.1) (Nat.le_of_ble_eq_true rfl) (Nat.le_of_ble_eq_true rfl) rfl (Nat.zero_le _) (Nat.zero_le _) (w_X11_pass (d + 62) hB3  h) (fun V4 hB4 h => ?_)
        refine z_aload_n Q_X11_anyOf (k := 11) rfl rfl ?_
        refine q_callV0_uV Q_X11_anyOf (k := 12) rfl rfl K_X11_allOf V_X11_allOf L_X11_169 (n_ hB4.1 rfl) (k_602 hB4.1) (Nat.le_of_ble_eq_true rfl) (Nat.le_of_ble_eq_true rfl) rfl (Nat.zero_le _) (Nat.zero_le _) (hg_X11_allOf hB4 h) (fun V5 hB5 h => ?_)
        refine z_aload_n Q_X11_anyOf (k := 13) rfl rfl ?_
        refine y_bipush Q_X11_anyOf (k := 14) rfl (by decide) ?_
        refine y_iconst Q_X11_anyOf (k := 15) rfl ?_
        refine q_callV2_uV Q_X11_anyOf (k := 16) rfl rfl K_X11_emit V_X11_emit L_X11_144 (n_ hB5.1 rfl) (k_602 hB5.1) (Nat.le_of_ble_eq_true rfl) (Nat.le_of_ble_eq_true rfl) rfl (Nat.zero_le _) (Nat.zero_le _) (w_X11_emit (d + 62) hB5 ⟨by decide, by decide⟩ ⟨by decide, by decide⟩ h) (fun V6 hB6 h => ?_)
        refine z_goto (tgt := 4) Q_X11_anyOf (k := 17) rfl (by decide) ?_
        exact y_fg (zsb_c rfl zsb_e) (ih V6 hB6 h)
set_option maxHeartbeats 4000000 in
set_option maxRecDepth 20000 in
theorem b_X11_anyOf {S : zS} {V : qV} {J : qJ} {g_X11_allOf : qV → (qV → Prop) → Prop} {Q : qV → Prop} (d : Nat) (hg_X11_allOf : ∀ {V : qV} {Q : qV → Prop}, qB S V → g_X11_allOf V Q → Z M_X11_allOf (d + 63) 0 0 0 [some (.ref 602)] [] S (qi V) (qj J) (qP_uV S J Q)) (hB : qB S V) (h : B_X11_anyOf g_X11_allOf V Q) : Z M_X11_anyOf (d + 64) 0 0 0 [some (.ref 602)] [] S (qi V) (qj J) (qP_uV S J Q) := by
  unfold B_X11_anyOf at h
  refine z_aload_n Q_X11_anyOf (k := 0) rfl rfl ?_
  refine q_callV0_uV Q_X11_anyOf (k := 1) rfl rfl K_X11_allOf V_X11_allOf L_X11_169 (n_ hB.1 rfl) (k_602 hB.1) (Nat.le_of_ble_eq_true rfl) (Nat.le_of_ble_eq_true rfl) rfl (Nat.zero_le _) (Nat.zero_le _) (hg_X11_allOf hB h) (fun V1 hB1 h => ?_)
  refine y_fg (zsb_c rfl zsb_e) (v_X11_anyOf_4 d hg_X11_allOf (fun V7 hB7 h => ?_) 100000 V1 hB1 h)
  exact z_vret Q_X11_anyOf (k := 18) rfl rfl (qI_uV hB7 h)
set_option maxHeartbeats 4000000 in
set_option maxRecDepth 20000 in
theorem v_X11_allOf_4 {S : zS} {J : qJ} {g_X11_one : qV → (qV → Prop) → Prop} {K : qV → Prop} {Q : qV → Prop} {kc ks : Nat} (d : Nat) (hg_X11_one : ∀ {V : qV} {Q : qV → Prop}, qB S V → g_X11_one V Q → Z M_X11_one (d + 63) 0 0 0 [some (.ref 602), none, none] [] S (qi V) (qj J) (qP_uV S J Q)) (hK : ∀ (V : qV), qB S V → K V → Z M_X11_allOf (d + 64) kc ks 39 [some (.ref 602)] [] S (qi V) (qj J) (qP_uV S J Q)) : ∀ (f : Nat) (V : qV), qB S V → lp_X11_allOf_4 g_X11_one K f V → Z M_X11_allOf (d + 64) kc ks 4 [some (.ref 602)] [] S (qi V) (qj J) (qP_uV S J Q) := by
  intro f
  induction f with
  | zero =>
    intro V hB h
    exact h.elim
  | succ f ih =>
    intro V hB h
    rw [lp_X11_allOf_4] at h
    refine z_aload_n Q_X11_allOf (k := 2) rfl rfl ?_
    refine q_callV0_z Q_X11_allOf (k := 3) rfl rfl K_X11_fine V_X11_fine L_X11_117 (n_ hB.1 rfl) (k_602 hB.1) (Nat.le_of_ble_eq_true rfl) (Nat.le_of_ble_eq_true rfl) rfl (Nat.zero_le _) (Nat.zero_le _) (w_X11_fine (d + 63) hB  h) (fun r2 hz2 hb2 h => ?_)
    refine y_if_eq 39 Q_X11_allOf (k := 4) rfl (by decide) hz2 (fun c => ?_) (fun c => ?_)
    · replace h := h.1 c
      exact y_fg (zsb_c rfl zsb_e) (hK V hB h)
    · replace h := h.2 c
      refine z_aload_n Q_X11_allOf (k := 5) rfl rfl ?_
      refine q_callV0_iV Q_X11_allOf (k := 6) rfl rfl K_X11_word V_X11_word L_X11_156 (n_ hB.1 rfl) (k_602 hB.1) (Nat.le_of_ble_eq_true rfl) (Nat.le_of_ble_eq_true rfl) rfl (Nat.zero_le _) (Nat.zero_le _) (w_X11_word (d + 62) hB  h) (fun r3 V3 hB3 hz3 h => ?_)
      refine y_sipush Q_X11_allOf (k := 7) rfl (by decide) ?_
      refine y_icmp_ne 39 Q_X11_allOf (k := 8) rfl (by decide) hz3 ⟨by decide, by decide⟩ (fun c => ?_) (fun c => ?_)
      · replace h := h.2 c
        exact y_fg (zsb_c rfl zsb_e) (hK V3 hB3 h)
      · replace h := h.1 c
        refine z_aload_n Q_X11_allOf (k := 9) rfl rfl ?_
        refine q_callV0_uV Q_X11_allOf (k := 10) rfl rfl K_X11_pass V_X11_pass L_X11_163 (n_ hB3.1 rfl) (k_602 hB3.1) (Nat.le_of_ble_eq_true rfl) (Nat.le_of_ble_eq_true rfl) rfl (Nat.zero_le _) (Nat.zero_le _) (w_X11_pass (d + 62) hB3  h) (fun V4 hB4 h => ?_)
        refine z_aload_n Q_X11_allOf (k := 11) rfl rfl ?_
        refine q_callV0_uV Q_X11_allOf (k := 12) rfl rfl K_X11_one V_X11_one L_X11_172 (n_ hB4.1 rfl) (k_602 hB4.1) (Nat.le_of_ble_eq_true rfl) (Nat.le_of_ble_eq_true rfl) rfl (Nat.zero_le _) (Nat.zero_le _) (hg_X11_one hB4 h) (fun V5 hB5 h => ?_)
        refine z_aload_n Q_X11_allOf (k := 13) rfl rfl ?_
        refine y_bipush Q_X11_allOf (k := 14) rfl (by decide) ?_
        refine y_iconst Q_X11_allOf (k := 15) rfl ?_
        refine q_callV2_uV Q_X11_allOf (k := 16) rfl rfl K_X11_emit V_X11_emit L_X11_144 (n_ hB5.1 rfl) (k_602 hB5.1) (Nat.le_of_ble_eq_true rfl) (Nat.le_of_ble_eq_true rfl) rfl (Nat.zero_le _) (Nat.zero_le _) (w_X11_emit (d + 62) hB5 ⟨by decide, by decide⟩ ⟨by decide, by decide⟩ h) (fun V6 hB6 h => ?_)
        refine z_goto (tgt := 4) Q_X11_allOf (k := 17) rfl (by decide) ?_
        exact y_fg (zsb_c rfl zsb_e) (ih V6 hB6 h)
set_option maxHeartbeats 4000000 in
set_option maxRecDepth 20000 in
theorem b_X11_allOf {S : zS} {V : qV} {J : qJ} {g_X11_one : qV → (qV → Prop) → Prop} {Q : qV → Prop} (d : Nat) (hg_X11_one : ∀ {V : qV} {Q : qV → Prop}, qB S V → g_X11_one V Q → Z M_X11_one (d + 63) 0 0 0 [some (.ref 602), none, none] [] S (qi V) (qj J) (qP_uV S J Q)) (hB : qB S V) (h : B_X11_allOf g_X11_one V Q) : Z M_X11_allOf (d + 64) 0 0 0 [some (.ref 602)] [] S (qi V) (qj J) (qP_uV S J Q) := by
  unfold B_X11_allOf at h
  refine z_aload_n Q_X11_allOf (k := 0) rfl rfl ?_
  refine q_callV0_uV Q_X11_allOf (k := 1) rfl rfl K_X11_one V_X11_one L_X11_172 (n_ hB.1 rfl) (k_602 hB.1) (Nat.le_of_ble_eq_true rfl) (Nat.le_of_ble_eq_true rfl) rfl (Nat.zero_le _) (Nat.zero_le _) (hg_X11_one hB h) (fun V1 hB1 h => ?_)
  refine y_fg (zsb_c rfl zsb_e) (v_X11_allOf_4 d hg_X11_one (fun V7 hB7 h => ?_) 100000 V1 hB1 h)
  exact z_vret Q_X11_allOf (k := 18) rfl rfl (qI_uV hB7 h)
set_option maxHeartbeats 4000000 in
set_option maxRecDepth 20000 in
theorem b_X11_one {S : zS} {V : qV} {J : qJ} {g_X11_anyOf : qV → (qV → Prop) → Prop} {g_X11_one : qV → (qV → Prop) → Prop} {Q : qV → Prop} (d : Nat) (hg_X11_anyOf : ∀ {V : qV} {Q : qV → Prop}, qB S V → g_X11_anyOf V Q → Z M_X11_anyOf (d + 63) 0 0 0 [some (.ref 602)] [] S (qi V) (qj J) (qP_uV S J Q)) (hg_X11_one : ∀ {V : qV} {Q : qV → Prop}, qB S V → g_X11_one V Q → Z M_X11_one (d + 63) 0 0 0 [some (.ref 602), none, none] [] S (qi V) (qj J) (qP_uV S J Q)) (hB : qB S V) (h : B_X11_one g_X11_anyOf g_X11_one V Q) : Z M_X11_one (d + 64) 0 0 0 [some (.ref 602), none, none] [] S (qi V) (qj J) (qP_uV S J Q) := by
  unfold B_X11_one at h
  refine z_aload_n Q_X11_one (k := 0) rfl rfl ?_
  refine q_callV0_z Q_X11_one (k := 1) rfl rfl K_X11_fine V_X11_fine L_X11_117 (n_ hB.1 rfl) (k_602 hB.1) (Nat.le_of_ble_eq_true rfl) (Nat.le_of_ble_eq_true rfl) rfl (Nat.zero_le _) (Nat.zero_le _) (w_X11_fine (d + 63) hB  h) (fun r1 hz1 hb1 h => ?_)
  refine y_if_ne 8 Q_X11_one (k := 2) rfl (by decide) hz1 (fun c => ?_) (fun c => ?_)
  · replace h := h.2 c
    refine z_aload_n Q_X11_one (k := 4) rfl rfl ?_
    refine q_callV0_iV Q_X11_one (k := 5) rfl rfl K_X11_here V_X11_here L_X11_97 (n_ hB.1 rfl) (k_602 hB.1) (Nat.le_of_ble_eq_true rfl) (Nat.le_of_ble_eq_true rfl) rfl (Nat.zero_le _) (Nat.zero_le _) (w_X11_here (d + 63) hB  h) (fun r2 V2 hB2 hz2 h => ?_)
    refine y_istore_n (L' := [some (.ref 602), some (.int (iI r2)), none]) Q_X11_one (k := 6) rfl (by decide) rfl ?_
    refine z_iload_n Q_X11_one (k := 7) rfl rfl ?_
    refine y_bipush Q_X11_one (k := 8) rfl (by decide) ?_
    refine y_icmp_ne 37 Q_X11_one (k := 9) rfl (by decide) hz2 ⟨by decide, by decide⟩ (fun c => ?_) (fun c => ?_)
    · replace h := h.2 c
      refine z_aload_n Q_X11_one (k := 19) rfl rfl ?_
      refine q_callV0_iV Q_X11_one (k := 20) rfl rfl K_X11_word V_X11_word L_X11_156 (n_ hB2.1 rfl) (k_602 hB2.1) (Nat.le_of_ble_eq_true rfl) (Nat.le_of_ble_eq_true rfl) rfl (Nat.zero_le _) (Nat.zero_le _) (w_X11_word (d + 62) hB2  h) (fun r3 V3 hB3 hz3 h => ?_)
      refine y_sipush Q_X11_one (k := 21) rfl (by decide) ?_
      refine y_icmp_ne 76 Q_X11_one (k := 22) rfl (by decide) hz3 ⟨by decide, by decide⟩ (fun c => ?_) (fun c => ?_)
      · replace h := h.2 c
        refine z_aload_n Q_X11_one (k := 39) rfl rfl ?_
        refine q_callV0_iV Q_X11_one (k := 40) rfl rfl K_X11_word V_X11_word L_X11_156 (n_ hB3.1 rfl) (k_602 hB3.1) (Nat.le_of_ble_eq_true rfl) (Nat.le_of_ble_eq_true rfl) rfl (Nat.zero_le _) (Nat.zero_le _) (w_X11_word (d + 62) hB3  h) (fun r4 V4 hB4 hz4 h => ?_)
        refine y_bipush Q_X11_one (k := 41) rfl (by decide) ?_
        refine y_icmp_ne 192 Q_X11_one (k := 42) rfl (by decide) hz4 ⟨by decide, by decide⟩ (fun c => ?_) (fun c => ?_)
        · replace h := h.2 c
          refine z_aload_n Q_X11_one (k := 101) rfl rfl ?_
          refine q_callV0_uV Q_X11_one (k := 102) rfl rfl K_X11_sum V_X11_sum L_X11_150 (n_ hB4.1 rfl) (k_602 hB4.1) (Nat.le_of_ble_eq_true rfl) (Nat.le_of_ble_eq_true rfl) rfl (Nat.zero_le _) (Nat.zero_le _) (w_X11_sum d hB4  h) (fun V5 hB5 h => ?_)
          refine z_aload_n Q_X11_one (k := 103) rfl rfl ?_
          refine q_callV0_z Q_X11_one (k := 104) rfl rfl K_X11_fine V_X11_fine L_X11_117 (n_ hB5.1 rfl) (k_602 hB5.1) (Nat.le_of_ble_eq_true rfl) (Nat.le_of_ble_eq_true rfl) rfl (Nat.zero_le _) (Nat.zero_le _) (w_X11_fine (d + 63) hB5  h) (fun r6 hz6 hb6 h => ?_)
          refine y_if_eq 210 Q_X11_one (k := 105) rfl (by decide) hz6 (fun c => ?_) (fun c => ?_)
          · replace h := h.1 c
            refine y_iconst Q_X11_one (k := 109) rfl ?_
            refine y_istore_n (L' := [some (.ref 602), some (.int (iI r2)), some (.int (iI 0))]) Q_X11_one (k := 110) rfl (by decide) rfl ?_
            refine z_iload_n Q_X11_one (k := 111) rfl rfl ?_
            refine y_bipush Q_X11_one (k := 112) rfl (by decide) ?_
            refine y_icmp_eq 239 Q_X11_one (k := 113) rfl (by decide) ⟨by decide, by decide⟩ ⟨by decide, by decide⟩ (fun q => absurd q (by decide)) (fun _ => ?_)
            refine z_iload_n Q_X11_one (k := 114) rfl rfl ?_
            refine y_bipush Q_X11_one (k := 115) rfl (by decide) ?_
            refine y_icmp_eq 239 Q_X11_one (k := 116) rfl (by decide) ⟨by decide, by decide⟩ ⟨by decide, by decide⟩ (fun q => absurd q (by decide)) (fun _ => ?_)
            refine z_iload_n Q_X11_one (k := 117) rfl rfl ?_
            refine y_bipush Q_X11_one (k := 118) rfl (by decide) ?_
            refine y_icmp_eq 239 Q_X11_one (k := 119) rfl (by decide) ⟨by decide, by decide⟩ ⟨by decide, by decide⟩ (fun q => absurd q (by decide)) (fun _ => ?_)
            refine z_aload_n Q_X11_one (k := 120) rfl rfl ?_
            refine y_iconst Q_X11_one (k := 121) rfl ?_
            refine z_aload_n Q_X11_one (k := 122) rfl rfl ?_
            refine q_getI (o := 602) (z := 14) Q_X11_one (k := 123) rfl F_X11_91 rfl rfl rfl (n_ hB5.1 rfl) (k_602 hB5.1) ?_
            refine q_callV2_uV Q_X11_one (k := 124) rfl rfl K_X11_wrong V_X11_wrong L_X11_124 (n_ hB5.1 rfl) (k_602 hB5.1) (Nat.le_of_ble_eq_true rfl) (Nat.le_of_ble_eq_true rfl) rfl (Nat.zero_le _) (Nat.zero_le _) (w_X11_wrong (d + 63) hB5 ⟨by decide, by decide⟩ (hB5.2.1 _ _) h) (fun V7 hB7 h => ?_)
            refine z_aload_n Q_X11_one (k := 125) rfl rfl ?_
            refine q_callV0_z Q_X11_one (k := 126) rfl rfl K_X11_fine V_X11_fine L_X11_117 (n_ hB7.1 rfl) (k_602 hB7.1) (Nat.le_of_ble_eq_true rfl) (Nat.le_of_ble_eq_true rfl) rfl (Nat.zero_le _) (Nat.zero_le _) (w_X11_fine (d + 63) hB7  h) (fun r8 hz8 hb8 h => ?_)
            refine y_if_eq 256 Q_X11_one (k := 127) rfl (by decide) hz8 (fun c => ?_) (fun c => ?_)
            · replace h := h.1 c
              refine z_aload_n Q_X11_one (k := 134) rfl rfl ?_
              refine q_callV0_uV Q_X11_one (k := 135) rfl rfl K_X11_sum V_X11_sum L_X11_150 (n_ hB7.1 rfl) (k_602 hB7.1) (Nat.le_of_ble_eq_true rfl) (Nat.le_of_ble_eq_true rfl) rfl (Nat.zero_le _) (Nat.zero_le _) (w_X11_sum d hB7  h) (fun V9 hB9 h => ?_)
              refine z_aload_n Q_X11_one (k := 136) rfl rfl ?_
              refine z_iload_n Q_X11_one (k := 137) rfl rfl ?_
              refine y_bipush Q_X11_one (k := 138) rfl (by decide) ?_
              refine y_icmp_ne 271 Q_X11_one (k := 139) rfl (by decide) ⟨by decide, by decide⟩ ⟨by decide, by decide⟩ (fun _ => ?_) (fun q => absurd q (by decide))
              refine z_iload_n Q_X11_one (k := 142) rfl rfl ?_
              refine y_bipush Q_X11_one (k := 143) rfl (by decide) ?_
              refine y_icmp_ne 282 Q_X11_one (k := 144) rfl (by decide) ⟨by decide, by decide⟩ ⟨by decide, by decide⟩ (fun _ => ?_) (fun q => absurd q (by decide))
              refine y_bipush Q_X11_one (k := 147) rfl (by decide) ?_
              refine y_iconst Q_X11_one (k := 148) rfl ?_
              refine q_callV2_uV Q_X11_one (k := 149) rfl rfl K_X11_emit V_X11_emit L_X11_144 (n_ hB9.1 rfl) (k_602 hB9.1) (Nat.le_of_ble_eq_true rfl) (Nat.le_of_ble_eq_true rfl) rfl (Nat.zero_le _) (Nat.zero_le _) (w_X11_emit (d + 62) hB9 ⟨by decide, by decide⟩ ⟨by decide, by decide⟩ h) (fun V10 hB10 h => ?_)
              exact z_vret Q_X11_one (k := 150) rfl rfl (qI_uV hB10 h)
            · replace h := h.2 c
              refine z_aload_n Q_X11_one (k := 128) rfl rfl ?_
              refine z_dup Q_X11_one (k := 129) rfl rfl ?_
              refine q_getI (o := 602) (z := 14) Q_X11_one (k := 130) rfl F_X11_91 rfl rfl rfl (n_ hB7.1 rfl) (k_602 hB7.1) ?_
              refine y_iconst Q_X11_one (k := 131) rfl ?_
              obtain ⟨q11, h⟩ := h
              refine y_iadd Q_X11_one (k := 132) rfl ?_
              refine q_putI (o := 602) (z := 14) Q_X11_one (k := 133) rfl F_X11_91 rfl rfl rfl (n_ hB7.1 rfl) (k_602 hB7.1) ?_
              have hB12 := qB.u (a := 602) (j := 14) (x := (V7 602 14) + 1) hB7 q11 (Or.inl (by decide))
              refine z_aload_n Q_X11_one (k := 134) rfl rfl ?_
              refine q_callV0_uV Q_X11_one (k := 135) rfl rfl K_X11_sum V_X11_sum L_X11_150 (n_ hB12.1 rfl) (k_602 hB12.1) (Nat.le_of_ble_eq_true rfl) (Nat.le_of_ble_eq_true rfl) rfl (Nat.zero_le _) (Nat.zero_le _) (w_X11_sum d hB12  h) (fun V13 hB13 h => ?_)
              refine z_aload_n Q_X11_one (k := 136) rfl rfl ?_
              refine z_iload_n Q_X11_one (k := 137) rfl rfl ?_
              refine y_bipush Q_X11_one (k := 138) rfl (by decide) ?_
              refine y_icmp_ne 271 Q_X11_one (k := 139) rfl (by decide) ⟨by decide, by decide⟩ ⟨by decide, by decide⟩ (fun _ => ?_) (fun q => absurd q (by decide))
              refine z_iload_n Q_X11_one (k := 142) rfl rfl ?_
              refine y_bipush Q_X11_one (k := 143) rfl (by decide) ?_
              refine y_icmp_ne 282 Q_X11_one (k := 144) rfl (by decide) ⟨by decide, by decide⟩ ⟨by decide, by decide⟩ (fun _ => ?_) (fun q => absurd q (by decide))
              refine y_bipush Q_X11_one (k := 147) rfl (by decide) ?_
              refine y_iconst Q_X11_one (k := 148) rfl ?_
              refine q_callV2_uV Q_X11_one (k := 149) rfl rfl K_X11_emit V_X11_emit L_X11_144 (n_ hB13.1 rfl) (k_602 hB13.1) (Nat.le_of_ble_eq_true rfl) (Nat.le_of_ble_eq_true rfl) rfl (Nat.zero_le _) (Nat.zero_le _) (w_X11_emit (d + 62) hB13 ⟨by decide, by decide⟩ ⟨by decide, by decide⟩ h) (fun V14 hB14 h => ?_)
              exact z_vret Q_X11_one (k := 150) rfl rfl (qI_uV hB14 h)
          · replace h := h.2 c
            refine z_aload_n Q_X11_one (k := 106) rfl rfl ?_
            refine q_callV0_iV Q_X11_one (k := 107) rfl rfl K_X11_here V_X11_here L_X11_97 (n_ hB5.1 rfl) (k_602 hB5.1) (Nat.le_of_ble_eq_true rfl) (Nat.le_of_ble_eq_true rfl) rfl (Nat.zero_le _) (Nat.zero_le _) (w_X11_here (d + 63) hB5  h) (fun r15 V15 hB15 hz15 h => ?_)
            refine z_goto (tgt := 211) Q_X11_one (k := 108) rfl (by decide) ?_
            refine y_istore_n (L' := [some (.ref 602), some (.int (iI r2)), some (.int (iI r15))]) Q_X11_one (k := 110) rfl (by decide) rfl ?_
            refine z_iload_n Q_X11_one (k := 111) rfl rfl ?_
            refine y_bipush Q_X11_one (k := 112) rfl (by decide) ?_
            refine y_icmp_eq 239 Q_X11_one (k := 113) rfl (by decide) hz15 ⟨by decide, by decide⟩ (fun c => ?_) (fun c => ?_)
            · replace h := h.1 c
              refine z_aload_n Q_X11_one (k := 125) rfl rfl ?_
              refine q_callV0_z Q_X11_one (k := 126) rfl rfl K_X11_fine V_X11_fine L_X11_117 (n_ hB15.1 rfl) (k_602 hB15.1) (Nat.le_of_ble_eq_true rfl) (Nat.le_of_ble_eq_true rfl) rfl (Nat.zero_le _) (Nat.zero_le _) (w_X11_fine (d + 63) hB15  h) (fun r16 hz16 hb16 h => ?_)
              refine y_if_eq 256 Q_X11_one (k := 127) rfl (by decide) hz16 (fun c => ?_) (fun c => ?_)
              · replace h := h.1 c
                refine z_aload_n Q_X11_one (k := 134) rfl rfl ?_
                refine q_callV0_uV Q_X11_one (k := 135) rfl rfl K_X11_sum V_X11_sum L_X11_150 (n_ hB15.1 rfl) (k_602 hB15.1) (Nat.le_of_ble_eq_true rfl) (Nat.le_of_ble_eq_true rfl) rfl (Nat.zero_le _) (Nat.zero_le _) (w_X11_sum d hB15  h) (fun V17 hB17 h => ?_)
                refine z_aload_n Q_X11_one (k := 136) rfl rfl ?_
                refine z_iload_n Q_X11_one (k := 137) rfl rfl ?_
                refine y_bipush Q_X11_one (k := 138) rfl (by decide) ?_
                refine y_icmp_ne 271 Q_X11_one (k := 139) rfl (by decide) hz15 ⟨by decide, by decide⟩ (fun c => ?_) (fun c => ?_)
                · replace h := h.2 c
                  refine z_iload_n Q_X11_one (k := 142) rfl rfl ?_
                  refine y_bipush Q_X11_one (k := 143) rfl (by decide) ?_
                  refine y_icmp_ne 282 Q_X11_one (k := 144) rfl (by decide) hz15 ⟨by decide, by decide⟩ (fun c => ?_) (fun c => ?_)
                  · replace h := h.2 c
                    refine y_bipush Q_X11_one (k := 147) rfl (by decide) ?_
                    refine y_iconst Q_X11_one (k := 148) rfl ?_
                    refine q_callV2_uV Q_X11_one (k := 149) rfl rfl K_X11_emit V_X11_emit L_X11_144 (n_ hB17.1 rfl) (k_602 hB17.1) (Nat.le_of_ble_eq_true rfl) (Nat.le_of_ble_eq_true rfl) rfl (Nat.zero_le _) (Nat.zero_le _) (w_X11_emit (d + 62) hB17 ⟨by decide, by decide⟩ ⟨by decide, by decide⟩ h) (fun V18 hB18 h => ?_)
                    exact z_vret Q_X11_one (k := 150) rfl rfl (qI_uV hB18 h)
                  · replace h := h.1 c
                    refine y_bipush Q_X11_one (k := 145) rfl (by decide) ?_
                    refine z_goto (tgt := 284) Q_X11_one (k := 146) rfl (by decide) ?_
                    refine y_iconst Q_X11_one (k := 148) rfl ?_
                    refine q_callV2_uV Q_X11_one (k := 149) rfl rfl K_X11_emit V_X11_emit L_X11_144 (n_ hB17.1 rfl) (k_602 hB17.1) (Nat.le_of_ble_eq_true rfl) (Nat.le_of_ble_eq_true rfl) rfl (Nat.zero_le _) (Nat.zero_le _) (w_X11_emit (d + 62) hB17 ⟨by decide, by decide⟩ ⟨by decide, by decide⟩ h) (fun V19 hB19 h => ?_)
                    exact z_vret Q_X11_one (k := 150) rfl rfl (qI_uV hB19 h)
                · replace h := h.1 c
                  refine y_iconst Q_X11_one (k := 140) rfl ?_
                  refine z_goto (tgt := 284) Q_X11_one (k := 141) rfl (by decide) ?_
                  refine y_iconst Q_X11_one (k := 148) rfl ?_
                  refine q_callV2_uV Q_X11_one (k := 149) rfl rfl K_X11_emit V_X11_emit L_X11_144 (n_ hB17.1 rfl) (k_602 hB17.1) (Nat.le_of_ble_eq_true rfl) (Nat.le_of_ble_eq_true rfl) rfl (Nat.zero_le _) (Nat.zero_le _) (w_X11_emit (d + 62) hB17 ⟨by decide, by decide⟩ ⟨by decide, by decide⟩ h) (fun V20 hB20 h => ?_)
                  exact z_vret Q_X11_one (k := 150) rfl rfl (qI_uV hB20 h)
              · replace h := h.2 c
                refine z_aload_n Q_X11_one (k := 128) rfl rfl ?_
                refine z_dup Q_X11_one (k := 129) rfl rfl ?_
                refine q_getI (o := 602) (z := 14) Q_X11_one (k := 130) rfl F_X11_91 rfl rfl rfl (n_ hB15.1 rfl) (k_602 hB15.1) ?_
                refine y_iconst Q_X11_one (k := 131) rfl ?_
                obtain ⟨q21, h⟩ := h
                refine y_iadd Q_X11_one (k := 132) rfl ?_
                refine q_putI (o := 602) (z := 14) Q_X11_one (k := 133) rfl F_X11_91 rfl rfl rfl (n_ hB15.1 rfl) (k_602 hB15.1) ?_
                have hB22 := qB.u (a := 602) (j := 14) (x := (V15 602 14) + 1) hB15 q21 (Or.inl (by decide))
                refine z_aload_n Q_X11_one (k := 134) rfl rfl ?_
                refine q_callV0_uV Q_X11_one (k := 135) rfl rfl K_X11_sum V_X11_sum L_X11_150 (n_ hB22.1 rfl) (k_602 hB22.1) (Nat.le_of_ble_eq_true rfl) (Nat.le_of_ble_eq_true rfl) rfl (Nat.zero_le _) (Nat.zero_le _) (w_X11_sum d hB22  h) (fun V23 hB23 h => ?_)
                refine z_aload_n Q_X11_one (k := 136) rfl rfl ?_
                refine z_iload_n Q_X11_one (k := 137) rfl rfl ?_
                refine y_bipush Q_X11_one (k := 138) rfl (by decide) ?_
                refine y_icmp_ne 271 Q_X11_one (k := 139) rfl (by decide) hz15 ⟨by decide, by decide⟩ (fun c => ?_) (fun c => ?_)
                · replace h := h.2 c
                  refine z_iload_n Q_X11_one (k := 142) rfl rfl ?_
                  refine y_bipush Q_X11_one (k := 143) rfl (by decide) ?_
                  refine y_icmp_ne 282 Q_X11_one (k := 144) rfl (by decide) hz15 ⟨by decide, by decide⟩ (fun c => ?_) (fun c => ?_)
                  · replace h := h.2 c
                    refine y_bipush Q_X11_one (k := 147) rfl (by decide) ?_
                    refine y_iconst Q_X11_one (k := 148) rfl ?_
                    refine q_callV2_uV Q_X11_one (k := 149) rfl rfl K_X11_emit V_X11_emit L_X11_144 (n_ hB23.1 rfl) (k_602 hB23.1) (Nat.le_of_ble_eq_true rfl) (Nat.le_of_ble_eq_true rfl) rfl (Nat.zero_le _) (Nat.zero_le _) (w_X11_emit (d + 62) hB23 ⟨by decide, by decide⟩ ⟨by decide, by decide⟩ h) (fun V24 hB24 h => ?_)
                    exact z_vret Q_X11_one (k := 150) rfl rfl (qI_uV hB24 h)
                  · replace h := h.1 c
                    refine y_bipush Q_X11_one (k := 145) rfl (by decide) ?_
                    refine z_goto (tgt := 284) Q_X11_one (k := 146) rfl (by decide) ?_
                    refine y_iconst Q_X11_one (k := 148) rfl ?_
                    refine q_callV2_uV Q_X11_one (k := 149) rfl rfl K_X11_emit V_X11_emit L_X11_144 (n_ hB23.1 rfl) (k_602 hB23.1) (Nat.le_of_ble_eq_true rfl) (Nat.le_of_ble_eq_true rfl) rfl (Nat.zero_le _) (Nat.zero_le _) (w_X11_emit (d + 62) hB23 ⟨by decide, by decide⟩ ⟨by decide, by decide⟩ h) (fun V25 hB25 h => ?_)
                    exact z_vret Q_X11_one (k := 150) rfl rfl (qI_uV hB25 h)
                · replace h := h.1 c
                  refine y_iconst Q_X11_one (k := 140) rfl ?_
                  refine z_goto (tgt := 284) Q_X11_one (k := 141) rfl (by decide) ?_
                  refine y_iconst Q_X11_one (k := 148) rfl ?_
                  refine q_callV2_uV Q_X11_one (k := 149) rfl rfl K_X11_emit V_X11_emit L_X11_144 (n_ hB23.1 rfl) (k_602 hB23.1) (Nat.le_of_ble_eq_true rfl) (Nat.le_of_ble_eq_true rfl) rfl (Nat.zero_le _) (Nat.zero_le _) (w_X11_emit (d + 62) hB23 ⟨by decide, by decide⟩ ⟨by decide, by decide⟩ h) (fun V26 hB26 h => ?_)
                  exact z_vret Q_X11_one (k := 150) rfl rfl (qI_uV hB26 h)
            · replace h := h.2 c
              refine z_iload_n Q_X11_one (k := 114) rfl rfl ?_
              refine y_bipush Q_X11_one (k := 115) rfl (by decide) ?_
              refine y_icmp_eq 239 Q_X11_one (k := 116) rfl (by decide) hz15 ⟨by decide, by decide⟩ (fun c => ?_) (fun c => ?_)
              · replace h := h.1 c
                refine z_aload_n Q_X11_one (k := 125) rfl rfl ?_
                refine q_callV0_z Q_X11_one (k := 126) rfl rfl K_X11_fine V_X11_fine L_X11_117 (n_ hB15.1 rfl) (k_602 hB15.1) (Nat.le_of_ble_eq_true rfl) (Nat.le_of_ble_eq_true rfl) rfl (Nat.zero_le _) (Nat.zero_le _) (w_X11_fine (d + 63) hB15  h) (fun r27 hz27 hb27 h => ?_)
                refine y_if_eq 256 Q_X11_one (k := 127) rfl (by decide) hz27 (fun c => ?_) (fun c => ?_)
                · replace h := h.1 c
                  refine z_aload_n Q_X11_one (k := 134) rfl rfl ?_
                  refine q_callV0_uV Q_X11_one (k := 135) rfl rfl K_X11_sum V_X11_sum L_X11_150 (n_ hB15.1 rfl) (k_602 hB15.1) (Nat.le_of_ble_eq_true rfl) (Nat.le_of_ble_eq_true rfl) rfl (Nat.zero_le _) (Nat.zero_le _) (w_X11_sum d hB15  h) (fun V28 hB28 h => ?_)
                  refine z_aload_n Q_X11_one (k := 136) rfl rfl ?_
                  refine z_iload_n Q_X11_one (k := 137) rfl rfl ?_
                  refine y_bipush Q_X11_one (k := 138) rfl (by decide) ?_
                  refine y_icmp_ne 271 Q_X11_one (k := 139) rfl (by decide) hz15 ⟨by decide, by decide⟩ (fun c => ?_) (fun c => ?_)
                  · replace h := h.2 c
                    refine z_iload_n Q_X11_one (k := 142) rfl rfl ?_
                    refine y_bipush Q_X11_one (k := 143) rfl (by decide) ?_
                    refine y_icmp_ne 282 Q_X11_one (k := 144) rfl (by decide) hz15 ⟨by decide, by decide⟩ (fun c => ?_) (fun c => ?_)
                    · replace h := h.2 c
                      refine y_bipush Q_X11_one (k := 147) rfl (by decide) ?_
                      refine y_iconst Q_X11_one (k := 148) rfl ?_
                      refine q_callV2_uV Q_X11_one (k := 149) rfl rfl K_X11_emit V_X11_emit L_X11_144 (n_ hB28.1 rfl) (k_602 hB28.1) (Nat.le_of_ble_eq_true rfl) (Nat.le_of_ble_eq_true rfl) rfl (Nat.zero_le _) (Nat.zero_le _) (w_X11_emit (d + 62) hB28 ⟨by decide, by decide⟩ ⟨by decide, by decide⟩ h) (fun V29 hB29 h => ?_)
                      exact z_vret Q_X11_one (k := 150) rfl rfl (qI_uV hB29 h)
                    · replace h := h.1 c
                      refine y_bipush Q_X11_one (k := 145) rfl (by decide) ?_
                      refine z_goto (tgt := 284) Q_X11_one (k := 146) rfl (by decide) ?_
                      refine y_iconst Q_X11_one (k := 148) rfl ?_
                      refine q_callV2_uV Q_X11_one (k := 149) rfl rfl K_X11_emit V_X11_emit L_X11_144 (n_ hB28.1 rfl) (k_602 hB28.1) (Nat.le_of_ble_eq_true rfl) (Nat.le_of_ble_eq_true rfl) rfl (Nat.zero_le _) (Nat.zero_le _) (w_X11_emit (d + 62) hB28 ⟨by decide, by decide⟩ ⟨by decide, by decide⟩ h) (fun V30 hB30 h => ?_)
                      exact z_vret Q_X11_one (k := 150) rfl rfl (qI_uV hB30 h)
                  · replace h := h.1 c
                    refine y_iconst Q_X11_one (k := 140) rfl ?_
                    refine z_goto (tgt := 284) Q_X11_one (k := 141) rfl (by decide) ?_
                    refine y_iconst Q_X11_one (k := 148) rfl ?_
                    refine q_callV2_uV Q_X11_one (k := 149) rfl rfl K_X11_emit V_X11_emit L_X11_144 (n_ hB28.1 rfl) (k_602 hB28.1) (Nat.le_of_ble_eq_true rfl) (Nat.le_of_ble_eq_true rfl) rfl (Nat.zero_le _) (Nat.zero_le _) (w_X11_emit (d + 62) hB28 ⟨by decide, by decide⟩ ⟨by decide, by decide⟩ h) (fun V31 hB31 h => ?_)
                    exact z_vret Q_X11_one (k := 150) rfl rfl (qI_uV hB31 h)
                · replace h := h.2 c
                  refine z_aload_n Q_X11_one (k := 128) rfl rfl ?_
                  refine z_dup Q_X11_one (k := 129) rfl rfl ?_
                  refine q_getI (o := 602) (z := 14) Q_X11_one (k := 130) rfl F_X11_91 rfl rfl rfl (n_ hB15.1 rfl) (k_602 hB15.1) ?_
                  refine y_iconst Q_X11_one (k := 131) rfl ?_
                  obtain ⟨q32, h⟩ := h
                  refine y_iadd Q_X11_one (k := 132) rfl ?_
                  refine q_putI (o := 602) (z := 14) Q_X11_one (k := 133) rfl F_X11_91 rfl rfl rfl (n_ hB15.1 rfl) (k_602 hB15.1) ?_
                  have hB33 := qB.u (a := 602) (j := 14) (x := (V15 602 14) + 1) hB15 q32 (Or.inl (by decide))
                  refine z_aload_n Q_X11_one (k := 134) rfl rfl ?_
                  refine q_callV0_uV Q_X11_one (k := 135) rfl rfl K_X11_sum V_X11_sum L_X11_150 (n_ hB33.1 rfl) (k_602 hB33.1) (Nat.le_of_ble_eq_true rfl) (Nat.le_of_ble_eq_true rfl) rfl (Nat.zero_le _) (Nat.zero_le _) (w_X11_sum d hB33  h) (fun V34 hB34 h => ?_)
                  refine z_aload_n Q_X11_one (k := 136) rfl rfl ?_
                  refine z_iload_n Q_X11_one (k := 137) rfl rfl ?_
                  refine y_bipush Q_X11_one (k := 138) rfl (by decide) ?_
                  refine y_icmp_ne 271 Q_X11_one (k := 139) rfl (by decide) hz15 ⟨by decide, by decide⟩ (fun c => ?_) (fun c => ?_)
                  · replace h := h.2 c
                    refine z_iload_n Q_X11_one (k := 142) rfl rfl ?_
                    refine y_bipush Q_X11_one (k := 143) rfl (by decide) ?_
                    refine y_icmp_ne 282 Q_X11_one (k := 144) rfl (by decide) hz15 ⟨by decide, by decide⟩ (fun c => ?_) (fun c => ?_)
                    · replace h := h.2 c
                      refine y_bipush Q_X11_one (k := 147) rfl (by decide) ?_
                      refine y_iconst Q_X11_one (k := 148) rfl ?_
                      refine q_callV2_uV Q_X11_one (k := 149) rfl rfl K_X11_emit V_X11_emit L_X11_144 (n_ hB34.1 rfl) (k_602 hB34.1) (Nat.le_of_ble_eq_true rfl) (Nat.le_of_ble_eq_true rfl) rfl (Nat.zero_le _) (Nat.zero_le _) (w_X11_emit (d + 62) hB34 ⟨by decide, by decide⟩ ⟨by decide, by decide⟩ h) (fun V35 hB35 h => ?_)
                      exact z_vret Q_X11_one (k := 150) rfl rfl (qI_uV hB35 h)
                    · replace h := h.1 c
                      refine y_bipush Q_X11_one (k := 145) rfl (by decide) ?_
                      refine z_goto (tgt := 284) Q_X11_one (k := 146) rfl (by decide) ?_
                      refine y_iconst Q_X11_one (k := 148) rfl ?_
                      refine q_callV2_uV Q_X11_one (k := 149) rfl rfl K_X11_emit V_X11_emit L_X11_144 (n_ hB34.1 rfl) (k_602 hB34.1) (Nat.le_of_ble_eq_true rfl) (Nat.le_of_ble_eq_true rfl) rfl (Nat.zero_le _) (Nat.zero_le _) (w_X11_emit (d + 62) hB34 ⟨by decide, by decide⟩ ⟨by decide, by decide⟩ h) (fun V36 hB36 h => ?_)
                      exact z_vret Q_X11_one (k := 150) rfl rfl (qI_uV hB36 h)
                  · replace h := h.1 c
                    refine y_iconst Q_X11_one (k := 140) rfl ?_
                    refine z_goto (tgt := 284) Q_X11_one (k := 141) rfl (by decide) ?_
                    refine y_iconst Q_X11_one (k := 148) rfl ?_
                    refine q_callV2_uV Q_X11_one (k := 149) rfl rfl K_X11_emit V_X11_emit L_X11_144 (n_ hB34.1 rfl) (k_602 hB34.1) (Nat.le_of_ble_eq_true rfl) (Nat.le_of_ble_eq_true rfl) rfl (Nat.zero_le _) (Nat.zero_le _) (w_X11_emit (d + 62) hB34 ⟨by decide, by decide⟩ ⟨by decide, by decide⟩ h) (fun V37 hB37 h => ?_)
                    exact z_vret Q_X11_one (k := 150) rfl rfl (qI_uV hB37 h)
              · replace h := h.2 c
                refine z_iload_n Q_X11_one (k := 117) rfl rfl ?_
                refine y_bipush Q_X11_one (k := 118) rfl (by decide) ?_
                refine y_icmp_eq 239 Q_X11_one (k := 119) rfl (by decide) hz15 ⟨by decide, by decide⟩ (fun c => ?_) (fun c => ?_)
                · replace h := h.1 c
                  refine z_aload_n Q_X11_one (k := 125) rfl rfl ?_
                  refine q_callV0_z Q_X11_one (k := 126) rfl rfl K_X11_fine V_X11_fine L_X11_117 (n_ hB15.1 rfl) (k_602 hB15.1) (Nat.le_of_ble_eq_true rfl) (Nat.le_of_ble_eq_true rfl) rfl (Nat.zero_le _) (Nat.zero_le _) (w_X11_fine (d + 63) hB15  h) (fun r38 hz38 hb38 h => ?_)
                  refine y_if_eq 256 Q_X11_one (k := 127) rfl (by decide) hz38 (fun c => ?_) (fun c => ?_)
                  · replace h := h.1 c
                    refine z_aload_n Q_X11_one (k := 134) rfl rfl ?_
                    refine q_callV0_uV Q_X11_one (k := 135) rfl rfl K_X11_sum V_X11_sum L_X11_150 (n_ hB15.1 rfl) (k_602 hB15.1) (Nat.le_of_ble_eq_true rfl) (Nat.le_of_ble_eq_true rfl) rfl (Nat.zero_le _) (Nat.zero_le _) (w_X11_sum d hB15  h) (fun V39 hB39 h => ?_)
                    refine z_aload_n Q_X11_one (k := 136) rfl rfl ?_
                    refine z_iload_n Q_X11_one (k := 137) rfl rfl ?_
                    refine y_bipush Q_X11_one (k := 138) rfl (by decide) ?_
                    refine y_icmp_ne 271 Q_X11_one (k := 139) rfl (by decide) hz15 ⟨by decide, by decide⟩ (fun c => ?_) (fun c => ?_)
                    · replace h := h.2 c
                      refine z_iload_n Q_X11_one (k := 142) rfl rfl ?_
                      refine y_bipush Q_X11_one (k := 143) rfl (by decide) ?_
                      refine y_icmp_ne 282 Q_X11_one (k := 144) rfl (by decide) hz15 ⟨by decide, by decide⟩ (fun c => ?_) (fun c => ?_)
                      · replace h := h.2 c
                        refine y_bipush Q_X11_one (k := 147) rfl (by decide) ?_
                        refine y_iconst Q_X11_one (k := 148) rfl ?_
                        refine q_callV2_uV Q_X11_one (k := 149) rfl rfl K_X11_emit V_X11_emit L_X11_144 (n_ hB39.1 rfl) (k_602 hB39.1) (Nat.le_of_ble_eq_true rfl) (Nat.le_of_ble_eq_true rfl) rfl (Nat.zero_le _) (Nat.zero_le _) (w_X11_emit (d + 62) hB39 ⟨by decide, by decide⟩ ⟨by decide, by decide⟩ h) (fun V40 hB40 h => ?_)
                        exact z_vret Q_X11_one (k := 150) rfl rfl (qI_uV hB40 h)
                      · replace h := h.1 c
                        refine y_bipush Q_X11_one (k := 145) rfl (by decide) ?_
                        refine z_goto (tgt := 284) Q_X11_one (k := 146) rfl (by decide) ?_
                        refine y_iconst Q_X11_one (k := 148) rfl ?_
                        refine q_callV2_uV Q_X11_one (k := 149) rfl rfl K_X11_emit V_X11_emit L_X11_144 (n_ hB39.1 rfl) (k_602 hB39.1) (Nat.le_of_ble_eq_true rfl) (Nat.le_of_ble_eq_true rfl) rfl (Nat.zero_le _) (Nat.zero_le _) (w_X11_emit (d + 62) hB39 ⟨by decide, by decide⟩ ⟨by decide, by decide⟩ h) (fun V41 hB41 h => ?_)
                        exact z_vret Q_X11_one (k := 150) rfl rfl (qI_uV hB41 h)
                    · replace h := h.1 c
                      refine y_iconst Q_X11_one (k := 140) rfl ?_
                      refine z_goto (tgt := 284) Q_X11_one (k := 141) rfl (by decide) ?_
                      refine y_iconst Q_X11_one (k := 148) rfl ?_
                      refine q_callV2_uV Q_X11_one (k := 149) rfl rfl K_X11_emit V_X11_emit L_X11_144 (n_ hB39.1 rfl) (k_602 hB39.1) (Nat.le_of_ble_eq_true rfl) (Nat.le_of_ble_eq_true rfl) rfl (Nat.zero_le _) (Nat.zero_le _) (w_X11_emit (d + 62) hB39 ⟨by decide, by decide⟩ ⟨by decide, by decide⟩ h) (fun V42 hB42 h => ?_)
                      exact z_vret Q_X11_one (k := 150) rfl rfl (qI_uV hB42 h)
                  · replace h := h.2 c
                    refine z_aload_n Q_X11_one (k := 128) rfl rfl ?_
                    refine z_dup Q_X11_one (k := 129) rfl rfl ?_
                    refine q_getI (o := 602) (z := 14) Q_X11_one (k := 130) rfl F_X11_91 rfl rfl rfl (n_ hB15.1 rfl) (k_602 hB15.1) ?_
                    refine y_iconst Q_X11_one (k := 131) rfl ?_
                    obtain ⟨q43, h⟩ := h
                    refine y_iadd Q_X11_one (k := 132) rfl ?_
                    refine q_putI (o := 602) (z := 14) Q_X11_one (k := 133) rfl F_X11_91 rfl rfl rfl (n_ hB15.1 rfl) (k_602 hB15.1) ?_
                    have hB44 := qB.u (a := 602) (j := 14) (x := (V15 602 14) + 1) hB15 q43 (Or.inl (by decide))
                    refine z_aload_n Q_X11_one (k := 134) rfl rfl ?_
                    refine q_callV0_uV Q_X11_one (k := 135) rfl rfl K_X11_sum V_X11_sum L_X11_150 (n_ hB44.1 rfl) (k_602 hB44.1) (Nat.le_of_ble_eq_true rfl) (Nat.le_of_ble_eq_true rfl) rfl (Nat.zero_le _) (Nat.zero_le _) (w_X11_sum d hB44  h) (fun V45 hB45 h => ?_)
                    refine z_aload_n Q_X11_one (k := 136) rfl rfl ?_
                    refine z_iload_n Q_X11_one (k := 137) rfl rfl ?_
                    refine y_bipush Q_X11_one (k := 138) rfl (by decide) ?_
                    refine y_icmp_ne 271 Q_X11_one (k := 139) rfl (by decide) hz15 ⟨by decide, by decide⟩ (fun c => ?_) (fun c => ?_)
                    · replace h := h.2 c
                      refine z_iload_n Q_X11_one (k := 142) rfl rfl ?_
                      refine y_bipush Q_X11_one (k := 143) rfl (by decide) ?_
                      refine y_icmp_ne 282 Q_X11_one (k := 144) rfl (by decide) hz15 ⟨by decide, by decide⟩ (fun c => ?_) (fun c => ?_)
                      · replace h := h.2 c
                        refine y_bipush Q_X11_one (k := 147) rfl (by decide) ?_
                        refine y_iconst Q_X11_one (k := 148) rfl ?_
                        refine q_callV2_uV Q_X11_one (k := 149) rfl rfl K_X11_emit V_X11_emit L_X11_144 (n_ hB45.1 rfl) (k_602 hB45.1) (Nat.le_of_ble_eq_true rfl) (Nat.le_of_ble_eq_true rfl) rfl (Nat.zero_le _) (Nat.zero_le _) (w_X11_emit (d + 62) hB45 ⟨by decide, by decide⟩ ⟨by decide, by decide⟩ h) (fun V46 hB46 h => ?_)
                        exact z_vret Q_X11_one (k := 150) rfl rfl (qI_uV hB46 h)
                      · replace h := h.1 c
                        refine y_bipush Q_X11_one (k := 145) rfl (by decide) ?_
                        refine z_goto (tgt := 284) Q_X11_one (k := 146) rfl (by decide) ?_
                        refine y_iconst Q_X11_one (k := 148) rfl ?_
                        refine q_callV2_uV Q_X11_one (k := 149) rfl rfl K_X11_emit V_X11_emit L_X11_144 (n_ hB45.1 rfl) (k_602 hB45.1) (Nat.le_of_ble_eq_true rfl) (Nat.le_of_ble_eq_true rfl) rfl (Nat.zero_le _) (Nat.zero_le _) (w_X11_emit (d + 62) hB45 ⟨by decide, by decide⟩ ⟨by decide, by decide⟩ h) (fun V47 hB47 h => ?_)
                        exact z_vret Q_X11_one (k := 150) rfl rfl (qI_uV hB47 h)
                    · replace h := h.1 c
                      refine y_iconst Q_X11_one (k := 140) rfl ?_
                      refine z_goto (tgt := 284) Q_X11_one (k := 141) rfl (by decide) ?_
                      refine y_iconst Q_X11_one (k := 148) rfl ?_
                      refine q_callV2_uV Q_X11_one (k := 149) rfl rfl K_X11_emit V_X11_emit L_X11_144 (n_ hB45.1 rfl) (k_602 hB45.1) (Nat.le_of_ble_eq_true rfl) (Nat.le_of_ble_eq_true rfl) rfl (Nat.zero_le _) (Nat.zero_le _) (w_X11_emit (d + 62) hB45 ⟨by decide, by decide⟩ ⟨by decide, by decide⟩ h) (fun V48 hB48 h => ?_)
                      exact z_vret Q_X11_one (k := 150) rfl rfl (qI_uV hB48 h)
                · replace h := h.2 c
                  refine z_aload_n Q_X11_one (k := 120) rfl rfl ?_
                  refine y_iconst Q_X11_one (k := 121) rfl ?_
                  refine z_aload_n Q_X11_one (k := 122) rfl rfl ?_
                  refine q_getI (o := 602) (z := 14) Q_X11_one (k := 123) rfl F_X11_91 rfl rfl rfl (n_ hB15.1 rfl) (k_602 hB15.1) ?_
                  refine q_callV2_uV Q_X11_one (k := 124) rfl rfl K_X11_wrong V_X11_wrong L_X11_124 (n_ hB15.1 rfl) (k_602 hB15.1) (Nat.le_of_ble_eq_true rfl) (Nat.le_of_ble_eq_true rfl) rfl (Nat.zero_le _) (Nat.zero_le _) (w_X11_wrong (d + 63) hB15 ⟨by decide, by decide⟩ (hB15.2.1 _ _) h) (fun V49 hB49 h => ?_)
                  refine z_aload_n Q_X11_one (k := 125) rfl rfl ?_
                  refine q_callV0_z Q_X11_one (k := 126) rfl rfl K_X11_fine V_X11_fine L_X11_117 (n_ hB49.1 rfl) (k_602 hB49.1) (Nat.le_of_ble_eq_true rfl) (Nat.le_of_ble_eq_true rfl) rfl (Nat.zero_le _) (Nat.zero_le _) (w_X11_fine (d + 63) hB49  h) (fun r50 hz50 hb50 h => ?_)
                  refine y_if_eq 256 Q_X11_one (k := 127) rfl (by decide) hz50 (fun c => ?_) (fun c => ?_)
                  · replace h := h.1 c
                    refine z_aload_n Q_X11_one (k := 134) rfl rfl ?_
                    refine q_callV0_uV Q_X11_one (k := 135) rfl rfl K_X11_sum V_X11_sum L_X11_150 (n_ hB49.1 rfl) (k_602 hB49.1) (Nat.le_of_ble_eq_true rfl) (Nat.le_of_ble_eq_true rfl) rfl (Nat.zero_le _) (Nat.zero_le _) (w_X11_sum d hB49  h) (fun V51 hB51 h => ?_)
                    refine z_aload_n Q_X11_one (k := 136) rfl rfl ?_
                    refine z_iload_n Q_X11_one (k := 137) rfl rfl ?_
                    refine y_bipush Q_X11_one (k := 138) rfl (by decide) ?_
                    refine y_icmp_ne 271 Q_X11_one (k := 139) rfl (by decide) hz15 ⟨by decide, by decide⟩ (fun c => ?_) (fun c => ?_)
                    · replace h := h.2 c
                      refine z_iload_n Q_X11_one (k := 142) rfl rfl ?_
                      refine y_bipush Q_X11_one (k := 143) rfl (by decide) ?_
                      refine y_icmp_ne 282 Q_X11_one (k := 144) rfl (by decide) hz15 ⟨by decide, by decide⟩ (fun c => ?_) (fun c => ?_)
                      · replace h := h.2 c
                        refine y_bipush Q_X11_one (k := 147) rfl (by decide) ?_
                        refine y_iconst Q_X11_one (k := 148) rfl ?_
                        refine q_callV2_uV Q_X11_one (k := 149) rfl rfl K_X11_emit V_X11_emit L_X11_144 (n_ hB51.1 rfl) (k_602 hB51.1) (Nat.le_of_ble_eq_true rfl) (Nat.le_of_ble_eq_true rfl) rfl (Nat.zero_le _) (Nat.zero_le _) (w_X11_emit (d + 62) hB51 ⟨by decide, by decide⟩ ⟨by decide, by decide⟩ h) (fun V52 hB52 h => ?_)
                        exact z_vret Q_X11_one (k := 150) rfl rfl (qI_uV hB52 h)
                      · replace h := h.1 c
                        refine y_bipush Q_X11_one (k := 145) rfl (by decide) ?_
                        refine z_goto (tgt := 284) Q_X11_one (k := 146) rfl (by decide) ?_
                        refine y_iconst Q_X11_one (k := 148) rfl ?_
                        refine q_callV2_uV Q_X11_one (k := 149) rfl rfl K_X11_emit V_X11_emit L_X11_144 (n_ hB51.1 rfl) (k_602 hB51.1) (Nat.le_of_ble_eq_true rfl) (Nat.le_of_ble_eq_true rfl) rfl (Nat.zero_le _) (Nat.zero_le _) (w_X11_emit (d + 62) hB51 ⟨by decide, by decide⟩ ⟨by decide, by decide⟩ h) (fun V53 hB53 h => ?_)
                        exact z_vret Q_X11_one (k := 150) rfl rfl (qI_uV hB53 h)
                    · replace h := h.1 c
                      refine y_iconst Q_X11_one (k := 140) rfl ?_
                      refine z_goto (tgt := 284) Q_X11_one (k := 141) rfl (by decide) ?_
                      refine y_iconst Q_X11_one (k := 148) rfl ?_
                      refine q_callV2_uV Q_X11_one (k := 149) rfl rfl K_X11_emit V_X11_emit L_X11_144 (n_ hB51.1 rfl) (k_602 hB51.1) (Nat.le_of_ble_eq_true rfl) (Nat.le_of_ble_eq_true rfl) rfl (Nat.zero_le _) (Nat.zero_le _) (w_X11_emit (d + 62) hB51 ⟨by decide, by decide⟩ ⟨by decide, by decide⟩ h) (fun V54 hB54 h => ?_)
                      exact z_vret Q_X11_one (k := 150) rfl rfl (qI_uV hB54 h)
                  · replace h := h.2 c
                    refine z_aload_n Q_X11_one (k := 128) rfl rfl ?_
                    refine z_dup Q_X11_one (k := 129) rfl rfl ?_
                    refine q_getI (o := 602) (z := 14) Q_X11_one (k := 130) rfl F_X11_91 rfl rfl rfl (n_ hB49.1 rfl) (k_602 hB49.1) ?_
                    refine y_iconst Q_X11_one (k := 131) rfl ?_
                    obtain ⟨q55, h⟩ := h
                    refine y_iadd Q_X11_one (k := 132) rfl ?_
                    refine q_putI (o := 602) (z := 14) Q_X11_one (k := 133) rfl F_X11_91 rfl rfl rfl (n_ hB49.1 rfl) (k_602 hB49.1) ?_
                    have hB56 := qB.u (a := 602) (j := 14) (x := (V49 602 14) + 1) hB49 q55 (Or.inl (by decide))
                    refine z_aload_n Q_X11_one (k := 134) rfl rfl ?_
                    refine q_callV0_uV Q_X11_one (k := 135) rfl rfl K_X11_sum V_X11_sum L_X11_150 (n_ hB56.1 rfl) (k_602 hB56.1) (Nat.le_of_ble_eq_true rfl) (Nat.le_of_ble_eq_true rfl) rfl (Nat.zero_le _) (Nat.zero_le _) (w_X11_sum d hB56  h) (fun V57 hB57 h => ?_)
                    refine z_aload_n Q_X11_one (k := 136) rfl rfl ?_
                    refine z_iload_n Q_X11_one (k := 137) rfl rfl ?_
                    refine y_bipush Q_X11_one (k := 138) rfl (by decide) ?_
                    refine y_icmp_ne 271 Q_X11_one (k := 139) rfl (by decide) hz15 ⟨by decide, by decide⟩ (fun c => ?_) (fun c => ?_)
                    · replace h := h.2 c
                      refine z_iload_n Q_X11_one (k := 142) rfl rfl ?_
                      refine y_bipush Q_X11_one (k := 143) rfl (by decide) ?_
                      refine y_icmp_ne 282 Q_X11_one (k := 144) rfl (by decide) hz15 ⟨by decide, by decide⟩ (fun c => ?_) (fun c => ?_)
                      · replace h := h.2 c
                        refine y_bipush Q_X11_one (k := 147) rfl (by decide) ?_
                        refine y_iconst Q_X11_one (k := 148) rfl ?_
                        refine q_callV2_uV Q_X11_one (k := 149) rfl rfl K_X11_emit V_X11_emit L_X11_144 (n_ hB57.1 rfl) (k_602 hB57.1) (Nat.le_of_ble_eq_true rfl) (Nat.le_of_ble_eq_true rfl) rfl (Nat.zero_le _) (Nat.zero_le _) (w_X11_emit (d + 62) hB57 ⟨by decide, by decide⟩ ⟨by decide, by decide⟩ h) (fun V58 hB58 h => ?_)
                        exact z_vret Q_X11_one (k := 150) rfl rfl (qI_uV hB58 h)
                      · replace h := h.1 c
                        refine y_bipush Q_X11_one (k := 145) rfl (by decide) ?_
                        refine z_goto (tgt := 284) Q_X11_one (k := 146) rfl (by decide) ?_
                        refine y_iconst Q_X11_one (k := 148) rfl ?_
                        refine q_callV2_uV Q_X11_one (k := 149) rfl rfl K_X11_emit V_X11_emit L_X11_144 (n_ hB57.1 rfl) (k_602 hB57.1) (Nat.le_of_ble_eq_true rfl) (Nat.le_of_ble_eq_true rfl) rfl (Nat.zero_le _) (Nat.zero_le _) (w_X11_emit (d + 62) hB57 ⟨by decide, by decide⟩ ⟨by decide, by decide⟩ h) (fun V59 hB59 h => ?_)
                        exact z_vret Q_X11_one (k := 150) rfl rfl (qI_uV hB59 h)
                    · replace h := h.1 c
                      refine y_iconst Q_X11_one (k := 140) rfl ?_
                      refine z_goto (tgt := 284) Q_X11_one (k := 141) rfl (by decide) ?_
                      refine y_iconst Q_X11_one (k := 148) rfl ?_
                      refine q_callV2_uV Q_X11_one (k := 149) rfl rfl K_X11_emit V_X11_emit L_X11_144 (n_ hB57.1 rfl) (k_602 hB57.1) (Nat.le_of_ble_eq_true rfl) (Nat.le_of_ble_eq_true rfl) rfl (Nat.zero_le _) (Nat.zero_le _) (w_X11_emit (d + 62) hB57 ⟨by decide, by decide⟩ ⟨by decide, by decide⟩ h) (fun V60 hB60 h => ?_)
                      exact z_vret Q_X11_one (k := 150) rfl rfl (qI_uV hB60 h)
        · replace h := h.1 c
          refine z_aload_n Q_X11_one (k := 43) rfl rfl ?_
          refine z_aload_n Q_X11_one (k := 44) rfl rfl ?_
          refine q_getI (o := 602) (z := 14) Q_X11_one (k := 45) rfl F_X11_91 rfl rfl rfl (n_ hB4.1 rfl) (k_602 hB4.1) ?_
          refine y_iconst Q_X11_one (k := 46) rfl ?_
          obtain ⟨q61, h⟩ := h
          refine y_iadd Q_X11_one (k := 47) rfl ?_
          refine q_callV1_i Q_X11_one (k := 48) rfl rfl K_X11_atPlace V_X11_atPlace L_X11_178 (n_ hB4.1 rfl) (k_602 hB4.1) (Nat.le_of_ble_eq_true rfl) (Nat.le_of_ble_eq_true rfl) rfl (Nat.zero_le _) (Nat.zero_le _) (w_X11_atPlace (d + 63) hB4 q61 h) (fun r62 hz62 h => ?_)
          refine q_callS1_z Q_X11_one (k := 49) rfl rfl K_X11_isDigit S_X11_isDigit L_X11_121 (Nat.le_of_ble_eq_true rfl) (Nat.le_of_ble_eq_true rfl) rfl (Nat.zero_le _) (Nat.zero_le _) (w_X11_isDigit (d + 63) hB4 hz62 h) (fun r63 hz63 hb63 h => ?_)
          refine y_if_eq 137 Q_X11_one (k := 50) rfl (by decide) hz63 (fun c => ?_) (fun c => ?_)
          · replace h := h.1 c
            refine y_iconst Q_X11_one (k := 69) rfl ?_
            refine y_istore_n (L' := [some (.ref 602), some (.int (iI r2)), some (.int (iI 0))]) Q_X11_one (k := 70) rfl (by decide) rfl ?_
            refine z_iload_n Q_X11_one (k := 71) rfl rfl ?_
            refine y_if_ne 152 Q_X11_one (k := 72) rfl (by decide) ⟨by decide, by decide⟩ (fun q => absurd q (by decide)) (fun _ => ?_)
            refine z_aload_n Q_X11_one (k := 73) rfl rfl ?_
            refine y_iconst Q_X11_one (k := 74) rfl ?_
            refine z_aload_n Q_X11_one (k := 75) rfl rfl ?_
            refine q_getI (o := 602) (z := 14) Q_X11_one (k := 76) rfl F_X11_91 rfl rfl rfl (n_ hB4.1 rfl) (k_602 hB4.1) ?_
            refine q_callV2_uV Q_X11_one (k := 77) rfl rfl K_X11_wrong V_X11_wrong L_X11_124 (n_ hB4.1 rfl) (k_602 hB4.1) (Nat.le_of_ble_eq_true rfl) (Nat.le_of_ble_eq_true rfl) rfl (Nat.zero_le _) (Nat.zero_le _) (w_X11_wrong (d + 63) hB4 ⟨by decide, by decide⟩ (hB4.2.1 _ _) h) (fun V64 hB64 h => ?_)
            refine z_aload_n Q_X11_one (k := 78) rfl rfl ?_
            refine q_callV0_z Q_X11_one (k := 79) rfl rfl K_X11_fine V_X11_fine L_X11_117 (n_ hB64.1 rfl) (k_602 hB64.1) (Nat.le_of_ble_eq_true rfl) (Nat.le_of_ble_eq_true rfl) rfl (Nat.zero_le _) (Nat.zero_le _) (w_X11_fine (d + 63) hB64  h) (fun r65 hz65 hb65 h => ?_)
            refine y_if_ne 160 Q_X11_one (k := 80) rfl (by decide) hz65 (fun c => ?_) (fun c => ?_)
            · replace h := h.2 c
              refine z_aload_n Q_X11_one (k := 82) rfl rfl ?_
              refine y_iconst Q_X11_one (k := 83) rfl ?_
              refine z_aload_n Q_X11_one (k := 84) rfl rfl ?_
              refine z_getR (b := 613) Q_X11_one (k := 85) rfl F_X11_47 rfl (n_ hB64.1 rfl) (k_602 hB64.1) (r_602_21 hB64.1) ?_
              refine z_aload_n Q_X11_one (k := 86) rfl rfl ?_
              refine q_getI (o := 602) (z := 14) Q_X11_one (k := 87) rfl F_X11_91 rfl rfl rfl (n_ hB64.1 rfl) (k_602 hB64.1) ?_
              refine y_iconst Q_X11_one (k := 88) rfl ?_
              obtain ⟨q66, h⟩ := h
              refine y_iadd Q_X11_one (k := 89) rfl ?_
              obtain ⟨q67, h⟩ := h
              refine q_iald (o := 613) (N := 400) Q_X11_one (k := 90) rfl rfl (n_ hB64.1 rfl) (k_613 hB64.1) rfl q67 (by decide) ?_
              refine y_bipush Q_X11_one (k := 91) rfl (by decide) ?_
              obtain ⟨q68, h⟩ := h
              refine y_isub Q_X11_one (k := 92) rfl ?_
              refine q_callV2_uV Q_X11_one (k := 93) rfl rfl K_X11_emit V_X11_emit L_X11_144 (n_ hB64.1 rfl) (k_602 hB64.1) (Nat.le_of_ble_eq_true rfl) (Nat.le_of_ble_eq_true rfl) rfl (Nat.zero_le _) (Nat.zero_le _) (w_X11_emit (d + 62) hB64 ⟨by decide, by decide⟩ q68 h) (fun V69 hB69 h => ?_)
              refine z_aload_n Q_X11_one (k := 94) rfl rfl ?_
              refine z_dup Q_X11_one (k := 95) rfl rfl ?_
              refine q_getI (o := 602) (z := 14) Q_X11_one (k := 96) rfl F_X11_91 rfl rfl rfl (n_ hB69.1 rfl) (k_602 hB69.1) ?_
              refine y_iconst Q_X11_one (k := 97) rfl ?_
              obtain ⟨q70, h⟩ := h
              refine y_iadd Q_X11_one (k := 98) rfl ?_
              refine q_putI (o := 602) (z := 14) Q_X11_one (k := 99) rfl F_X11_91 rfl rfl rfl (n_ hB69.1 rfl) (k_602 hB69.1) ?_
              have hB71 := qB.u (a := 602) (j := 14) (x := (V69 602 14) + 2) hB69 q70 (Or.inl (by decide))
              refine z_goto (tgt := 288) Q_X11_one (k := 100) rfl (by decide) ?_
              exact z_vret Q_X11_one (k := 150) rfl rfl (qI_uV hB71 h)
            · replace h := h.1 c
              exact z_vret Q_X11_one (k := 81) rfl rfl (qI_uV hB64 h)
          · replace h := h.2 c
            refine z_aload_n Q_X11_one (k := 51) rfl rfl ?_
            refine z_aload_n Q_X11_one (k := 52) rfl rfl ?_
            refine q_getI (o := 602) (z := 14) Q_X11_one (k := 53) rfl F_X11_91 rfl rfl rfl (n_ hB4.1 rfl) (k_602 hB4.1) ?_
            refine y_iconst Q_X11_one (k := 54) rfl ?_
            obtain ⟨q72, h⟩ := h
            refine y_iadd Q_X11_one (k := 55) rfl ?_
            refine q_callV1_i Q_X11_one (k := 56) rfl rfl K_X11_atPlace V_X11_atPlace L_X11_178 (n_ hB4.1 rfl) (k_602 hB4.1) (Nat.le_of_ble_eq_true rfl) (Nat.le_of_ble_eq_true rfl) rfl (Nat.zero_le _) (Nat.zero_le _) (w_X11_atPlace (d + 63) hB4 q72 h) (fun r73 hz73 h => ?_)
            refine q_callS1_z Q_X11_one (k := 57) rfl rfl K_X11_isDigit S_X11_isDigit L_X11_121 (Nat.le_of_ble_eq_true rfl) (Nat.le_of_ble_eq_true rfl) rfl (Nat.zero_le _) (Nat.zero_le _) (w_X11_isDigit (d + 63) hB4 hz73 h) (fun r74 hz74 hb74 h => ?_)
            refine y_if_ne 137 Q_X11_one (k := 58) rfl (by decide) hz74 (fun c => ?_) (fun c => ?_)
            · replace h := h.2 c
              refine y_iconst Q_X11_one (k := 69) rfl ?_
              refine y_istore_n (L' := [some (.ref 602), some (.int (iI r2)), some (.int (iI 0))]) Q_X11_one (k := 70) rfl (by decide) rfl ?_
              refine z_iload_n Q_X11_one (k := 71) rfl rfl ?_
              refine y_if_ne 152 Q_X11_one (k := 72) rfl (by decide) ⟨by decide, by decide⟩ (fun q => absurd q (by decide)) (fun _ => ?_)
              refine z_aload_n Q_X11_one (k := 73) rfl rfl ?_
              refine y_iconst Q_X11_one (k := 74) rfl ?_
              refine z_aload_n Q_X11_one (k := 75) rfl rfl ?_
              refine q_getI (o := 602) (z := 14) Q_X11_one (k := 76) rfl F_X11_91 rfl rfl rfl (n_ hB4.1 rfl) (k_602 hB4.1) ?_
              refine q_callV2_uV Q_X11_one (k := 77) rfl rfl K_X11_wrong V_X11_wrong L_X11_124 (n_ hB4.1 rfl) (k_602 hB4.1) (Nat.le_of_ble_eq_true rfl) (Nat.le_of_ble_eq_true rfl) rfl (Nat.zero_le _) (Nat.zero_le _) (w_X11_wrong (d + 63) hB4 ⟨by decide, by decide⟩ (hB4.2.1 _ _) h) (fun V75 hB75 h => ?_)
              refine z_aload_n Q_X11_one (k := 78) rfl rfl ?_
              refine q_callV0_z Q_X11_one (k := 79) rfl rfl K_X11_fine V_X11_fine L_X11_117 (n_ hB75.1 rfl) (k_602 hB75.1) (Nat.le_of_ble_eq_true rfl) (Nat.le_of_ble_eq_true rfl) rfl (Nat.zero_le _) (Nat.zero_le _) (w_X11_fine (d + 63) hB75  h) (fun r76 hz76 hb76 h => ?_)
              refine y_if_ne 160 Q_X11_one (k := 80) rfl (by decide) hz76 (fun c => ?_) (fun c => ?_)
              · replace h := h.2 c
                refine z_aload_n Q_X11_one (k := 82) rfl rfl ?_
                refine y_iconst Q_X11_one (k := 83) rfl ?_
                refine z_aload_n Q_X11_one (k := 84) rfl rfl ?_
                refine z_getR (b := 613) Q_X11_one (k := 85) rfl F_X11_47 rfl (n_ hB75.1 rfl) (k_602 hB75.1) (r_602_21 hB75.1) ?_
                refine z_aload_n Q_X11_one (k := 86) rfl rfl ?_
                refine q_getI (o := 602) (z := 14) Q_X11_one (k := 87) rfl F_X11_91 rfl rfl rfl (n_ hB75.1 rfl) (k_602 hB75.1) ?_
                refine y_iconst Q_X11_one (k := 88) rfl ?_
                obtain ⟨q77, h⟩ := h
                refine y_iadd Q_X11_one (k := 89) rfl ?_
                obtain ⟨q78, h⟩ := h
                refine q_iald (o := 613) (N := 400) Q_X11_one (k := 90) rfl rfl (n_ hB75.1 rfl) (k_613 hB75.1) rfl q78 (by decide) ?_
                refine y_bipush Q_X11_one (k := 91) rfl (by decide) ?_
                obtain ⟨q79, h⟩ := h
                refine y_isub Q_X11_one (k := 92) rfl ?_
                refine q_callV2_uV Q_X11_one (k := 93) rfl rfl K_X11_emit V_X11_emit L_X11_144 (n_ hB75.1 rfl) (k_602 hB75.1) (Nat.le_of_ble_eq_true rfl) (Nat.le_of_ble_eq_true rfl) rfl (Nat.zero_le _) (Nat.zero_le _) (w_X11_emit (d + 62) hB75 ⟨by decide, by decide⟩ q79 h) (fun V80 hB80 h => ?_)
                refine z_aload_n Q_X11_one (k := 94) rfl rfl ?_
                refine z_dup Q_X11_one (k := 95) rfl rfl ?_
                refine q_getI (o := 602) (z := 14) Q_X11_one (k := 96) rfl F_X11_91 rfl rfl rfl (n_ hB80.1 rfl) (k_602 hB80.1) ?_
                refine y_iconst Q_X11_one (k := 97) rfl ?_
                obtain ⟨q81, h⟩ := h
                refine y_iadd Q_X11_one (k := 98) rfl ?_
                refine q_putI (o := 602) (z := 14) Q_X11_one (k := 99) rfl F_X11_91 rfl rfl rfl (n_ hB80.1 rfl) (k_602 hB80.1) ?_
                have hB82 := qB.u (a := 602) (j := 14) (x := (V80 602 14) + 2) hB80 q81 (Or.inl (by decide))
                refine z_goto (tgt := 288) Q_X11_one (k := 100) rfl (by decide) ?_
                exact z_vret Q_X11_one (k := 150) rfl rfl (qI_uV hB82 h)
              · replace h := h.1 c
                exact z_vret Q_X11_one (k := 81) rfl rfl (qI_uV hB75 h)
            · replace h := h.1 c
              refine z_aload_n Q_X11_one (k := 59) rfl rfl ?_
              refine z_aload_n Q_X11_one (k := 60) rfl rfl ?_
              refine q_getI (o := 602) (z := 14) Q_X11_one (k := 61) rfl F_X11_91 rfl rfl rfl (n_ hB4.1 rfl) (k_602 hB4.1) ?_
              refine y_iconst Q_X11_one (k := 62) rfl ?_
              obtain ⟨q83, h⟩ := h
              refine y_iadd Q_X11_one (k := 63) rfl ?_
              refine q_callV1_i Q_X11_one (k := 64) rfl rfl K_X11_atPlace V_X11_atPlace L_X11_178 (n_ hB4.1 rfl) (k_602 hB4.1) (Nat.le_of_ble_eq_true rfl) (Nat.le_of_ble_eq_true rfl) rfl (Nat.zero_le _) (Nat.zero_le _) (w_X11_atPlace (d + 63) hB4 q83 h) (fun r84 hz84 h => ?_)
              refine q_callS1_z Q_X11_one (k := 65) rfl rfl K_X11_isSmall S_X11_isSmall L_X11_101 (Nat.le_of_ble_eq_true rfl) (Nat.le_of_ble_eq_true rfl) rfl (Nat.zero_le _) (Nat.zero_le _) (w_X11_isSmall (d + 63) hB4 hz84 h) (fun r85 hz85 hb85 h => ?_)
              refine y_if_ne 137 Q_X11_one (k := 66) rfl (by decide) hz85 (fun c => ?_) (fun c => ?_)
              · replace h := h.2 c
                refine y_iconst Q_X11_one (k := 69) rfl ?_
                refine y_istore_n (L' := [some (.ref 602), some (.int (iI r2)), some (.int (iI 0))]) Q_X11_one (k := 70) rfl (by decide) rfl ?_
                refine z_iload_n Q_X11_one (k := 71) rfl rfl ?_
                refine y_if_ne 152 Q_X11_one (k := 72) rfl (by decide) ⟨by decide, by decide⟩ (fun q => absurd q (by decide)) (fun _ => ?_)
                refine z_aload_n Q_X11_one (k := 73) rfl rfl ?_
                refine y_iconst Q_X11_one (k := 74) rfl ?_
                refine z_aload_n Q_X11_one (k := 75) rfl rfl ?_
                refine q_getI (o := 602) (z := 14) Q_X11_one (k := 76) rfl F_X11_91 rfl rfl rfl (n_ hB4.1 rfl) (k_602 hB4.1) ?_
                refine q_callV2_uV Q_X11_one (k := 77) rfl rfl K_X11_wrong V_X11_wrong L_X11_124 (n_ hB4.1 rfl) (k_602 hB4.1) (Nat.le_of_ble_eq_true rfl) (Nat.le_of_ble_eq_true rfl) rfl (Nat.zero_le _) (Nat.zero_le _) (w_X11_wrong (d + 63) hB4 ⟨by decide, by decide⟩ (hB4.2.1 _ _) h) (fun V86 hB86 h => ?_)
                refine z_aload_n Q_X11_one (k := 78) rfl rfl ?_
                refine q_callV0_z Q_X11_one (k := 79) rfl rfl K_X11_fine V_X11_fine L_X11_117 (n_ hB86.1 rfl) (k_602 hB86.1) (Nat.le_of_ble_eq_true rfl) (Nat.le_of_ble_eq_true rfl) rfl (Nat.zero_le _) (Nat.zero_le _) (w_X11_fine (d + 63) hB86  h) (fun r87 hz87 hb87 h => ?_)
                refine y_if_ne 160 Q_X11_one (k := 80) rfl (by decide) hz87 (fun c => ?_) (fun c => ?_)
                · replace h := h.2 c
                  refine z_aload_n Q_X11_one (k := 82) rfl rfl ?_
                  refine y_iconst Q_X11_one (k := 83) rfl ?_
                  refine z_aload_n Q_X11_one (k := 84) rfl rfl ?_
                  refine z_getR (b := 613) Q_X11_one (k := 85) rfl F_X11_47 rfl (n_ hB86.1 rfl) (k_602 hB86.1) (r_602_21 hB86.1) ?_
                  refine z_aload_n Q_X11_one (k := 86) rfl rfl ?_
                  refine q_getI (o := 602) (z := 14) Q_X11_one (k := 87) rfl F_X11_91 rfl rfl rfl (n_ hB86.1 rfl) (k_602 hB86.1) ?_
                  refine y_iconst Q_X11_one (k := 88) rfl ?_
                  obtain ⟨q88, h⟩ := h
                  refine y_iadd Q_X11_one (k := 89) rfl ?_
                  obtain ⟨q89, h⟩ := h
                  refine q_iald (o := 613) (N := 400) Q_X11_one (k := 90) rfl rfl (n_ hB86.1 rfl) (k_613 hB86.1) rfl q89 (by decide) ?_
                  refine y_bipush Q_X11_one (k := 91) rfl (by decide) ?_
                  obtain ⟨q90, h⟩ := h
                  refine y_isub Q_X11_one (k := 92) rfl ?_
                  refine q_callV2_uV Q_X11_one (k := 93) rfl rfl K_X11_emit V_X11_emit L_X11_144 (n_ hB86.1 rfl) (k_602 hB86.1) (Nat.le_of_ble_eq_true rfl) (Nat.le_of_ble_eq_true rfl) rfl (Nat.zero_le _) (Nat.zero_le _) (w_X11_emit (d + 62) hB86 ⟨by decide, by decide⟩ q90 h) (fun V91 hB91 h => ?_)
                  refine z_aload_n Q_X11_one (k := 94) rfl rfl ?_
                  refine z_dup Q_X11_one (k := 95) rfl rfl ?_
                  refine q_getI (o := 602) (z := 14) Q_X11_one (k := 96) rfl F_X11_91 rfl rfl rfl (n_ hB91.1 rfl) (k_602 hB91.1) ?_
                  refine y_iconst Q_X11_one (k := 97) rfl ?_
                  obtain ⟨q92, h⟩ := h
                  refine y_iadd Q_X11_one (k := 98) rfl ?_
                  refine q_putI (o := 602) (z := 14) Q_X11_one (k := 99) rfl F_X11_91 rfl rfl rfl (n_ hB91.1 rfl) (k_602 hB91.1) ?_
                  have hB93 := qB.u (a := 602) (j := 14) (x := (V91 602 14) + 2) hB91 q92 (Or.inl (by decide))
                  refine z_goto (tgt := 288) Q_X11_one (k := 100) rfl (by decide) ?_
                  exact z_vret Q_X11_one (k := 150) rfl rfl (qI_uV hB93 h)
                · replace h := h.1 c
                  exact z_vret Q_X11_one (k := 81) rfl rfl (qI_uV hB86 h)
              · replace h := h.1 c
                refine y_iconst Q_X11_one (k := 67) rfl ?_
                refine z_goto (tgt := 138) Q_X11_one (k := 68) rfl (by decide) ?_
                refine y_istore_n (L' := [some (.ref 602), some (.int (iI r2)), some (.int (iI 1))]) Q_X11_one (k := 70) rfl (by decide) rfl ?_
                refine z_iload_n Q_X11_one (k := 71) rfl rfl ?_
                refine y_if_ne 152 Q_X11_one (k := 72) rfl (by decide) ⟨by decide, by decide⟩ (fun _ => ?_) (fun q => absurd q (by decide))
                refine z_aload_n Q_X11_one (k := 78) rfl rfl ?_
                refine q_callV0_z Q_X11_one (k := 79) rfl rfl K_X11_fine V_X11_fine L_X11_117 (n_ hB4.1 rfl) (k_602 hB4.1) (Nat.le_of_ble_eq_true rfl) (Nat.le_of_ble_eq_true rfl) rfl (Nat.zero_le _) (Nat.zero_le _) (w_X11_fine (d + 63) hB4  h) (fun r94 hz94 hb94 h => ?_)
                refine y_if_ne 160 Q_X11_one (k := 80) rfl (by decide) hz94 (fun c => ?_) (fun c => ?_)
                · replace h := h.2 c
                  refine z_aload_n Q_X11_one (k := 82) rfl rfl ?_
                  refine y_iconst Q_X11_one (k := 83) rfl ?_
                  refine z_aload_n Q_X11_one (k := 84) rfl rfl ?_
                  refine z_getR (b := 613) Q_X11_one (k := 85) rfl F_X11_47 rfl (n_ hB4.1 rfl) (k_602 hB4.1) (r_602_21 hB4.1) ?_
                  refine z_aload_n Q_X11_one (k := 86) rfl rfl ?_
                  refine q_getI (o := 602) (z := 14) Q_X11_one (k := 87) rfl F_X11_91 rfl rfl rfl (n_ hB4.1 rfl) (k_602 hB4.1) ?_
                  refine y_iconst Q_X11_one (k := 88) rfl ?_
                  obtain ⟨q95, h⟩ := h
                  refine y_iadd Q_X11_one (k := 89) rfl ?_
                  obtain ⟨q96, h⟩ := h
                  refine q_iald (o := 613) (N := 400) Q_X11_one (k := 90) rfl rfl (n_ hB4.1 rfl) (k_613 hB4.1) rfl q96 (by decide) ?_
                  refine y_bipush Q_X11_one (k := 91) rfl (by decide) ?_
                  obtain ⟨q97, h⟩ := h
                  refine y_isub Q_X11_one (k := 92) rfl ?_
                  refine q_callV2_uV Q_X11_one (k := 93) rfl rfl K_X11_emit V_X11_emit L_X11_144 (n_ hB4.1 rfl) (k_602 hB4.1) (Nat.le_of_ble_eq_true rfl) (Nat.le_of_ble_eq_true rfl) rfl (Nat.zero_le _) (Nat.zero_le _) (w_X11_emit (d + 62) hB4 ⟨by decide, by decide⟩ q97 h) (fun V98 hB98 h => ?_)
                  refine z_aload_n Q_X11_one (k := 94) rfl rfl ?_
                  refine z_dup Q_X11_one (k := 95) rfl rfl ?_
                  refine q_getI (o := 602) (z := 14) Q_X11_one (k := 96) rfl F_X11_91 rfl rfl rfl (n_ hB98.1 rfl) (k_602 hB98.1) ?_
                  refine y_iconst Q_X11_one (k := 97) rfl ?_
                  obtain ⟨q99, h⟩ := h
                  refine y_iadd Q_X11_one (k := 98) rfl ?_
                  refine q_putI (o := 602) (z := 14) Q_X11_one (k := 99) rfl F_X11_91 rfl rfl rfl (n_ hB98.1 rfl) (k_602 hB98.1) ?_
                  have hB100 := qB.u (a := 602) (j := 14) (x := (V98 602 14) + 2) hB98 q99 (Or.inl (by decide))
                  refine z_goto (tgt := 288) Q_X11_one (k := 100) rfl (by decide) ?_
                  exact z_vret Q_X11_one (k := 150) rfl rfl (qI_uV hB100 h)
                · replace h := h.1 c
                  exact z_vret Q_X11_one (k := 81) rfl rfl (qI_uV hB4 h)
      · replace h := h.1 c
        refine z_aload_n Q_X11_one (k := 23) rfl rfl ?_
        refine y_iconst Q_X11_one (k := 24) rfl ?_
        refine q_callV1_uV Q_X11_one (k := 25) rfl rfl K_X11_opensOne V_X11_opensOne L_X11_147 (n_ hB3.1 rfl) (k_602 hB3.1) (Nat.le_of_ble_eq_true rfl) (Nat.le_of_ble_eq_true rfl) rfl (Nat.zero_le _) (Nat.zero_le _) (w_X11_opensOne (d + 62) hB3 ⟨by decide, by decide⟩ h) (fun V101 hB101 h => ?_)
        refine z_aload_n Q_X11_one (k := 26) rfl rfl ?_
        refine q_callV0_uV Q_X11_one (k := 27) rfl rfl K_X11_one V_X11_one L_X11_172 (n_ hB101.1 rfl) (k_602 hB101.1) (Nat.le_of_ble_eq_true rfl) (Nat.le_of_ble_eq_true rfl) rfl (Nat.zero_le _) (Nat.zero_le _) (hg_X11_one hB101 h) (fun V102 hB102 h => ?_)
        refine z_aload_n Q_X11_one (k := 28) rfl rfl ?_
        refine z_dup Q_X11_one (k := 29) rfl rfl ?_
        refine q_getI (o := 602) (z := 17) Q_X11_one (k := 30) rfl F_X11_134 rfl rfl rfl (n_ hB102.1 rfl) (k_602 hB102.1) ?_
        refine y_iconst Q_X11_one (k := 31) rfl ?_
        obtain ⟨q103, h⟩ := h
        refine y_isub Q_X11_one (k := 32) rfl ?_
        refine q_putI (o := 602) (z := 17) Q_X11_one (k := 33) rfl F_X11_134 rfl rfl rfl (n_ hB102.1 rfl) (k_602 hB102.1) ?_
        have hB104 := qB.u (a := 602) (j := 17) (x := (V102 602 17) - 1) hB102 q103 (Or.inl (by decide))
        refine z_aload_n Q_X11_one (k := 34) rfl rfl ?_
        refine y_bipush Q_X11_one (k := 35) rfl (by decide) ?_
        refine y_iconst Q_X11_one (k := 36) rfl ?_
        refine q_callV2_uV Q_X11_one (k := 37) rfl rfl K_X11_emit V_X11_emit L_X11_144 (n_ hB104.1 rfl) (k_602 hB104.1) (Nat.le_of_ble_eq_true rfl) (Nat.le_of_ble_eq_true rfl) rfl (Nat.zero_le _) (Nat.zero_le _) (w_X11_emit (d + 62) hB104 ⟨by decide, by decide⟩ ⟨by decide, by decide⟩ h) (fun V105 hB105 h => ?_)
        refine z_goto (tgt := 288) Q_X11_one (k := 38) rfl (by decide) ?_
        exact z_vret Q_X11_one (k := 150) rfl rfl (qI_uV hB105 h)
    · replace h := h.1 c
      refine z_aload_n Q_X11_one (k := 10) rfl rfl ?_
      refine y_iconst Q_X11_one (k := 11) rfl ?_
      refine q_callV1_uV Q_X11_one (k := 12) rfl rfl K_X11_opensOne V_X11_opensOne L_X11_147 (n_ hB2.1 rfl) (k_602 hB2.1) (Nat.le_of_ble_eq_true rfl) (Nat.le_of_ble_eq_true rfl) rfl (Nat.zero_le _) (Nat.zero_le _) (w_X11_opensOne (d + 62) hB2 ⟨by decide, by decide⟩ h) (fun V106 hB106 h => ?_)
      refine z_aload_n Q_X11_one (k := 13) rfl rfl ?_
      refine q_callV0_uV Q_X11_one (k := 14) rfl rfl K_X11_anyOf V_X11_anyOf L_X11_175 (n_ hB106.1 rfl) (k_602 hB106.1) (Nat.le_of_ble_eq_true rfl) (Nat.le_of_ble_eq_true rfl) rfl (Nat.zero_le _) (Nat.zero_le _) (hg_X11_anyOf hB106 h) (fun V107 hB107 h => ?_)
      refine z_aload_n Q_X11_one (k := 15) rfl rfl ?_
      refine y_bipush Q_X11_one (k := 16) rfl (by decide) ?_
      refine q_callV1_uV Q_X11_one (k := 17) rfl rfl K_X11_closesOne V_X11_closesOne L_X11_153 (n_ hB107.1 rfl) (k_602 hB107.1) (Nat.le_of_ble_eq_true rfl) (Nat.le_of_ble_eq_true rfl) rfl (Nat.zero_le _) (Nat.zero_le _) (w_X11_closesOne (d + 61) hB107 ⟨by decide, by decide⟩ h) (fun V108 hB108 h => ?_)
      refine z_goto (tgt := 288) Q_X11_one (k := 18) rfl (by decide) ?_
      exact z_vret Q_X11_one (k := 150) rfl rfl (qI_uV hB108 h)
  · replace h := h.1 c
    exact z_vret Q_X11_one (k := 3) rfl rfl (qI_uV hB h)
theorem g_mo {S : zS} {J : qJ} (d : Nat) : ∀ n : Nat, (∀ {V : qV} {Q : qV → Prop}, qB S V → G_mo n 0 V Q → Z M_X11_anyOf (d + n + 63) 0 0 0 [some (.ref 602)] [] S (qi V) (qj J) (qP_uV S J Q)) ∧ (∀ {V : qV} {Q : qV → Prop}, qB S V → G_mo n 1 V Q → Z M_X11_allOf (d + n + 63) 0 0 0 [some (.ref 602)] [] S (qi V) (qj J) (qP_uV S J Q)) ∧ (∀ {V : qV} {Q : qV → Prop}, qB S V → G_mo n 2 V Q → Z M_X11_one (d + n + 63) 0 0 0 [some (.ref 602), none, none] [] S (qi V) (qj J) (qP_uV S J Q)) := by
  intro n
  induction n with
  | zero => exact ⟨fun _ h => h.elim, fun _ h => h.elim, fun _ h => h.elim⟩
  | succ n ih =>
    obtain ⟨i0, i1, i2⟩ := ih
    refine ⟨?_, ?_, ?_⟩
    · intro V Q hB h
      have h2 : B_X11_anyOf (G_mo n 1) V Q := by simpa [G_mo] using h
      exact b_X11_anyOf (d + n) (fun hB h => i1 hB h) hB h2
    · intro V Q hB h
      have h2 : B_X11_allOf (G_mo n 2) V Q := by simpa [G_mo] using h
      exact b_X11_allOf (d + n) (fun hB h => i2 hB h) hB h2
    · intro V Q hB h
      have h2 : B_X11_one (G_mo n 0) (G_mo n 2) V Q := by simpa [G_mo] using h
      exact b_X11_one (d + n) (fun hB h => i0 hB h) (fun hB h => i2 hB h) hB h2
theorem w_X11_anyOf {S : zS} {V : qV} {J : qJ} {Q : qV → Prop} (d : Nat) (hB : qB S V) (h : W_X11_anyOf V Q) : Z M_X11_anyOf (d + 61 + 63) 0 0 0 [some (.ref 602)] [] S (qi V) (qj J) (qP_uV S J Q) := (g_mo d 61).1 hB h
theorem w_X11_allOf {S : zS} {V : qV} {J : qJ} {Q : qV → Prop} (d : Nat) (hB : qB S V) (h : W_X11_allOf V Q) : Z M_X11_allOf (d + 61 + 63) 0 0 0 [some (.ref 602)] [] S (qi V) (qj J) (qP_uV S J Q) := (g_mo d 61).2.1 hB h
theorem w_X11_one {S : zS} {V : qV} {J : qJ} {Q : qV → Prop} (d : Nat) (hB : qB S V) (h : W_X11_one V Q) : Z M_X11_one (d + 61 + 63) 0 0 0 [some (.ref 602), none, none] [] S (qi V) (qj J) (qP_uV S J Q) := (g_mo d 61).2.2 hB h
set_option maxHeartbeats 4000000 in
set_option maxRecDepth 20000 in
theorem w_X11_isMore {S : zS} {V : qV} {J : qJ} {Q : Int → qV → Prop} (d : Nat) (hB : qB S V) (h : W_X11_isMore V Q) : Z M_X11_isMore (d + 1) 0 0 0 [some (.ref 602)] [] S (qi V) (qj J) (qP_zV S J Q) := by
  unfold W_X11_isMore at h
  refine z_aload_n Q_X11_isMore (k := 0) rfl rfl ?_
  refine q_callV0_iV Q_X11_isMore (k := 1) rfl rfl K_X11_here V_X11_here L_X11_97 (n_ hB.1 rfl) (k_602 hB.1) (Nat.le_of_ble_eq_true rfl) (Nat.le_of_ble_eq_true rfl) rfl (Nat.zero_le _) (Nat.zero_le _) (w_X11_here d hB  h) (fun r1 V1 hB1 hz1 h => ?_)
  refine z_pop Q_X11_isMore (k := 2) rfl rfl ?_
  refine z_aload_n Q_X11_isMore (k := 3) rfl rfl ?_
  refine q_getI (o := 602) (z := 14) Q_X11_isMore (k := 4) rfl F_X11_91 rfl rfl rfl (n_ hB1.1 rfl) (k_602 hB1.1) ?_
  refine z_aload_n Q_X11_isMore (k := 5) rfl rfl ?_
  refine q_getI (o := 602) (z := 13) Q_X11_isMore (k := 6) rfl F_X11_94 rfl rfl rfl (n_ hB1.1 rfl) (k_602 hB1.1) ?_
  refine y_icmp_ge 20 Q_X11_isMore (k := 7) rfl (by decide) (hB1.2.1 _ _) (hB1.2.1 _ _) (fun c => ?_) (fun c => ?_)
  · replace h := h.1 c
    refine y_iconst Q_X11_isMore (k := 10) rfl ?_
    exact y_zret Q_X11_isMore (k := 11) rfl rfl (Or.inl rfl) (qI_zV hB1 ⟨by decide, by decide⟩ (Or.inl rfl) h)
  · replace h := h.2 c
    refine y_iconst Q_X11_isMore (k := 8) rfl ?_
    refine z_goto (tgt := 21) Q_X11_isMore (k := 9) rfl (by decide) ?_
    exact y_zret Q_X11_isMore (k := 11) rfl rfl (Or.inr rfl) (qI_zV hB1 ⟨by decide, by decide⟩ (Or.inr rfl) h)
set_option maxHeartbeats 4000000 in
set_option maxRecDepth 20000 in
theorem w_X11_beginsReading {S : zS} {V : qV} {J : qJ} {Q : qV → Prop} (d : Nat) (hB : qB S V) {a1 : Int} (z1 : zr a1) {a2 : Int} (z2 : zr a2) (h : W_X11_beginsReading a1 a2 V Q) : Z M_X11_beginsReading d 0 0 0 [some (.ref 602), some (.int (iI a1)), some (.int (iI a2))] [] S (qi V) (qj J) (qP_uV S J Q) := by
  unfold W_X11_beginsReading at h
  refine z_aload_n Q_X11_beginsReading (k := 0) rfl rfl ?_
  refine y_iconst Q_X11_beginsReading (k := 1) rfl ?_
  refine q_putI (o := 602) (z := 12) Q_X11_beginsReading (k := 2) rfl F_X11_82 rfl rfl rfl (n_ hB.1 rfl) (k_602 hB.1) ?_
  have hB1 := qB.u (a := 602) (j := 12) (x := 0) hB ⟨by decide, by decide⟩ (Or.inl (by decide))
  refine z_aload_n Q_X11_beginsReading (k := 3) rfl rfl ?_
  refine y_iconst Q_X11_beginsReading (k := 4) rfl ?_
  refine q_putI (o := 602) (z := 20) Q_X11_beginsReading (k := 5) rfl F_X11_44 rfl rfl rfl (n_ hB1.1 rfl) (k_602 hB1.1) ?_
  have hB2 := qB.u (a := 602) (j := 20) (x := (-1)) hB1 ⟨by decide, by decide⟩ (Or.inl (by decide))
  refine z_aload_n Q_X11_beginsReading (k := 6) rfl rfl ?_
  refine z_iload_n Q_X11_beginsReading (k := 7) rfl rfl ?_
  refine q_putI (o := 602) (z := 13) Q_X11_beginsReading (k := 8) rfl F_X11_94 rfl rfl rfl (n_ hB2.1 rfl) (k_602 hB2.1) ?_
  have hB3 := qB.u (a := 602) (j := 13) (x := a1) hB2 z1 (Or.inl (by decide))
  refine z_aload_n Q_X11_beginsReading (k := 9) rfl rfl ?_
  refine y_iconst Q_X11_beginsReading (k := 10) rfl ?_
  refine q_putI (o := 602) (z := 14) Q_X11_beginsReading (k := 11) rfl F_X11_91 rfl rfl rfl (n_ hB3.1 rfl) (k_602 hB3.1) ?_
  have hB4 := qB.u (a := 602) (j := 14) (x := 0) hB3 ⟨by decide, by decide⟩ (Or.inl (by decide))
  refine z_aload_n Q_X11_beginsReading (k := 12) rfl rfl ?_
  refine y_iconst Q_X11_beginsReading (k := 13) rfl ?_
  refine q_putI (o := 602) (z := 15) Q_X11_beginsReading (k := 14) rfl F_X11_85 rfl rfl rfl (n_ hB4.1 rfl) (k_602 hB4.1) ?_
  have hB5 := qB.u (a := 602) (j := 15) (x := (-1)) hB4 ⟨by decide, by decide⟩ (Or.inl (by decide))
  refine z_aload_n Q_X11_beginsReading (k := 15) rfl rfl ?_
  refine y_iconst Q_X11_beginsReading (k := 16) rfl ?_
  refine q_putI (o := 602) (z := 17) Q_X11_beginsReading (k := 17) rfl F_X11_134 rfl rfl rfl (n_ hB5.1 rfl) (k_602 hB5.1) ?_
  have hB6 := qB.u (a := 602) (j := 17) (x := 0) hB5 ⟨by decide, by decide⟩ (Or.inl (by decide))
  refine z_aload_n Q_X11_beginsReading (k := 18) rfl rfl ?_
  refine y_iconst Q_X11_beginsReading (k := 19) rfl ?_
  refine q_putI (o := 602) (z := 18) Q_X11_beginsReading (k := 20) rfl F_X11_131 rfl rfl rfl (n_ hB6.1 rfl) (k_602 hB6.1) ?_
  have hB7 := qB.u (a := 602) (j := 18) (x := 0) hB6 ⟨by decide, by decide⟩ (Or.inl (by decide))
  refine z_aload_n Q_X11_beginsReading (k := 21) rfl rfl ?_
  refine y_sipush Q_X11_beginsReading (k := 22) rfl (by decide) ?_
  refine z_iload_n Q_X11_beginsReading (k := 23) rfl rfl ?_
  obtain ⟨q8, h⟩ := h
  refine y_imul Q_X11_beginsReading (k := 24) rfl ?_
  refine q_putI (o := 602) (z := 19) Q_X11_beginsReading (k := 25) rfl F_X11_128 rfl rfl rfl (n_ hB7.1 rfl) (k_602 hB7.1) ?_
  have hB9 := qB.u (a := 602) (j := 19) (x := 420 * a2) hB7 q8 (Or.inl (by decide))
  exact z_vret Q_X11_beginsReading (k := 26) rfl rfl (qI_uV hB9 h)
set_option maxHeartbeats 4000000 in
set_option maxRecDepth 20000 in
theorem w_X11_readRule {S : zS} {V : qV} {J : qJ} {Q : qV → Prop} (d : Nat) (hB : qB S V) (h : W_X11_readRule V Q) : Z M_X11_readRule (d + 125) 0 0 0 [some (.ref 602), none, none] [] S (qi V) (qj J) (qP_uV S J Q) := by
  unfold W_X11_readRule at h
  refine z_aload_n Q_X11_readRule (k := 0) rfl rfl ?_
  refine q_callV0_iV Q_X11_readRule (k := 1) rfl rfl K_X11_word V_X11_word L_X11_156 (n_ hB.1 rfl) (k_602 hB.1) (Nat.le_of_ble_eq_true rfl) (Nat.le_of_ble_eq_true rfl) rfl (Nat.zero_le _) (Nat.zero_le _) (w_X11_word (d + 123) hB  h) (fun r1 V1 hB1 hz1 h => ?_)
  refine q_callS1_i Q_X11_readRule (k := 2) rfl rfl K_X11_whoOf S_X11_whoOf L_X11_181 (Nat.le_of_ble_eq_true rfl) (Nat.le_of_ble_eq_true rfl) rfl (Nat.zero_le _) (Nat.zero_le _) (w_X11_whoOf (d + 124) hB1 hz1 h) (fun r2 hz2 h => ?_)
  refine y_istore_n (L' := [some (.ref 602), some (.int (iI r2)), none]) Q_X11_readRule (k := 3) rfl (by decide) rfl ?_
  refine z_iload_n Q_X11_readRule (k := 4) rfl rfl ?_
  refine y_iconst Q_X11_readRule (k := 5) rfl ?_
  refine y_icmp_ne 25 Q_X11_readRule (k := 6) rfl (by decide) hz2 ⟨by decide, by decide⟩ (fun c => ?_) (fun c => ?_)
  · replace h := h.2 c
    refine z_aload_n Q_X11_readRule (k := 13) rfl rfl ?_
    refine z_getR (b := 610) Q_X11_readRule (k := 14) rfl F_X11_35 rfl (n_ hB1.1 rfl) (k_602 hB1.1) (r_602_8 hB1.1) ?_
    refine z_aload_n Q_X11_readRule (k := 15) rfl rfl ?_
    refine q_getI (o := 602) (z := 11) Q_X11_readRule (k := 16) rfl F_X11_184 rfl rfl rfl (n_ hB1.1 rfl) (k_602 hB1.1) ?_
    obtain ⟨q3, h⟩ := h
    refine q_iald (o := 610) (N := 3) Q_X11_readRule (k := 17) rfl rfl (n_ hB1.1 rfl) (k_610 hB1.1) rfl q3 (by decide) ?_
    refine y_bipush Q_X11_readRule (k := 18) rfl (by decide) ?_
    refine y_icmp_ne 48 Q_X11_readRule (k := 19) rfl (by decide) (hB1.2.1 _ _) ⟨by decide, by decide⟩ (fun c => ?_) (fun c => ?_)
    · replace h := h.2 c
      refine z_aload_n Q_X11_readRule (k := 25) rfl rfl ?_
      refine q_callV0_z Q_X11_readRule (k := 26) rfl rfl K_X11_fine V_X11_fine L_X11_117 (n_ hB1.1 rfl) (k_602 hB1.1) (Nat.le_of_ble_eq_true rfl) (Nat.le_of_ble_eq_true rfl) rfl (Nat.zero_le _) (Nat.zero_le _) (w_X11_fine (d + 124) hB1  h) (fun r4 hz4 hb4 h => ?_)
      refine y_if_ne 56 Q_X11_readRule (k := 27) rfl (by decide) hz4 (fun c => ?_) (fun c => ?_)
      · replace h := h.2 c
        refine z_aload_n Q_X11_readRule (k := 29) rfl rfl ?_
        refine q_callV0_uV Q_X11_readRule (k := 30) rfl rfl K_X11_pass V_X11_pass L_X11_163 (n_ hB1.1 rfl) (k_602 hB1.1) (Nat.le_of_ble_eq_true rfl) (Nat.le_of_ble_eq_true rfl) rfl (Nat.zero_le _) (Nat.zero_le _) (w_X11_pass (d + 123) hB1  h) (fun V5 hB5 h => ?_)
        refine y_bipush Q_X11_readRule (k := 31) rfl (by decide) ?_
        refine z_aload_n Q_X11_readRule (k := 32) rfl rfl ?_
        refine q_getI (o := 602) (z := 11) Q_X11_readRule (k := 33) rfl F_X11_184 rfl rfl rfl (n_ hB5.1 rfl) (k_602 hB5.1) ?_
        obtain ⟨q6, h⟩ := h
        refine y_imul Q_X11_readRule (k := 34) rfl ?_
        refine z_aload_n Q_X11_readRule (k := 35) rfl rfl ?_
        refine z_getR (b := 610) Q_X11_readRule (k := 36) rfl F_X11_35 rfl (n_ hB5.1 rfl) (k_602 hB5.1) (r_602_8 hB5.1) ?_
        refine z_aload_n Q_X11_readRule (k := 37) rfl rfl ?_
        refine q_getI (o := 602) (z := 11) Q_X11_readRule (k := 38) rfl F_X11_184 rfl rfl rfl (n_ hB5.1 rfl) (k_602 hB5.1) ?_
        obtain ⟨q7, h⟩ := h
        refine q_iald (o := 610) (N := 3) Q_X11_readRule (k := 39) rfl rfl (n_ hB5.1 rfl) (k_610 hB5.1) rfl q7 (by decide) ?_
        obtain ⟨q8, h⟩ := h
        refine y_iadd Q_X11_readRule (k := 40) rfl ?_
        refine y_istore_n (L' := [some (.ref 602), some (.int (iI r2)), some (.int (iI ((12 * (V5 602 11)) + (V5 610 (V5 602 11)))))]) Q_X11_readRule (k := 41) rfl (by decide) rfl ?_
        refine z_aload_n Q_X11_readRule (k := 42) rfl rfl ?_
        refine z_getR (b := 610) Q_X11_readRule (k := 43) rfl F_X11_35 rfl (n_ hB5.1 rfl) (k_602 hB5.1) (r_602_8 hB5.1) ?_
        refine z_aload_n Q_X11_readRule (k := 44) rfl rfl ?_
        refine q_getI (o := 602) (z := 11) Q_X11_readRule (k := 45) rfl F_X11_184 rfl rfl rfl (n_ hB5.1 rfl) (k_602 hB5.1) ?_
        refine z_dup2 Q_X11_readRule (k := 46) rfl rfl rfl ?_
        obtain ⟨q9, h⟩ := h
        refine q_iald (o := 610) (N := 3) Q_X11_readRule (k := 47) rfl rfl (n_ hB5.1 rfl) (k_610 hB5.1) rfl q9 (by decide) ?_
        refine y_iconst Q_X11_readRule (k := 48) rfl ?_
        obtain ⟨q10, h⟩ := h
        refine y_iadd Q_X11_readRule (k := 49) rfl ?_
        obtain ⟨q11, h⟩ := h
        refine q_iast (o := 610) (N := 3) Q_X11_readRule (k := 50) rfl rfl (n_ hB5.1 rfl) (k_610 hB5.1) rfl q11 (by decide) ?_
        have hB12 := qB.u (a := 610) (j := V5 602 11) (x := (V5 610 (V5 602 11)) + 1) hB5 q10 (Or.inl (by decide))
        refine z_aload_n Q_X11_readRule (k := 51) rfl rfl ?_
        refine z_getR (b := 606) Q_X11_readRule (k := 52) rfl F_X11_23 rfl (n_ hB12.1 rfl) (k_602 hB12.1) (r_602_4 hB12.1) ?_
        refine z_iload_n Q_X11_readRule (k := 53) rfl rfl ?_
        refine z_iload_n Q_X11_readRule (k := 54) rfl rfl ?_
        obtain ⟨q13, h⟩ := h
        refine q_iast (o := 606) (N := 36) Q_X11_readRule (k := 55) rfl rfl (n_ hB12.1 rfl) (k_606 hB12.1) rfl q13 (by decide) ?_
        have hB14 := qB.u (a := 606) (j := (12 * (V5 602 11)) + (V5 610 (V5 602 11))) (x := r2) hB12 hz2 (Or.inl (by decide))
        refine z_aload_n Q_X11_readRule (k := 56) rfl rfl ?_
        refine z_getR (b := 607) Q_X11_readRule (k := 57) rfl F_X11_26 rfl (n_ hB14.1 rfl) (k_602 hB14.1) (r_602_5 hB14.1) ?_
        refine z_iload_n Q_X11_readRule (k := 58) rfl rfl ?_
        refine y_iconst Q_X11_readRule (k := 59) rfl ?_
        obtain ⟨q15, h⟩ := h
        refine q_iast (o := 607) (N := 36) Q_X11_readRule (k := 60) rfl rfl (n_ hB14.1 rfl) (k_607 hB14.1) rfl q15 (by decide) ?_
        have hB16 := qB.u (a := 607) (j := (12 * (V5 602 11)) + (V5 610 (V5 602 11))) (x := 0) hB14 ⟨by decide, by decide⟩ (Or.inl (by decide))
        refine z_aload_n Q_X11_readRule (k := 61) rfl rfl ?_
        refine q_callV0_iV Q_X11_readRule (k := 62) rfl rfl K_X11_word V_X11_word L_X11_156 (n_ hB16.1 rfl) (k_602 hB16.1) (Nat.le_of_ble_eq_true rfl) (Nat.le_of_ble_eq_true rfl) rfl (Nat.zero_le _) (Nat.zero_le _) (w_X11_word (d + 123) hB16  h) (fun r17 V17 hB17 hz17 h => ?_)
        refine y_sipush Q_X11_readRule (k := 63) rfl (by decide) ?_
        refine y_icmp_ne 129 Q_X11_readRule (k := 64) rfl (by decide) hz17 ⟨by decide, by decide⟩ (fun c => ?_) (fun c => ?_)
        · replace h := h.2 c
          refine z_aload_n Q_X11_readRule (k := 73) rfl rfl ?_
          refine z_getR (b := 608) Q_X11_readRule (k := 74) rfl F_X11_29 rfl (n_ hB17.1 rfl) (k_602 hB17.1) (r_602_6 hB17.1) ?_
          refine z_iload_n Q_X11_readRule (k := 75) rfl rfl ?_
          refine z_aload_n Q_X11_readRule (k := 76) rfl rfl ?_
          refine q_getI (o := 602) (z := 19) Q_X11_readRule (k := 77) rfl F_X11_128 rfl rfl rfl (n_ hB17.1 rfl) (k_602 hB17.1) ?_
          refine z_aload_n Q_X11_readRule (k := 78) rfl rfl ?_
          refine q_getI (o := 602) (z := 18) Q_X11_readRule (k := 79) rfl F_X11_131 rfl rfl rfl (n_ hB17.1 rfl) (k_602 hB17.1) ?_
          obtain ⟨q18, h⟩ := h
          refine y_iadd Q_X11_readRule (k := 80) rfl ?_
          obtain ⟨q19, h⟩ := h
          refine q_iast (o := 608) (N := 36) Q_X11_readRule (k := 81) rfl rfl (n_ hB17.1 rfl) (k_608 hB17.1) rfl q19 (by decide) ?_
          have hB20 := qB.u (a := 608) (j := (12 * (V5 602 11)) + (V5 610 (V5 602 11))) (x := (V17 602 19) + (V17 602 18)) hB17 q18 (Or.inl (by decide))
          refine z_aload_n Q_X11_readRule (k := 82) rfl rfl ?_
          refine q_callV0_z Q_X11_readRule (k := 83) rfl rfl K_X11_fine V_X11_fine L_X11_117 (n_ hB20.1 rfl) (k_602 hB20.1) (Nat.le_of_ble_eq_true rfl) (Nat.le_of_ble_eq_true rfl) rfl (Nat.zero_le _) (Nat.zero_le _) (w_X11_fine (d + 124) hB20  h) (fun r21 hz21 hb21 h => ?_)
          refine y_if_eq 169 Q_X11_readRule (k := 84) rfl (by decide) hz21 (fun c => ?_) (fun c => ?_)
          · replace h := h.1 c
            refine z_aload_n Q_X11_readRule (k := 93) rfl rfl ?_
            refine z_getR (b := 609) Q_X11_readRule (k := 94) rfl F_X11_32 rfl (n_ hB20.1 rfl) (k_602 hB20.1) (r_602_7 hB20.1) ?_
            refine z_iload_n Q_X11_readRule (k := 95) rfl rfl ?_
            refine z_aload_n Q_X11_readRule (k := 96) rfl rfl ?_
            refine q_getI (o := 602) (z := 19) Q_X11_readRule (k := 97) rfl F_X11_128 rfl rfl rfl (n_ hB20.1 rfl) (k_602 hB20.1) ?_
            refine z_aload_n Q_X11_readRule (k := 98) rfl rfl ?_
            refine q_getI (o := 602) (z := 18) Q_X11_readRule (k := 99) rfl F_X11_131 rfl rfl rfl (n_ hB20.1 rfl) (k_602 hB20.1) ?_
            obtain ⟨q22, h⟩ := h
            refine y_iadd Q_X11_readRule (k := 100) rfl ?_
            obtain ⟨q23, h⟩ := h
            refine q_iast (o := 609) (N := 36) Q_X11_readRule (k := 101) rfl rfl (n_ hB20.1 rfl) (k_609 hB20.1) rfl q23 (by decide) ?_
            have hB24 := qB.u (a := 609) (j := (12 * (V5 602 11)) + (V5 610 (V5 602 11))) (x := ((qu V17 608 ((12 * (V5 602 11)) + (V5 610 (V5 602 11))) ((V17 602 19) + (V17 602 18))) 602 19) + ((qu V17 608 ((12 * (V5 602 11)) + (V5 610 (V5 602 11))) ((V17 602 19) + (V17 602 18))) 602 18)) hB20 q22 (Or.inl (by decide))
            refine z_aload_n Q_X11_readRule (k := 102) rfl rfl ?_
            refine y_bipush Q_X11_readRule (k := 103) rfl (by decide) ?_
            refine q_callV1_uV Q_X11_readRule (k := 104) rfl rfl K_X11_need V_X11_need L_X11_137 (n_ hB24.1 rfl) (k_602 hB24.1) (Nat.le_of_ble_eq_true rfl) (Nat.le_of_ble_eq_true rfl) rfl (Nat.zero_le _) (Nat.zero_le _) (w_X11_need (d + 123) hB24 ⟨by decide, by decide⟩ h) (fun V25 hB25 h => ?_)
            exact z_vret Q_X11_readRule (k := 105) rfl rfl (qI_uV hB25 h)
          · replace h := h.2 c
            refine z_aload_n Q_X11_readRule (k := 85) rfl rfl ?_
            refine q_callV0_iV Q_X11_readRule (k := 86) rfl rfl K_X11_word V_X11_word L_X11_156 (n_ hB20.1 rfl) (k_602 hB20.1) (Nat.le_of_ble_eq_true rfl) (Nat.le_of_ble_eq_true rfl) rfl (Nat.zero_le _) (Nat.zero_le _) (w_X11_word (d + 123) hB20  h) (fun r26 V26 hB26 hz26 h => ?_)
            refine y_sipush Q_X11_readRule (k := 87) rfl (by decide) ?_
            refine y_icmp_ne 169 Q_X11_readRule (k := 88) rfl (by decide) hz26 ⟨by decide, by decide⟩ (fun c => ?_) (fun c => ?_)
            · replace h := h.2 c
              refine z_aload_n Q_X11_readRule (k := 93) rfl rfl ?_
              refine z_getR (b := 609) Q_X11_readRule (k := 94) rfl F_X11_32 rfl (n_ hB26.1 rfl) (k_602 hB26.1) (r_602_7 hB26.1) ?_
              refine z_iload_n Q_X11_readRule (k := 95) rfl rfl ?_
              refine z_aload_n Q_X11_readRule (k := 96) rfl rfl ?_
              refine q_getI (o := 602) (z := 19) Q_X11_readRule (k := 97) rfl F_X11_128 rfl rfl rfl (n_ hB26.1 rfl) (k_602 hB26.1) ?_
              refine z_aload_n Q_X11_readRule (k := 98) rfl rfl ?_
              refine q_getI (o := 602) (z := 18) Q_X11_readRule (k := 99) rfl F_X11_131 rfl rfl rfl (n_ hB26.1 rfl) (k_602 hB26.1) ?_
              obtain ⟨q27, h⟩ := h
              refine y_iadd Q_X11_readRule (k := 100) rfl ?_
              obtain ⟨q28, h⟩ := h
              refine q_iast (o := 609) (N := 36) Q_X11_readRule (k := 101) rfl rfl (n_ hB26.1 rfl) (k_609 hB26.1) rfl q28 (by decide) ?_
              have hB29 := qB.u (a := 609) (j := (12 * (V5 602 11)) + (V5 610 (V5 602 11))) (x := (V26 602 19) + (V26 602 18)) hB26 q27 (Or.inl (by decide))
              refine z_aload_n Q_X11_readRule (k := 102) rfl rfl ?_
              refine y_bipush Q_X11_readRule (k := 103) rfl (by decide) ?_
              refine q_callV1_uV Q_X11_readRule (k := 104) rfl rfl K_X11_need V_X11_need L_X11_137 (n_ hB29.1 rfl) (k_602 hB29.1) (Nat.le_of_ble_eq_true rfl) (Nat.le_of_ble_eq_true rfl) rfl (Nat.zero_le _) (Nat.zero_le _) (w_X11_need (d + 123) hB29 ⟨by decide, by decide⟩ h) (fun V30 hB30 h => ?_)
              exact z_vret Q_X11_readRule (k := 105) rfl rfl (qI_uV hB30 h)
            · replace h := h.1 c
              refine z_aload_n Q_X11_readRule (k := 89) rfl rfl ?_
              refine q_callV0_uV Q_X11_readRule (k := 90) rfl rfl K_X11_pass V_X11_pass L_X11_163 (n_ hB26.1 rfl) (k_602 hB26.1) (Nat.le_of_ble_eq_true rfl) (Nat.le_of_ble_eq_true rfl) rfl (Nat.zero_le _) (Nat.zero_le _) (w_X11_pass (d + 123) hB26  h) (fun V31 hB31 h => ?_)
              refine z_aload_n Q_X11_readRule (k := 91) rfl rfl ?_
              refine q_callV0_uV Q_X11_readRule (k := 92) rfl rfl K_X11_anyOf V_X11_anyOf L_X11_175 (n_ hB31.1 rfl) (k_602 hB31.1) (Nat.le_of_ble_eq_true rfl) (Nat.le_of_ble_eq_true rfl) rfl (Nat.zero_le _) (Nat.zero_le _) (w_X11_anyOf d hB31  h) (fun V32 hB32 h => ?_)
              refine z_aload_n Q_X11_readRule (k := 93) rfl rfl ?_
              refine z_getR (b := 609) Q_X11_readRule (k := 94) rfl F_X11_32 rfl (n_ hB32.1 rfl) (k_602 hB32.1) (r_602_7 hB32.1) ?_
              refine z_iload_n Q_X11_readRule (k := 95) rfl rfl ?_
              refine z_aload_n Q_X11_readRule (k := 96) rfl rfl ?_
              refine q_getI (o := 602) (z := 19) Q_X11_readRule (k := 97) rfl F_X11_128 rfl rfl rfl (n_ hB32.1 rfl) (k_602 hB32.1) ?_
              refine z_aload_n Q_X11_readRule (k := 98) rfl rfl ?_
              refine q_getI (o := 602) (z := 18) Q_X11_readRule (k := 99) rfl F_X11_131 rfl rfl rfl (n_ hB32.1 rfl) (k_602 hB32.1) ?_
              obtain ⟨q33, h⟩ := h
              refine y_iadd Q_X11_readRule (k := 100) rfl ?_
              obtain ⟨q34, h⟩ := h
              refine q_iast (o := 609) (N := 36) Q_X11_readRule (k := 101) rfl rfl (n_ hB32.1 rfl) (k_609 hB32.1) rfl q34 (by decide) ?_
              have hB35 := qB.u (a := 609) (j := (12 * (V5 602 11)) + (V5 610 (V5 602 11))) (x := (V32 602 19) + (V32 602 18)) hB32 q33 (Or.inl (by decide))
              refine z_aload_n Q_X11_readRule (k := 102) rfl rfl ?_
              refine y_bipush Q_X11_readRule (k := 103) rfl (by decide) ?_
              refine q_callV1_uV Q_X11_readRule (k := 104) rfl rfl K_X11_need V_X11_need L_X11_137 (n_ hB35.1 rfl) (k_602 hB35.1) (Nat.le_of_ble_eq_true rfl) (Nat.le_of_ble_eq_true rfl) rfl (Nat.zero_le _) (Nat.zero_le _) (w_X11_need (d + 123) hB35 ⟨by decide, by decide⟩ h) (fun V36 hB36 h => ?_)
              exact z_vret Q_X11_readRule (k := 105) rfl rfl (qI_uV hB36 h)
        · replace h := h.1 c
          refine z_aload_n Q_X11_readRule (k := 65) rfl rfl ?_
          refine q_callV0_uV Q_X11_readRule (k := 66) rfl rfl K_X11_pass V_X11_pass L_X11_163 (n_ hB17.1 rfl) (k_602 hB17.1) (Nat.le_of_ble_eq_true rfl) (Nat.le_of_ble_eq_true rfl) rfl (Nat.zero_le _) (Nat.zero_le _) (w_X11_pass (d + 123) hB17  h) (fun V37 hB37 h => ?_)
          refine z_aload_n Q_X11_readRule (k := 67) rfl rfl ?_
          refine z_getR (b := 607) Q_X11_readRule (k := 68) rfl F_X11_26 rfl (n_ hB37.1 rfl) (k_602 hB37.1) (r_602_5 hB37.1) ?_
          refine z_iload_n Q_X11_readRule (k := 69) rfl rfl ?_
          refine z_aload_n Q_X11_readRule (k := 70) rfl rfl ?_
          refine q_callV0_iV Q_X11_readRule (k := 71) rfl rfl K_X11_readNumber V_X11_readNumber L_X11_141 (n_ hB37.1 rfl) (k_602 hB37.1) (Nat.le_of_ble_eq_true rfl) (Nat.le_of_ble_eq_true rfl) rfl (Nat.zero_le _) (Nat.zero_le _) (w_X11_readNumber (d + 123) hB37  h) (fun r38 V38 hB38 hz38 h => ?_)
          obtain ⟨q39, h⟩ := h
          refine q_iast (o := 607) (N := 36) Q_X11_readRule (k := 72) rfl rfl (n_ hB38.1 rfl) (k_607 hB38.1) rfl q39 (by decide) ?_
          have hB40 := qB.u (a := 607) (j := (12 * (V5 602 11)) + (V5 610 (V5 602 11))) (x := r38) hB38 hz38 (Or.inl (by decide))
          refine z_aload_n Q_X11_readRule (k := 73) rfl rfl ?_
          refine z_getR (b := 608) Q_X11_readRule (k := 74) rfl F_X11_29 rfl (n_ hB40.1 rfl) (k_602 hB40.1) (r_602_6 hB40.1) ?_
          refine z_iload_n Q_X11_readRule (k := 75) rfl rfl ?_
          refine z_aload_n Q_X11_readRule (k := 76) rfl rfl ?_
          refine q_getI (o := 602) (z := 19) Q_X11_readRule (k := 77) rfl F_X11_128 rfl rfl rfl (n_ hB40.1 rfl) (k_602 hB40.1) ?_
          refine z_aload_n Q_X11_readRule (k := 78) rfl rfl ?_
          refine q_getI (o := 602) (z := 18) Q_X11_readRule (k := 79) rfl F_X11_131 rfl rfl rfl (n_ hB40.1 rfl) (k_602 hB40.1) ?_
          obtain ⟨q41, h⟩ := h
          refine y_iadd Q_X11_readRule (k := 80) rfl ?_
          obtain ⟨q42, h⟩ := h
          refine q_iast (o := 608) (N := 36) Q_X11_readRule (k := 81) rfl rfl (n_ hB40.1 rfl) (k_608 hB40.1) rfl q42 (by decide) ?_
          have hB43 := qB.u (a := 608) (j := (12 * (V5 602 11)) + (V5 610 (V5 602 11))) (x := ((qu V38 607 ((12 * (V5 602 11)) + (V5 610 (V5 602 11))) r38) 602 19) + ((qu V38 607 ((12 * (V5 602 11)) + (V5 610 (V5 602 11))) r38) 602 18)) hB40 q41 (Or.inl (by decide))
          refine z_aload_n Q_X11_readRule (k := 82) rfl rfl ?_
          refine q_callV0_z Q_X11_readRule (k := 83) rfl rfl K_X11_fine V_X11_fine L_X11_117 (n_ hB43.1 rfl) (k_602 hB43.1) (Nat.le_of_ble_eq_true rfl) (Nat.le_of_ble_eq_true rfl) rfl (Nat.zero_le _) (Nat.zero_le _) (w_X11_fine (d + 124) hB43  h) (fun r44 hz44 hb44 h => ?_)
          refine y_if_eq 169 Q_X11_readRule (k := 84) rfl (by decide) hz44 (fun c => ?_) (fun c => ?_)
          · replace h := h.1 c
            refine z_aload_n Q_X11_readRule (k := 93) rfl rfl ?_
            refine z_getR (b := 609) Q_X11_readRule (k := 94) rfl F_X11_32 rfl (n_ hB43.1 rfl) (k_602 hB43.1) (r_602_7 hB43.1) ?_
            refine z_iload_n Q_X11_readRule (k := 95) rfl rfl ?_
            refine z_aload_n Q_X11_readRule (k := 96) rfl rfl ?_
            refine q_getI (o := 602) (z := 19) Q_X11_readRule (k := 97) rfl F_X11_128 rfl rfl rfl (n_ hB43.1 rfl) (k_602 hB43.1) ?_
            refine z_aload_n Q_X11_readRule (k := 98) rfl rfl ?_
            refine q_getI (o := 602) (z := 18) Q_X11_readRule (k := 99) rfl F_X11_131 rfl rfl rfl (n_ hB43.1 rfl) (k_602 hB43.1) ?_
            obtain ⟨q45, h⟩ := h
            refine y_iadd Q_X11_readRule (k := 100) rfl ?_
            obtain ⟨q46, h⟩ := h
            refine q_iast (o := 609) (N := 36) Q_X11_readRule (k := 101) rfl rfl (n_ hB43.1 rfl) (k_609 hB43.1) rfl q46 (by decide) ?_
            have hB47 := qB.u (a := 609) (j := (12 * (V5 602 11)) + (V5 610 (V5 602 11))) (x := ((qu (qu V38 607 ((12 * (V5 602 11)) + (V5 610 (V5 602 11))) r38) 608 ((12 * (V5 602 11)) + (V5 610 (V5 602 11))) (((qu V38 607 ((12 * (V5 602 11)) + (V5 610 (V5 602 11))) r38) 602 19) + ((qu V38 607 ((12 * (V5 602 11)) + (V5 610 (V5 602 11))) r38) 602 18))) 602 19) + ((qu (qu V38 607 ((12 * (V5 602 11)) + (V5 610 (V5 602 11))) r38) 608 ((12 * (V5 602 11)) + (V5 610 (V5 602 11))) (((qu V38 607 ((12 * (V5 602 11)) + (V5 610 (V5 602 11))) r38) 602 19) + ((qu V38 607 ((12 * (V5 602 11)) + (V5 610 (V5 602 11))) r38) 602 18))) 602 18)) hB43 q45 (Or.inl (by decide))
            refine z_aload_n Q_X11_readRule (k := 102) rfl rfl ?_
            refine y_bipush Q_X11_readRule (k := 103) rfl (by decide) ?_
            refine q_callV1_uV Q_X11_readRule (k := 104) rfl rfl K_X11_need V_X11_need L_X11_137 (n_ hB47.1 rfl) (k_602 hB47.1) (Nat.le_of_ble_eq_true rfl) (Nat.le_of_ble_eq_true rfl) rfl (Nat.zero_le _) (Nat.zero_le _) (w_X11_need (d + 123) hB47 ⟨by decide, by decide⟩ h) (fun V48 hB48 h => ?_)
            exact z_vret Q_X11_readRule (k := 105) rfl rfl (qI_uV hB48 h)
          · replace h := h.2 c
            refine z_aload_n Q_X11_readRule (k := 85) rfl rfl ?_
            refine q_callV0_iV Q_X11_readRule (k := 86) rfl rfl K_X11_word V_X11_word L_X11_156 (n_ hB43.1 rfl) (k_602 hB43.1) (Nat.le_of_ble_eq_true rfl) (Nat.le_of_ble_eq_true rfl) rfl (Nat.zero_le _) (Nat.zero_le _) (w_X11_word (d + 123) hB43  h) (fun r49 V49 hB49 hz49 h => ?_)
            refine y_sipush Q_X11_readRule (k := 87) rfl (by decide) ?_
            refine y_icmp_ne 169 Q_X11_readRule (k := 88) rfl (by decide) hz49 ⟨by decide, by decide⟩ (fun c => ?_) (fun c => ?_)
            · replace h := h.2 c
              refine z_aload_n Q_X11_readRule (k := 93) rfl rfl ?_
              refine z_getR (b := 609) Q_X11_readRule (k := 94) rfl F_X11_32 rfl (n_ hB49.1 rfl) (k_602 hB49.1) (r_602_7 hB49.1) ?_
              refine z_iload_n Q_X11_readRule (k := 95) rfl rfl ?_
              refine z_aload_n Q_X11_readRule (k := 96) rfl rfl ?_
              refine q_getI (o := 602) (z := 19) Q_X11_readRule (k := 97) rfl F_X11_128 rfl rfl rfl (n_ hB49.1 rfl) (k_602 hB49.1) ?_
              refine z_aload_n Q_X11_readRule (k := 98) rfl rfl ?_
              refine q_getI (o := 602) (z := 18) Q_X11_readRule (k := 99) rfl F_X11_131 rfl rfl rfl (n_ hB49.1 rfl) (k_602 hB49.1) ?_
              obtain ⟨q50, h⟩ := h
              refine y_iadd Q_X11_readRule (k := 100) rfl ?_
              obtain ⟨q51, h⟩ := h
              refine q_iast (o := 609) (N := 36) Q_X11_readRule (k := 101) rfl rfl (n_ hB49.1 rfl) (k_609 hB49.1) rfl q51 (by decide) ?_
              have hB52 := qB.u (a := 609) (j := (12 * (V5 602 11)) + (V5 610 (V5 602 11))) (x := (V49 602 19) + (V49 602 18)) hB49 q50 (Or.inl (by decide))
              refine z_aload_n Q_X11_readRule (k := 102) rfl rfl ?_
              refine y_bipush Q_X11_readRule (k := 103) rfl (by decide) ?_
              refine q_callV1_uV Q_X11_readRule (k := 104) rfl rfl K_X11_need V_X11_need L_X11_137 (n_ hB52.1 rfl) (k_602 hB52.1) (Nat.le_of_ble_eq_true rfl) (Nat.le_of_ble_eq_true rfl) rfl (Nat.zero_le _) (Nat.zero_le _) (w_X11_need (d + 123) hB52 ⟨by decide, by decide⟩ h) (fun V53 hB53 h => ?_)
              exact z_vret Q_X11_readRule (k := 105) rfl rfl (qI_uV hB53 h)
            · replace h := h.1 c
              refine z_aload_n Q_X11_readRule (k := 89) rfl rfl ?_
              refine q_callV0_uV Q_X11_readRule (k := 90) rfl rfl K_X11_pass V_X11_pass L_X11_163 (n_ hB49.1 rfl) (k_602 hB49.1) (Nat.le_of_ble_eq_true rfl) (Nat.le_of_ble_eq_true rfl) rfl (Nat.zero_le _) (Nat.zero_le _) (w_X11_pass (d + 123) hB49  h) (fun V54 hB54 h => ?_)
              refine z_aload_n Q_X11_readRule (k := 91) rfl rfl ?_
              refine q_callV0_uV Q_X11_readRule (k := 92) rfl rfl K_X11_anyOf V_X11_anyOf L_X11_175 (n_ hB54.1 rfl) (k_602 hB54.1) (Nat.le_of_ble_eq_true rfl) (Nat.le_of_ble_eq_true rfl) rfl (Nat.zero_le _) (Nat.zero_le _) (w_X11_anyOf d hB54  h) (fun V55 hB55 h => ?_)
              refine z_aload_n Q_X11_readRule (k := 93) rfl rfl ?_
              refine z_getR (b := 609) Q_X11_readRule (k := 94) rfl F_X11_32 rfl (n_ hB55.1 rfl) (k_602 hB55.1) (r_602_7 hB55.1) ?_
              refine z_iload_n Q_X11_readRule (k := 95) rfl rfl ?_
              refine z_aload_n Q_X11_readRule (k := 96) rfl rfl ?_
              refine q_getI (o := 602) (z := 19) Q_X11_readRule (k := 97) rfl F_X11_128 rfl rfl rfl (n_ hB55.1 rfl) (k_602 hB55.1) ?_
              refine z_aload_n Q_X11_readRule (k := 98) rfl rfl ?_
              refine q_getI (o := 602) (z := 18) Q_X11_readRule (k := 99) rfl F_X11_131 rfl rfl rfl (n_ hB55.1 rfl) (k_602 hB55.1) ?_
              obtain ⟨q56, h⟩ := h
              refine y_iadd Q_X11_readRule (k := 100) rfl ?_
              obtain ⟨q57, h⟩ := h
              refine q_iast (o := 609) (N := 36) Q_X11_readRule (k := 101) rfl rfl (n_ hB55.1 rfl) (k_609 hB55.1) rfl q57 (by decide) ?_
              have hB58 := qB.u (a := 609) (j := (12 * (V5 602 11)) + (V5 610 (V5 602 11))) (x := (V55 602 19) + (V55 602 18)) hB55 q56 (Or.inl (by decide))
              refine z_aload_n Q_X11_readRule (k := 102) rfl rfl ?_
              refine y_bipush Q_X11_readRule (k := 103) rfl (by decide) ?_
              refine q_callV1_uV Q_X11_readRule (k := 104) rfl rfl K_X11_need V_X11_need L_X11_137 (n_ hB58.1 rfl) (k_602 hB58.1) (Nat.le_of_ble_eq_true rfl) (Nat.le_of_ble_eq_true rfl) rfl (Nat.zero_le _) (Nat.zero_le _) (w_X11_need (d + 123) hB58 ⟨by decide, by decide⟩ h) (fun V59 hB59 h => ?_)
              exact z_vret Q_X11_readRule (k := 105) rfl rfl (qI_uV hB59 h)
      · replace h := h.1 c
        exact z_vret Q_X11_readRule (k := 28) rfl rfl (qI_uV hB1 h)
    · replace h := h.1 c
      refine z_aload_n Q_X11_readRule (k := 20) rfl rfl ?_
      refine y_iconst Q_X11_readRule (k := 21) rfl ?_
      refine z_aload_n Q_X11_readRule (k := 22) rfl rfl ?_
      refine q_getI (o := 602) (z := 14) Q_X11_readRule (k := 23) rfl F_X11_91 rfl rfl rfl (n_ hB1.1 rfl) (k_602 hB1.1) ?_
      refine q_callV2_uV Q_X11_readRule (k := 24) rfl rfl K_X11_wrong V_X11_wrong L_X11_124 (n_ hB1.1 rfl) (k_602 hB1.1) (Nat.le_of_ble_eq_true rfl) (Nat.le_of_ble_eq_true rfl) rfl (Nat.zero_le _) (Nat.zero_le _) (w_X11_wrong (d + 124) hB1 ⟨by decide, by decide⟩ (hB1.2.1 _ _) h) (fun V60 hB60 h => ?_)
      refine z_aload_n Q_X11_readRule (k := 25) rfl rfl ?_
      refine q_callV0_z Q_X11_readRule (k := 26) rfl rfl K_X11_fine V_X11_fine L_X11_117 (n_ hB60.1 rfl) (k_602 hB60.1) (Nat.le_of_ble_eq_true rfl) (Nat.le_of_ble_eq_true rfl) rfl (Nat.zero_le _) (Nat.zero_le _) (w_X11_fine (d + 124) hB60  h) (fun r61 hz61 hb61 h => ?_)
      refine y_if_ne 56 Q_X11_readRule (k := 27) rfl (by decide) hz61 (fun c => ?_) (fun c => ?_)
      · replace h := h.2 c
        refine z_aload_n Q_X11_readRule (k := 29) rfl rfl ?_
        refine q_callV0_uV Q_X11_readRule (k := 30) rfl rfl K_X11_pass V_X11_pass L_X11_163 (n_ hB60.1 rfl) (k_602 hB60.1) (Nat.le_of_ble_eq_true rfl) (Nat.le_of_ble_eq_true rfl) rfl (Nat.zero_le _) (Nat.zero_le _) (w_X11_pass (d + 123) hB60  h) (fun V62 hB62 h => ?_)
        refine y_bipush Q_X11_readRule (k := 31) rfl (by decide) ?_
        refine z_aload_n Q_X11_readRule (k := 32) rfl rfl ?_
        refine q_getI (o := 602) (z := 11) Q_X11_readRule (k := 33) rfl F_X11_184 rfl rfl rfl (n_ hB62.1 rfl) (k_602 hB62.1) ?_
        obtain ⟨q63, h⟩ := h
        refine y_imul Q_X11_readRule (k := 34) rfl ?_
        refine z_aload_n Q_X11_readRule (k := 35) rfl rfl ?_
        refine z_getR (b := 610) Q_X11_readRule (k := 36) rfl F_X11_35 rfl (n_ hB62.1 rfl) (k_602 hB62.1) (r_602_8 hB62.1) ?_
        refine z_aload_n Q_X11_readRule (k := 37) rfl rfl ?_
        refine q_getI (o := 602) (z := 11) Q_X11_readRule (k := 38) rfl F_X11_184 rfl rfl rfl (n_ hB62.1 rfl) (k_602 hB62.1) ?_
        obtain ⟨q64, h⟩ := h
        refine q_iald (o := 610) (N := 3) Q_X11_readRule (k := 39) rfl rfl (n_ hB62.1 rfl) (k_610 hB62.1) rfl q64 (by decide) ?_
        obtain ⟨q65, h⟩ := h
        refine y_iadd Q_X11_readRule (k := 40) rfl ?_
        refine y_istore_n (L' := [some (.ref 602), some (.int (iI r2)), some (.int (iI ((12 * (V62 602 11)) + (V62 610 (V62 602 11)))))]) Q_X11_readRule (k := 41) rfl (by decide) rfl ?_
        refine z_aload_n Q_X11_readRule (k := 42) rfl rfl ?_
        refine z_getR (b := 610) Q_X11_readRule (k := 43) rfl F_X11_35 rfl (n_ hB62.1 rfl) (k_602 hB62.1) (r_602_8 hB62.1) ?_
        refine z_aload_n Q_X11_readRule (k := 44) rfl rfl ?_
        refine q_getI (o := 602) (z := 11) Q_X11_readRule (k := 45) rfl F_X11_184 rfl rfl rfl (n_ hB62.1 rfl) (k_602 hB62.1) ?_
        refine z_dup2 Q_X11_readRule (k := 46) rfl rfl rfl ?_
        obtain ⟨q66, h⟩ := h
        refine q_iald (o := 610) (N := 3) Q_X11_readRule (k := 47) rfl rfl (n_ hB62.1 rfl) (k_610 hB62.1) rfl q66 (by decide) ?_
        refine y_iconst Q_X11_readRule (k := 48) rfl ?_
        obtain ⟨q67, h⟩ := h
        refine y_iadd Q_X11_readRule (k := 49) rfl ?_
        obtain ⟨q68, h⟩ := h
        refine q_iast (o := 610) (N := 3) Q_X11_readRule (k := 50) rfl rfl (n_ hB62.1 rfl) (k_610 hB62.1) rfl q68 (by decide) ?_
        have hB69 := qB.u (a := 610) (j := V62 602 11) (x := (V62 610 (V62 602 11)) + 1) hB62 q67 (Or.inl (by decide))
        refine z_aload_n Q_X11_readRule (k := 51) rfl rfl ?_
        refine z_getR (b := 606) Q_X11_readRule (k := 52) rfl F_X11_23 rfl (n_ hB69.1 rfl) (k_602 hB69.1) (r_602_4 hB69.1) ?_
        refine z_iload_n Q_X11_readRule (k := 53) rfl rfl ?_
        refine z_iload_n Q_X11_readRule (k := 54) rfl rfl ?_
        obtain ⟨q70, h⟩ := h
        refine q_iast (o := 606) (N := 36) Q_X11_readRule (k := 55) rfl rfl (n_ hB69.1 rfl) (k_606 hB69.1) rfl q70 (by decide) ?_
        have hB71 := qB.u (a := 606) (j := (12 * (V62 602 11)) + (V62 610 (V62 602 11))) (x := r2) hB69 hz2 (Or.inl (by decide))
        refine z_aload_n Q_X11_readRule (k := 56) rfl rfl ?_
        refine z_getR (b := 607) Q_X11_readRule (k := 57) rfl F_X11_26 rfl (n_ hB71.1 rfl) (k_602 hB71.1) (r_602_5 hB71.1) ?_
        refine z_iload_n Q_X11_readRule (k := 58) rfl rfl ?_
        refine y_iconst Q_X11_readRule (k := 59) rfl ?_
        obtain ⟨q72, h⟩ := h
        refine q_iast (o := 607) (N := 36) Q_X11_readRule (k := 60) rfl rfl (n_ hB71.1 rfl) (k_607 hB71.1) rfl q72 (by decide) ?_
        have hB73 := qB.u (a := 607) (j := (12 * (V62 602 11)) + (V62 610 (V62 602 11))) (x := 0) hB71 ⟨by decide, by decide⟩ (Or.inl (by decide))
        refine z_aload_n Q_X11_readRule (k := 61) rfl rfl ?_
        refine q_callV0_iV Q_X11_readRule (k := 62) rfl rfl K_X11_word V_X11_word L_X11_156 (n_ hB73.1 rfl) (k_602 hB73.1) (Nat.le_of_ble_eq_true rfl) (Nat.le_of_ble_eq_true rfl) rfl (Nat.zero_le _) (Nat.zero_le _) (w_X11_word (d + 123) hB73  h) (fun r74 V74 hB74 hz74 h => ?_)
        refine y_sipush Q_X11_readRule (k := 63) rfl (by decide) ?_
        refine y_icmp_ne 129 Q_X11_readRule (k := 64) rfl (by decide) hz74 ⟨by decide, by decide⟩ (fun c => ?_) (fun c => ?_)
        · replace h := h.2 c
          refine z_aload_n Q_X11_readRule (k := 73) rfl rfl ?_
          refine z_getR (b := 608) Q_X11_readRule (k := 74) rfl F_X11_29 rfl (n_ hB74.1 rfl) (k_602 hB74.1) (r_602_6 hB74.1) ?_
          refine z_iload_n Q_X11_readRule (k := 75) rfl rfl ?_
          refine z_aload_n Q_X11_readRule (k := 76) rfl rfl ?_
          refine q_getI (o := 602) (z := 19) Q_X11_readRule (k := 77) rfl F_X11_128 rfl rfl rfl (n_ hB74.1 rfl) (k_602 hB74.1) ?_
          refine z_aload_n Q_X11_readRule (k := 78) rfl rfl ?_
          refine q_getI (o := 602) (z := 18) Q_X11_readRule (k := 79) rfl F_X11_131 rfl rfl rfl (n_ hB74.1 rfl) (k_602 hB74.1) ?_
          obtain ⟨q75, h⟩ := h
          refine y_iadd Q_X11_readRule (k := 80) rfl ?_
          obtain ⟨q76, h⟩ := h
          refine q_iast (o := 608) (N := 36) Q_X11_readRule (k := 81) rfl rfl (n_ hB74.1 rfl) (k_608 hB74.1) rfl q76 (by decide) ?_
          have hB77 := qB.u (a := 608) (j := (12 * (V62 602 11)) + (V62 610 (V62 602 11))) (x := (V74 602 19) + (V74 602 18)) hB74 q75 (Or.inl (by decide))
          refine z_aload_n Q_X11_readRule (k := 82) rfl rfl ?_
          refine q_callV0_z Q_X11_readRule (k := 83) rfl rfl K_X11_fine V_X11_fine L_X11_117 (n_ hB77.1 rfl) (k_602 hB77.1) (Nat.le_of_ble_eq_true rfl) (Nat.le_of_ble_eq_true rfl) rfl (Nat.zero_le _) (Nat.zero_le _) (w_X11_fine (d + 124) hB77  h) (fun r78 hz78 hb78 h => ?_)
          refine y_if_eq 169 Q_X11_readRule (k := 84) rfl (by decide) hz78 (fun c => ?_) (fun c => ?_)
          · replace h := h.1 c
            refine z_aload_n Q_X11_readRule (k := 93) rfl rfl ?_
            refine z_getR (b := 609) Q_X11_readRule (k := 94) rfl F_X11_32 rfl (n_ hB77.1 rfl) (k_602 hB77.1) (r_602_7 hB77.1) ?_
            refine z_iload_n Q_X11_readRule (k := 95) rfl rfl ?_
            refine z_aload_n Q_X11_readRule (k := 96) rfl rfl ?_
            refine q_getI (o := 602) (z := 19) Q_X11_readRule (k := 97) rfl F_X11_128 rfl rfl rfl (n_ hB77.1 rfl) (k_602 hB77.1) ?_
            refine z_aload_n Q_X11_readRule (k := 98) rfl rfl ?_
            refine q_getI (o := 602) (z := 18) Q_X11_readRule (k := 99) rfl F_X11_131 rfl rfl rfl (n_ hB77.1 rfl) (k_602 hB77.1) ?_
            obtain ⟨q79, h⟩ := h
            refine y_iadd Q_X11_readRule (k := 100) rfl ?_
            obtain ⟨q80, h⟩ := h
            refine q_iast (o := 609) (N := 36) Q_X11_readRule (k := 101) rfl rfl (n_ hB77.1 rfl) (k_609 hB77.1) rfl q80 (by decide) ?_
            have hB81 := qB.u (a := 609) (j := (12 * (V62 602 11)) + (V62 610 (V62 602 11))) (x := ((qu V74 608 ((12 * (V62 602 11)) + (V62 610 (V62 602 11))) ((V74 602 19) + (V74 602 18))) 602 19) + ((qu V74 608 ((12 * (V62 602 11)) + (V62 610 (V62 602 11))) ((V74 602 19) + (V74 602 18))) 602 18)) hB77 q79 (Or.inl (by decide))
            refine z_aload_n Q_X11_readRule (k := 102) rfl rfl ?_
            refine y_bipush Q_X11_readRule (k := 103) rfl (by decide) ?_
            refine q_callV1_uV Q_X11_readRule (k := 104) rfl rfl K_X11_need V_X11_need L_X11_137 (n_ hB81.1 rfl) (k_602 hB81.1) (Nat.le_of_ble_eq_true rfl) (Nat.le_of_ble_eq_true rfl) rfl (Nat.zero_le _) (Nat.zero_le _) (w_X11_need (d + 123) hB81 ⟨by decide, by decide⟩ h) (fun V82 hB82 h => ?_)
            exact z_vret Q_X11_readRule (k := 105) rfl rfl (qI_uV hB82 h)
          · replace h := h.2 c
            refine z_aload_n Q_X11_readRule (k := 85) rfl rfl ?_
            refine q_callV0_iV Q_X11_readRule (k := 86) rfl rfl K_X11_word V_X11_word L_X11_156 (n_ hB77.1 rfl) (k_602 hB77.1) (Nat.le_of_ble_eq_true rfl) (Nat.le_of_ble_eq_true rfl) rfl (Nat.zero_le _) (Nat.zero_le _) (w_X11_word (d + 123) hB77  h) (fun r83 V83 hB83 hz83 h => ?_)
            refine y_sipush Q_X11_readRule (k := 87) rfl (by decide) ?_
            refine y_icmp_ne 169 Q_X11_readRule (k := 88) rfl (by decide) hz83 ⟨by decide, by decide⟩ (fun c => ?_) (fun c => ?_)
            · replace h := h.2 c
              refine z_aload_n Q_X11_readRule (k := 93) rfl rfl ?_
              refine z_getR (b := 609) Q_X11_readRule (k := 94) rfl F_X11_32 rfl (n_ hB83.1 rfl) (k_602 hB83.1) (r_602_7 hB83.1) ?_
              refine z_iload_n Q_X11_readRule (k := 95) rfl rfl ?_
              refine z_aload_n Q_X11_readRule (k := 96) rfl rfl ?_
              refine q_getI (o := 602) (z := 19) Q_X11_readRule (k := 97) rfl F_X11_128 rfl rfl rfl (n_ hB83.1 rfl) (k_602 hB83.1) ?_
              refine z_aload_n Q_X11_readRule (k := 98) rfl rfl ?_
              refine q_getI (o := 602) (z := 18) Q_X11_readRule (k := 99) rfl F_X11_131 rfl rfl rfl (n_ hB83.1 rfl) (k_602 hB83.1) ?_
              obtain ⟨q84, h⟩ := h
              refine y_iadd Q_X11_readRule (k := 100) rfl ?_
              obtain ⟨q85, h⟩ := h
              refine q_iast (o := 609) (N := 36) Q_X11_readRule (k := 101) rfl rfl (n_ hB83.1 rfl) (k_609 hB83.1) rfl q85 (by decide) ?_
              have hB86 := qB.u (a := 609) (j := (12 * (V62 602 11)) + (V62 610 (V62 602 11))) (x := (V83 602 19) + (V83 602 18)) hB83 q84 (Or.inl (by decide))
              refine z_aload_n Q_X11_readRule (k := 102) rfl rfl ?_
              refine y_bipush Q_X11_readRule (k := 103) rfl (by decide) ?_
              refine q_callV1_uV Q_X11_readRule (k := 104) rfl rfl K_X11_need V_X11_need L_X11_137 (n_ hB86.1 rfl) (k_602 hB86.1) (Nat.le_of_ble_eq_true rfl) (Nat.le_of_ble_eq_true rfl) rfl (Nat.zero_le _) (Nat.zero_le _) (w_X11_need (d + 123) hB86 ⟨by decide, by decide⟩ h) (fun V87 hB87 h => ?_)
              exact z_vret Q_X11_readRule (k := 105) rfl rfl (qI_uV hB87 h)
            · replace h := h.1 c
              refine z_aload_n Q_X11_readRule (k := 89) rfl rfl ?_
              refine q_callV0_uV Q_X11_readRule (k := 90) rfl rfl K_X11_pass V_X11_pass L_X11_163 (n_ hB83.1 rfl) (k_602 hB83.1) (Nat.le_of_ble_eq_true rfl) (Nat.le_of_ble_eq_true rfl) rfl (Nat.zero_le _) (Nat.zero_le _) (w_X11_pass (d + 123) hB83  h) (fun V88 hB88 h => ?_)
              refine z_aload_n Q_X11_readRule (k := 91) rfl rfl ?_
              refine q_callV0_uV Q_X11_readRule (k := 92) rfl rfl K_X11_anyOf V_X11_anyOf L_X11_175 (n_ hB88.1 rfl) (k_602 hB88.1) (Nat.le_of_ble_eq_true rfl) (Nat.le_of_ble_eq_true rfl) rfl (Nat.zero_le _) (Nat.zero_le _) (w_X11_anyOf d hB88  h) (fun V89 hB89 h => ?_)
              refine z_aload_n Q_X11_readRule (k := 93) rfl rfl ?_
              refine z_getR (b := 609) Q_X11_readRule (k := 94) rfl F_X11_32 rfl (n_ hB89.1 rfl) (k_602 hB89.1) (r_602_7 hB89.1) ?_
              refine z_iload_n Q_X11_readRule (k := 95) rfl rfl ?_
              refine z_aload_n Q_X11_readRule (k := 96) rfl rfl ?_
              refine q_getI (o := 602) (z := 19) Q_X11_readRule (k := 97) rfl F_X11_128 rfl rfl rfl (n_ hB89.1 rfl) (k_602 hB89.1) ?_
              refine z_aload_n Q_X11_readRule (k := 98) rfl rfl ?_
              refine q_getI (o := 602) (z := 18) Q_X11_readRule (k := 99) rfl F_X11_131 rfl rfl rfl (n_ hB89.1 rfl) (k_602 hB89.1) ?_
              obtain ⟨q90, h⟩ := h
              refine y_iadd Q_X11_readRule (k := 100) rfl ?_
              obtain ⟨q91, h⟩ := h
              refine q_iast (o := 609) (N := 36) Q_X11_readRule (k := 101) rfl rfl (n_ hB89.1 rfl) (k_609 hB89.1) rfl q91 (by decide) ?_
              have hB92 := qB.u (a := 609) (j := (12 * (V62 602 11)) + (V62 610 (V62 602 11))) (x := (V89 602 19) + (V89 602 18)) hB89 q90 (Or.inl (by decide))
              refine z_aload_n Q_X11_readRule (k := 102) rfl rfl ?_
              refine y_bipush Q_X11_readRule (k := 103) rfl (by decide) ?_
              refine q_callV1_uV Q_X11_readRule (k := 104) rfl rfl K_X11_need V_X11_need L_X11_137 (n_ hB92.1 rfl) (k_602 hB92.1) (Nat.le_of_ble_eq_true rfl) (Nat.le_of_ble_eq_true rfl) rfl (Nat.zero_le _) (Nat.zero_le _) (w_X11_need (d + 123) hB92 ⟨by decide, by decide⟩ h) (fun V93 hB93 h => ?_)
              exact z_vret Q_X11_readRule (k := 105) rfl rfl (qI_uV hB93 h)
        · replace h := h.1 c
          refine z_aload_n Q_X11_readRule (k := 65) rfl rfl ?_
          refine q_callV0_uV Q_X11_readRule (k := 66) rfl rfl K_X11_pass V_X11_pass L_X11_163 (n_ hB74.1 rfl) (k_602 hB74.1) (Nat.le_of_ble_eq_true rfl) (Nat.le_of_ble_eq_true rfl) rfl (Nat.zero_le _) (Nat.zero_le _) (w_X11_pass (d + 123) hB74  h) (fun V94 hB94 h => ?_)
          refine z_aload_n Q_X11_readRule (k := 67) rfl rfl ?_
          refine z_getR (b := 607) Q_X11_readRule (k := 68) rfl F_X11_26 rfl (n_ hB94.1 rfl) (k_602 hB94.1) (r_602_5 hB94.1) ?_
          refine z_iload_n Q_X11_readRule (k := 69) rfl rfl ?_
          refine z_aload_n Q_X11_readRule (k := 70) rfl rfl ?_
          refine q_callV0_iV Q_X11_readRule (k := 71) rfl rfl K_X11_readNumber V_X11_readNumber L_X11_141 (n_ hB94.1 rfl) (k_602 hB94.1) (Nat.le_of_ble_eq_true rfl) (Nat.le_of_ble_eq_true rfl) rfl (Nat.zero_le _) (Nat.zero_le _) (w_X11_readNumber (d + 123) hB94  h) (fun r95 V95 hB95 hz95 h => ?_)
          obtain ⟨q96, h⟩ := h
          refine q_iast (o := 607) (N := 36) Q_X11_readRule (k := 72) rfl rfl (n_ hB95.1 rfl) (k_607 hB95.1) rfl q96 (by decide) ?_
          have hB97 := qB.u (a := 607) (j := (12 * (V62 602 11)) + (V62 610 (V62 602 11))) (x := r95) hB95 hz95 (Or.inl (by decide))
          refine z_aload_n Q_X11_readRule (k := 73) rfl rfl ?_
          refine z_getR (b := 608) Q_X11_readRule (k := 74) rfl F_X11_29 rfl (n_ hB97.1 rfl) (k_602 hB97.1) (r_602_6 hB97.1) ?_
          refine z_iload_n Q_X11_readRule (k := 75) rfl rfl ?_
          refine z_aload_n Q_X11_readRule (k := 76) rfl rfl ?_
          refine q_getI (o := 602) (z := 19) Q_X11_readRule (k := 77) rfl F_X11_128 rfl rfl rfl (n_ hB97.1 rfl) (k_602 hB97.1) ?_
          refine z_aload_n Q_X11_readRule (k := 78) rfl rfl ?_
          refine q_getI (o := 602) (z := 18) Q_X11_readRule (k := 79) rfl F_X11_131 rfl rfl rfl (n_ hB97.1 rfl) (k_602 hB97.1) ?_
          obtain ⟨q98, h⟩ := h
          refine y_iadd Q_X11_readRule (k := 80) rfl ?_
          obtain ⟨q99, h⟩ := h
          refine q_iast (o := 608) (N := 36) Q_X11_readRule (k := 81) rfl rfl (n_ hB97.1 rfl) (k_608 hB97.1) rfl q99 (by decide) ?_
          have hB100 := qB.u (a := 608) (j := (12 * (V62 602 11)) + (V62 610 (V62 602 11))) (x := ((qu V95 607 ((12 * (V62 602 11)) + (V62 610 (V62 602 11))) r95) 602 19) + ((qu V95 607 ((12 * (V62 602 11)) + (V62 610 (V62 602 11))) r95) 602 18)) hB97 q98 (Or.inl (by decide))
          refine z_aload_n Q_X11_readRule (k := 82) rfl rfl ?_
          refine q_callV0_z Q_X11_readRule (k := 83) rfl rfl K_X11_fine V_X11_fine L_X11_117 (n_ hB100.1 rfl) (k_602 hB100.1) (Nat.le_of_ble_eq_true rfl) (Nat.le_of_ble_eq_true rfl) rfl (Nat.zero_le _) (Nat.zero_le _) (w_X11_fine (d + 124) hB100  h) (fun r101 hz101 hb101 h => ?_)
          refine y_if_eq 169 Q_X11_readRule (k := 84) rfl (by decide) hz101 (fun c => ?_) (fun c => ?_)
          · replace h := h.1 c
            refine z_aload_n Q_X11_readRule (k := 93) rfl rfl ?_
            refine z_getR (b := 609) Q_X11_readRule (k := 94) rfl F_X11_32 rfl (n_ hB100.1 rfl) (k_602 hB100.1) (r_602_7 hB100.1) ?_
            refine z_iload_n Q_X11_readRule (k := 95) rfl rfl ?_
            refine z_aload_n Q_X11_readRule (k := 96) rfl rfl ?_
            refine q_getI (o := 602) (z := 19) Q_X11_readRule (k := 97) rfl F_X11_128 rfl rfl rfl (n_ hB100.1 rfl) (k_602 hB100.1) ?_
            refine z_aload_n Q_X11_readRule (k := 98) rfl rfl ?_
            refine q_getI (o := 602) (z := 18) Q_X11_readRule (k := 99) rfl F_X11_131 rfl rfl rfl (n_ hB100.1 rfl) (k_602 hB100.1) ?_
            obtain ⟨q102, h⟩ := h
            refine y_iadd Q_X11_readRule (k := 100) rfl ?_
            obtain ⟨q103, h⟩ := h
            refine q_iast (o := 609) (N := 36) Q_X11_readRule (k := 101) rfl rfl (n_ hB100.1 rfl) (k_609 hB100.1) rfl q103 (by decide) ?_
            have hB104 := qB.u (a := 609) (j := (12 * (V62 602 11)) + (V62 610 (V62 602 11))) (x := ((qu (qu V95 607 ((12 * (V62 602 11)) + (V62 610 (V62 602 11))) r95) 608 ((12 * (V62 602 11)) + (V62 610 (V62 602 11))) (((qu V95 607 ((12 * (V62 602 11)) + (V62 610 (V62 602 11))) r95) 602 19) + ((qu V95 607 ((12 * (V62 602 11)) + (V62 610 (V62 602 11))) r95) 602 18))) 602 19) + ((qu (qu V95 607 ((12 * (V62 602 11)) + (V62 610 (V62 602 11))) r95) 608 ((12 * (V62 602 11)) + (V62 610 (V62 602 11))) (((qu V95 607 ((12 * (V62 602 11)) + (V62 610 (V62 602 11))) r95) 602 19) + ((qu V95 607 ((12 * (V62 602 11)) + (V62 610 (V62 602 11))) r95) 602 18))) 602 18)) hB100 q102 (Or.inl (by decide))
            refine z_aload_n Q_X11_readRule (k := 102) rfl rfl ?_
            refine y_bipush Q_X11_readRule (k := 103) rfl (by decide) ?_
            refine q_callV1_uV Q_X11_readRule (k := 104) rfl rfl K_X11_need V_X11_need L_X11_137 (n_ hB104.1 rfl) (k_602 hB104.1) (Nat.le_of_ble_eq_true rfl) (Nat.le_of_ble_eq_true rfl) rfl (Nat.zero_le _) (Nat.zero_le _) (w_X11_need (d + 123) hB104 ⟨by decide, by decide⟩ h) (fun V105 hB105 h => ?_)
            exact z_vret Q_X11_readRule (k := 105) rfl rfl (qI_uV hB105 h)
          · replace h := h.2 c
            refine z_aload_n Q_X11_readRule (k := 85) rfl rfl ?_
            refine q_callV0_iV Q_X11_readRule (k := 86) rfl rfl K_X11_word V_X11_word L_X11_156 (n_ hB100.1 rfl) (k_602 hB100.1) (Nat.le_of_ble_eq_true rfl) (Nat.le_of_ble_eq_true rfl) rfl (Nat.zero_le _) (Nat.zero_le _) (w_X11_word (d + 123) hB100  h) (fun r106 V106 hB106 hz106 h => ?_)
            refine y_sipush Q_X11_readRule (k := 87) rfl (by decide) ?_
            refine y_icmp_ne 169 Q_X11_readRule (k := 88) rfl (by decide) hz106 ⟨by decide, by decide⟩ (fun c => ?_) (fun c => ?_)
            · replace h := h.2 c
              refine z_aload_n Q_X11_readRule (k := 93) rfl rfl ?_
              refine z_getR (b := 609) Q_X11_readRule (k := 94) rfl F_X11_32 rfl (n_ hB106.1 rfl) (k_602 hB106.1) (r_602_7 hB106.1) ?_
              refine z_iload_n Q_X11_readRule (k := 95) rfl rfl ?_
              refine z_aload_n Q_X11_readRule (k := 96) rfl rfl ?_
              refine q_getI (o := 602) (z := 19) Q_X11_readRule (k := 97) rfl F_X11_128 rfl rfl rfl (n_ hB106.1 rfl) (k_602 hB106.1) ?_
              refine z_aload_n Q_X11_readRule (k := 98) rfl rfl ?_
              refine q_getI (o := 602) (z := 18) Q_X11_readRule (k := 99) rfl F_X11_131 rfl rfl rfl (n_ hB106.1 rfl) (k_602 hB106.1) ?_
              obtain ⟨q107, h⟩ := h
              refine y_iadd Q_X11_readRule (k := 100) rfl ?_
              obtain ⟨q108, h⟩ := h
              refine q_iast (o := 609) (N := 36) Q_X11_readRule (k := 101) rfl rfl (n_ hB106.1 rfl) (k_609 hB106.1) rfl q108 (by decide) ?_
              have hB109 := qB.u (a := 609) (j := (12 * (V62 602 11)) + (V62 610 (V62 602 11))) (x := (V106 602 19) + (V106 602 18)) hB106 q107 (Or.inl (by decide))
              refine z_aload_n Q_X11_readRule (k := 102) rfl rfl ?_
              refine y_bipush Q_X11_readRule (k := 103) rfl (by decide) ?_
              refine q_callV1_uV Q_X11_readRule (k := 104) rfl rfl K_X11_need V_X11_need L_X11_137 (n_ hB109.1 rfl) (k_602 hB109.1) (Nat.le_of_ble_eq_true rfl) (Nat.le_of_ble_eq_true rfl) rfl (Nat.zero_le _) (Nat.zero_le _) (w_X11_need (d + 123) hB109 ⟨by decide, by decide⟩ h) (fun V110 hB110 h => ?_)
              exact z_vret Q_X11_readRule (k := 105) rfl rfl (qI_uV hB110 h)
            · replace h := h.1 c
              refine z_aload_n Q_X11_readRule (k := 89) rfl rfl ?_
              refine q_callV0_uV Q_X11_readRule (k := 90) rfl rfl K_X11_pass V_X11_pass L_X11_163 (n_ hB106.1 rfl) (k_602 hB106.1) (Nat.le_of_ble_eq_true rfl) (Nat.le_of_ble_eq_true rfl) rfl (Nat.zero_le _) (Nat.zero_le _) (w_X11_pass (d + 123) hB106  h) (fun V111 hB111 h => ?_)
              refine z_aload_n Q_X11_readRule (k := 91) rfl rfl ?_
              refine q_callV0_uV Q_X11_readRule (k := 92) rfl rfl K_X11_anyOf V_X11_anyOf L_X11_175 (n_ hB111.1 rfl) (k_602 hB111.1) (Nat.le_of_ble_eq_true rfl) (Nat.le_of_ble_eq_true rfl) rfl (Nat.zero_le _) (Nat.zero_le _) (w_X11_anyOf d hB111  h) (fun V112 hB112 h => ?_)
              refine z_aload_n Q_X11_readRule (k := 93) rfl rfl ?_
              refine z_getR (b := 609) Q_X11_readRule (k := 94) rfl F_X11_32 rfl (n_ hB112.1 rfl) (k_602 hB112.1) (r_602_7 hB112.1) ?_
              refine z_iload_n Q_X11_readRule (k := 95) rfl rfl ?_
              refine z_aload_n Q_X11_readRule (k := 96) rfl rfl ?_
              refine q_getI (o := 602) (z := 19) Q_X11_readRule (k := 97) rfl F_X11_128 rfl rfl rfl (n_ hB112.1 rfl) (k_602 hB112.1) ?_
              refine z_aload_n Q_X11_readRule (k := 98) rfl rfl ?_
              refine q_getI (o := 602) (z := 18) Q_X11_readRule (k := 99) rfl F_X11_131 rfl rfl rfl (n_ hB112.1 rfl) (k_602 hB112.1) ?_
              obtain ⟨q113, h⟩ := h
              refine y_iadd Q_X11_readRule (k := 100) rfl ?_
              obtain ⟨q114, h⟩ := h
              refine q_iast (o := 609) (N := 36) Q_X11_readRule (k := 101) rfl rfl (n_ hB112.1 rfl) (k_609 hB112.1) rfl q114 (by decide) ?_
              have hB115 := qB.u (a := 609) (j := (12 * (V62 602 11)) + (V62 610 (V62 602 11))) (x := (V112 602 19) + (V112 602 18)) hB112 q113 (Or.inl (by decide))
              refine z_aload_n Q_X11_readRule (k := 102) rfl rfl ?_
              refine y_bipush Q_X11_readRule (k := 103) rfl (by decide) ?_
              refine q_callV1_uV Q_X11_readRule (k := 104) rfl rfl K_X11_need V_X11_need L_X11_137 (n_ hB115.1 rfl) (k_602 hB115.1) (Nat.le_of_ble_eq_true rfl) (Nat.le_of_ble_eq_true rfl) rfl (Nat.zero_le _) (Nat.zero_le _) (w_X11_need (d + 123) hB115 ⟨by decide, by decide⟩ h) (fun V116 hB116 h => ?_)
              exact z_vret Q_X11_readRule (k := 105) rfl rfl (qI_uV hB116 h)
      · replace h := h.1 c
        exact z_vret Q_X11_readRule (k := 28) rfl rfl (qI_uV hB60 h)
  · replace h := h.1 c
    refine z_aload_n Q_X11_readRule (k := 7) rfl rfl ?_
    refine y_iconst Q_X11_readRule (k := 8) rfl ?_
    refine z_aload_n Q_X11_readRule (k := 9) rfl rfl ?_
    refine q_getI (o := 602) (z := 14) Q_X11_readRule (k := 10) rfl F_X11_91 rfl rfl rfl (n_ hB1.1 rfl) (k_602 hB1.1) ?_
    refine q_callV2_uV Q_X11_readRule (k := 11) rfl rfl K_X11_wrong V_X11_wrong L_X11_124 (n_ hB1.1 rfl) (k_602 hB1.1) (Nat.le_of_ble_eq_true rfl) (Nat.le_of_ble_eq_true rfl) rfl (Nat.zero_le _) (Nat.zero_le _) (w_X11_wrong (d + 124) hB1 ⟨by decide, by decide⟩ (hB1.2.1 _ _) h) (fun V117 hB117 h => ?_)
    refine z_goto (tgt := 48) Q_X11_readRule (k := 12) rfl (by decide) ?_
    refine z_aload_n Q_X11_readRule (k := 25) rfl rfl ?_
    refine q_callV0_z Q_X11_readRule (k := 26) rfl rfl K_X11_fine V_X11_fine L_X11_117 (n_ hB117.1 rfl) (k_602 hB117.1) (Nat.le_of_ble_eq_true rfl) (Nat.le_of_ble_eq_true rfl) rfl (Nat.zero_le _) (Nat.zero_le _) (w_X11_fine (d + 124) hB117  h) (fun r118 hz118 hb118 h => ?_)
    refine y_if_ne 56 Q_X11_readRule (k := 27) rfl (by decide) hz118 (fun c => ?_) (fun c => ?_)
    · replace h := h.2 c
      refine z_aload_n Q_X11_readRule (k := 29) rfl rfl ?_
      refine q_callV0_uV Q_X11_readRule (k := 30) rfl rfl K_X11_pass V_X11_pass L_X11_163 (n_ hB117.1 rfl) (k_602 hB117.1) (Nat.le_of_ble_eq_true rfl) (Nat.le_of_ble_eq_true rfl) rfl (Nat.zero_le _) (Nat.zero_le _) (w_X11_pass (d + 123) hB117  h) (fun V119 hB119 h => ?_)
      refine y_bipush Q_X11_readRule (k := 31) rfl (by decide) ?_
      refine z_aload_n Q_X11_readRule (k := 32) rfl rfl ?_
      refine q_getI (o := 602) (z := 11) Q_X11_readRule (k := 33) rfl F_X11_184 rfl rfl rfl (n_ hB119.1 rfl) (k_602 hB119.1) ?_
      obtain ⟨q120, h⟩ := h
      refine y_imul Q_X11_readRule (k := 34) rfl ?_
      refine z_aload_n Q_X11_readRule (k := 35) rfl rfl ?_
      refine z_getR (b := 610) Q_X11_readRule (k := 36) rfl F_X11_35 rfl (n_ hB119.1 rfl) (k_602 hB119.1) (r_602_8 hB119.1) ?_
      refine z_aload_n Q_X11_readRule (k := 37) rfl rfl ?_
      refine q_getI (o := 602) (z := 11) Q_X11_readRule (k := 38) rfl F_X11_184 rfl rfl rfl (n_ hB119.1 rfl) (k_602 hB119.1) ?_
      obtain ⟨q121, h⟩ := h
      refine q_iald (o := 610) (N := 3) Q_X11_readRule (k := 39) rfl rfl (n_ hB119.1 rfl) (k_610 hB119.1) rfl q121 (by decide) ?_
      obtain ⟨q122, h⟩ := h
      refine y_iadd Q_X11_readRule (k := 40) rfl ?_
      refine y_istore_n (L' := [some (.ref 602), some (.int (iI r2)), some (.int (iI ((12 * (V119 602 11)) + (V119 610 (V119 602 11)))))]) Q_X11_readRule (k := 41) rfl (by decide) rfl ?_
      refine z_aload_n Q_X11_readRule (k := 42) rfl rfl ?_
      refine z_getR (b := 610) Q_X11_readRule (k := 43) rfl F_X11_35 rfl (n_ hB119.1 rfl) (k_602 hB119.1) (r_602_8 hB119.1) ?_
      refine z_aload_n Q_X11_readRule (k := 44) rfl rfl ?_
      refine q_getI (o := 602) (z := 11) Q_X11_readRule (k := 45) rfl F_X11_184 rfl rfl rfl (n_ hB119.1 rfl) (k_602 hB119.1) ?_
      refine z_dup2 Q_X11_readRule (k := 46) rfl rfl rfl ?_
      obtain ⟨q123, h⟩ := h
      refine q_iald (o := 610) (N := 3) Q_X11_readRule (k := 47) rfl rfl (n_ hB119.1 rfl) (k_610 hB119.1) rfl q123 (by decide) ?_
      refine y_iconst Q_X11_readRule (k := 48) rfl ?_
      obtain ⟨q124, h⟩ := h
      refine y_iadd Q_X11_readRule (k := 49) rfl ?_
      obtain ⟨q125, h⟩ := h
      refine q_iast (o := 610) (N := 3) Q_X11_readRule (k := 50) rfl rfl (n_ hB119.1 rfl) (k_610 hB119.1) rfl q125 (by decide) ?_
      have hB126 := qB.u (a := 610) (j := V119 602 11) (x := (V119 610 (V119 602 11)) + 1) hB119 q124 (Or.inl (by decide))
      refine z_aload_n Q_X11_readRule (k := 51) rfl rfl ?_
      refine z_getR (b := 606) Q_X11_readRule (k := 52) rfl F_X11_23 rfl (n_ hB126.1 rfl) (k_602 hB126.1) (r_602_4 hB126.1) ?_
      refine z_iload_n Q_X11_readRule (k := 53) rfl rfl ?_
      refine z_iload_n Q_X11_readRule (k := 54) rfl rfl ?_
      obtain ⟨q127, h⟩ := h
      refine q_iast (o := 606) (N := 36) Q_X11_readRule (k := 55) rfl rfl (n_ hB126.1 rfl) (k_606 hB126.1) rfl q127 (by decide) ?_
      have hB128 := qB.u (a := 606) (j := (12 * (V119 602 11)) + (V119 610 (V119 602 11))) (x := r2) hB126 hz2 (Or.inl (by decide))
      refine z_aload_n Q_X11_readRule (k := 56) rfl rfl ?_
      refine z_getR (b := 607) Q_X11_readRule (k := 57) rfl F_X11_26 rfl (n_ hB128.1 rfl) (k_602 hB128.1) (r_602_5 hB128.1) ?_
      refine z_iload_n Q_X11_readRule (k := 58) rfl rfl ?_
      refine y_iconst Q_X11_readRule (k := 59) rfl ?_
      obtain ⟨q129, h⟩ := h
      refine q_iast (o := 607) (N := 36) Q_X11_readRule (k := 60) rfl rfl (n_ hB128.1 rfl) (k_607 hB128.1) rfl q129 (by decide) ?_
      have hB130 := qB.u (a := 607) (j := (12 * (V119 602 11)) + (V119 610 (V119 602 11))) (x := 0) hB128 ⟨by decide, by decide⟩ (Or.inl (by decide))
      refine z_aload_n Q_X11_readRule (k := 61) rfl rfl ?_
      refine q_callV0_iV Q_X11_readRule (k := 62) rfl rfl K_X11_word V_X11_word L_X11_156 (n_ hB130.1 rfl) (k_602 hB130.1) (Nat.le_of_ble_eq_true rfl) (Nat.le_of_ble_eq_true rfl) rfl (Nat.zero_le _) (Nat.zero_le _) (w_X11_word (d + 123) hB130  h) (fun r131 V131 hB131 hz131 h => ?_)
      refine y_sipush Q_X11_readRule (k := 63) rfl (by decide) ?_
      refine y_icmp_ne 129 Q_X11_readRule (k := 64) rfl (by decide) hz131 ⟨by decide, by decide⟩ (fun c => ?_) (fun c => ?_)
      · replace h := h.2 c
        refine z_aload_n Q_X11_readRule (k := 73) rfl rfl ?_
        refine z_getR (b := 608) Q_X11_readRule (k := 74) rfl F_X11_29 rfl (n_ hB131.1 rfl) (k_602 hB131.1) (r_602_6 hB131.1) ?_
        refine z_iload_n Q_X11_readRule (k := 75) rfl rfl ?_
        refine z_aload_n Q_X11_readRule (k := 76) rfl rfl ?_
        refine q_getI (o := 602) (z := 19) Q_X11_readRule (k := 77) rfl F_X11_128 rfl rfl rfl (n_ hB131.1 rfl) (k_602 hB131.1) ?_
        refine z_aload_n Q_X11_readRule (k := 78) rfl rfl ?_
        refine q_getI (o := 602) (z := 18) Q_X11_readRule (k := 79) rfl F_X11_131 rfl rfl rfl (n_ hB131.1 rfl) (k_602 hB131.1) ?_
        obtain ⟨q132, h⟩ := h
        refine y_iadd Q_X11_readRule (k := 80) rfl ?_
        obtain ⟨q133, h⟩ := h
        refine q_iast (o := 608) (N := 36) Q_X11_readRule (k := 81) rfl rfl (n_ hB131.1 rfl) (k_608 hB131.1) rfl q133 (by decide) ?_
        have hB134 := qB.u (a := 608) (j := (12 * (V119 602 11)) + (V119 610 (V119 602 11))) (x := (V131 602 19) + (V131 602 18)) hB131 q132 (Or.inl (by decide))
        refine z_aload_n Q_X11_readRule (k := 82) rfl rfl ?_
        refine q_callV0_z Q_X11_readRule (k := 83) rfl rfl K_X11_fine V_X11_fine L_X11_117 (n_ hB134.1 rfl) (k_602 hB134.1) (Nat.le_of_ble_eq_true rfl) (Nat.le_of_ble_eq_true rfl) rfl (Nat.zero_le _) (Nat.zero_le _) (w_X11_fine (d + 124) hB134  h) (fun r135 hz135 hb135 h => ?_)
        refine y_if_eq 169 Q_X11_readRule (k := 84) rfl (by decide) hz135 (fun c => ?_) (fun c => ?_)
        · replace h := h.1 c
          refine z_aload_n Q_X11_readRule (k := 93) rfl rfl ?_
          refine z_getR (b := 609) Q_X11_readRule (k := 94) rfl F_X11_32 rfl (n_ hB134.1 rfl) (k_602 hB134.1) (r_602_7 hB134.1) ?_
          refine z_iload_n Q_X11_readRule (k := 95) rfl rfl ?_
          refine z_aload_n Q_X11_readRule (k := 96) rfl rfl ?_
          refine q_getI (o := 602) (z := 19) Q_X11_readRule (k := 97) rfl F_X11_128 rfl rfl rfl (n_ hB134.1 rfl) (k_602 hB134.1) ?_
          refine z_aload_n Q_X11_readRule (k := 98) rfl rfl ?_
          refine q_getI (o := 602) (z := 18) Q_X11_readRule (k := 99) rfl F_X11_131 rfl rfl rfl (n_ hB134.1 rfl) (k_602 hB134.1) ?_
          obtain ⟨q136, h⟩ := h
          refine y_iadd Q_X11_readRule (k := 100) rfl ?_
          obtain ⟨q137, h⟩ := h
          refine q_iast (o := 609) (N := 36) Q_X11_readRule (k := 101) rfl rfl (n_ hB134.1 rfl) (k_609 hB134.1) rfl q137 (by decide) ?_
          have hB138 := qB.u (a := 609) (j := (12 * (V119 602 11)) + (V119 610 (V119 602 11))) (x := ((qu V131 608 ((12 * (V119 602 11)) + (V119 610 (V119 602 11))) ((V131 602 19) + (V131 602 18))) 602 19) + ((qu V131 608 ((12 * (V119 602 11)) + (V119 610 (V119 602 11))) ((V131 602 19) + (V131 602 18))) 602 18)) hB134 q136 (Or.inl (by decide))
          refine z_aload_n Q_X11_readRule (k := 102) rfl rfl ?_
          refine y_bipush Q_X11_readRule (k := 103) rfl (by decide) ?_
          refine q_callV1_uV Q_X11_readRule (k := 104) rfl rfl K_X11_need V_X11_need L_X11_137 (n_ hB138.1 rfl) (k_602 hB138.1) (Nat.le_of_ble_eq_true rfl) (Nat.le_of_ble_eq_true rfl) rfl (Nat.zero_le _) (Nat.zero_le _) (w_X11_need (d + 123) hB138 ⟨by decide, by decide⟩ h) (fun V139 hB139 h => ?_)
          exact z_vret Q_X11_readRule (k := 105) rfl rfl (qI_uV hB139 h)
        · replace h := h.2 c
          refine z_aload_n Q_X11_readRule (k := 85) rfl rfl ?_
          refine q_callV0_iV Q_X11_readRule (k := 86) rfl rfl K_X11_word V_X11_word L_X11_156 (n_ hB134.1 rfl) (k_602 hB134.1) (Nat.le_of_ble_eq_true rfl) (Nat.le_of_ble_eq_true rfl) rfl (Nat.zero_le _) (Nat.zero_le _) (w_X11_word (d + 123) hB134  h) (fun r140 V140 hB140 hz140 h => ?_)
          refine y_sipush Q_X11_readRule (k := 87) rfl (by decide) ?_
          refine y_icmp_ne 169 Q_X11_readRule (k := 88) rfl (by decide) hz140 ⟨by decide, by decide⟩ (fun c => ?_) (fun c => ?_)
          · replace h := h.2 c
            refine z_aload_n Q_X11_readRule (k := 93) rfl rfl ?_
            refine z_getR (b := 609) Q_X11_readRule (k := 94) rfl F_X11_32 rfl (n_ hB140.1 rfl) (k_602 hB140.1) (r_602_7 hB140.1) ?_
            refine z_iload_n Q_X11_readRule (k := 95) rfl rfl ?_
            refine z_aload_n Q_X11_readRule (k := 96) rfl rfl ?_
            refine q_getI (o := 602) (z := 19) Q_X11_readRule (k := 97) rfl F_X11_128 rfl rfl rfl (n_ hB140.1 rfl) (k_602 hB140.1) ?_
            refine z_aload_n Q_X11_readRule (k := 98) rfl rfl ?_
            refine q_getI (o := 602) (z := 18) Q_X11_readRule (k := 99) rfl F_X11_131 rfl rfl rfl (n_ hB140.1 rfl) (k_602 hB140.1) ?_
            obtain ⟨q141, h⟩ := h
            refine y_iadd Q_X11_readRule (k := 100) rfl ?_
            obtain ⟨q142, h⟩ := h
            refine q_iast (o := 609) (N := 36) Q_X11_readRule (k := 101) rfl rfl (n_ hB140.1 rfl) (k_609 hB140.1) rfl q142 (by decide) ?_
            have hB143 := qB.u (a := 609) (j := (12 * (V119 602 11)) + (V119 610 (V119 602 11))) (x := (V140 602 19) + (V140 602 18)) hB140 q141 (Or.inl (by decide))
            refine z_aload_n Q_X11_readRule (k := 102) rfl rfl ?_
            refine y_bipush Q_X11_readRule (k := 103) rfl (by decide) ?_
            refine q_callV1_uV Q_X11_readRule (k := 104) rfl rfl K_X11_need V_X11_need L_X11_137 (n_ hB143.1 rfl) (k_602 hB143.1) (Nat.le_of_ble_eq_true rfl) (Nat.le_of_ble_eq_true rfl) rfl (Nat.zero_le _) (Nat.zero_le _) (w_X11_need (d + 123) hB143 ⟨by decide, by decide⟩ h) (fun V144 hB144 h => ?_)
            exact z_vret Q_X11_readRule (k := 105) rfl rfl (qI_uV hB144 h)
          · replace h := h.1 c
            refine z_aload_n Q_X11_readRule (k := 89) rfl rfl ?_
            refine q_callV0_uV Q_X11_readRule (k := 90) rfl rfl K_X11_pass V_X11_pass L_X11_163 (n_ hB140.1 rfl) (k_602 hB140.1) (Nat.le_of_ble_eq_true rfl) (Nat.le_of_ble_eq_true rfl) rfl (Nat.zero_le _) (Nat.zero_le _) (w_X11_pass (d + 123) hB140  h) (fun V145 hB145 h => ?_)
            refine z_aload_n Q_X11_readRule (k := 91) rfl rfl ?_
            refine q_callV0_uV Q_X11_readRule (k := 92) rfl rfl K_X11_anyOf V_X11_anyOf L_X11_175 (n_ hB145.1 rfl) (k_602 hB145.1) (Nat.le_of_ble_eq_true rfl) (Nat.le_of_ble_eq_true rfl) rfl (Nat.zero_le _) (Nat.zero_le _) (w_X11_anyOf d hB145  h) (fun V146 hB146 h => ?_)
            refine z_aload_n Q_X11_readRule (k := 93) rfl rfl ?_
            refine z_getR (b := 609) Q_X11_readRule (k := 94) rfl F_X11_32 rfl (n_ hB146.1 rfl) (k_602 hB146.1) (r_602_7 hB146.1) ?_
            refine z_iload_n Q_X11_readRule (k := 95) rfl rfl ?_
            refine z_aload_n Q_X11_readRule (k := 96) rfl rfl ?_
            refine q_getI (o := 602) (z := 19) Q_X11_readRule (k := 97) rfl F_X11_128 rfl rfl rfl (n_ hB146.1 rfl) (k_602 hB146.1) ?_
            refine z_aload_n Q_X11_readRule (k := 98) rfl rfl ?_
            refine q_getI (o := 602) (z := 18) Q_X11_readRule (k := 99) rfl F_X11_131 rfl rfl rfl (n_ hB146.1 rfl) (k_602 hB146.1) ?_
            obtain ⟨q147, h⟩ := h
            refine y_iadd Q_X11_readRule (k := 100) rfl ?_
            obtain ⟨q148, h⟩ := h
            refine q_iast (o := 609) (N := 36) Q_X11_readRule (k := 101) rfl rfl (n_ hB146.1 rfl) (k_609 hB146.1) rfl q148 (by decide) ?_
            have hB149 := qB.u (a := 609) (j := (12 * (V119 602 11)) + (V119 610 (V119 602 11))) (x := (V146 602 19) + (V146 602 18)) hB146 q147 (Or.inl (by decide))
            refine z_aload_n Q_X11_readRule (k := 102) rfl rfl ?_
            refine y_bipush Q_X11_readRule (k := 103) rfl (by decide) ?_
            refine q_callV1_uV Q_X11_readRule (k := 104) rfl rfl K_X11_need V_X11_need L_X11_137 (n_ hB149.1 rfl) (k_602 hB149.1) (Nat.le_of_ble_eq_true rfl) (Nat.le_of_ble_eq_true rfl) rfl (Nat.zero_le _) (Nat.zero_le _) (w_X11_need (d + 123) hB149 ⟨by decide, by decide⟩ h) (fun V150 hB150 h => ?_)
            exact z_vret Q_X11_readRule (k := 105) rfl rfl (qI_uV hB150 h)
      · replace h := h.1 c
        refine z_aload_n Q_X11_readRule (k := 65) rfl rfl ?_
        refine q_callV0_uV Q_X11_readRule (k := 66) rfl rfl K_X11_pass V_X11_pass L_X11_163 (n_ hB131.1 rfl) (k_602 hB131.1) (Nat.le_of_ble_eq_true rfl) (Nat.le_of_ble_eq_true rfl) rfl (Nat.zero_le _) (Nat.zero_le _) (w_X11_pass (d + 123) hB131  h) (fun V151 hB151 h => ?_)
        refine z_aload_n Q_X11_readRule (k := 67) rfl rfl ?_
        refine z_getR (b := 607) Q_X11_readRule (k := 68) rfl F_X11_26 rfl (n_ hB151.1 rfl) (k_602 hB151.1) (r_602_5 hB151.1) ?_
        refine z_iload_n Q_X11_readRule (k := 69) rfl rfl ?_
        refine z_aload_n Q_X11_readRule (k := 70) rfl rfl ?_
        refine q_callV0_iV Q_X11_readRule (k := 71) rfl rfl K_X11_readNumber V_X11_readNumber L_X11_141 (n_ hB151.1 rfl) (k_602 hB151.1) (Nat.le_of_ble_eq_true rfl) (Nat.le_of_ble_eq_true rfl) rfl (Nat.zero_le _) (Nat.zero_le _) (w_X11_readNumber (d + 123) hB151  h) (fun r152 V152 hB152 hz152 h => ?_)
        obtain ⟨q153, h⟩ := h
        refine q_iast (o := 607) (N := 36) Q_X11_readRule (k := 72) rfl rfl (n_ hB152.1 rfl) (k_607 hB152.1) rfl q153 (by decide) ?_
        have hB154 := qB.u (a := 607) (j := (12 * (V119 602 11)) + (V119 610 (V119 602 11))) (x := r152) hB152 hz152 (Or.inl (by decide))
        refine z_aload_n Q_X11_readRule (k := 73) rfl rfl ?_
        refine z_getR (b := 608) Q_X11_readRule (k := 74) rfl F_X11_29 rfl (n_ hB154.1 rfl) (k_602 hB154.1) (r_602_6 hB154.1) ?_
        refine z_iload_n Q_X11_readRule (k := 75) rfl rfl ?_
        refine z_aload_n Q_X11_readRule (k := 76) rfl rfl ?_
        refine q_getI (o := 602) (z := 19) Q_X11_readRule (k := 77) rfl F_X11_128 rfl rfl rfl (n_ hB154.1 rfl) (k_602 hB154.1) ?_
        refine z_aload_n Q_X11_readRule (k := 78) rfl rfl ?_
        refine q_getI (o := 602) (z := 18) Q_X11_readRule (k := 79) rfl F_X11_131 rfl rfl rfl (n_ hB154.1 rfl) (k_602 hB154.1) ?_
        obtain ⟨q155, h⟩ := h
        refine y_iadd Q_X11_readRule (k := 80) rfl ?_
        obtain ⟨q156, h⟩ := h
        refine q_iast (o := 608) (N := 36) Q_X11_readRule (k := 81) rfl rfl (n_ hB154.1 rfl) (k_608 hB154.1) rfl q156 (by decide) ?_
        have hB157 := qB.u (a := 608) (j := (12 * (V119 602 11)) + (V119 610 (V119 602 11))) (x := ((qu V152 607 ((12 * (V119 602 11)) + (V119 610 (V119 602 11))) r152) 602 19) + ((qu V152 607 ((12 * (V119 602 11)) + (V119 610 (V119 602 11))) r152) 602 18)) hB154 q155 (Or.inl (by decide))
        refine z_aload_n Q_X11_readRule (k := 82) rfl rfl ?_
        refine q_callV0_z Q_X11_readRule (k := 83) rfl rfl K_X11_fine V_X11_fine L_X11_117 (n_ hB157.1 rfl) (k_602 hB157.1) (Nat.le_of_ble_eq_true rfl) (Nat.le_of_ble_eq_true rfl) rfl (Nat.zero_le _) (Nat.zero_le _) (w_X11_fine (d + 124) hB157  h) (fun r158 hz158 hb158 h => ?_)
        refine y_if_eq 169 Q_X11_readRule (k := 84) rfl (by decide) hz158 (fun c => ?_) (fun c => ?_)
        · replace h := h.1 c
          refine z_aload_n Q_X11_readRule (k := 93) rfl rfl ?_
          refine z_getR (b := 609) Q_X11_readRule (k := 94) rfl F_X11_32 rfl (n_ hB157.1 rfl) (k_602 hB157.1) (r_602_7 hB157.1) ?_
          refine z_iload_n Q_X11_readRule (k := 95) rfl rfl ?_
          refine z_aload_n Q_X11_readRule (k := 96) rfl rfl ?_
          refine q_getI (o := 602) (z := 19) Q_X11_readRule (k := 97) rfl F_X11_128 rfl rfl rfl (n_ hB157.1 rfl) (k_602 hB157.1) ?_
          refine z_aload_n Q_X11_readRule (k := 98) rfl rfl ?_
          refine q_getI (o := 602) (z := 18) Q_X11_readRule (k := 99) rfl F_X11_131 rfl rfl rfl (n_ hB157.1 rfl) (k_602 hB157.1) ?_
          obtain ⟨q159, h⟩ := h
          refine y_iadd Q_X11_readRule (k := 100) rfl ?_
          obtain ⟨q160, h⟩ := h
          refine q_iast (o := 609) (N := 36) Q_X11_readRule (k := 101) rfl rfl (n_ hB157.1 rfl) (k_609 hB157.1) rfl q160 (by decide) ?_
          have hB161 := qB.u (a := 609) (j := (12 * (V119 602 11)) + (V119 610 (V119 602 11))) (x := ((qu (qu V152 607 ((12 * (V119 602 11)) + (V119 610 (V119 602 11))) r152) 608 ((12 * (V119 602 11)) + (V119 610 (V119 602 11))) (((qu V152 607 ((12 * (V119 602 11)) + (V119 610 (V119 602 11))) r152) 602 19) + ((qu V152 607 ((12 * (V119 602 11)) + (V119 610 (V119 602 11))) r152) 602 18))) 602 19) + ((qu (qu V152 607 ((12 * (V119 602 11)) + (V119 610 (V119 602 11))) r152) 608 ((12 * (V119 602 11)) + (V119 610 (V119 602 11))) (((qu V152 607 ((12 * (V119 602 11)) + (V119 610 (V119 602 11))) r152) 602 19) + ((qu V152 607 ((12 * (V119 602 11)) + (V119 610 (V119 602 11))) r152) 602 18))) 602 18)) hB157 q159 (Or.inl (by decide))
          refine z_aload_n Q_X11_readRule (k := 102) rfl rfl ?_
          refine y_bipush Q_X11_readRule (k := 103) rfl (by decide) ?_
          refine q_callV1_uV Q_X11_readRule (k := 104) rfl rfl K_X11_need V_X11_need L_X11_137 (n_ hB161.1 rfl) (k_602 hB161.1) (Nat.le_of_ble_eq_true rfl) (Nat.le_of_ble_eq_true rfl) rfl (Nat.zero_le _) (Nat.zero_le _) (w_X11_need (d + 123) hB161 ⟨by decide, by decide⟩ h) (fun V162 hB162 h => ?_)
          exact z_vret Q_X11_readRule (k := 105) rfl rfl (qI_uV hB162 h)
        · replace h := h.2 c
          refine z_aload_n Q_X11_readRule (k := 85) rfl rfl ?_
          refine q_callV0_iV Q_X11_readRule (k := 86) rfl rfl K_X11_word V_X11_word L_X11_156 (n_ hB157.1 rfl) (k_602 hB157.1) (Nat.le_of_ble_eq_true rfl) (Nat.le_of_ble_eq_true rfl) rfl (Nat.zero_le _) (Nat.zero_le _) (w_X11_word (d + 123) hB157  h) (fun r163 V163 hB163 hz163 h => ?_)
          refine y_sipush Q_X11_readRule (k := 87) rfl (by decide) ?_
          refine y_icmp_ne 169 Q_X11_readRule (k := 88) rfl (by decide) hz163 ⟨by decide, by decide⟩ (fun c => ?_) (fun c => ?_)
          · replace h := h.2 c
            refine z_aload_n Q_X11_readRule (k := 93) rfl rfl ?_
            refine z_getR (b := 609) Q_X11_readRule (k := 94) rfl F_X11_32 rfl (n_ hB163.1 rfl) (k_602 hB163.1) (r_602_7 hB163.1) ?_
            refine z_iload_n Q_X11_readRule (k := 95) rfl rfl ?_
            refine z_aload_n Q_X11_readRule (k := 96) rfl rfl ?_
            refine q_getI (o := 602) (z := 19) Q_X11_readRule (k := 97) rfl F_X11_128 rfl rfl rfl (n_ hB163.1 rfl) (k_602 hB163.1) ?_
            refine z_aload_n Q_X11_readRule (k := 98) rfl rfl ?_
            refine q_getI (o := 602) (z := 18) Q_X11_readRule (k := 99) rfl F_X11_131 rfl rfl rfl (n_ hB163.1 rfl) (k_602 hB163.1) ?_
            obtain ⟨q164, h⟩ := h
            refine y_iadd Q_X11_readRule (k := 100) rfl ?_
            obtain ⟨q165, h⟩ := h
            refine q_iast (o := 609) (N := 36) Q_X11_readRule (k := 101) rfl rfl (n_ hB163.1 rfl) (k_609 hB163.1) rfl q165 (by decide) ?_
            have hB166 := qB.u (a := 609) (j := (12 * (V119 602 11)) + (V119 610 (V119 602 11))) (x := (V163 602 19) + (V163 602 18)) hB163 q164 (Or.inl (by decide))
            refine z_aload_n Q_X11_readRule (k := 102) rfl rfl ?_
            refine y_bipush Q_X11_readRule (k := 103) rfl (by decide) ?_
            refine q_callV1_uV Q_X11_readRule (k := 104) rfl rfl K_X11_need V_X11_need L_X11_137 (n_ hB166.1 rfl) (k_602 hB166.1) (Nat.le_of_ble_eq_true rfl) (Nat.le_of_ble_eq_true rfl) rfl (Nat.zero_le _) (Nat.zero_le _) (w_X11_need (d + 123) hB166 ⟨by decide, by decide⟩ h) (fun V167 hB167 h => ?_)
            exact z_vret Q_X11_readRule (k := 105) rfl rfl (qI_uV hB167 h)
          · replace h := h.1 c
            refine z_aload_n Q_X11_readRule (k := 89) rfl rfl ?_
            refine q_callV0_uV Q_X11_readRule (k := 90) rfl rfl K_X11_pass V_X11_pass L_X11_163 (n_ hB163.1 rfl) (k_602 hB163.1) (Nat.le_of_ble_eq_true rfl) (Nat.le_of_ble_eq_true rfl) rfl (Nat.zero_le _) (Nat.zero_le _) (w_X11_pass (d + 123) hB163  h) (fun V168 hB168 h => ?_)
            refine z_aload_n Q_X11_readRule (k := 91) rfl rfl ?_
            refine q_callV0_uV Q_X11_readRule (k := 92) rfl rfl K_X11_anyOf V_X11_anyOf L_X11_175 (n_ hB168.1 rfl) (k_602 hB168.1) (Nat.le_of_ble_eq_true rfl) (Nat.le_of_ble_eq_true rfl) rfl (Nat.zero_le _) (Nat.zero_le _) (w_X11_anyOf d hB168  h) (fun V169 hB169 h => ?_)
            refine z_aload_n Q_X11_readRule (k := 93) rfl rfl ?_
            refine z_getR (b := 609) Q_X11_readRule (k := 94) rfl F_X11_32 rfl (n_ hB169.1 rfl) (k_602 hB169.1) (r_602_7 hB169.1) ?_
            refine z_iload_n Q_X11_readRule (k := 95) rfl rfl ?_
            refine z_aload_n Q_X11_readRule (k := 96) rfl rfl ?_
            refine q_getI (o := 602) (z := 19) Q_X11_readRule (k := 97) rfl F_X11_128 rfl rfl rfl (n_ hB169.1 rfl) (k_602 hB169.1) ?_
            refine z_aload_n Q_X11_readRule (k := 98) rfl rfl ?_
            refine q_getI (o := 602) (z := 18) Q_X11_readRule (k := 99) rfl F_X11_131 rfl rfl rfl (n_ hB169.1 rfl) (k_602 hB169.1) ?_
            obtain ⟨q170, h⟩ := h
            refine y_iadd Q_X11_readRule (k := 100) rfl ?_
            obtain ⟨q171, h⟩ := h
            refine q_iast (o := 609) (N := 36) Q_X11_readRule (k := 101) rfl rfl (n_ hB169.1 rfl) (k_609 hB169.1) rfl q171 (by decide) ?_
            have hB172 := qB.u (a := 609) (j := (12 * (V119 602 11)) + (V119 610 (V119 602 11))) (x := (V169 602 19) + (V169 602 18)) hB169 q170 (Or.inl (by decide))
            refine z_aload_n Q_X11_readRule (k := 102) rfl rfl ?_
            refine y_bipush Q_X11_readRule (k := 103) rfl (by decide) ?_
            refine q_callV1_uV Q_X11_readRule (k := 104) rfl rfl K_X11_need V_X11_need L_X11_137 (n_ hB172.1 rfl) (k_602 hB172.1) (Nat.le_of_ble_eq_true rfl) (Nat.le_of_ble_eq_true rfl) rfl (Nat.zero_le _) (Nat.zero_le _) (w_X11_need (d + 123) hB172 ⟨by decide, by decide⟩ h) (fun V173 hB173 h => ?_)
            exact z_vret Q_X11_readRule (k := 105) rfl rfl (qI_uV hB173 h)
    · replace h := h.1 c
      exact z_vret Q_X11_readRule (k := 28) rfl rfl (qI_uV hB117 h)
