/-! methods keep their predicates -/
set_option maxHeartbeats 4000000 in
set_option maxRecDepth 20000 in
theorem v_X11_findWho_16 {S : zS} {J : qJ} {K : Int → qV → Prop} {Q : qV → Prop} {kc ks : Nat} (d : Nat) {l2 : Int} (z2 : zr l2) (hK : ∀ (l3 : Int) (V : qV), qB S V → zr l3 → K l3 V → Z M_X11_findWho (d + 2) kc ks 123 [some (.ref 602), none, some (.int (iI l2)), some (.int (iI l3)), none, none] [] S (qi V) (qj J) (qP_uV S J Q)) : ∀ (f : Nat) (l3 : Int) (V : qV), qB S V → zr l3 → lp_X11_findWho_16 l2 K f l3 V → Z M_X11_findWho (d + 2) kc ks 16 [some (.ref 602), none, some (.int (iI l2)), some (.int (iI l3)), none, none] [] S (qi V) (qj J) (qP_uV S J Q) := by
  intro f
  induction f with
  | zero =>
    intro l3 V hB z3 h
    exact h.elim
  | succ f ih =>
    intro l3 V hB z3 h
    rw [lp_X11_findWho_16] at h
    refine z_iload_n Q_X11_findWho (k := 10) rfl rfl ?_
    refine y_sipush Q_X11_findWho (k := 11) rfl (by decide) ?_
    refine y_icmp_ge 123 Q_X11_findWho (k := 12) rfl (by decide) z3 ⟨by decide, by decide⟩ (fun c => ?_) (fun c => ?_)
    · replace h := h.1 c
      exact y_fg (zsb_c rfl (zsb_n (zsb_c rfl (zsb_c rfl (zsb_n (zsb_n zsb_e)))))) (hK l3 V hB z3 h)
    · replace h := h.2 c
      refine z_aload_n Q_X11_findWho (k := 13) rfl rfl ?_
      refine z_getR (b := 616) Q_X11_findWho (k := 14) rfl F_X11_56 rfl (n_ hB.1 rfl) (k_602 hB.1) (r_602_24 hB.1) ?_
      refine z_iload_n Q_X11_findWho (k := 15) rfl rfl ?_
      obtain ⟨q4, h⟩ := h
      refine q_zald (o := 616) (N := 1024) Q_X11_findWho (k := 16) rfl rfl (n_ hB.1 rfl) (k_616 hB.1) rfl q4 (by decide) ?_
      refine y_if_ne 35 Q_X11_findWho (k := 17) rfl (by decide) (hB.2.1 _ _) (fun c => ?_) (fun c => ?_)
      · replace h := h.2 c
        refine z_aload_n Q_X11_findWho (k := 19) rfl rfl ?_
        refine z_iload_n Q_X11_findWho (k := 20) rfl rfl ?_
        refine z_iload_n Q_X11_findWho (k := 21) rfl rfl ?_
        refine q_callV2_iV Q_X11_findWho (k := 22) rfl rfl K_X11_ruleOf V_X11_ruleOf L_X11_254 (n_ hB.1 rfl) (k_602 hB.1) (Nat.le_of_ble_eq_true rfl) (Nat.le_of_ble_eq_true rfl) rfl (Nat.zero_le _) (Nat.zero_le _) (w_X11_ruleOf d hB z2 z3 h) (fun r5 V5 hB5 hz5 h => ?_)
        refine y_istore (L' := [some (.ref 602), none, some (.int (iI l2)), some (.int (iI l3)), some (.int (iI r5)), none]) Q_X11_findWho (k := 23) rfl (by decide) rfl ?_
        refine z_aload_n Q_X11_findWho (k := 24) rfl rfl ?_
        refine z_getR (b := 617) Q_X11_findWho (k := 25) rfl F_X11_60 rfl (n_ hB5.1 rfl) (k_602 hB5.1) (r_602_26 hB5.1) ?_
        refine z_iload_n Q_X11_findWho (k := 26) rfl rfl ?_
        refine z_iload Q_X11_findWho (k := 27) rfl rfl ?_
        refine y_iconst Q_X11_findWho (k := 28) rfl ?_
        refine y_icmp_ne 58 Q_X11_findWho (k := 29) rfl (by decide) hz5 ⟨by decide, by decide⟩ (fun c => ?_) (fun c => ?_)
        · replace h := h.2 c
          refine z_aload_n Q_X11_findWho (k := 32) rfl rfl ?_
          refine z_getR (b := 606) Q_X11_findWho (k := 33) rfl F_X11_23 rfl (n_ hB5.1 rfl) (k_602 hB5.1) (r_602_4 hB5.1) ?_
          refine y_bipush Q_X11_findWho (k := 34) rfl (by decide) ?_
          refine z_iload_n Q_X11_findWho (k := 35) rfl rfl ?_
          obtain ⟨q6, h⟩ := h
          refine y_imul Q_X11_findWho (k := 36) rfl ?_
          refine z_iload Q_X11_findWho (k := 37) rfl rfl ?_
          obtain ⟨q7, h⟩ := h
          refine y_iadd Q_X11_findWho (k := 38) rfl ?_
          obtain ⟨q8, h⟩ := h
          refine q_iald (o := 606) (N := 36) Q_X11_findWho (k := 39) rfl rfl (n_ hB5.1 rfl) (k_606 hB5.1) rfl q8 (by decide) ?_
          obtain ⟨q9, h⟩ := h
          refine q_iast (o := 617) (N := 1024) Q_X11_findWho (k := 40) rfl rfl (n_ hB5.1 rfl) (k_617 hB5.1) rfl q9 (by decide) ?_
          have hB10 := qB.u (a := 617) (j := l3) (x := V5 606 ((12 * l2) + r5)) hB5 (hB5.2.1 _ _) (Or.inl (by decide))
          refine z_iload Q_X11_findWho (k := 41) rfl rfl ?_
          refine y_iconst Q_X11_findWho (k := 42) rfl ?_
          refine y_icmp_ne 81 Q_X11_findWho (k := 43) rfl (by decide) hz5 ⟨by decide, by decide⟩ (fun c => ?_) (fun c => ?_)
          · replace h := h.2 c
            refine z_aload_n Q_X11_findWho (k := 46) rfl rfl ?_
            refine z_getR (b := 607) Q_X11_findWho (k := 47) rfl F_X11_26 rfl (n_ hB10.1 rfl) (k_602 hB10.1) (r_602_5 hB10.1) ?_
            refine y_bipush Q_X11_findWho (k := 48) rfl (by decide) ?_
            refine z_iload_n Q_X11_findWho (k := 49) rfl rfl ?_
            obtain ⟨q11, h⟩ := h
            refine y_imul Q_X11_findWho (k := 50) rfl ?_
            refine z_iload Q_X11_findWho (k := 51) rfl rfl ?_
            obtain ⟨q12, h⟩ := h
            refine y_iadd Q_X11_findWho (k := 52) rfl ?_
            obtain ⟨q13, h⟩ := h
            refine q_iald (o := 607) (N := 36) Q_X11_findWho (k := 53) rfl rfl (n_ hB10.1 rfl) (k_607 hB10.1) rfl q13 (by decide) ?_
            refine y_istore (L' := [some (.ref 602), none, some (.int (iI l2)), some (.int (iI l3)), some (.int (iI r5)), some (.int (iI ((qu V5 617 l3 (V5 606 ((12 * l2) + r5))) 607 ((12 * l2) + r5))))]) Q_X11_findWho (k := 54) rfl (by decide) rfl ?_
            refine z_aload_n Q_X11_findWho (k := 55) rfl rfl ?_
            refine z_iload Q_X11_findWho (k := 56) rfl rfl ?_
            refine z_aload_n Q_X11_findWho (k := 57) rfl rfl ?_
            refine q_getI (o := 602) (z := 27) Q_X11_findWho (k := 58) rfl F_X11_264 rfl rfl rfl (n_ hB10.1 rfl) (k_602 hB10.1) ?_
            refine y_icmp_le 110 Q_X11_findWho (k := 59) rfl (by decide) (hB10.2.1 _ _) (hB10.2.1 _ _) (fun c => ?_) (fun c => ?_)
            · replace h := h.1 c
              refine z_aload_n Q_X11_findWho (k := 62) rfl rfl ?_
              refine q_getI (o := 602) (z := 27) Q_X11_findWho (k := 63) rfl F_X11_264 rfl rfl rfl (n_ hB10.1 rfl) (k_602 hB10.1) ?_
              refine q_putI (o := 602) (z := 27) Q_X11_findWho (k := 64) rfl F_X11_264 rfl rfl rfl (n_ hB10.1 rfl) (k_602 hB10.1) ?_
              have hB14 := qB.u (a := 602) (j := 27) (x := (qu V5 617 l3 (V5 606 ((12 * l2) + r5))) 602 27) hB10 (hB10.2.1 _ _) (Or.inl (by decide))
              obtain ⟨q15, h⟩ := h
              refine y_iinc (L' := [some (.ref 602), none, some (.int (iI l2)), some (.int (iI (l3 + 1))), some (.int (iI r5)), some (.int (iI ((qu V5 617 l3 (V5 606 ((12 * l2) + r5))) 607 ((12 * l2) + r5))))]) Q_X11_findWho (k := 65) rfl (by decide) rfl rfl ?_
              refine z_goto (tgt := 16) Q_X11_findWho (k := 66) rfl (by decide) ?_
              exact y_fg (zsb_c rfl (zsb_n (zsb_c rfl (zsb_c rfl (zsb_n (zsb_n zsb_e)))))) (ih (l3 + 1) (qu (qu V5 617 l3 (V5 606 ((12 * l2) + r5))) 602 27 ((qu V5 617 l3 (V5 606 ((12 * l2) + r5))) 602 27)) hB14 q15 h)
            · replace h := h.2 c
              refine z_iload Q_X11_findWho (k := 60) rfl rfl ?_
              refine z_goto (tgt := 114) Q_X11_findWho (k := 61) rfl (by decide) ?_
              refine q_putI (o := 602) (z := 27) Q_X11_findWho (k := 64) rfl F_X11_264 rfl rfl rfl (n_ hB10.1 rfl) (k_602 hB10.1) ?_
              have hB16 := qB.u (a := 602) (j := 27) (x := (qu V5 617 l3 (V5 606 ((12 * l2) + r5))) 607 ((12 * l2) + r5)) hB10 (hB10.2.1 _ _) (Or.inl (by decide))
              obtain ⟨q17, h⟩ := h
              refine y_iinc (L' := [some (.ref 602), none, some (.int (iI l2)), some (.int (iI (l3 + 1))), some (.int (iI r5)), some (.int (iI ((qu V5 617 l3 (V5 606 ((12 * l2) + r5))) 607 ((12 * l2) + r5))))]) Q_X11_findWho (k := 65) rfl (by decide) rfl rfl ?_
              refine z_goto (tgt := 16) Q_X11_findWho (k := 66) rfl (by decide) ?_
              exact y_fg (zsb_c rfl (zsb_n (zsb_c rfl (zsb_c rfl (zsb_n (zsb_n zsb_e)))))) (ih (l3 + 1) (qu (qu V5 617 l3 (V5 606 ((12 * l2) + r5))) 602 27 ((qu V5 617 l3 (V5 606 ((12 * l2) + r5))) 607 ((12 * l2) + r5))) hB16 q17 h)
          · replace h := h.1 c
            refine y_iconst Q_X11_findWho (k := 44) rfl ?_
            refine z_goto (tgt := 93) Q_X11_findWho (k := 45) rfl (by decide) ?_
            refine y_istore (L' := [some (.ref 602), none, some (.int (iI l2)), some (.int (iI l3)), some (.int (iI r5)), some (.int (iI 0))]) Q_X11_findWho (k := 54) rfl (by decide) rfl ?_
            refine z_aload_n Q_X11_findWho (k := 55) rfl rfl ?_
            refine z_iload Q_X11_findWho (k := 56) rfl rfl ?_
            refine z_aload_n Q_X11_findWho (k := 57) rfl rfl ?_
            refine q_getI (o := 602) (z := 27) Q_X11_findWho (k := 58) rfl F_X11_264 rfl rfl rfl (n_ hB10.1 rfl) (k_602 hB10.1) ?_
            refine y_icmp_le 110 Q_X11_findWho (k := 59) rfl (by decide) ⟨by decide, by decide⟩ (hB10.2.1 _ _) (fun c => ?_) (fun c => ?_)
            · replace h := h.1 c
              refine z_aload_n Q_X11_findWho (k := 62) rfl rfl ?_
              refine q_getI (o := 602) (z := 27) Q_X11_findWho (k := 63) rfl F_X11_264 rfl rfl rfl (n_ hB10.1 rfl) (k_602 hB10.1) ?_
              refine q_putI (o := 602) (z := 27) Q_X11_findWho (k := 64) rfl F_X11_264 rfl rfl rfl (n_ hB10.1 rfl) (k_602 hB10.1) ?_
              have hB18 := qB.u (a := 602) (j := 27) (x := (qu V5 617 l3 (V5 606 ((12 * l2) + r5))) 602 27) hB10 (hB10.2.1 _ _) (Or.inl (by decide))
              obtain ⟨q19, h⟩ := h
              refine y_iinc (L' := [some (.ref 602), none, some (.int (iI l2)), some (.int (iI (l3 + 1))), some (.int (iI r5)), some (.int (iI 0))]) Q_X11_findWho (k := 65) rfl (by decide) rfl rfl ?_
              refine z_goto (tgt := 16) Q_X11_findWho (k := 66) rfl (by decide) ?_
              exact y_fg (zsb_c rfl (zsb_n (zsb_c rfl (zsb_c rfl (zsb_n (zsb_n zsb_e)))))) (ih (l3 + 1) (qu (qu V5 617 l3 (V5 606 ((12 * l2) + r5))) 602 27 ((qu V5 617 l3 (V5 606 ((12 * l2) + r5))) 602 27)) hB18 q19 h)
            · replace h := h.2 c
              refine z_iload Q_X11_findWho (k := 60) rfl rfl ?_
              refine z_goto (tgt := 114) Q_X11_findWho (k := 61) rfl (by decide) ?_
              refine q_putI (o := 602) (z := 27) Q_X11_findWho (k := 64) rfl F_X11_264 rfl rfl rfl (n_ hB10.1 rfl) (k_602 hB10.1) ?_
              have hB20 := qB.u (a := 602) (j := 27) (x := 0) hB10 ⟨by decide, by decide⟩ (Or.inl (by decide))
              obtain ⟨q21, h⟩ := h
              refine y_iinc (L' := [some (.ref 602), none, some (.int (iI l2)), some (.int (iI (l3 + 1))), some (.int (iI r5)), some (.int (iI 0))]) Q_X11_findWho (k := 65) rfl (by decide) rfl rfl ?_
              refine z_goto (tgt := 16) Q_X11_findWho (k := 66) rfl (by decide) ?_
              exact y_fg (zsb_c rfl (zsb_n (zsb_c rfl (zsb_c rfl (zsb_n (zsb_n zsb_e)))))) (ih (l3 + 1) (qu (qu V5 617 l3 (V5 606 ((12 * l2) + r5))) 602 27 0) hB20 q21 h)
        · replace h := h.1 c
          refine y_iconst Q_X11_findWho (k := 30) rfl ?_
          refine z_goto (tgt := 70) Q_X11_findWho (k := 31) rfl (by decide) ?_
          obtain ⟨q22, h⟩ := h
          refine q_iast (o := 617) (N := 1024) Q_X11_findWho (k := 40) rfl rfl (n_ hB5.1 rfl) (k_617 hB5.1) rfl q22 (by decide) ?_
          have hB23 := qB.u (a := 617) (j := l3) (x := 1) hB5 ⟨by decide, by decide⟩ (Or.inl (by decide))
          refine z_iload Q_X11_findWho (k := 41) rfl rfl ?_
          refine y_iconst Q_X11_findWho (k := 42) rfl ?_
          refine y_icmp_ne 81 Q_X11_findWho (k := 43) rfl (by decide) hz5 ⟨by decide, by decide⟩ (fun c => ?_) (fun c => ?_)
          · replace h := h.2 c
            refine z_aload_n Q_X11_findWho (k := 46) rfl rfl ?_
            refine z_getR (b := 607) Q_X11_findWho (k := 47) rfl F_X11_26 rfl (n_ hB23.1 rfl) (k_602 hB23.1) (r_602_5 hB23.1) ?_
            refine y_bipush Q_X11_findWho (k := 48) rfl (by decide) ?_
            refine z_iload_n Q_X11_findWho (k := 49) rfl rfl ?_
            obtain ⟨q24, h⟩ := h
            refine y_imul Q_X11_findWho (k := 50) rfl ?_
            refine z_iload Q_X11_findWho (k := 51) rfl rfl ?_
            obtain ⟨q25, h⟩ := h
            refine y_iadd Q_X11_findWho (k := 52) rfl ?_
            obtain ⟨q26, h⟩ := h
            refine q_iald (o := 607) (N := 36) Q_X11_findWho (k := 53) rfl rfl (n_ hB23.1 rfl) (k_607 hB23.1) rfl q26 (by decide) ?_
            refine y_istore (L' := [some (.ref 602), none, some (.int (iI l2)), some (.int (iI l3)), some (.int (iI r5)), some (.int (iI ((qu V5 617 l3 1) 607 ((12 * l2) + r5))))]) Q_X11_findWho (k := 54) rfl (by decide) rfl ?_
            refine z_aload_n Q_X11_findWho (k := 55) rfl rfl ?_
            refine z_iload Q_X11_findWho (k := 56) rfl rfl ?_
            refine z_aload_n Q_X11_findWho (k := 57) rfl rfl ?_
            refine q_getI (o := 602) (z := 27) Q_X11_findWho (k := 58) rfl F_X11_264 rfl rfl rfl (n_ hB23.1 rfl) (k_602 hB23.1) ?_
            refine y_icmp_le 110 Q_X11_findWho (k := 59) rfl (by decide) (hB23.2.1 _ _) (hB23.2.1 _ _) (fun c => ?_) (fun c => ?_)
            · replace h := h.1 c
              refine z_aload_n Q_X11_findWho (k := 62) rfl rfl ?_
              refine q_getI (o := 602) (z := 27) Q_X11_findWho (k := 63) rfl F_X11_264 rfl rfl rfl (n_ hB23.1 rfl) (k_602 hB23.1) ?_
              refine q_putI (o := 602) (z := 27) Q_X11_findWho (k := 64) rfl F_X11_264 rfl rfl rfl (n_ hB23.1 rfl) (k_602 hB23.1) ?_
              have hB27 := qB.u (a := 602) (j := 27) (x := (qu V5 617 l3 1) 602 27) hB23 (hB23.2.1 _ _) (Or.inl (by decide))
              obtain ⟨q28, h⟩ := h
              refine y_iinc (L' := [some (.ref 602), none, some (.int (iI l2)), some (.int (iI (l3 + 1))), some (.int (iI r5)), some (.int (iI ((qu V5 617 l3 1) 607 ((12 * l2) + r5))))]) Q_X11_findWho (k := 65) rfl (by decide) rfl rfl ?_
              refine z_goto (tgt := 16) Q_X11_findWho (k := 66) rfl (by decide) ?_
              exact y_fg (zsb_c rfl (zsb_n (zsb_c rfl (zsb_c rfl (zsb_n (zsb_n zsb_e)))))) (ih (l3 + 1) (qu (qu V5 617 l3 1) 602 27 ((qu V5 617 l3 1) 602 27)) hB27 q28 h)
            · replace h := h.2 c
              refine z_iload Q_X11_findWho (k := 60) rfl rfl ?_
              refine z_goto (tgt := 114) Q_X11_findWho (k := 61) rfl (by decide) ?_
              refine q_putI (o := 602) (z := 27) Q_X11_findWho (k := 64) rfl F_X11_264 rfl rfl rfl (n_ hB23.1 rfl) (k_602 hB23.1) ?_
              have hB29 := qB.u (a := 602) (j := 27) (x := (qu V5 617 l3 1) 607 ((12 * l2) + r5)) hB23 (hB23.2.1 _ _) (Or.inl (by decide))
              obtain ⟨q30, h⟩ := h
              refine y_iinc (L' := [some (.ref 602), none, some (.int (iI l2)), some (.int (iI (l3 + 1))), some (.int (iI r5)), some (.int (iI ((qu V5 617 l3 1) 607 ((12 * l2) + r5))))]) Q_X11_findWho (k := 65) rfl (by decide) rfl rfl ?_
              refine z_goto (tgt := 16) Q_X11_findWho (k := 66) rfl (by decide) ?_
              exact y_fg (zsb_c rfl (zsb_n (zsb_c rfl (zsb_c rfl (zsb_n (zsb_n zsb_e)))))) (ih (l3 + 1) (qu (qu V5 617 l3 1) 602 27 ((qu V5 617 l3 1) 607 ((12 * l2) + r5))) hB29 q30 h)
          · replace h := h.1 c
            refine y_iconst Q_X11_findWho (k := 44) rfl ?_
            refine z_goto (tgt := 93) Q_X11_findWho (k := 45) rfl (by decide) ?_
            refine y_istore (L' := [some (.ref 602), none, some (.int (iI l2)), some (.int (iI l3)), some (.int (iI r5)), some (.int (iI 0))]) Q_X11_findWho (k := 54) rfl (by decide) rfl ?_
            refine z_aload_n Q_X11_findWho (k := 55) rfl rfl ?_
            refine z_iload Q_X11_findWho (k := 56) rfl rfl ?_
            refine z_aload_n Q_X11_findWho (k := 57) rfl rfl ?_
            refine q_getI (o := 602) (z := 27) Q_X11_findWho (k := 58) rfl F_X11_264 rfl rfl rfl (n_ hB23.1 rfl) (k_602 hB23.1) ?_
            refine y_icmp_le 110 Q_X11_findWho (k := 59) rfl (by decide) ⟨by decide, by decide⟩ (hB23.2.1 _ _) (fun c => ?_) (fun c => ?_)
            · replace h := h.1 c
              refine z_aload_n Q_X11_findWho (k := 62) rfl rfl ?_
              refine q_getI (o := 602) (z := 27) Q_X11_findWho (k := 63) rfl F_X11_264 rfl rfl rfl (n_ hB23.1 rfl) (k_602 hB23.1) ?_
              refine q_putI (o := 602) (z := 27) Q_X11_findWho (k := 64) rfl F_X11_264 rfl rfl rfl (n_ hB23.1 rfl) (k_602 hB23.1) ?_
              have hB31 := qB.u (a := 602) (j := 27) (x := (qu V5 617 l3 1) 602 27) hB23 (hB23.2.1 _ _) (Or.inl (by decide))
              obtain ⟨q32, h⟩ := h
              refine y_iinc (L' := [some (.ref 602), none, some (.int (iI l2)), some (.int (iI (l3 + 1))), some (.int (iI r5)), some (.int (iI 0))]) Q_X11_findWho (k := 65) rfl (by decide) rfl rfl ?_
              refine z_goto (tgt := 16) Q_X11_findWho (k := 66) rfl (by decide) ?_
              exact y_fg (zsb_c rfl (zsb_n (zsb_c rfl (zsb_c rfl (zsb_n (zsb_n zsb_e)))))) (ih (l3 + 1) (qu (qu V5 617 l3 1) 602 27 ((qu V5 617 l3 1) 602 27)) hB31 q32 h)
            · replace h := h.2 c
              refine z_iload Q_X11_findWho (k := 60) rfl rfl ?_
              refine z_goto (tgt := 114) Q_X11_findWho (k := 61) rfl (by decide) ?_
              refine q_putI (o := 602) (z := 27) Q_X11_findWho (k := 64) rfl F_X11_264 rfl rfl rfl (n_ hB23.1 rfl) (k_602 hB23.1) ?_
              have hB33 := qB.u (a := 602) (j := 27) (x := 0) hB23 ⟨by decide, by decide⟩ (Or.inl (by decide))
              obtain ⟨q34, h⟩ := h
              refine y_iinc (L' := [some (.ref 602), none, some (.int (iI l2)), some (.int (iI (l3 + 1))), some (.int (iI r5)), some (.int (iI 0))]) Q_X11_findWho (k := 65) rfl (by decide) rfl rfl ?_
              refine z_goto (tgt := 16) Q_X11_findWho (k := 66) rfl (by decide) ?_
              exact y_fg (zsb_c rfl (zsb_n (zsb_c rfl (zsb_c rfl (zsb_n (zsb_n zsb_e)))))) (ih (l3 + 1) (qu (qu V5 617 l3 1) 602 27 0) hB33 q34 h)
      · replace h := h.1 c
        refine z_goto (tgt := 117) Q_X11_findWho (k := 18) rfl (by decide) ?_
        obtain ⟨q35, h⟩ := h
        refine y_iinc (L' := [some (.ref 602), none, some (.int (iI l2)), some (.int (iI (l3 + 1))), none, none]) Q_X11_findWho (k := 65) rfl (by decide) rfl rfl ?_
        refine z_goto (tgt := 16) Q_X11_findWho (k := 66) rfl (by decide) ?_
        exact y_fg (zsb_c rfl (zsb_n (zsb_c rfl (zsb_c rfl (zsb_n (zsb_n zsb_e)))))) (ih (l3 + 1) V hB q35 h)
set_option maxHeartbeats 4000000 in
set_option maxRecDepth 20000 in
theorem w_X11_findWho {S : zS} {V : qV} {J : qJ} {Q : qV → Prop} (d : Nat) (hB : qB S V) {a1 : Int} (z1 : zr a1) {a2 : Int} (z2 : zr a2) (h : W_X11_findWho a1 a2 V Q) : Z M_X11_findWho (d + 2) 0 0 0 [some (.ref 602), some (.int (iI a1)), some (.int (iI a2)), none, none, none] [] S (qi V) (qj J) (qP_uV S J Q) := by
  unfold W_X11_findWho at h
  refine z_aload_n Q_X11_findWho (k := 0) rfl rfl ?_
  refine q_callV0_uV Q_X11_findWho (k := 1) rfl rfl K_X11_findWorlds V_X11_findWorlds L_X11_213 (n_ hB.1 rfl) (k_602 hB.1) (Nat.le_of_ble_eq_true rfl) (Nat.le_of_ble_eq_true rfl) rfl (Nat.zero_le _) (Nat.zero_le _) (w_X11_findWorlds d hB  h) (fun V1 hB1 h => ?_)
  refine z_aload_n Q_X11_findWho (k := 2) rfl rfl ?_
  refine z_iload_n Q_X11_findWho (k := 3) rfl rfl ?_
  refine q_callV1_uV Q_X11_findWho (k := 4) rfl rfl K_X11_nameFind V_X11_nameFind L_X11_248 (n_ hB1.1 rfl) (k_602 hB1.1) (Nat.le_of_ble_eq_true rfl) (Nat.le_of_ble_eq_true rfl) rfl (Nat.zero_le _) (Nat.zero_le _) (w_X11_nameFind d hB1 z1 h) (fun V2 hB2 h => ?_)
  refine z_aload_n Q_X11_findWho (k := 5) rfl rfl ?_
  refine y_iconst Q_X11_findWho (k := 6) rfl ?_
  refine q_putI (o := 602) (z := 27) Q_X11_findWho (k := 7) rfl F_X11_264 rfl rfl rfl (n_ hB2.1 rfl) (k_602 hB2.1) ?_
  have hB3 := qB.u (a := 602) (j := 27) (x := 0) hB2 ⟨by decide, by decide⟩ (Or.inl (by decide))
  refine y_iconst Q_X11_findWho (k := 8) rfl ?_
  refine y_istore_n (L' := [some (.ref 602), some (.int (iI a1)), some (.int (iI a2)), some (.int (iI 0)), none, none]) Q_X11_findWho (k := 9) rfl (by decide) rfl ?_
  refine y_fg (zsb_c rfl (zsb_n (zsb_c rfl (zsb_c rfl (zsb_n (zsb_n zsb_e)))))) (v_X11_findWho_16 d z2 (fun l3x36 V36 hB36 zl3x36 h => ?_) 100000 0 (qu V2 602 27 0) hB3 ⟨by decide, by decide⟩ h)
  exact z_vret Q_X11_findWho (k := 67) rfl rfl (qI_uV hB36 h)
set_option maxHeartbeats 4000000 in
set_option maxRecDepth 20000 in
theorem v_X11_mayBits_4 {S : zS} {V : qV} {J : qJ} {K : Int → Int → Prop} {Q : Int → Prop} {kc ks : Nat} (d : Nat) (hB : qB S V) (hK : ∀ (l1 : Int) (l2 : Int), zr l1 → zr l2 → K l1 l2 → Z M_X11_mayBits d kc ks 41 [some (.ref 602), some (.int (iI l1)), some (.int (iI l2))] [] S (qi V) (qj J) (qP_i S V J Q)) : ∀ (f : Nat) (l1 : Int) (l2 : Int), zr l1 → zr l2 → lp_X11_mayBits_4 V K f l1 l2 → Z M_X11_mayBits d kc ks 4 [some (.ref 602), some (.int (iI l1)), some (.int (iI l2))] [] S (qi V) (qj J) (qP_i S V J Q) := by
  intro f
  induction f with
  | zero =>
    intro l1 l2 z1 z2 h
    exact h.elim
  | succ f ih =>
    intro l1 l2 z1 z2 h
    rw [lp_X11_mayBits_4] at h
    refine z_iload_n Q_X11_mayBits (k := 4) rfl rfl ?_
    refine y_sipush Q_X11_mayBits (k := 5) rfl (by decide) ?_
    refine y_icmp_ge 41 Q_X11_mayBits (k := 6) rfl (by decide) z2 ⟨by decide, by decide⟩ (fun c => ?_) (fun c => ?_)
    · replace h := h.1 c
      exact y_fg (zsb_c rfl (zsb_c rfl (zsb_c rfl zsb_e))) (hK l1 l2 z1 z2 h)
    · replace h := h.2 c
      refine z_iload_n Q_X11_mayBits (k := 7) rfl rfl ?_
      refine z_aload_n Q_X11_mayBits (k := 8) rfl rfl ?_
      refine z_getR (b := 616) Q_X11_mayBits (k := 9) rfl F_X11_56 rfl (n_ hB.1 rfl) (k_602 hB.1) (r_602_24 hB.1) ?_
      refine z_iload_n Q_X11_mayBits (k := 10) rfl rfl ?_
      obtain ⟨q1, h⟩ := h
      refine q_zald (o := 616) (N := 1024) Q_X11_mayBits (k := 11) rfl rfl (n_ hB.1 rfl) (k_616 hB.1) rfl q1 (by decide) ?_
      refine y_if_eq 32 Q_X11_mayBits (k := 12) rfl (by decide) (hB.2.1 _ _) (fun c => ?_) (fun c => ?_)
      · replace h := h.1 c
        refine y_iconst Q_X11_mayBits (k := 20) rfl ?_
        refine y_ior Q_X11_mayBits (k := 21) rfl ?_
        refine y_istore_n (L' := [some (.ref 602), some (.int (iI (zor l1 0))), some (.int (iI l2))]) Q_X11_mayBits (k := 22) rfl (by decide) rfl ?_
        obtain ⟨q2, h⟩ := h
        refine y_iinc (L' := [some (.ref 602), some (.int (iI (zor l1 0))), some (.int (iI (l2 + 1)))]) Q_X11_mayBits (k := 23) rfl (by decide) rfl rfl ?_
        refine z_goto (tgt := 4) Q_X11_mayBits (k := 24) rfl (by decide) ?_
        exact y_fg (zsb_c rfl (zsb_c rfl (zsb_c rfl zsb_e))) (ih (zor l1 0) (l2 + 1) (zor_r _ _) q2 h)
      · replace h := h.2 c
        refine y_iconst Q_X11_mayBits (k := 13) rfl ?_
        refine z_aload_n Q_X11_mayBits (k := 14) rfl rfl ?_
        refine z_getR (b := 617) Q_X11_mayBits (k := 15) rfl F_X11_60 rfl (n_ hB.1 rfl) (k_602 hB.1) (r_602_26 hB.1) ?_
        refine z_iload_n Q_X11_mayBits (k := 16) rfl rfl ?_
        obtain ⟨q3, h⟩ := h
        refine q_iald (o := 617) (N := 1024) Q_X11_mayBits (k := 17) rfl rfl (n_ hB.1 rfl) (k_617 hB.1) rfl q3 (by decide) ?_
        refine y_ishl Q_X11_mayBits (k := 18) rfl ?_
        refine z_goto (tgt := 33) Q_X11_mayBits (k := 19) rfl (by decide) ?_
        refine y_ior Q_X11_mayBits (k := 21) rfl ?_
        refine y_istore_n (L' := [some (.ref 602), some (.int (iI (zor l1 (zshl 1 (V 617 l2))))), some (.int (iI l2))]) Q_X11_mayBits (k := 22) rfl (by decide) rfl ?_
        obtain ⟨q4, h⟩ := h
        refine y_iinc (L' := [some (.ref 602), some (.int (iI (zor l1 (zshl 1 (V 617 l2))))), some (.int (iI (l2 + 1)))]) Q_X11_mayBits (k := 23) rfl (by decide) rfl rfl ?_
        refine z_goto (tgt := 4) Q_X11_mayBits (k := 24) rfl (by decide) ?_
        exact y_fg (zsb_c rfl (zsb_c rfl (zsb_c rfl zsb_e))) (ih (zor l1 (zshl 1 (V 617 l2))) (l2 + 1) (zor_r _ _) q4 h)
set_option maxHeartbeats 4000000 in
set_option maxRecDepth 20000 in
theorem w_X11_mayBits {S : zS} {V : qV} {J : qJ} {Q : Int → Prop} (d : Nat) (hB : qB S V) (h : W_X11_mayBits V Q) : Z M_X11_mayBits d 0 0 0 [some (.ref 602), none, none] [] S (qi V) (qj J) (qP_i S V J Q) := by
  unfold W_X11_mayBits at h
  refine y_iconst Q_X11_mayBits (k := 0) rfl ?_
  refine y_istore_n (L' := [some (.ref 602), some (.int (iI 0)), none]) Q_X11_mayBits (k := 1) rfl (by decide) rfl ?_
  refine y_iconst Q_X11_mayBits (k := 2) rfl ?_
  refine y_istore_n (L' := [some (.ref 602), some (.int (iI 0)), some (.int (iI 0))]) Q_X11_mayBits (k := 3) rfl (by decide) rfl ?_
  refine y_fg (zsb_c rfl (zsb_c rfl (zsb_c rfl zsb_e))) (v_X11_mayBits_4 d hB (fun l1x5 l2x5 zl1x5 zl2x5 h => ?_) 100000 0 0 ⟨by decide, by decide⟩ ⟨by decide, by decide⟩ h)
  refine z_iload_n Q_X11_mayBits (k := 25) rfl rfl ?_
  exact y_iret Q_X11_mayBits (k := 26) rfl rfl (qI_i zl1x5 h)
set_option maxHeartbeats 4000000 in
set_option maxRecDepth 20000 in
theorem v_X11_lowest_2 {S : zS} {V : qV} {J : qJ} {K : Int → Prop} {Q : Int → Prop} {kc ks : Nat} (d : Nat) (hB : qB S V) {l0 : Int} (z0 : zr l0) (hK : ∀ (l1 : Int), zr l1 → K l1 → Z M_X11_lowest d kc ks 16 [some (.int (iI l0)), some (.int (iI l1))] [] S (qi V) (qj J) (qP_i S V J Q)) : ∀ (f : Nat) (l1 : Int), zr l1 → lp_X11_lowest_2 l0 V K f l1 → Z M_X11_lowest d kc ks 2 [some (.int (iI l0)), some (.int (iI l1))] [] S (qi V) (qj J) (qP_i S V J Q) := by
  intro f
  induction f with
  | zero =>
    intro l1 z1 h
    exact h.elim
  | succ f ih =>
    intro l1 z1 h
    rw [lp_X11_lowest_2] at h
    refine z_iload_n Q_X11_lowest (k := 2) rfl rfl ?_
    refine z_iload_n Q_X11_lowest (k := 3) rfl rfl ?_
    refine y_ishr Q_X11_lowest (k := 4) rfl ?_
    refine y_iconst Q_X11_lowest (k := 5) rfl ?_
    refine y_iand Q_X11_lowest (k := 6) rfl ?_
    refine y_if_ne 16 Q_X11_lowest (k := 7) rfl (by decide) (zand_r _ _) (fun c => ?_) (fun c => ?_)
    · replace h := h.2 c
      exact y_fg (zsb_c rfl (zsb_c rfl zsb_e)) (hK l1 z1 h)
    · replace h := h.1 c
      obtain ⟨q1, h⟩ := h
      refine y_iinc (L' := [some (.int (iI l0)), some (.int (iI (l1 + 1)))]) Q_X11_lowest (k := 8) rfl (by decide) rfl rfl ?_
      refine z_goto (tgt := 2) Q_X11_lowest (k := 9) rfl (by decide) ?_
      exact y_fg (zsb_c rfl (zsb_c rfl zsb_e)) (ih (l1 + 1) q1 h)
set_option maxHeartbeats 4000000 in
set_option maxRecDepth 20000 in
theorem w_X11_lowest {S : zS} {V : qV} {J : qJ} {Q : Int → Prop} (d : Nat) (hB : qB S V) {a0 : Int} (z0 : zr a0) (h : W_X11_lowest a0 V Q) : Z M_X11_lowest d 0 0 0 [some (.int (iI a0)), none] [] S (qi V) (qj J) (qP_i S V J Q) := by
  unfold W_X11_lowest at h
  refine y_iconst Q_X11_lowest (k := 0) rfl ?_
  refine y_istore_n (L' := [some (.int (iI a0)), some (.int (iI 0))]) Q_X11_lowest (k := 1) rfl (by decide) rfl ?_
  refine y_fg (zsb_c rfl (zsb_c rfl zsb_e)) (v_X11_lowest_2 d hB z0 (fun l1x2 zl1x2 h => ?_) 100000 0 ⟨by decide, by decide⟩ h)
  refine z_iload_n Q_X11_lowest (k := 10) rfl rfl ?_
  exact y_iret Q_X11_lowest (k := 11) rfl rfl (qI_i zl1x2 h)
set_option maxHeartbeats 4000000 in
set_option maxRecDepth 20000 in
theorem w_X11_asks {S : zS} {V : qV} {J : qJ} {Q : Int → qV → Prop} (d : Nat) (hB : qB S V) {a1 : Int} (z1 : zr a1) {a2 : Int} (z2 : zr a2) (h : W_X11_asks a1 a2 V Q) : Z M_X11_asks (d + 2) 0 0 0 [some (.ref 602), some (.int (iI a1)), some (.int (iI a2))] [] S (qi V) (qj J) (qP_zV S J Q) := by
  unfold W_X11_asks at h
  refine z_aload_n Q_X11_asks (k := 0) rfl rfl ?_
  refine z_iload_n Q_X11_asks (k := 1) rfl rfl ?_
  refine q_callV1_zV Q_X11_asks (k := 2) rfl rfl K_X11_isFind V_X11_isFind L_X11_245 (n_ hB.1 rfl) (k_602 hB.1) (Nat.le_of_ble_eq_true rfl) (Nat.le_of_ble_eq_true rfl) rfl (Nat.zero_le _) (Nat.zero_le _) (w_X11_isFind d hB z1 h) (fun r1 V1 hB1 hz1 hb1 h => ?_)
  refine y_if_eq 21 Q_X11_asks (k := 3) rfl (by decide) hz1 (fun c => ?_) (fun c => ?_)
  · replace h := h.1 c
    refine y_iconst Q_X11_asks (k := 11) rfl ?_
    exact y_zret Q_X11_asks (k := 12) rfl rfl (Or.inl rfl) (qI_zV hB1 ⟨by decide, by decide⟩ (Or.inl rfl) h)
  · replace h := h.2 c
    refine z_aload_n Q_X11_asks (k := 4) rfl rfl ?_
    refine z_iload_n Q_X11_asks (k := 5) rfl rfl ?_
    refine y_iconst Q_X11_asks (k := 6) rfl ?_
    refine q_callV2_zV Q_X11_asks (k := 7) rfl rfl K_X11_isLaw V_X11_isLaw L_X11_258 (n_ hB1.1 rfl) (k_602 hB1.1) (Nat.le_of_ble_eq_true rfl) (Nat.le_of_ble_eq_true rfl) rfl (Nat.zero_le _) (Nat.zero_le _) (w_X11_isLaw d hB1 z2 ⟨by decide, by decide⟩ h) (fun r2 V2 hB2 hz2 hb2 h => ?_)
    refine y_if_eq 21 Q_X11_asks (k := 8) rfl (by decide) hz2 (fun c => ?_) (fun c => ?_)
    · replace h := h.1 c
      refine y_iconst Q_X11_asks (k := 11) rfl ?_
      exact y_zret Q_X11_asks (k := 12) rfl rfl (Or.inl rfl) (qI_zV hB2 ⟨by decide, by decide⟩ (Or.inl rfl) h)
    · replace h := h.2 c
      refine y_iconst Q_X11_asks (k := 9) rfl ?_
      refine z_goto (tgt := 22) Q_X11_asks (k := 10) rfl (by decide) ?_
      exact y_zret Q_X11_asks (k := 12) rfl rfl (Or.inr rfl) (qI_zV hB2 ⟨by decide, by decide⟩ (Or.inr rfl) h)
set_option maxHeartbeats 4000000 in
set_option maxRecDepth 20000 in
theorem w_X11_sure {S : zS} {V : qV} {J : qJ} {Q : Int → qV → Prop} (d : Nat) (hB : qB S V) {a1 : Int} (z1 : zr a1) {a2 : Int} (z2 : zr a2) (h : W_X11_sure a1 a2 V Q) : Z M_X11_sure (d + 3) 0 0 0 [some (.ref 602), some (.int (iI a1)), some (.int (iI a2)), none] [] S (qi V) (qj J) (qP_iV S J Q) := by
  unfold W_X11_sure at h
  refine z_aload_n Q_X11_sure (k := 0) rfl rfl ?_
  refine y_iconst Q_X11_sure (k := 1) rfl ?_
  refine q_putI (o := 602) (z := 0) Q_X11_sure (k := 2) rfl F_X11_1 rfl rfl rfl (n_ hB.1 rfl) (k_602 hB.1) ?_
  have hB1 := qB.u (a := 602) (j := 0) (x := 0) hB ⟨by decide, by decide⟩ (Or.inl (by decide))
  refine z_aload_n Q_X11_sure (k := 3) rfl rfl ?_
  refine z_iload_n Q_X11_sure (k := 4) rfl rfl ?_
  refine z_iload_n Q_X11_sure (k := 5) rfl rfl ?_
  refine q_callV2_zV Q_X11_sure (k := 6) rfl rfl K_X11_asks V_X11_asks L_X11_267 (n_ hB1.1 rfl) (k_602 hB1.1) (Nat.le_of_ble_eq_true rfl) (Nat.le_of_ble_eq_true rfl) rfl (Nat.zero_le _) (Nat.zero_le _) (w_X11_asks d hB1 z1 z2 h) (fun r2 V2 hB2 hz2 hb2 h => ?_)
  refine y_if_ne 16 Q_X11_sure (k := 7) rfl (by decide) hz2 (fun c => ?_) (fun c => ?_)
  · replace h := h.2 c
    refine z_aload_n Q_X11_sure (k := 10) rfl rfl ?_
    refine z_iload_n Q_X11_sure (k := 11) rfl rfl ?_
    refine z_iload_n Q_X11_sure (k := 12) rfl rfl ?_
    refine q_callV2_uV Q_X11_sure (k := 13) rfl rfl K_X11_findWho V_X11_findWho L_X11_270 (n_ hB2.1 rfl) (k_602 hB2.1) (Nat.le_of_ble_eq_true rfl) (Nat.le_of_ble_eq_true rfl) rfl (Nat.zero_le _) (Nat.zero_le _) (w_X11_findWho d hB2 z1 z2 h) (fun V3 hB3 h => ?_)
    refine z_aload_n Q_X11_sure (k := 14) rfl rfl ?_
    refine q_callV0_i Q_X11_sure (k := 15) rfl rfl K_X11_mayBits V_X11_mayBits L_X11_273 (n_ hB3.1 rfl) (k_602 hB3.1) (Nat.le_of_ble_eq_true rfl) (Nat.le_of_ble_eq_true rfl) rfl (Nat.zero_le _) (Nat.zero_le _) (w_X11_mayBits (d + 2) hB3  h) (fun r4 hz4 h => ?_)
    refine y_istore_n (L' := [some (.ref 602), some (.int (iI a1)), some (.int (iI a2)), some (.int (iI r4))]) Q_X11_sure (k := 16) rfl (by decide) rfl ?_
    refine z_iload_n Q_X11_sure (k := 17) rfl rfl ?_
    refine y_if_ne 36 Q_X11_sure (k := 18) rfl (by decide) hz4 (fun c => ?_) (fun c => ?_)
    · replace h := h.2 c
      refine z_iload_n Q_X11_sure (k := 21) rfl rfl ?_
      refine y_iconst Q_X11_sure (k := 22) rfl ?_
      refine z_iload_n Q_X11_sure (k := 23) rfl rfl ?_
      refine q_callS1_i Q_X11_sure (k := 24) rfl rfl K_X11_lowest S_X11_lowest L_X11_276 (Nat.le_of_ble_eq_true rfl) (Nat.le_of_ble_eq_true rfl) rfl (Nat.zero_le _) (Nat.zero_le _) (w_X11_lowest (d + 2) hB3 hz4 h) (fun r5 hz5 h => ?_)
      refine y_ishl Q_X11_sure (k := 25) rfl ?_
      refine y_icmp_ne 53 Q_X11_sure (k := 26) rfl (by decide) hz4 (zshl_r _ _) (fun c => ?_) (fun c => ?_)
      · replace h := h.2 c
        refine y_iconst Q_X11_sure (k := 30) rfl ?_
        exact y_iret Q_X11_sure (k := 31) rfl rfl (qI_iV hB3 ⟨by decide, by decide⟩ h)
      · replace h := h.1 c
        refine z_iload_n Q_X11_sure (k := 27) rfl rfl ?_
        refine q_callS1_i Q_X11_sure (k := 28) rfl rfl K_X11_lowest S_X11_lowest L_X11_276 (Nat.le_of_ble_eq_true rfl) (Nat.le_of_ble_eq_true rfl) rfl (Nat.zero_le _) (Nat.zero_le _) (w_X11_lowest (d + 2) hB3 hz4 h) (fun r6 hz6 h => ?_)
        refine z_goto (tgt := 54) Q_X11_sure (k := 29) rfl (by decide) ?_
        exact y_iret Q_X11_sure (k := 31) rfl rfl (qI_iV hB3 hz6 h)
    · replace h := h.1 c
      refine y_bipush Q_X11_sure (k := 19) rfl (by decide) ?_
      refine z_goto (tgt := 54) Q_X11_sure (k := 20) rfl (by decide) ?_
      exact y_iret Q_X11_sure (k := 31) rfl rfl (qI_iV hB3 ⟨by decide, by decide⟩ h)
  · replace h := h.1 c
    refine y_iconst Q_X11_sure (k := 8) rfl ?_
    exact y_iret Q_X11_sure (k := 9) rfl rfl (qI_iV hB2 ⟨by decide, by decide⟩ h)
set_option maxHeartbeats 4000000 in
set_option maxRecDepth 20000 in
theorem w_X11_may_ {S : zS} {V : qV} {J : qJ} {Q : Int → qV → Prop} (d : Nat) (hB : qB S V) {a1 : Int} (z1 : zr a1) {a2 : Int} (z2 : zr a2) (h : W_X11_may_ a1 a2 V Q) : Z M_X11_may_ (d + 3) 0 0 0 [some (.ref 602), some (.int (iI a1)), some (.int (iI a2))] [] S (qi V) (qj J) (qP_iV S J Q) := by
  unfold W_X11_may_ at h
  refine z_aload_n Q_X11_may_ (k := 0) rfl rfl ?_
  refine y_iconst Q_X11_may_ (k := 1) rfl ?_
  refine q_putI (o := 602) (z := 0) Q_X11_may_ (k := 2) rfl F_X11_1 rfl rfl rfl (n_ hB.1 rfl) (k_602 hB.1) ?_
  have hB1 := qB.u (a := 602) (j := 0) (x := 0) hB ⟨by decide, by decide⟩ (Or.inl (by decide))
  refine z_aload_n Q_X11_may_ (k := 3) rfl rfl ?_
  refine z_iload_n Q_X11_may_ (k := 4) rfl rfl ?_
  refine z_iload_n Q_X11_may_ (k := 5) rfl rfl ?_
  refine q_callV2_zV Q_X11_may_ (k := 6) rfl rfl K_X11_asks V_X11_asks L_X11_267 (n_ hB1.1 rfl) (k_602 hB1.1) (Nat.le_of_ble_eq_true rfl) (Nat.le_of_ble_eq_true rfl) rfl (Nat.zero_le _) (Nat.zero_le _) (w_X11_asks d hB1 z1 z2 h) (fun r2 V2 hB2 hz2 hb2 h => ?_)
  refine y_if_ne 16 Q_X11_may_ (k := 7) rfl (by decide) hz2 (fun c => ?_) (fun c => ?_)
  · replace h := h.2 c
    refine z_aload_n Q_X11_may_ (k := 10) rfl rfl ?_
    refine z_iload_n Q_X11_may_ (k := 11) rfl rfl ?_
    refine z_iload_n Q_X11_may_ (k := 12) rfl rfl ?_
    refine q_callV2_uV Q_X11_may_ (k := 13) rfl rfl K_X11_findWho V_X11_findWho L_X11_270 (n_ hB2.1 rfl) (k_602 hB2.1) (Nat.le_of_ble_eq_true rfl) (Nat.le_of_ble_eq_true rfl) rfl (Nat.zero_le _) (Nat.zero_le _) (w_X11_findWho d hB2 z1 z2 h) (fun V3 hB3 h => ?_)
    refine z_aload_n Q_X11_may_ (k := 14) rfl rfl ?_
    refine q_callV0_i Q_X11_may_ (k := 15) rfl rfl K_X11_mayBits V_X11_mayBits L_X11_273 (n_ hB3.1 rfl) (k_602 hB3.1) (Nat.le_of_ble_eq_true rfl) (Nat.le_of_ble_eq_true rfl) rfl (Nat.zero_le _) (Nat.zero_le _) (w_X11_mayBits (d + 2) hB3  h) (fun r4 hz4 h => ?_)
    exact y_iret Q_X11_may_ (k := 16) rfl rfl (qI_iV hB3 hz4 h)
  · replace h := h.1 c
    refine y_iconst Q_X11_may_ (k := 8) rfl ?_
    exact y_iret Q_X11_may_ (k := 9) rfl rfl (qI_iV hB2 ⟨by decide, by decide⟩ h)
set_option maxHeartbeats 4000000 in
set_option maxRecDepth 20000 in
theorem v_X11_part_42 {S : zS} {V : qV} {J : qJ} {K : Int64 → Int → Prop} {Q : Int64 → qV → Prop} {kc ks : Nat} (d : Nat) (hB : qB S V) {l3 : Int} (z3 : zr l3) (hK : ∀ (l4 : Int64) (l6 : Int), zr l6 → K l4 l6 → Z M_X11_part (d + 3) kc ks 92 [some (.ref 602), none, none, some (.int (iI l3)), some (.long l4), none, some (.int (iI l6))] [] S (qi V) (qj J) (qP_lV S J Q)) : ∀ (f : Nat) (l4 : Int64) (l6 : Int), zr l6 → lp_X11_part_42 l3 V K f l4 l6 → Z M_X11_part (d + 3) kc ks 42 [some (.ref 602), none, none, some (.int (iI l3)), some (.long l4), none, some (.int (iI l6))] [] S (qi V) (qj J) (qP_lV S J Q) := by
  intro f
  induction f with
  | zero =>
    intro l4 l6 z6 h
    exact h.elim
  | succ f ih =>
    intro l4 l6 z6 h
    rw [lp_X11_part_42] at h
    refine z_iload Q_X11_part (k := 26) rfl rfl ?_
    refine y_sipush Q_X11_part (k := 27) rfl (by decide) ?_
    refine y_icmp_ge 92 Q_X11_part (k := 28) rfl (by decide) z6 ⟨by decide, by decide⟩ (fun c => ?_) (fun c => ?_)
    · replace h := h.1 c
      exact y_fg (zsb_c rfl (zsb_n (zsb_n (zsb_c rfl (zsb_c rfl (zsb_n (zsb_c rfl zsb_e))))))) (hK l4 l6 z6 h)
    · replace h := h.2 c
      refine z_lload Q_X11_part (k := 29) rfl rfl ?_
      refine z_aload_n Q_X11_part (k := 30) rfl rfl ?_
      refine z_getR (b := 616) Q_X11_part (k := 31) rfl F_X11_56 rfl (n_ hB.1 rfl) (k_602 hB.1) (r_602_24 hB.1) ?_
      refine z_iload Q_X11_part (k := 32) rfl rfl ?_
      obtain ⟨q6, h⟩ := h
      refine q_zald (o := 616) (N := 1024) Q_X11_part (k := 33) rfl rfl (n_ hB.1 rfl) (k_616 hB.1) rfl q6 (by decide) ?_
      refine y_if_eq 82 Q_X11_part (k := 34) rfl (by decide) (hB.2.1 _ _) (fun c => ?_) (fun c => ?_)
      · replace h := h.1 c
        refine z_lconst_ Q_X11_part (k := 45) rfl (v := 0) rfl ?_
        refine z_ladd Q_X11_part (k := 46) rfl ?_
        refine y_lstore (L' := [some (.ref 602), none, none, some (.int (iI l3)), some (.long (l4 + 0)), none, some (.int (iI l6))]) Q_X11_part (k := 47) rfl (by decide) rfl ?_
        obtain ⟨q7, h⟩ := h
        refine y_iinc (L' := [some (.ref 602), none, none, some (.int (iI l3)), some (.long (l4 + 0)), none, some (.int (iI (l6 + 1)))]) Q_X11_part (k := 48) rfl (by decide) rfl rfl ?_
        refine z_goto (tgt := 42) Q_X11_part (k := 49) rfl (by decide) ?_
        exact y_fg (zsb_c rfl (zsb_n (zsb_n (zsb_c rfl (zsb_c rfl (zsb_n (zsb_c rfl zsb_e))))))) (ih (l4 + 0) (l6 + 1) q7 h)
      · replace h := h.2 c
        refine z_aload_n Q_X11_part (k := 35) rfl rfl ?_
        refine z_getR (b := 617) Q_X11_part (k := 36) rfl F_X11_60 rfl (n_ hB.1 rfl) (k_602 hB.1) (r_602_26 hB.1) ?_
        refine z_iload Q_X11_part (k := 37) rfl rfl ?_
        obtain ⟨q8, h⟩ := h
        refine q_iald (o := 617) (N := 1024) Q_X11_part (k := 38) rfl rfl (n_ hB.1 rfl) (k_617 hB.1) rfl q8 (by decide) ?_
        refine z_iload_n Q_X11_part (k := 39) rfl rfl ?_
        refine y_icmp_ne 82 Q_X11_part (k := 40) rfl (by decide) (hB.2.1 _ _) z3 (fun c => ?_) (fun c => ?_)
        · replace h := h.2 c
          refine z_lconst_ Q_X11_part (k := 45) rfl (v := 0) rfl ?_
          refine z_ladd Q_X11_part (k := 46) rfl ?_
          refine y_lstore (L' := [some (.ref 602), none, none, some (.int (iI l3)), some (.long (l4 + 0)), none, some (.int (iI l6))]) Q_X11_part (k := 47) rfl (by decide) rfl ?_
          obtain ⟨q9, h⟩ := h
          refine y_iinc (L' := [some (.ref 602), none, none, some (.int (iI l3)), some (.long (l4 + 0)), none, some (.int (iI (l6 + 1)))]) Q_X11_part (k := 48) rfl (by decide) rfl rfl ?_
          refine z_goto (tgt := 42) Q_X11_part (k := 49) rfl (by decide) ?_
          exact y_fg (zsb_c rfl (zsb_n (zsb_n (zsb_c rfl (zsb_c rfl (zsb_n (zsb_c rfl zsb_e))))))) (ih (l4 + 0) (l6 + 1) q9 h)
        · replace h := h.1 c
          refine z_aload_n Q_X11_part (k := 41) rfl rfl ?_
          refine z_iload Q_X11_part (k := 42) rfl rfl ?_
          refine q_callV1_l Q_X11_part (k := 43) rfl rfl K_X11_weightOf V_X11_weightOf L_X11_216 (n_ hB.1 rfl) (k_602 hB.1) (Nat.le_of_ble_eq_true rfl) (Nat.le_of_ble_eq_true rfl) rfl (Nat.zero_le _) (Nat.zero_le _) (w_X11_weightOf (d + 2) hB z6 h) (fun r10 h => ?_)
          refine z_goto (tgt := 83) Q_X11_part (k := 44) rfl (by decide) ?_
          refine z_ladd Q_X11_part (k := 46) rfl ?_
          refine y_lstore (L' := [some (.ref 602), none, none, some (.int (iI l3)), some (.long (l4 + r10)), none, some (.int (iI l6))]) Q_X11_part (k := 47) rfl (by decide) rfl ?_
          obtain ⟨q11, h⟩ := h
          refine y_iinc (L' := [some (.ref 602), none, none, some (.int (iI l3)), some (.long (l4 + r10)), none, some (.int (iI (l6 + 1)))]) Q_X11_part (k := 48) rfl (by decide) rfl rfl ?_
          refine z_goto (tgt := 42) Q_X11_part (k := 49) rfl (by decide) ?_
          exact y_fg (zsb_c rfl (zsb_n (zsb_n (zsb_c rfl (zsb_c rfl (zsb_n (zsb_c rfl zsb_e))))))) (ih (l4 + r10) (l6 + 1) q11 h)
set_option maxHeartbeats 4000000 in
set_option maxRecDepth 20000 in
theorem w_X11_part {S : zS} {V : qV} {J : qJ} {Q : Int64 → qV → Prop} (d : Nat) (hB : qB S V) {a1 : Int} (z1 : zr a1) {a2 : Int} (z2 : zr a2) {a3 : Int} (z3 : zr a3) (h : W_X11_part a1 a2 a3 V Q) : Z M_X11_part (d + 3) 0 0 0 [some (.ref 602), some (.int (iI a1)), some (.int (iI a2)), some (.int (iI a3)), none, none, none] [] S (qi V) (qj J) (qP_lV S J Q) := by
  unfold W_X11_part at h
  refine z_aload_n Q_X11_part (k := 0) rfl rfl ?_
  refine y_iconst Q_X11_part (k := 1) rfl ?_
  refine q_putI (o := 602) (z := 0) Q_X11_part (k := 2) rfl F_X11_1 rfl rfl rfl (n_ hB.1 rfl) (k_602 hB.1) ?_
  have hB1 := qB.u (a := 602) (j := 0) (x := 0) hB ⟨by decide, by decide⟩ (Or.inl (by decide))
  refine z_aload_n Q_X11_part (k := 3) rfl rfl ?_
  refine z_iload_n Q_X11_part (k := 4) rfl rfl ?_
  refine z_iload_n Q_X11_part (k := 5) rfl rfl ?_
  refine q_callV2_zV Q_X11_part (k := 6) rfl rfl K_X11_asks V_X11_asks L_X11_267 (n_ hB1.1 rfl) (k_602 hB1.1) (Nat.le_of_ble_eq_true rfl) (Nat.le_of_ble_eq_true rfl) rfl (Nat.zero_le _) (Nat.zero_le _) (w_X11_asks d hB1 z1 z2 h) (fun r2 V2 hB2 hz2 hb2 h => ?_)
  refine y_if_eq 28 Q_X11_part (k := 7) rfl (by decide) hz2 (fun c => ?_) (fun c => ?_)
  · replace h := h.1 c
    refine z_lconst_ Q_X11_part (k := 16) rfl (v := 0) rfl ?_
    exact z_lret Q_X11_part (k := 17) rfl rfl (qI_lV hB2 h)
  · replace h := h.2 c
    refine z_aload_n Q_X11_part (k := 8) rfl rfl ?_
    refine z_iload_n Q_X11_part (k := 9) rfl rfl ?_
    refine y_iconst Q_X11_part (k := 10) rfl ?_
    refine y_iconst Q_X11_part (k := 11) rfl ?_
    refine q_callS3_z Q_X11_part (k := 12) rfl rfl K_X11_within S_X11_within L_X11_207 (Nat.le_of_ble_eq_true rfl) (Nat.le_of_ble_eq_true rfl) rfl (Nat.zero_le _) (Nat.zero_le _) (w_X11_within (d + 2) hB2 z3 ⟨by decide, by decide⟩ ⟨by decide, by decide⟩ h) (fun r3 hz3 hb3 h => ?_)
    refine y_iconst Q_X11_part (k := 13) rfl ?_
    refine q_callV2_zV Q_X11_part (k := 14) rfl rfl K_X11_may V_X11_may L_X11_187 (n_ hB2.1 rfl) (k_602 hB2.1) (Nat.le_of_ble_eq_true rfl) (Nat.le_of_ble_eq_true rfl) rfl (Nat.zero_le _) (Nat.zero_le _) (w_X11_may (d + 2) hB2 hz3 hb3 ⟨by decide, by decide⟩ h) (fun r4 V4 hB4 hz4 hb4 h => ?_)
    refine y_if_ne 30 Q_X11_part (k := 15) rfl (by decide) hz4 (fun c => ?_) (fun c => ?_)
    · replace h := h.2 c
      refine z_aload_n Q_X11_part (k := 18) rfl rfl ?_
      refine z_iload_n Q_X11_part (k := 19) rfl rfl ?_
      refine z_iload_n Q_X11_part (k := 20) rfl rfl ?_
      refine q_callV2_uV Q_X11_part (k := 21) rfl rfl K_X11_findWho V_X11_findWho L_X11_270 (n_ hB4.1 rfl) (k_602 hB4.1) (Nat.le_of_ble_eq_true rfl) (Nat.le_of_ble_eq_true rfl) rfl (Nat.zero_le _) (Nat.zero_le _) (w_X11_findWho d hB4 z1 z2 h) (fun V5 hB5 h => ?_)
      refine z_lconst_ Q_X11_part (k := 22) rfl (v := 0) rfl ?_
      refine y_lstore (L' := [some (.ref 602), some (.int (iI a1)), some (.int (iI a2)), some (.int (iI a3)), some (.long 0), none, none]) Q_X11_part (k := 23) rfl (by decide) rfl ?_
      refine y_iconst Q_X11_part (k := 24) rfl ?_
      refine y_istore (L' := [some (.ref 602), some (.int (iI a1)), some (.int (iI a2)), some (.int (iI a3)), some (.long 0), none, some (.int (iI 0))]) Q_X11_part (k := 25) rfl (by decide) rfl ?_
      refine y_fg (zsb_c rfl (zsb_n (zsb_n (zsb_c rfl (zsb_c rfl (zsb_n (zsb_c rfl zsb_e))))))) (v_X11_part_42 d hB5 z3 (fun l4x12 l6x12 zl6x12 h => ?_) 100000 0 0 ⟨by decide, by decide⟩ h)
      refine z_lload Q_X11_part (k := 50) rfl rfl ?_
      exact z_lret Q_X11_part (k := 51) rfl rfl (qI_lV hB5 h)
    · replace h := h.1 c
      refine z_lconst_ Q_X11_part (k := 16) rfl (v := 0) rfl ?_
      exact z_lret Q_X11_part (k := 17) rfl rfl (qI_lV hB4 h)
set_option maxHeartbeats 4000000 in
set_option maxRecDepth 20000 in
theorem v_X11_hangs_37 {S : zS} {V : qV} {J : qJ} {K : Int → Int → Prop} {Q : Int → qV → Prop} {kc ks : Nat} (d : Nat) (hB : qB S V) {l4 : Int} (z4 : zr l4) (hK : ∀ (l3 : Int) (l5 : Int), zr l3 → zr l5 → K l3 l5 → Z M_X11_hangs (d + 3) kc ks 117 [some (.ref 602), none, none, some (.int (iI l3)), some (.int (iI l4)), some (.int (iI l5)), none] [] S (qi V) (qj J) (qP_iV S J Q)) : ∀ (f : Nat) (l3 : Int) (l5 : Int), zr l3 → zr l5 → lp_X11_hangs_37 l4 V K f l3 l5 → Z M_X11_hangs (d + 3) kc ks 37 [some (.ref 602), none, none, some (.int (iI l3)), some (.int (iI l4)), some (.int (iI l5)), none] [] S (qi V) (qj J) (qP_iV S J Q) := by
  intro f
  induction f with
  | zero =>
    intro l3 l5 z3 z5 h
    exact h.elim
  | succ f ih =>
    intro l3 l5 z3 z5 h
    rw [lp_X11_hangs_37] at h
    refine z_iload Q_X11_hangs (k := 23) rfl rfl ?_
    refine y_sipush Q_X11_hangs (k := 24) rfl (by decide) ?_
    refine y_icmp_ge 117 Q_X11_hangs (k := 25) rfl (by decide) z5 ⟨by decide, by decide⟩ (fun c => ?_) (fun c => ?_)
    · replace h := h.1 c
      exact y_fg (zsb_c rfl (zsb_n (zsb_n (zsb_c rfl (zsb_c rfl (zsb_c rfl (zsb_n zsb_e))))))) (hK l3 l5 z3 z5 h)
    · replace h := h.2 c
      refine z_aload_n Q_X11_hangs (k := 26) rfl rfl ?_
      refine z_getR (b := 603) Q_X11_hangs (k := 27) rfl F_X11_13 rfl (n_ hB.1 rfl) (k_602 hB.1) (r_602_1 hB.1) ?_
      refine y_iconst Q_X11_hangs (k := 28) rfl ?_
      refine z_iload Q_X11_hangs (k := 29) rfl rfl ?_
      obtain ⟨q4, h⟩ := h
      refine y_iadd Q_X11_hangs (k := 30) rfl ?_
      obtain ⟨q5, h⟩ := h
      refine q_iald (o := 603) (N := 594) Q_X11_hangs (k := 31) rfl rfl (n_ hB.1 rfl) (k_603 hB.1) rfl q5 (by decide) ?_
      refine y_iconst Q_X11_hangs (k := 32) rfl ?_
      refine y_icmp_ne 117 Q_X11_hangs (k := 33) rfl (by decide) (hB.2.1 _ _) ⟨by decide, by decide⟩ (fun c => ?_) (fun c => ?_)
      · replace h := h.2 c
        exact y_fg (zsb_c rfl (zsb_n (zsb_n (zsb_c rfl (zsb_c rfl (zsb_c rfl (zsb_n zsb_e))))))) (hK l3 l5 z3 z5 h)
      · replace h := h.1 c
        refine z_iload Q_X11_hangs (k := 34) rfl rfl ?_
        refine y_iconst Q_X11_hangs (k := 35) rfl ?_
        refine z_iload Q_X11_hangs (k := 36) rfl rfl ?_
        refine y_ishl Q_X11_hangs (k := 37) rfl ?_
        refine y_ixor Q_X11_hangs (k := 38) rfl ?_
        refine y_istore (L' := [some (.ref 602), none, none, some (.int (iI l3)), some (.int (iI l4)), some (.int (iI l5)), some (.int (iI (zxor l5 (zshl 1 l4))))]) Q_X11_hangs (k := 39) rfl (by decide) rfl ?_
        refine z_aload_n Q_X11_hangs (k := 40) rfl rfl ?_
        refine z_getR (b := 616) Q_X11_hangs (k := 41) rfl F_X11_56 rfl (n_ hB.1 rfl) (k_602 hB.1) (r_602_24 hB.1) ?_
        refine z_iload Q_X11_hangs (k := 42) rfl rfl ?_
        obtain ⟨q6, h⟩ := h
        refine q_zald (o := 616) (N := 1024) Q_X11_hangs (k := 43) rfl rfl (n_ hB.1 rfl) (k_616 hB.1) rfl q6 (by decide) ?_
        refine y_if_eq 111 Q_X11_hangs (k := 44) rfl (by decide) (hB.2.1 _ _) (fun c => ?_) (fun c => ?_)
        · replace h := h.1 c
          obtain ⟨q7, h⟩ := h
          refine y_iinc (L' := [some (.ref 602), none, none, some (.int (iI l3)), some (.int (iI l4)), some (.int (iI (l5 + 1))), some (.int (iI (zxor l5 (zshl 1 l4))))]) Q_X11_hangs (k := 65) rfl (by decide) rfl rfl ?_
          refine z_goto (tgt := 37) Q_X11_hangs (k := 66) rfl (by decide) ?_
          exact y_fg (zsb_c rfl (zsb_n (zsb_n (zsb_c rfl (zsb_c rfl (zsb_c rfl (zsb_n zsb_e))))))) (ih l3 (l5 + 1) z3 q7 h)
        · replace h := h.2 c
          refine z_aload_n Q_X11_hangs (k := 45) rfl rfl ?_
          refine z_getR (b := 616) Q_X11_hangs (k := 46) rfl F_X11_56 rfl (n_ hB.1 rfl) (k_602 hB.1) (r_602_24 hB.1) ?_
          refine z_iload Q_X11_hangs (k := 47) rfl rfl ?_
          obtain ⟨q8, h⟩ := h
          refine q_zald (o := 616) (N := 1024) Q_X11_hangs (k := 48) rfl rfl (n_ hB.1 rfl) (k_616 hB.1) rfl q8 (by decide) ?_
          refine y_if_eq 111 Q_X11_hangs (k := 49) rfl (by decide) (hB.2.1 _ _) (fun c => ?_) (fun c => ?_)
          · replace h := h.1 c
            obtain ⟨q9, h⟩ := h
            refine y_iinc (L' := [some (.ref 602), none, none, some (.int (iI l3)), some (.int (iI l4)), some (.int (iI (l5 + 1))), some (.int (iI (zxor l5 (zshl 1 l4))))]) Q_X11_hangs (k := 65) rfl (by decide) rfl rfl ?_
            refine z_goto (tgt := 37) Q_X11_hangs (k := 66) rfl (by decide) ?_
            exact y_fg (zsb_c rfl (zsb_n (zsb_n (zsb_c rfl (zsb_c rfl (zsb_c rfl (zsb_n zsb_e))))))) (ih l3 (l5 + 1) z3 q9 h)
          · replace h := h.2 c
            refine z_aload_n Q_X11_hangs (k := 50) rfl rfl ?_
            refine z_getR (b := 617) Q_X11_hangs (k := 51) rfl F_X11_60 rfl (n_ hB.1 rfl) (k_602 hB.1) (r_602_26 hB.1) ?_
            refine z_iload Q_X11_hangs (k := 52) rfl rfl ?_
            obtain ⟨q10, h⟩ := h
            refine q_iald (o := 617) (N := 1024) Q_X11_hangs (k := 53) rfl rfl (n_ hB.1 rfl) (k_617 hB.1) rfl q10 (by decide) ?_
            refine z_aload_n Q_X11_hangs (k := 54) rfl rfl ?_
            refine z_getR (b := 617) Q_X11_hangs (k := 55) rfl F_X11_60 rfl (n_ hB.1 rfl) (k_602 hB.1) (r_602_26 hB.1) ?_
            refine z_iload Q_X11_hangs (k := 56) rfl rfl ?_
            obtain ⟨q11, h⟩ := h
            refine q_iald (o := 617) (N := 1024) Q_X11_hangs (k := 57) rfl rfl (n_ hB.1 rfl) (k_617 hB.1) rfl q11 (by decide) ?_
            refine y_icmp_eq 111 Q_X11_hangs (k := 58) rfl (by decide) (hB.2.1 _ _) (hB.2.1 _ _) (fun c => ?_) (fun c => ?_)
            · replace h := h.1 c
              obtain ⟨q12, h⟩ := h
              refine y_iinc (L' := [some (.ref 602), none, none, some (.int (iI l3)), some (.int (iI l4)), some (.int (iI (l5 + 1))), some (.int (iI (zxor l5 (zshl 1 l4))))]) Q_X11_hangs (k := 65) rfl (by decide) rfl rfl ?_
              refine z_goto (tgt := 37) Q_X11_hangs (k := 66) rfl (by decide) ?_
              exact y_fg (zsb_c rfl (zsb_n (zsb_n (zsb_c rfl (zsb_c rfl (zsb_c rfl (zsb_n zsb_e))))))) (ih l3 (l5 + 1) z3 q12 h)
            · replace h := h.2 c
              refine z_iload_n Q_X11_hangs (k := 59) rfl rfl ?_
              refine y_iconst Q_X11_hangs (k := 60) rfl ?_
              refine z_iload Q_X11_hangs (k := 61) rfl rfl ?_
              refine y_ishl Q_X11_hangs (k := 62) rfl ?_
              refine y_ior Q_X11_hangs (k := 63) rfl ?_
              refine y_istore_n (L' := [some (.ref 602), none, none, some (.int (iI (zor l3 (zshl 1 l4)))), some (.int (iI l4)), some (.int (iI l5)), some (.int (iI (zxor l5 (zshl 1 l4))))]) Q_X11_hangs (k := 64) rfl (by decide) rfl ?_
              obtain ⟨q13, h⟩ := h
              refine y_iinc (L' := [some (.ref 602), none, none, some (.int (iI (zor l3 (zshl 1 l4)))), some (.int (iI l4)), some (.int (iI (l5 + 1))), some (.int (iI (zxor l5 (zshl 1 l4))))]) Q_X11_hangs (k := 65) rfl (by decide) rfl rfl ?_
              refine z_goto (tgt := 37) Q_X11_hangs (k := 66) rfl (by decide) ?_
              exact y_fg (zsb_c rfl (zsb_n (zsb_n (zsb_c rfl (zsb_c rfl (zsb_c rfl (zsb_n zsb_e))))))) (ih (zor l3 (zshl 1 l4)) (l5 + 1) (zor_r _ _) q13 h)
set_option maxHeartbeats 4000000 in
set_option maxRecDepth 20000 in
theorem v_X11_hangs_27 {S : zS} {V : qV} {J : qJ} {K : Int → Int → Prop} {Q : Int → qV → Prop} {kc ks : Nat} (d : Nat) (hB : qB S V) (hK : ∀ (l3 : Int) (l4 : Int), zr l3 → zr l4 → K l3 l4 → Z M_X11_hangs (d + 3) kc ks 123 [some (.ref 602), none, none, some (.int (iI l3)), some (.int (iI l4)), none, none] [] S (qi V) (qj J) (qP_iV S J Q)) : ∀ (f : Nat) (l3 : Int) (l4 : Int), zr l3 → zr l4 → lp_X11_hangs_27 V K f l3 l4 → Z M_X11_hangs (d + 3) kc ks 27 [some (.ref 602), none, none, some (.int (iI l3)), some (.int (iI l4)), none, none] [] S (qi V) (qj J) (qP_iV S J Q) := by
  intro f
  induction f with
  | zero =>
    intro l3 l4 z3 z4 h
    exact h.elim
  | succ f ih =>
    intro l3 l4 z3 z4 h
    rw [lp_X11_hangs_27] at h
    refine z_iload Q_X11_hangs (k := 18) rfl rfl ?_
    refine y_bipush Q_X11_hangs (k := 19) rfl (by decide) ?_
    refine y_icmp_ge 123 Q_X11_hangs (k := 20) rfl (by decide) z4 ⟨by decide, by decide⟩ (fun c => ?_) (fun c => ?_)
    · replace h := h.1 c
      exact y_fg (zsb_c rfl (zsb_n (zsb_n (zsb_c rfl (zsb_c rfl (zsb_n (zsb_n zsb_e))))))) (hK l3 l4 z3 z4 h)
    · replace h := h.2 c
      refine y_iconst Q_X11_hangs (k := 21) rfl ?_
      refine y_istore (L' := [some (.ref 602), none, none, some (.int (iI l3)), some (.int (iI l4)), some (.int (iI 0)), none]) Q_X11_hangs (k := 22) rfl (by decide) rfl ?_
      refine y_fg (zsb_c rfl (zsb_n (zsb_n (zsb_c rfl (zsb_c rfl (zsb_c rfl (zsb_n zsb_e))))))) (v_X11_hangs_37 d hB z4 (fun l3x14 l5x14 zl3x14 zl5x14 h => ?_) 100000 l3 0 z3 ⟨by decide, by decide⟩ h)
      obtain ⟨q15, h⟩ := h
      refine y_iinc (L' := [some (.ref 602), none, none, some (.int (iI l3x14)), some (.int (iI (l4 + 1))), some (.int (iI l5x14)), none]) Q_X11_hangs (k := 67) rfl (by decide) rfl rfl ?_
      refine z_goto (tgt := 27) Q_X11_hangs (k := 68) rfl (by decide) ?_
      exact y_fg (zsb_c rfl (zsb_n (zsb_n (zsb_c rfl (zsb_c rfl (zsb_n (zsb_n zsb_e))))))) (ih l3x14 (l4 + 1) zl3x14 q15 h)
set_option maxHeartbeats 4000000 in
set_option maxRecDepth 20000 in
theorem w_X11_hangs {S : zS} {V : qV} {J : qJ} {Q : Int → qV → Prop} (d : Nat) (hB : qB S V) {a1 : Int} (z1 : zr a1) {a2 : Int} (z2 : zr a2) (h : W_X11_hangs a1 a2 V Q) : Z M_X11_hangs (d + 3) 0 0 0 [some (.ref 602), some (.int (iI a1)), some (.int (iI a2)), none, none, none, none] [] S (qi V) (qj J) (qP_iV S J Q) := by
  unfold W_X11_hangs at h
  refine z_aload_n Q_X11_hangs (k := 0) rfl rfl ?_
  refine y_iconst Q_X11_hangs (k := 1) rfl ?_
  refine q_putI (o := 602) (z := 0) Q_X11_hangs (k := 2) rfl F_X11_1 rfl rfl rfl (n_ hB.1 rfl) (k_602 hB.1) ?_
  have hB1 := qB.u (a := 602) (j := 0) (x := 0) hB ⟨by decide, by decide⟩ (Or.inl (by decide))
  refine z_aload_n Q_X11_hangs (k := 3) rfl rfl ?_
  refine z_iload_n Q_X11_hangs (k := 4) rfl rfl ?_
  refine z_iload_n Q_X11_hangs (k := 5) rfl rfl ?_
  refine q_callV2_zV Q_X11_hangs (k := 6) rfl rfl K_X11_asks V_X11_asks L_X11_267 (n_ hB1.1 rfl) (k_602 hB1.1) (Nat.le_of_ble_eq_true rfl) (Nat.le_of_ble_eq_true rfl) rfl (Nat.zero_le _) (Nat.zero_le _) (w_X11_asks d hB1 z1 z2 h) (fun r2 V2 hB2 hz2 hb2 h => ?_)
  refine y_if_ne 16 Q_X11_hangs (k := 7) rfl (by decide) hz2 (fun c => ?_) (fun c => ?_)
  · replace h := h.2 c
    refine z_aload_n Q_X11_hangs (k := 10) rfl rfl ?_
    refine z_iload_n Q_X11_hangs (k := 11) rfl rfl ?_
    refine z_iload_n Q_X11_hangs (k := 12) rfl rfl ?_
    refine q_callV2_uV Q_X11_hangs (k := 13) rfl rfl K_X11_findWho V_X11_findWho L_X11_270 (n_ hB2.1 rfl) (k_602 hB2.1) (Nat.le_of_ble_eq_true rfl) (Nat.le_of_ble_eq_true rfl) rfl (Nat.zero_le _) (Nat.zero_le _) (w_X11_findWho d hB2 z1 z2 h) (fun V3 hB3 h => ?_)
    refine y_iconst Q_X11_hangs (k := 14) rfl ?_
    refine y_istore_n (L' := [some (.ref 602), some (.int (iI a1)), some (.int (iI a2)), some (.int (iI 0)), none, none, none]) Q_X11_hangs (k := 15) rfl (by decide) rfl ?_
    refine y_iconst Q_X11_hangs (k := 16) rfl ?_
    refine y_istore (L' := [some (.ref 602), some (.int (iI a1)), some (.int (iI a2)), some (.int (iI 0)), some (.int (iI 0)), none, none]) Q_X11_hangs (k := 17) rfl (by decide) rfl ?_
    refine y_fg (zsb_c rfl (zsb_n (zsb_n (zsb_c rfl (zsb_c rfl (zsb_n (zsb_n zsb_e))))))) (v_X11_hangs_27 d hB3 (fun l3x16 l4x16 zl3x16 zl4x16 h => ?_) 100000 0 0 ⟨by decide, by decide⟩ ⟨by decide, by decide⟩ h)
    refine z_iload_n Q_X11_hangs (k := 69) rfl rfl ?_
    exact y_iret Q_X11_hangs (k := 70) rfl rfl (qI_iV hB3 zl3x16 h)
  · replace h := h.1 c
    refine y_iconst Q_X11_hangs (k := 8) rfl ?_
    exact y_iret Q_X11_hangs (k := 9) rfl rfl (qI_iV hB2 ⟨by decide, by decide⟩ h)
set_option maxHeartbeats 4000000 in
set_option maxRecDepth 20000 in
theorem v_X11_openBits_4 {S : zS} {V : qV} {J : qJ} {K : Int → Int → Prop} {Q : Int → Prop} {kc ks : Nat} (d : Nat) (hB : qB S V) (hK : ∀ (l1 : Int) (l2 : Int), zr l1 → zr l2 → K l1 l2 → Z M_X11_openBits d kc ks 38 [some (.ref 602), some (.int (iI l1)), some (.int (iI l2))] [] S (qi V) (qj J) (qP_i S V J Q)) : ∀ (f : Nat) (l1 : Int) (l2 : Int), zr l1 → zr l2 → lp_X11_openBits_4 V K f l1 l2 → Z M_X11_openBits d kc ks 4 [some (.ref 602), some (.int (iI l1)), some (.int (iI l2))] [] S (qi V) (qj J) (qP_i S V J Q) := by
  intro f
  induction f with
  | zero =>
    intro l1 l2 z1 z2 h
    exact h.elim
  | succ f ih =>
    intro l1 l2 z1 z2 h
    rw [lp_X11_openBits_4] at h
    refine z_iload_n Q_X11_openBits (k := 4) rfl rfl ?_
    refine y_bipush Q_X11_openBits (k := 5) rfl (by decide) ?_
    refine y_icmp_ge 38 Q_X11_openBits (k := 6) rfl (by decide) z2 ⟨by decide, by decide⟩ (fun c => ?_) (fun c => ?_)
    · replace h := h.1 c
      exact y_fg (zsb_c rfl (zsb_c rfl (zsb_c rfl zsb_e))) (hK l1 l2 z1 z2 h)
    · replace h := h.2 c
      refine z_iload_n Q_X11_openBits (k := 7) rfl rfl ?_
      refine z_aload_n Q_X11_openBits (k := 8) rfl rfl ?_
      refine z_getR (b := 603) Q_X11_openBits (k := 9) rfl F_X11_13 rfl (n_ hB.1 rfl) (k_602 hB.1) (r_602_1 hB.1) ?_
      refine y_iconst Q_X11_openBits (k := 10) rfl ?_
      refine z_iload_n Q_X11_openBits (k := 11) rfl rfl ?_
      obtain ⟨q1, h⟩ := h
      refine y_iadd Q_X11_openBits (k := 12) rfl ?_
      obtain ⟨q2, h⟩ := h
      refine q_iald (o := 603) (N := 594) Q_X11_openBits (k := 13) rfl rfl (n_ hB.1 rfl) (k_603 hB.1) rfl q2 (by decide) ?_
      refine y_iconst Q_X11_openBits (k := 14) rfl ?_
      refine y_icmp_ne 29 Q_X11_openBits (k := 15) rfl (by decide) (hB.2.1 _ _) ⟨by decide, by decide⟩ (fun c => ?_) (fun c => ?_)
      · replace h := h.2 c
        refine y_iconst Q_X11_openBits (k := 20) rfl ?_
        refine y_ior Q_X11_openBits (k := 21) rfl ?_
        refine y_istore_n (L' := [some (.ref 602), some (.int (iI (zor l1 0))), some (.int (iI l2))]) Q_X11_openBits (k := 22) rfl (by decide) rfl ?_
        obtain ⟨q3, h⟩ := h
        refine y_iinc (L' := [some (.ref 602), some (.int (iI (zor l1 0))), some (.int (iI (l2 + 1)))]) Q_X11_openBits (k := 23) rfl (by decide) rfl rfl ?_
        refine z_goto (tgt := 4) Q_X11_openBits (k := 24) rfl (by decide) ?_
        exact y_fg (zsb_c rfl (zsb_c rfl (zsb_c rfl zsb_e))) (ih (zor l1 0) (l2 + 1) (zor_r _ _) q3 h)
      · replace h := h.1 c
        refine y_iconst Q_X11_openBits (k := 16) rfl ?_
        refine z_iload_n Q_X11_openBits (k := 17) rfl rfl ?_
        refine y_ishl Q_X11_openBits (k := 18) rfl ?_
        refine z_goto (tgt := 30) Q_X11_openBits (k := 19) rfl (by decide) ?_
        refine y_ior Q_X11_openBits (k := 21) rfl ?_
        refine y_istore_n (L' := [some (.ref 602), some (.int (iI (zor l1 (zshl 1 l2)))), some (.int (iI l2))]) Q_X11_openBits (k := 22) rfl (by decide) rfl ?_
        obtain ⟨q4, h⟩ := h
        refine y_iinc (L' := [some (.ref 602), some (.int (iI (zor l1 (zshl 1 l2)))), some (.int (iI (l2 + 1)))]) Q_X11_openBits (k := 23) rfl (by decide) rfl rfl ?_
        refine z_goto (tgt := 4) Q_X11_openBits (k := 24) rfl (by decide) ?_
        exact y_fg (zsb_c rfl (zsb_c rfl (zsb_c rfl zsb_e))) (ih (zor l1 (zshl 1 l2)) (l2 + 1) (zor_r _ _) q4 h)
set_option maxHeartbeats 4000000 in
set_option maxRecDepth 20000 in
theorem w_X11_openBits {S : zS} {V : qV} {J : qJ} {Q : Int → Prop} (d : Nat) (hB : qB S V) (h : W_X11_openBits V Q) : Z M_X11_openBits d 0 0 0 [some (.ref 602), none, none] [] S (qi V) (qj J) (qP_i S V J Q) := by
  unfold W_X11_openBits at h
  refine y_iconst Q_X11_openBits (k := 0) rfl ?_
  refine y_istore_n (L' := [some (.ref 602), some (.int (iI 0)), none]) Q_X11_openBits (k := 1) rfl (by decide) rfl ?_
  refine y_iconst Q_X11_openBits (k := 2) rfl ?_
  refine y_istore_n (L' := [some (.ref 602), some (.int (iI 0)), some (.int (iI 0))]) Q_X11_openBits (k := 3) rfl (by decide) rfl ?_
  refine y_fg (zsb_c rfl (zsb_c rfl (zsb_c rfl zsb_e))) (v_X11_openBits_4 d hB (fun l1x5 l2x5 zl1x5 zl2x5 h => ?_) 100000 0 0 ⟨by decide, by decide⟩ ⟨by decide, by decide⟩ h)
  refine z_iload_n Q_X11_openBits (k := 25) rfl rfl ?_
  exact y_iret Q_X11_openBits (k := 26) rfl rfl (qI_i zl1x5 h)
set_option maxHeartbeats 4000000 in
set_option maxRecDepth 20000 in
theorem v_X11_isSettling_2 {S : zS} {J : qJ} {K : Int → qV → Prop} {Q : Int → qV → Prop} {kc ks : Nat} (d : Nat) {l1 : Int} (z1 : zr l1) (hK : ∀ (l2 : Int) (V : qV), qB S V → zr l2 → K l2 V → Z M_X11_isSettling d kc ks 22 [some (.ref 602), some (.int (iI l1)), some (.int (iI l2)), none] [] S (qi V) (qj J) (qP_zV S J Q)) : ∀ (f : Nat) (l2 : Int) (V : qV), qB S V → zr l2 → lp_X11_isSettling_2 l1 K f l2 V → Z M_X11_isSettling d kc ks 2 [some (.ref 602), some (.int (iI l1)), some (.int (iI l2)), none] [] S (qi V) (qj J) (qP_zV S J Q) := by
  intro f
  induction f with
  | zero =>
    intro l2 V hB z2 h
    exact h.elim
  | succ f ih =>
    intro l2 V hB z2 h
    rw [lp_X11_isSettling_2] at h
    refine z_iload_n Q_X11_isSettling (k := 2) rfl rfl ?_
    refine y_sipush Q_X11_isSettling (k := 3) rfl (by decide) ?_
    refine y_icmp_ge 22 Q_X11_isSettling (k := 4) rfl (by decide) z2 ⟨by decide, by decide⟩ (fun c => ?_) (fun c => ?_)
    · replace h := h.1 c
      exact y_fg (zsb_c rfl (zsb_c rfl (zsb_c rfl (zsb_n zsb_e)))) (hK l2 V hB z2 h)
    · replace h := h.2 c
      refine z_aload_n Q_X11_isSettling (k := 5) rfl rfl ?_
      refine z_getR (b := 618) Q_X11_isSettling (k := 6) rfl F_X11_63 rfl (n_ hB.1 rfl) (k_602 hB.1) (r_602_28 hB.1) ?_
      refine z_iload_n Q_X11_isSettling (k := 7) rfl rfl ?_
      refine y_iconst Q_X11_isSettling (k := 8) rfl ?_
      obtain ⟨q1, h⟩ := h
      refine q_iast (o := 618) (N := 1024) Q_X11_isSettling (k := 9) rfl rfl (n_ hB.1 rfl) (k_618 hB.1) rfl q1 (by decide) ?_
      have hB2 := qB.u (a := 618) (j := l2) (x := (-1)) hB ⟨by decide, by decide⟩ (Or.inl (by decide))
      obtain ⟨q3, h⟩ := h
      refine y_iinc (L' := [some (.ref 602), some (.int (iI l1)), some (.int (iI (l2 + 1))), none]) Q_X11_isSettling (k := 10) rfl (by decide) rfl rfl ?_
      refine z_goto (tgt := 2) Q_X11_isSettling (k := 11) rfl (by decide) ?_
      exact y_fg (zsb_c rfl (zsb_c rfl (zsb_c rfl (zsb_n zsb_e)))) (ih (l2 + 1) (qu V 618 l2 (-1)) hB2 q3 h)
set_option maxHeartbeats 4000000 in
set_option maxRecDepth 20000 in
theorem v_X11_isSettling_24 {S : zS} {J : qJ} {K : Int → qV → Prop} {Q : Int → qV → Prop} {kc ks : Nat} (d : Nat) {l1 : Int} (z1 : zr l1) (hK : ∀ (l2 : Int) (V : qV), qB S V → zr l2 → K l2 V → Z M_X11_isSettling d kc ks 92 [some (.ref 602), some (.int (iI l1)), some (.int (iI l2)), none] [] S (qi V) (qj J) (qP_zV S J Q)) : ∀ (f : Nat) (l2 : Int) (V : qV), qB S V → zr l2 → lp_X11_isSettling_24 l1 K Q f l2 V → Z M_X11_isSettling d kc ks 24 [some (.ref 602), some (.int (iI l1)), some (.int (iI l2)), none] [] S (qi V) (qj J) (qP_zV S J Q) := by
  intro f
  induction f with
  | zero =>
    intro l2 V hB z2 h
    exact h.elim
  | succ f ih =>
    intro l2 V hB z2 h
    rw [lp_X11_isSettling_24] at h
    refine z_iload_n Q_X11_isSettling (k := 14) rfl rfl ?_
    refine y_sipush Q_X11_isSettling (k := 15) rfl (by decide) ?_
    refine y_icmp_ge 92 Q_X11_isSettling (k := 16) rfl (by decide) z2 ⟨by decide, by decide⟩ (fun c => ?_) (fun c => ?_)
    · replace h := h.1 c
      exact y_fg (zsb_c rfl (zsb_c rfl (zsb_c rfl (zsb_n zsb_e)))) (hK l2 V hB z2 h)
    · replace h := h.2 c
      refine z_aload_n Q_X11_isSettling (k := 17) rfl rfl ?_
      refine z_getR (b := 616) Q_X11_isSettling (k := 18) rfl F_X11_56 rfl (n_ hB.1 rfl) (k_602 hB.1) (r_602_24 hB.1) ?_
      refine z_iload_n Q_X11_isSettling (k := 19) rfl rfl ?_
      obtain ⟨q5, h⟩ := h
      refine q_zald (o := 616) (N := 1024) Q_X11_isSettling (k := 20) rfl rfl (n_ hB.1 rfl) (k_616 hB.1) rfl q5 (by decide) ?_
      refine y_if_ne 43 Q_X11_isSettling (k := 21) rfl (by decide) (hB.2.1 _ _) (fun c => ?_) (fun c => ?_)
      · replace h := h.2 c
        refine z_iload_n Q_X11_isSettling (k := 23) rfl rfl ?_
        refine z_iload_n Q_X11_isSettling (k := 24) rfl rfl ?_
        refine y_iand Q_X11_isSettling (k := 25) rfl ?_
        refine y_istore_n (L' := [some (.ref 602), some (.int (iI l1)), some (.int (iI l2)), some (.int (iI (zand l2 l1)))]) Q_X11_isSettling (k := 26) rfl (by decide) rfl ?_
        refine z_aload_n Q_X11_isSettling (k := 27) rfl rfl ?_
        refine z_getR (b := 618) Q_X11_isSettling (k := 28) rfl F_X11_63 rfl (n_ hB.1 rfl) (k_602 hB.1) (r_602_28 hB.1) ?_
        refine z_iload_n Q_X11_isSettling (k := 29) rfl rfl ?_
        obtain ⟨q6, h⟩ := h
        refine q_iald (o := 618) (N := 1024) Q_X11_isSettling (k := 30) rfl rfl (n_ hB.1 rfl) (k_618 hB.1) rfl q6 (by decide) ?_
        refine y_iconst Q_X11_isSettling (k := 31) rfl ?_
        refine y_icmp_eq 74 Q_X11_isSettling (k := 32) rfl (by decide) (hB.2.1 _ _) ⟨by decide, by decide⟩ (fun c => ?_) (fun c => ?_)
        · replace h := h.1 c
          refine z_aload_n Q_X11_isSettling (k := 44) rfl rfl ?_
          refine z_getR (b := 618) Q_X11_isSettling (k := 45) rfl F_X11_63 rfl (n_ hB.1 rfl) (k_602 hB.1) (r_602_28 hB.1) ?_
          refine z_iload_n Q_X11_isSettling (k := 46) rfl rfl ?_
          refine z_aload_n Q_X11_isSettling (k := 47) rfl rfl ?_
          refine z_getR (b := 617) Q_X11_isSettling (k := 48) rfl F_X11_60 rfl (n_ hB.1 rfl) (k_602 hB.1) (r_602_26 hB.1) ?_
          refine z_iload_n Q_X11_isSettling (k := 49) rfl rfl ?_
          obtain ⟨q7, h⟩ := h
          refine q_iald (o := 617) (N := 1024) Q_X11_isSettling (k := 50) rfl rfl (n_ hB.1 rfl) (k_617 hB.1) rfl q7 (by decide) ?_
          obtain ⟨q8, h⟩ := h
          refine q_iast (o := 618) (N := 1024) Q_X11_isSettling (k := 51) rfl rfl (n_ hB.1 rfl) (k_618 hB.1) rfl q8 (by decide) ?_
          have hB9 := qB.u (a := 618) (j := zand l2 l1) (x := V 617 l2) hB (hB.2.1 _ _) (Or.inl (by decide))
          obtain ⟨q10, h⟩ := h
          refine y_iinc (L' := [some (.ref 602), some (.int (iI l1)), some (.int (iI (l2 + 1))), some (.int (iI (zand l2 l1)))]) Q_X11_isSettling (k := 52) rfl (by decide) rfl rfl ?_
          refine z_goto (tgt := 24) Q_X11_isSettling (k := 53) rfl (by decide) ?_
          exact y_fg (zsb_c rfl (zsb_c rfl (zsb_c rfl (zsb_n zsb_e)))) (ih (l2 + 1) (qu V 618 (zand l2 l1) (V 617 l2)) hB9 q10 h)
        · replace h := h.2 c
          refine z_aload_n Q_X11_isSettling (k := 33) rfl rfl ?_
          refine z_getR (b := 618) Q_X11_isSettling (k := 34) rfl F_X11_63 rfl (n_ hB.1 rfl) (k_602 hB.1) (r_602_28 hB.1) ?_
          refine z_iload_n Q_X11_isSettling (k := 35) rfl rfl ?_
          obtain ⟨q11, h⟩ := h
          refine q_iald (o := 618) (N := 1024) Q_X11_isSettling (k := 36) rfl rfl (n_ hB.1 rfl) (k_618 hB.1) rfl q11 (by decide) ?_
          refine z_aload_n Q_X11_isSettling (k := 37) rfl rfl ?_
          refine z_getR (b := 617) Q_X11_isSettling (k := 38) rfl F_X11_60 rfl (n_ hB.1 rfl) (k_602 hB.1) (r_602_26 hB.1) ?_
          refine z_iload_n Q_X11_isSettling (k := 39) rfl rfl ?_
          obtain ⟨q12, h⟩ := h
          refine q_iald (o := 617) (N := 1024) Q_X11_isSettling (k := 40) rfl rfl (n_ hB.1 rfl) (k_617 hB.1) rfl q12 (by decide) ?_
          refine y_icmp_eq 74 Q_X11_isSettling (k := 41) rfl (by decide) (hB.2.1 _ _) (hB.2.1 _ _) (fun c => ?_) (fun c => ?_)
          · replace h := h.1 c
            refine z_aload_n Q_X11_isSettling (k := 44) rfl rfl ?_
            refine z_getR (b := 618) Q_X11_isSettling (k := 45) rfl F_X11_63 rfl (n_ hB.1 rfl) (k_602 hB.1) (r_602_28 hB.1) ?_
            refine z_iload_n Q_X11_isSettling (k := 46) rfl rfl ?_
            refine z_aload_n Q_X11_isSettling (k := 47) rfl rfl ?_
            refine z_getR (b := 617) Q_X11_isSettling (k := 48) rfl F_X11_60 rfl (n_ hB.1 rfl) (k_602 hB.1) (r_602_26 hB.1) ?_
            refine z_iload_n Q_X11_isSettling (k := 49) rfl rfl ?_
            obtain ⟨q13, h⟩ := h
            refine q_iald (o := 617) (N := 1024) Q_X11_isSettling (k := 50) rfl rfl (n_ hB.1 rfl) (k_617 hB.1) rfl q13 (by decide) ?_
            obtain ⟨q14, h⟩ := h
            refine q_iast (o := 618) (N := 1024) Q_X11_isSettling (k := 51) rfl rfl (n_ hB.1 rfl) (k_618 hB.1) rfl q14 (by decide) ?_
            have hB15 := qB.u (a := 618) (j := zand l2 l1) (x := V 617 l2) hB (hB.2.1 _ _) (Or.inl (by decide))
            obtain ⟨q16, h⟩ := h
            refine y_iinc (L' := [some (.ref 602), some (.int (iI l1)), some (.int (iI (l2 + 1))), some (.int (iI (zand l2 l1)))]) Q_X11_isSettling (k := 52) rfl (by decide) rfl rfl ?_
            refine z_goto (tgt := 24) Q_X11_isSettling (k := 53) rfl (by decide) ?_
            exact y_fg (zsb_c rfl (zsb_c rfl (zsb_c rfl (zsb_n zsb_e)))) (ih (l2 + 1) (qu V 618 (zand l2 l1) (V 617 l2)) hB15 q16 h)
          · replace h := h.2 c
            refine y_iconst Q_X11_isSettling (k := 42) rfl ?_
            exact y_zret Q_X11_isSettling (k := 43) rfl rfl (Or.inl rfl) (qI_zV hB ⟨by decide, by decide⟩ (Or.inl rfl) h)
      · replace h := h.1 c
        refine z_goto (tgt := 86) Q_X11_isSettling (k := 22) rfl (by decide) ?_
        obtain ⟨q17, h⟩ := h
        refine y_iinc (L' := [some (.ref 602), some (.int (iI l1)), some (.int (iI (l2 + 1))), none]) Q_X11_isSettling (k := 52) rfl (by decide) rfl rfl ?_
        refine z_goto (tgt := 24) Q_X11_isSettling (k := 53) rfl (by decide) ?_
        exact y_fg (zsb_c rfl (zsb_c rfl (zsb_c rfl (zsb_n zsb_e)))) (ih (l2 + 1) V hB q17 h)
set_option maxHeartbeats 4000000 in
set_option maxRecDepth 20000 in
theorem w_X11_isSettling {S : zS} {V : qV} {J : qJ} {Q : Int → qV → Prop} (d : Nat) (hB : qB S V) {a1 : Int} (z1 : zr a1) (h : W_X11_isSettling a1 V Q) : Z M_X11_isSettling d 0 0 0 [some (.ref 602), some (.int (iI a1)), none, none] [] S (qi V) (qj J) (qP_zV S J Q) := by
  unfold W_X11_isSettling at h
  refine y_iconst Q_X11_isSettling (k := 0) rfl ?_
  refine y_istore_n (L' := [some (.ref 602), some (.int (iI a1)), some (.int (iI 0)), none]) Q_X11_isSettling (k := 1) rfl (by decide) rfl ?_
  refine y_fg (zsb_c rfl (zsb_c rfl (zsb_c rfl (zsb_n zsb_e)))) (v_X11_isSettling_2 d z1 (fun l2x4 V4 hB4 zl2x4 h => ?_) 100000 0 V hB ⟨by decide, by decide⟩ h)
  refine y_iconst Q_X11_isSettling (k := 12) rfl ?_
  refine y_istore_n (L' := [some (.ref 602), some (.int (iI a1)), some (.int (iI 0)), none]) Q_X11_isSettling (k := 13) rfl (by decide) rfl ?_
  refine y_fg (zsb_c rfl (zsb_c rfl (zsb_c rfl (zsb_n zsb_e)))) (v_X11_isSettling_24 d z1 (fun l2x18 V18 hB18 zl2x18 h => ?_) 100000 0 V4 hB4 ⟨by decide, by decide⟩ h)
  refine y_iconst Q_X11_isSettling (k := 54) rfl ?_
  exact y_zret Q_X11_isSettling (k := 55) rfl rfl (Or.inr rfl) (qI_zV hB18 ⟨by decide, by decide⟩ (Or.inr rfl) h)
set_option maxHeartbeats 4000000 in
set_option maxRecDepth 20000 in
theorem v_X11_settles_33 {S : zS} {J : qJ} {K : Int → Int → qV → Prop} {Q : Int → qV → Prop} {kc ks : Nat} (d : Nat) {l3 : Int} (z3 : zr l3) (hK : ∀ (l4 : Int) (l5 : Int) (V : qV), qB S V → zr l4 → zr l5 → K l4 l5 V → Z M_X11_settles (d + 3) kc ks 82 [some (.ref 602), none, none, some (.int (iI l3)), some (.int (iI l4)), some (.int (iI l5))] [] S (qi V) (qj J) (qP_iV S J Q)) : ∀ (f : Nat) (l4 : Int) (l5 : Int) (V : qV), qB S V → zr l4 → zr l5 → lp_X11_settles_33 l3 K f l4 l5 V → Z M_X11_settles (d + 3) kc ks 33 [some (.ref 602), none, none, some (.int (iI l3)), some (.int (iI l4)), some (.int (iI l5))] [] S (qi V) (qj J) (qP_iV S J Q) := by
  intro f
  induction f with
  | zero =>
    intro l4 l5 V hB z4 z5 h
    exact h.elim
  | succ f ih =>
    intro l4 l5 V hB z4 z5 h
    rw [lp_X11_settles_33] at h
    refine z_iload Q_X11_settles (k := 21) rfl rfl ?_
    refine y_sipush Q_X11_settles (k := 22) rfl (by decide) ?_
    refine y_icmp_ge 82 Q_X11_settles (k := 23) rfl (by decide) z5 ⟨by decide, by decide⟩ (fun c => ?_) (fun c => ?_)
    · replace h := h.1 c
      exact y_fg (zsb_c rfl (zsb_n (zsb_n (zsb_c rfl (zsb_c rfl (zsb_c rfl zsb_e)))))) (hK l4 l5 V hB z4 z5 h)
    · replace h := h.2 c
      refine z_iload Q_X11_settles (k := 24) rfl rfl ?_
      refine z_iload_n Q_X11_settles (k := 25) rfl rfl ?_
      refine y_iconst Q_X11_settles (k := 26) rfl ?_
      refine y_ixor Q_X11_settles (k := 27) rfl ?_
      refine y_iand Q_X11_settles (k := 28) rfl ?_
      refine y_if_ne 76 Q_X11_settles (k := 29) rfl (by decide) (zand_r _ _) (fun c => ?_) (fun c => ?_)
      · replace h := h.2 c
        obtain ⟨q5, h⟩ := h
        refine y_iinc (L' := [some (.ref 602), none, none, some (.int (iI l3)), some (.int (iI l4)), some (.int (iI (l5 + 1)))]) Q_X11_settles (k := 41) rfl (by decide) rfl rfl ?_
        refine z_goto (tgt := 33) Q_X11_settles (k := 42) rfl (by decide) ?_
        exact y_fg (zsb_c rfl (zsb_n (zsb_n (zsb_c rfl (zsb_c rfl (zsb_c rfl zsb_e)))))) (ih l4 (l5 + 1) V hB z4 q5 h)
      · replace h := h.1 c
        refine z_iload Q_X11_settles (k := 30) rfl rfl ?_
        refine q_callS1_i Q_X11_settles (k := 31) rfl rfl K_X11_bitsOf S_X11_bitsOf L_X11_233 (Nat.le_of_ble_eq_true rfl) (Nat.le_of_ble_eq_true rfl) rfl (Nat.zero_le _) (Nat.zero_le _) (w_X11_bitsOf (d + 2) hB z5 h) (fun r6 hz6 h => ?_)
        refine z_iload Q_X11_settles (k := 32) rfl rfl ?_
        refine q_callS1_i Q_X11_settles (k := 33) rfl rfl K_X11_bitsOf S_X11_bitsOf L_X11_233 (Nat.le_of_ble_eq_true rfl) (Nat.le_of_ble_eq_true rfl) rfl (Nat.zero_le _) (Nat.zero_le _) (w_X11_bitsOf (d + 2) hB z4 h) (fun r7 hz7 h => ?_)
        refine y_icmp_ge 76 Q_X11_settles (k := 34) rfl (by decide) hz6 hz7 (fun c => ?_) (fun c => ?_)
        · replace h := h.1 c
          obtain ⟨q8, h⟩ := h
          refine y_iinc (L' := [some (.ref 602), none, none, some (.int (iI l3)), some (.int (iI l4)), some (.int (iI (l5 + 1)))]) Q_X11_settles (k := 41) rfl (by decide) rfl rfl ?_
          refine z_goto (tgt := 33) Q_X11_settles (k := 42) rfl (by decide) ?_
          exact y_fg (zsb_c rfl (zsb_n (zsb_n (zsb_c rfl (zsb_c rfl (zsb_c rfl zsb_e)))))) (ih l4 (l5 + 1) V hB z4 q8 h)
        · replace h := h.2 c
          refine z_aload_n Q_X11_settles (k := 35) rfl rfl ?_
          refine z_iload Q_X11_settles (k := 36) rfl rfl ?_
          refine q_callV1_zV Q_X11_settles (k := 37) rfl rfl K_X11_isSettling V_X11_isSettling L_X11_282 (n_ hB.1 rfl) (k_602 hB.1) (Nat.le_of_ble_eq_true rfl) (Nat.le_of_ble_eq_true rfl) rfl (Nat.zero_le _) (Nat.zero_le _) (w_X11_isSettling (d + 2) hB z5 h) (fun r9 V9 hB9 hz9 hb9 h => ?_)
          refine y_if_eq 76 Q_X11_settles (k := 38) rfl (by decide) hz9 (fun c => ?_) (fun c => ?_)
          · replace h := h.1 c
            obtain ⟨q10, h⟩ := h
            refine y_iinc (L' := [some (.ref 602), none, none, some (.int (iI l3)), some (.int (iI l4)), some (.int (iI (l5 + 1)))]) Q_X11_settles (k := 41) rfl (by decide) rfl rfl ?_
            refine z_goto (tgt := 33) Q_X11_settles (k := 42) rfl (by decide) ?_
            exact y_fg (zsb_c rfl (zsb_n (zsb_n (zsb_c rfl (zsb_c rfl (zsb_c rfl zsb_e)))))) (ih l4 (l5 + 1) V9 hB9 z4 q10 h)
          · replace h := h.2 c
            refine z_iload Q_X11_settles (k := 39) rfl rfl ?_
            refine y_istore (L' := [some (.ref 602), none, none, some (.int (iI l3)), some (.int (iI l5)), some (.int (iI l5))]) Q_X11_settles (k := 40) rfl (by decide) rfl ?_
            obtain ⟨q11, h⟩ := h
            refine y_iinc (L' := [some (.ref 602), none, none, some (.int (iI l3)), some (.int (iI l5)), some (.int (iI (l5 + 1)))]) Q_X11_settles (k := 41) rfl (by decide) rfl rfl ?_
            refine z_goto (tgt := 33) Q_X11_settles (k := 42) rfl (by decide) ?_
            exact y_fg (zsb_c rfl (zsb_n (zsb_n (zsb_c rfl (zsb_c rfl (zsb_c rfl zsb_e)))))) (ih l5 (l5 + 1) V9 hB9 z5 q11 h)
set_option maxHeartbeats 4000000 in
set_option maxRecDepth 20000 in
theorem w_X11_settles {S : zS} {V : qV} {J : qJ} {Q : Int → qV → Prop} (d : Nat) (hB : qB S V) {a1 : Int} (z1 : zr a1) {a2 : Int} (z2 : zr a2) (h : W_X11_settles a1 a2 V Q) : Z M_X11_settles (d + 3) 0 0 0 [some (.ref 602), some (.int (iI a1)), some (.int (iI a2)), none, none, none] [] S (qi V) (qj J) (qP_iV S J Q) := by
  unfold W_X11_settles at h
  refine z_aload_n Q_X11_settles (k := 0) rfl rfl ?_
  refine y_iconst Q_X11_settles (k := 1) rfl ?_
  refine q_putI (o := 602) (z := 0) Q_X11_settles (k := 2) rfl F_X11_1 rfl rfl rfl (n_ hB.1 rfl) (k_602 hB.1) ?_
  have hB1 := qB.u (a := 602) (j := 0) (x := 0) hB ⟨by decide, by decide⟩ (Or.inl (by decide))
  refine z_aload_n Q_X11_settles (k := 3) rfl rfl ?_
  refine z_iload_n Q_X11_settles (k := 4) rfl rfl ?_
  refine z_iload_n Q_X11_settles (k := 5) rfl rfl ?_
  refine q_callV2_zV Q_X11_settles (k := 6) rfl rfl K_X11_asks V_X11_asks L_X11_267 (n_ hB1.1 rfl) (k_602 hB1.1) (Nat.le_of_ble_eq_true rfl) (Nat.le_of_ble_eq_true rfl) rfl (Nat.zero_le _) (Nat.zero_le _) (w_X11_asks d hB1 z1 z2 h) (fun r2 V2 hB2 hz2 hb2 h => ?_)
  refine y_if_ne 16 Q_X11_settles (k := 7) rfl (by decide) hz2 (fun c => ?_) (fun c => ?_)
  · replace h := h.2 c
    refine z_aload_n Q_X11_settles (k := 10) rfl rfl ?_
    refine z_iload_n Q_X11_settles (k := 11) rfl rfl ?_
    refine z_iload_n Q_X11_settles (k := 12) rfl rfl ?_
    refine q_callV2_uV Q_X11_settles (k := 13) rfl rfl K_X11_findWho V_X11_findWho L_X11_270 (n_ hB2.1 rfl) (k_602 hB2.1) (Nat.le_of_ble_eq_true rfl) (Nat.le_of_ble_eq_true rfl) rfl (Nat.zero_le _) (Nat.zero_le _) (w_X11_findWho d hB2 z1 z2 h) (fun V3 hB3 h => ?_)
    refine z_aload_n Q_X11_settles (k := 14) rfl rfl ?_
    refine q_callV0_i Q_X11_settles (k := 15) rfl rfl K_X11_openBits V_X11_openBits L_X11_279 (n_ hB3.1 rfl) (k_602 hB3.1) (Nat.le_of_ble_eq_true rfl) (Nat.le_of_ble_eq_true rfl) rfl (Nat.zero_le _) (Nat.zero_le _) (w_X11_openBits (d + 2) hB3  h) (fun r4 hz4 h => ?_)
    refine y_istore_n (L' := [some (.ref 602), some (.int (iI a1)), some (.int (iI a2)), some (.int (iI r4)), none, none]) Q_X11_settles (k := 16) rfl (by decide) rfl ?_
    refine z_iload_n Q_X11_settles (k := 17) rfl rfl ?_
    refine y_istore (L' := [some (.ref 602), some (.int (iI a1)), some (.int (iI a2)), some (.int (iI r4)), some (.int (iI r4)), none]) Q_X11_settles (k := 18) rfl (by decide) rfl ?_
    refine y_iconst Q_X11_settles (k := 19) rfl ?_
    refine y_istore (L' := [some (.ref 602), some (.int (iI a1)), some (.int (iI a2)), some (.int (iI r4)), some (.int (iI r4)), some (.int (iI 0))]) Q_X11_settles (k := 20) rfl (by decide) rfl ?_
    refine y_fg (zsb_c rfl (zsb_n (zsb_n (zsb_c rfl (zsb_c rfl (zsb_c rfl zsb_e)))))) (v_X11_settles_33 d hz4 (fun l4x12 l5x12 V12 hB12 zl4x12 zl5x12 h => ?_) 100000 r4 0 V3 hB3 hz4 ⟨by decide, by decide⟩ h)
    refine z_iload Q_X11_settles (k := 43) rfl rfl ?_
    exact y_iret Q_X11_settles (k := 44) rfl rfl (qI_iV hB12 zl4x12 h)
  · replace h := h.1 c
    refine y_iconst Q_X11_settles (k := 8) rfl ?_
    exact y_iret Q_X11_settles (k := 9) rfl rfl (qI_iV hB2 ⟨by decide, by decide⟩ h)
set_option maxHeartbeats 4000000 in
set_option maxRecDepth 20000 in
theorem v_X11_startCube_4 {S : zS} {V : qV} {J : qJ} {K : Int → Int → Prop} {Q : Int → Prop} {kc ks : Nat} (d : Nat) (hB : qB S V) (hK : ∀ (l1 : Int) (l2 : Int), zr l1 → zr l2 → K l1 l2 → Z M_X11_startCube d kc ks 34 [some (.ref 602), some (.int (iI l1)), some (.int (iI l2))] [] S (qi V) (qj J) (qP_i S V J Q)) : ∀ (f : Nat) (l1 : Int) (l2 : Int), zr l1 → zr l2 → lp_X11_startCube_4 V K f l1 l2 → Z M_X11_startCube d kc ks 4 [some (.ref 602), some (.int (iI l1)), some (.int (iI l2))] [] S (qi V) (qj J) (qP_i S V J Q) := by
  intro f
  induction f with
  | zero =>
    intro l1 l2 z1 z2 h
    exact h.elim
  | succ f ih =>
    intro l1 l2 z1 z2 h
    rw [lp_X11_startCube_4] at h
    refine z_iload_n Q_X11_startCube (k := 4) rfl rfl ?_
    refine y_bipush Q_X11_startCube (k := 5) rfl (by decide) ?_
    refine y_icmp_ge 34 Q_X11_startCube (k := 6) rfl (by decide) z2 ⟨by decide, by decide⟩ (fun c => ?_) (fun c => ?_)
    · replace h := h.1 c
      exact y_fg (zsb_c rfl (zsb_c rfl (zsb_c rfl zsb_e))) (hK l1 l2 z1 z2 h)
    · replace h := h.2 c
      refine z_iload_n Q_X11_startCube (k := 7) rfl rfl ?_
      refine z_aload_n Q_X11_startCube (k := 8) rfl rfl ?_
      refine z_getR (b := 621) Q_X11_startCube (k := 9) rfl F_X11_73 rfl (n_ hB.1 rfl) (k_602 hB.1) (r_602_31 hB.1) ?_
      refine z_iload_n Q_X11_startCube (k := 10) rfl rfl ?_
      obtain ⟨q1, h⟩ := h
      refine q_iald (o := 621) (N := 10) Q_X11_startCube (k := 11) rfl rfl (n_ hB.1 rfl) (k_621 hB.1) rfl q1 (by decide) ?_
      refine z_aload_n Q_X11_startCube (k := 12) rfl rfl ?_
      refine z_getR (b := 603) Q_X11_startCube (k := 13) rfl F_X11_13 rfl (n_ hB.1 rfl) (k_602 hB.1) (r_602_1 hB.1) ?_
      refine y_iconst Q_X11_startCube (k := 14) rfl ?_
      refine z_iload_n Q_X11_startCube (k := 15) rfl rfl ?_
      obtain ⟨q2, h⟩ := h
      refine y_iadd Q_X11_startCube (k := 16) rfl ?_
      obtain ⟨q3, h⟩ := h
      refine q_iald (o := 603) (N := 594) Q_X11_startCube (k := 17) rfl rfl (n_ hB.1 rfl) (k_603 hB.1) rfl q3 (by decide) ?_
      obtain ⟨q4, h⟩ := h
      refine y_imul Q_X11_startCube (k := 18) rfl ?_
      obtain ⟨q5, h⟩ := h
      refine y_iadd Q_X11_startCube (k := 19) rfl ?_
      refine y_istore_n (L' := [some (.ref 602), some (.int (iI (l1 + ((V 621 l2) * (V 603 (0 + l2)))))), some (.int (iI l2))]) Q_X11_startCube (k := 20) rfl (by decide) rfl ?_
      obtain ⟨q6, h⟩ := h
      refine y_iinc (L' := [some (.ref 602), some (.int (iI (l1 + ((V 621 l2) * (V 603 (0 + l2)))))), some (.int (iI (l2 + 1)))]) Q_X11_startCube (k := 21) rfl (by decide) rfl rfl ?_
      refine z_goto (tgt := 4) Q_X11_startCube (k := 22) rfl (by decide) ?_
      exact y_fg (zsb_c rfl (zsb_c rfl (zsb_c rfl zsb_e))) (ih (l1 + ((V 621 l2) * (V 603 (0 + l2)))) (l2 + 1) q5 q6 h)
set_option maxHeartbeats 4000000 in
set_option maxRecDepth 20000 in
theorem w_X11_startCube {S : zS} {V : qV} {J : qJ} {Q : Int → Prop} (d : Nat) (hB : qB S V) (h : W_X11_startCube V Q) : Z M_X11_startCube d 0 0 0 [some (.ref 602), none, none] [] S (qi V) (qj J) (qP_i S V J Q) := by
  unfold W_X11_startCube at h
  refine y_iconst Q_X11_startCube (k := 0) rfl ?_
  refine y_istore_n (L' := [some (.ref 602), some (.int (iI 0)), none]) Q_X11_startCube (k := 1) rfl (by decide) rfl ?_
  refine y_iconst Q_X11_startCube (k := 2) rfl ?_
  refine y_istore_n (L' := [some (.ref 602), some (.int (iI 0)), some (.int (iI 0))]) Q_X11_startCube (k := 3) rfl (by decide) rfl ?_
  refine y_fg (zsb_c rfl (zsb_c rfl (zsb_c rfl zsb_e))) (v_X11_startCube_4 d hB (fun l1x7 l2x7 zl1x7 zl2x7 h => ?_) 100000 0 0 ⟨by decide, by decide⟩ ⟨by decide, by decide⟩ h)
  refine z_iload_n Q_X11_startCube (k := 23) rfl rfl ?_
  exact y_iret Q_X11_startCube (k := 24) rfl rfl (qI_i zl1x7 h)
set_option maxHeartbeats 4000000 in
set_option maxRecDepth 20000 in
theorem w_X11_worseOf {S : zS} {V : qV} {J : qJ} {Q : Int → Prop} (d : Nat) (hB : qB S V) {a1 : Int} (z1 : zr a1) {a2 : Int} (z2 : zr a2) (h : W_X11_worseOf a1 a2 V Q) : Z M_X11_worseOf d 0 0 0 [some (.ref 602), some (.int (iI a1)), some (.int (iI a2)), none, none] [] S (qi V) (qj J) (qP_i S V J Q) := by
  unfold W_X11_worseOf at h
  refine z_aload_n Q_X11_worseOf (k := 0) rfl rfl ?_
  refine z_getR (b := 620) Q_X11_worseOf (k := 1) rfl F_X11_70 rfl (n_ hB.1 rfl) (k_602 hB.1) (r_602_30 hB.1) ?_
  refine z_iload_n Q_X11_worseOf (k := 2) rfl rfl ?_
  refine z_aload_n Q_X11_worseOf (k := 3) rfl rfl ?_
  refine z_getR (b := 621) Q_X11_worseOf (k := 4) rfl F_X11_73 rfl (n_ hB.1 rfl) (k_602 hB.1) (r_602_31 hB.1) ?_
  refine z_iload_n Q_X11_worseOf (k := 5) rfl rfl ?_
  obtain ⟨q1, h⟩ := h
  refine q_iald (o := 621) (N := 10) Q_X11_worseOf (k := 6) rfl rfl (n_ hB.1 rfl) (k_621 hB.1) rfl q1 (by decide) ?_
  obtain ⟨q2, h⟩ := h
  refine y_isub Q_X11_worseOf (k := 7) rfl ?_
  obtain ⟨q3, h⟩ := h
  refine q_iald (o := 620) (N := 59049) Q_X11_worseOf (k := 8) rfl rfl (n_ hB.1 rfl) (k_620 hB.1) rfl q3 (by decide) ?_
  refine y_istore_n (L' := [some (.ref 602), some (.int (iI a1)), some (.int (iI a2)), some (.int (iI (V 620 (a1 - (V 621 a2))))), none]) Q_X11_worseOf (k := 9) rfl (by decide) rfl ?_
  refine z_aload_n Q_X11_worseOf (k := 10) rfl rfl ?_
  refine z_getR (b := 620) Q_X11_worseOf (k := 11) rfl F_X11_70 rfl (n_ hB.1 rfl) (k_602 hB.1) (r_602_30 hB.1) ?_
  refine z_iload_n Q_X11_worseOf (k := 12) rfl rfl ?_
  refine y_iconst Q_X11_worseOf (k := 13) rfl ?_
  refine z_aload_n Q_X11_worseOf (k := 14) rfl rfl ?_
  refine z_getR (b := 621) Q_X11_worseOf (k := 15) rfl F_X11_73 rfl (n_ hB.1 rfl) (k_602 hB.1) (r_602_31 hB.1) ?_
  refine z_iload_n Q_X11_worseOf (k := 16) rfl rfl ?_
  obtain ⟨q4, h⟩ := h
  refine q_iald (o := 621) (N := 10) Q_X11_worseOf (k := 17) rfl rfl (n_ hB.1 rfl) (k_621 hB.1) rfl q4 (by decide) ?_
  obtain ⟨q5, h⟩ := h
  refine y_imul Q_X11_worseOf (k := 18) rfl ?_
  obtain ⟨q6, h⟩ := h
  refine y_isub Q_X11_worseOf (k := 19) rfl ?_
  obtain ⟨q7, h⟩ := h
  refine q_iald (o := 620) (N := 59049) Q_X11_worseOf (k := 20) rfl rfl (n_ hB.1 rfl) (k_620 hB.1) rfl q7 (by decide) ?_
  refine y_istore (L' := [some (.ref 602), some (.int (iI a1)), some (.int (iI a2)), some (.int (iI (V 620 (a1 - (V 621 a2))))), some (.int (iI (V 620 (a1 - (2 * (V 621 a2))))))]) Q_X11_worseOf (k := 21) rfl (by decide) rfl ?_
  refine z_iload_n Q_X11_worseOf (k := 22) rfl rfl ?_
  refine z_iload Q_X11_worseOf (k := 23) rfl rfl ?_
  refine y_icmp_le 41 Q_X11_worseOf (k := 24) rfl (by decide) (hB.2.1 _ _) (hB.2.1 _ _) (fun c => ?_) (fun c => ?_)
  · replace h := h.1 c
    refine z_iload Q_X11_worseOf (k := 27) rfl rfl ?_
    exact y_iret Q_X11_worseOf (k := 28) rfl rfl (qI_i (hB.2.1 _ _) h)
  · replace h := h.2 c
    refine z_iload_n Q_X11_worseOf (k := 25) rfl rfl ?_
    refine z_goto (tgt := 43) Q_X11_worseOf (k := 26) rfl (by decide) ?_
    exact y_iret Q_X11_worseOf (k := 28) rfl rfl (qI_i (hB.2.1 _ _) h)
set_option maxHeartbeats 4000000 in
set_option maxRecDepth 20000 in
theorem v_X11_leastAsks_29 {S : zS} {V : qV} {J : qJ} {K : Int → Int → Prop} {Q : Int → Prop} {kc ks : Nat} (d : Nat) (hB : qB S V) {l1 : Int} (z1 : zr l1) (hK : ∀ (l3 : Int) (l4 : Int), zr l3 → zr l4 → K l3 l4 → Z M_X11_leastAsks (d + 1) kc ks 84 [some (.ref 602), some (.int (iI l1)), none, some (.int (iI l3)), some (.int (iI l4)), none] [] S (qi V) (qj J) (qP_i S V J Q)) : ∀ (f : Nat) (l3 : Int) (l4 : Int), zr l3 → zr l4 → lp_X11_leastAsks_29 l1 V K f l3 l4 → Z M_X11_leastAsks (d + 1) kc ks 29 [some (.ref 602), some (.int (iI l1)), none, some (.int (iI l3)), some (.int (iI l4)), none] [] S (qi V) (qj J) (qP_i S V J Q) := by
  intro f
  induction f with
  | zero =>
    intro l3 l4 z3 z4 h
    exact h.elim
  | succ f ih =>
    intro l3 l4 z3 z4 h
    rw [lp_X11_leastAsks_29] at h
    refine z_iload Q_X11_leastAsks (k := 19) rfl rfl ?_
    refine y_bipush Q_X11_leastAsks (k := 20) rfl (by decide) ?_
    refine y_icmp_ge 84 Q_X11_leastAsks (k := 21) rfl (by decide) z4 ⟨by decide, by decide⟩ (fun c => ?_) (fun c => ?_)
    · replace h := h.1 c
      exact y_fg (zsb_c rfl (zsb_c rfl (zsb_n (zsb_c rfl (zsb_c rfl (zsb_n zsb_e)))))) (hK l3 l4 z3 z4 h)
    · replace h := h.2 c
      refine z_iload_n Q_X11_leastAsks (k := 22) rfl rfl ?_
      refine z_aload_n Q_X11_leastAsks (k := 23) rfl rfl ?_
      refine z_getR (b := 621) Q_X11_leastAsks (k := 24) rfl F_X11_73 rfl (n_ hB.1 rfl) (k_602 hB.1) (r_602_31 hB.1) ?_
      refine z_iload Q_X11_leastAsks (k := 25) rfl rfl ?_
      obtain ⟨q3, h⟩ := h
      refine q_iald (o := 621) (N := 10) Q_X11_leastAsks (k := 26) rfl rfl (n_ hB.1 rfl) (k_621 hB.1) rfl q3 (by decide) ?_
      obtain ⟨q4, h⟩ := h
      refine y_idiv Q_X11_leastAsks (k := 27) rfl z1 q4 (hB.2.1 _ _) ?_
      refine y_iconst Q_X11_leastAsks (k := 28) rfl ?_
      refine q_irem Q_X11_leastAsks (k := 29) rfl (q_tdiv z1 q4) (by decide) ⟨by decide, by decide⟩ ?_
      refine y_iconst Q_X11_leastAsks (k := 30) rfl ?_
      refine y_icmp_eq 54 Q_X11_leastAsks (k := 31) rfl (by decide) (q_tmod (q_tdiv z1 q4)) ⟨by decide, by decide⟩ (fun c => ?_) (fun c => ?_)
      · replace h := h.1 c
        refine y_iconst Q_X11_leastAsks (k := 33) rfl ?_
        refine z_aload_n Q_X11_leastAsks (k := 34) rfl rfl ?_
        refine z_iload_n Q_X11_leastAsks (k := 35) rfl rfl ?_
        refine z_iload Q_X11_leastAsks (k := 36) rfl rfl ?_
        refine q_callV2_i Q_X11_leastAsks (k := 37) rfl rfl K_X11_worseOf V_X11_worseOf L_X11_288 (n_ hB.1 rfl) (k_602 hB.1) (Nat.le_of_ble_eq_true rfl) (Nat.le_of_ble_eq_true rfl) rfl (Nat.zero_le _) (Nat.zero_le _) (w_X11_worseOf d hB z1 z4 h) (fun r5 hz5 h => ?_)
        obtain ⟨q6, h⟩ := h
        refine y_iadd Q_X11_leastAsks (k := 38) rfl ?_
        refine y_istore (L' := [some (.ref 602), some (.int (iI l1)), none, some (.int (iI l3)), some (.int (iI l4)), some (.int (iI (1 + r5)))]) Q_X11_leastAsks (k := 39) rfl (by decide) rfl ?_
        refine z_iload Q_X11_leastAsks (k := 40) rfl rfl ?_
        refine z_iload_n Q_X11_leastAsks (k := 41) rfl rfl ?_
        refine y_icmp_ge 76 Q_X11_leastAsks (k := 42) rfl (by decide) q6 z3 (fun c => ?_) (fun c => ?_)
        · replace h := h.1 c
          refine z_iload_n Q_X11_leastAsks (k := 45) rfl rfl ?_
          refine y_istore_n (L' := [some (.ref 602), some (.int (iI l1)), none, some (.int (iI l3)), some (.int (iI l4)), some (.int (iI (1 + r5)))]) Q_X11_leastAsks (k := 46) rfl (by decide) rfl ?_
          obtain ⟨q7, h⟩ := h
          refine y_iinc (L' := [some (.ref 602), some (.int (iI l1)), none, some (.int (iI l3)), some (.int (iI (l4 + 1))), some (.int (iI (1 + r5)))]) Q_X11_leastAsks (k := 47) rfl (by decide) rfl rfl ?_
          refine z_goto (tgt := 29) Q_X11_leastAsks (k := 48) rfl (by decide) ?_
          exact y_fg (zsb_c rfl (zsb_c rfl (zsb_n (zsb_c rfl (zsb_c rfl (zsb_n zsb_e)))))) (ih l3 (l4 + 1) z3 q7 h)
        · replace h := h.2 c
          refine z_iload Q_X11_leastAsks (k := 43) rfl rfl ?_
          refine z_goto (tgt := 77) Q_X11_leastAsks (k := 44) rfl (by decide) ?_
          refine y_istore_n (L' := [some (.ref 602), some (.int (iI l1)), none, some (.int (iI (1 + r5))), some (.int (iI l4)), some (.int (iI (1 + r5)))]) Q_X11_leastAsks (k := 46) rfl (by decide) rfl ?_
          obtain ⟨q8, h⟩ := h
          refine y_iinc (L' := [some (.ref 602), some (.int (iI l1)), none, some (.int (iI (1 + r5))), some (.int (iI (l4 + 1))), some (.int (iI (1 + r5)))]) Q_X11_leastAsks (k := 47) rfl (by decide) rfl rfl ?_
          refine z_goto (tgt := 29) Q_X11_leastAsks (k := 48) rfl (by decide) ?_
          exact y_fg (zsb_c rfl (zsb_c rfl (zsb_n (zsb_c rfl (zsb_c rfl (zsb_n zsb_e)))))) (ih (1 + r5) (l4 + 1) q6 q8 h)
      · replace h := h.2 c
        refine z_goto (tgt := 78) Q_X11_leastAsks (k := 32) rfl (by decide) ?_
        obtain ⟨q9, h⟩ := h
        refine y_iinc (L' := [some (.ref 602), some (.int (iI l1)), none, some (.int (iI l3)), some (.int (iI (l4 + 1))), none]) Q_X11_leastAsks (k := 47) rfl (by decide) rfl rfl ?_
        refine z_goto (tgt := 29) Q_X11_leastAsks (k := 48) rfl (by decide) ?_
        exact y_fg (zsb_c rfl (zsb_c rfl (zsb_n (zsb_c rfl (zsb_c rfl (zsb_n zsb_e)))))) (ih l3 (l4 + 1) z3 q9 h)
set_option maxHeartbeats 4000000 in
set_option maxRecDepth 20000 in
theorem w_X11_leastAsks {S : zS} {V : qV} {J : qJ} {Q : Int → Prop} (d : Nat) (hB : qB S V) {a1 : Int} (z1 : zr a1) (h : W_X11_leastAsks a1 V Q) : Z M_X11_leastAsks (d + 1) 0 0 0 [some (.ref 602), some (.int (iI a1)), none, none, none, none] [] S (qi V) (qj J) (qP_i S V J Q) := by
  unfold W_X11_leastAsks at h
  refine z_aload_n Q_X11_leastAsks (k := 0) rfl rfl ?_
  refine z_getR (b := 619) Q_X11_leastAsks (k := 1) rfl F_X11_67 rfl (n_ hB.1 rfl) (k_602 hB.1) (r_602_29 hB.1) ?_
  refine z_iload_n Q_X11_leastAsks (k := 2) rfl rfl ?_
  obtain ⟨q1, h⟩ := h
  refine q_iald (o := 619) (N := 59049) Q_X11_leastAsks (k := 3) rfl rfl (n_ hB.1 rfl) (k_619 hB.1) rfl q1 (by decide) ?_
  refine y_istore_n (L' := [some (.ref 602), some (.int (iI a1)), some (.int (iI (V 619 a1))), none, none, none]) Q_X11_leastAsks (k := 4) rfl (by decide) rfl ?_
  refine z_iload_n Q_X11_leastAsks (k := 5) rfl rfl ?_
  refine y_if_eq 21 Q_X11_leastAsks (k := 6) rfl (by decide) (hB.2.1 _ _) (fun c => ?_) (fun c => ?_)
  · replace h := h.1 c
    refine y_iconst Q_X11_leastAsks (k := 13) rfl ?_
    exact y_iret Q_X11_leastAsks (k := 14) rfl rfl (qI_i ⟨by decide, by decide⟩ h)
  · replace h := h.2 c
    refine z_iload_n Q_X11_leastAsks (k := 7) rfl rfl ?_
    refine y_iconst Q_X11_leastAsks (k := 8) rfl ?_
    refine z_iload_n Q_X11_leastAsks (k := 9) rfl rfl ?_
    refine q_callS1_i Q_X11_leastAsks (k := 10) rfl rfl K_X11_lowest S_X11_lowest L_X11_276 (Nat.le_of_ble_eq_true rfl) (Nat.le_of_ble_eq_true rfl) rfl (Nat.zero_le _) (Nat.zero_le _) (w_X11_lowest d hB (hB.2.1 _ _) h) (fun r2 hz2 h => ?_)
    refine y_ishl Q_X11_leastAsks (k := 11) rfl ?_
    refine y_icmp_ne 23 Q_X11_leastAsks (k := 12) rfl (by decide) (hB.2.1 _ _) (zshl_r _ _) (fun c => ?_) (fun c => ?_)
    · replace h := h.2 c
      refine y_bipush Q_X11_leastAsks (k := 15) rfl (by decide) ?_
      refine y_istore_n (L' := [some (.ref 602), some (.int (iI a1)), some (.int (iI (V 619 a1))), some (.int (iI 10)), none, none]) Q_X11_leastAsks (k := 16) rfl (by decide) rfl ?_
      refine y_iconst Q_X11_leastAsks (k := 17) rfl ?_
      refine y_istore (L' := [some (.ref 602), some (.int (iI a1)), some (.int (iI (V 619 a1))), some (.int (iI 10)), some (.int (iI 0)), none]) Q_X11_leastAsks (k := 18) rfl (by decide) rfl ?_
      refine y_fg (zsb_c rfl (zsb_c rfl (zsb_n (zsb_c rfl (zsb_c rfl (zsb_n zsb_e)))))) (v_X11_leastAsks_29 d hB z1 (fun l3x10 l4x10 zl3x10 zl4x10 h => ?_) 100000 10 0 ⟨by decide, by decide⟩ ⟨by decide, by decide⟩ h)
      refine z_iload_n Q_X11_leastAsks (k := 49) rfl rfl ?_
      exact y_iret Q_X11_leastAsks (k := 50) rfl rfl (qI_i zl3x10 h)
    · replace h := h.1 c
      refine y_iconst Q_X11_leastAsks (k := 13) rfl ?_
      exact y_iret Q_X11_leastAsks (k := 14) rfl rfl (qI_i ⟨by decide, by decide⟩ h)
set_option maxHeartbeats 4000000 in
set_option maxRecDepth 20000 in
theorem v_X11_findCubes_15 {S : zS} {V : qV} {J : qJ} {K : Int → Int → Int → Prop} {Q : qV → Prop} {kc ks : Nat} (d : Nat) (hB : qB S V) {l1 : Int} (z1 : zr l1) (hK : ∀ (l2 : Int) (l3 : Int) (l4 : Int), zr l2 → zr l3 → zr l4 → K l2 l3 l4 → Z M_X11_findCubes (d + 2) kc ks 67 [some (.ref 602), some (.int (iI l1)), some (.int (iI l2)), some (.int (iI l3)), some (.int (iI l4)), none] [] S (qi V) (qj J) (qP_uV S J Q)) : ∀ (f : Nat) (l2 : Int) (l3 : Int) (l4 : Int), zr l2 → zr l3 → zr l4 → lp_X11_findCubes_15 l1 V K f l2 l3 l4 → Z M_X11_findCubes (d + 2) kc ks 15 [some (.ref 602), some (.int (iI l1)), some (.int (iI l2)), some (.int (iI l3)), some (.int (iI l4)), none] [] S (qi V) (qj J) (qP_uV S J Q) := by
  intro f
  induction f with
  | zero =>
    intro l2 l3 l4 z2 z3 z4 h
    exact h.elim
  | succ f ih =>
    intro l2 l3 l4 z2 z3 z4 h
    rw [lp_X11_findCubes_15] at h
    refine z_iload Q_X11_findCubes (k := 11) rfl rfl ?_
    refine y_bipush Q_X11_findCubes (k := 12) rfl (by decide) ?_
    refine y_icmp_ge 67 Q_X11_findCubes (k := 13) rfl (by decide) z4 ⟨by decide, by decide⟩ (fun c => ?_) (fun c => ?_)
    · replace h := h.1 c
      exact y_fg (zsb_c rfl (zsb_c rfl (zsb_c rfl (zsb_c rfl (zsb_c rfl (zsb_n zsb_e)))))) (hK l2 l3 l4 z2 z3 z4 h)
    · replace h := h.2 c
      refine z_iload_n Q_X11_findCubes (k := 14) rfl rfl ?_
      refine z_aload_n Q_X11_findCubes (k := 15) rfl rfl ?_
      refine z_getR (b := 621) Q_X11_findCubes (k := 16) rfl F_X11_73 rfl (n_ hB.1 rfl) (k_602 hB.1) (r_602_31 hB.1) ?_
      refine z_iload Q_X11_findCubes (k := 17) rfl rfl ?_
      obtain ⟨q1, h⟩ := h
      refine q_iald (o := 621) (N := 10) Q_X11_findCubes (k := 18) rfl rfl (n_ hB.1 rfl) (k_621 hB.1) rfl q1 (by decide) ?_
      obtain ⟨q2, h⟩ := h
      refine y_idiv Q_X11_findCubes (k := 19) rfl z1 q2 (hB.2.1 _ _) ?_
      refine y_iconst Q_X11_findCubes (k := 20) rfl ?_
      refine q_irem Q_X11_findCubes (k := 21) rfl (q_tdiv z1 q2) (by decide) ⟨by decide, by decide⟩ ?_
      refine y_istore (L' := [some (.ref 602), some (.int (iI l1)), some (.int (iI l2)), some (.int (iI l3)), some (.int (iI l4)), some (.int (iI ((l1.tdiv (V 621 l4)).tmod 3)))]) Q_X11_findCubes (k := 22) rfl (by decide) rfl ?_
      refine z_iload Q_X11_findCubes (k := 23) rfl rfl ?_
      refine y_iconst Q_X11_findCubes (k := 24) rfl ?_
      refine y_icmp_ne 44 Q_X11_findCubes (k := 25) rfl (by decide) (q_tmod (q_tdiv z1 q2)) ⟨by decide, by decide⟩ (fun c => ?_) (fun c => ?_)
      · replace h := h.2 c
        refine z_iload_n Q_X11_findCubes (k := 28) rfl rfl ?_
        refine z_iload Q_X11_findCubes (k := 29) rfl rfl ?_
        refine y_iconst Q_X11_findCubes (k := 30) rfl ?_
        refine y_icmp_ne 58 Q_X11_findCubes (k := 31) rfl (by decide) (q_tmod (q_tdiv z1 q2)) ⟨by decide, by decide⟩ (fun c => ?_) (fun c => ?_)
        · replace h := h.2 c
          refine y_iconst Q_X11_findCubes (k := 36) rfl ?_
          refine y_ior Q_X11_findCubes (k := 37) rfl ?_
          refine y_istore_n (L' := [some (.ref 602), some (.int (iI l1)), some (.int (iI l2)), some (.int (iI (zor l3 0))), some (.int (iI l4)), some (.int (iI ((l1.tdiv (V 621 l4)).tmod 3)))]) Q_X11_findCubes (k := 38) rfl (by decide) rfl ?_
          obtain ⟨q3, h⟩ := h
          refine y_iinc (L' := [some (.ref 602), some (.int (iI l1)), some (.int (iI l2)), some (.int (iI (zor l3 0))), some (.int (iI (l4 + 1))), some (.int (iI ((l1.tdiv (V 621 l4)).tmod 3)))]) Q_X11_findCubes (k := 39) rfl (by decide) rfl rfl ?_
          refine z_goto (tgt := 15) Q_X11_findCubes (k := 40) rfl (by decide) ?_
          exact y_fg (zsb_c rfl (zsb_c rfl (zsb_c rfl (zsb_c rfl (zsb_c rfl (zsb_n zsb_e)))))) (ih l2 (zor l3 0) (l4 + 1) z2 (zor_r _ _) q3 h)
        · replace h := h.1 c
          refine y_iconst Q_X11_findCubes (k := 32) rfl ?_
          refine z_iload Q_X11_findCubes (k := 33) rfl rfl ?_
          refine y_ishl Q_X11_findCubes (k := 34) rfl ?_
          refine z_goto (tgt := 59) Q_X11_findCubes (k := 35) rfl (by decide) ?_
          refine y_ior Q_X11_findCubes (k := 37) rfl ?_
          refine y_istore_n (L' := [some (.ref 602), some (.int (iI l1)), some (.int (iI l2)), some (.int (iI (zor l3 (zshl 1 l4)))), some (.int (iI l4)), some (.int (iI ((l1.tdiv (V 621 l4)).tmod 3)))]) Q_X11_findCubes (k := 38) rfl (by decide) rfl ?_
          obtain ⟨q4, h⟩ := h
          refine y_iinc (L' := [some (.ref 602), some (.int (iI l1)), some (.int (iI l2)), some (.int (iI (zor l3 (zshl 1 l4)))), some (.int (iI (l4 + 1))), some (.int (iI ((l1.tdiv (V 621 l4)).tmod 3)))]) Q_X11_findCubes (k := 39) rfl (by decide) rfl rfl ?_
          refine z_goto (tgt := 15) Q_X11_findCubes (k := 40) rfl (by decide) ?_
          exact y_fg (zsb_c rfl (zsb_c rfl (zsb_c rfl (zsb_c rfl (zsb_c rfl (zsb_n zsb_e)))))) (ih l2 (zor l3 (zshl 1 l4)) (l4 + 1) z2 (zor_r _ _) q4 h)
      · replace h := h.1 c
        refine z_iload Q_X11_findCubes (k := 26) rfl rfl ?_
        refine y_istore_n (L' := [some (.ref 602), some (.int (iI l1)), some (.int (iI l4)), some (.int (iI l3)), some (.int (iI l4)), some (.int (iI ((l1.tdiv (V 621 l4)).tmod 3)))]) Q_X11_findCubes (k := 27) rfl (by decide) rfl ?_
        refine z_iload_n Q_X11_findCubes (k := 28) rfl rfl ?_
        refine z_iload Q_X11_findCubes (k := 29) rfl rfl ?_
        refine y_iconst Q_X11_findCubes (k := 30) rfl ?_
        refine y_icmp_ne 58 Q_X11_findCubes (k := 31) rfl (by decide) (q_tmod (q_tdiv z1 q2)) ⟨by decide, by decide⟩ (fun c => ?_) (fun c => ?_)
        · replace h := h.2 c
          refine y_iconst Q_X11_findCubes (k := 36) rfl ?_
          refine y_ior Q_X11_findCubes (k := 37) rfl ?_
          refine y_istore_n (L' := [some (.ref 602), some (.int (iI l1)), some (.int (iI l4)), some (.int (iI (zor l3 0))), some (.int (iI l4)), some (.int (iI ((l1.tdiv (V 621 l4)).tmod 3)))]) Q_X11_findCubes (k := 38) rfl (by decide) rfl ?_
          obtain ⟨q5, h⟩ := h
          refine y_iinc (L' := [some (.ref 602), some (.int (iI l1)), some (.int (iI l4)), some (.int (iI (zor l3 0))), some (.int (iI (l4 + 1))), some (.int (iI ((l1.tdiv (V 621 l4)).tmod 3)))]) Q_X11_findCubes (k := 39) rfl (by decide) rfl rfl ?_
          refine z_goto (tgt := 15) Q_X11_findCubes (k := 40) rfl (by decide) ?_
          exact y_fg (zsb_c rfl (zsb_c rfl (zsb_c rfl (zsb_c rfl (zsb_c rfl (zsb_n zsb_e)))))) (ih l4 (zor l3 0) (l4 + 1) z4 (zor_r _ _) q5 h)
        · replace h := h.1 c
          refine y_iconst Q_X11_findCubes (k := 32) rfl ?_
          refine z_iload Q_X11_findCubes (k := 33) rfl rfl ?_
          refine y_ishl Q_X11_findCubes (k := 34) rfl ?_
          refine z_goto (tgt := 59) Q_X11_findCubes (k := 35) rfl (by decide) ?_
          refine y_ior Q_X11_findCubes (k := 37) rfl ?_
          refine y_istore_n (L' := [some (.ref 602), some (.int (iI l1)), some (.int (iI l4)), some (.int (iI (zor l3 (zshl 1 l4)))), some (.int (iI l4)), some (.int (iI ((l1.tdiv (V 621 l4)).tmod 3)))]) Q_X11_findCubes (k := 38) rfl (by decide) rfl ?_
          obtain ⟨q6, h⟩ := h
          refine y_iinc (L' := [some (.ref 602), some (.int (iI l1)), some (.int (iI l4)), some (.int (iI (zor l3 (zshl 1 l4)))), some (.int (iI (l4 + 1))), some (.int (iI ((l1.tdiv (V 621 l4)).tmod 3)))]) Q_X11_findCubes (k := 39) rfl (by decide) rfl rfl ?_
          refine z_goto (tgt := 15) Q_X11_findCubes (k := 40) rfl (by decide) ?_
          exact y_fg (zsb_c rfl (zsb_c rfl (zsb_c rfl (zsb_c rfl (zsb_c rfl (zsb_n zsb_e)))))) (ih l4 (zor l3 (zshl 1 l4)) (l4 + 1) z4 (zor_r _ _) q6 h)
set_option maxHeartbeats 4000000 in
set_option maxRecDepth 20000 in
theorem v_X11_findCubes_2 {S : zS} {J : qJ} {K : Int → qV → Prop} {Q : qV → Prop} {kc ks : Nat} (d : Nat) (hK : ∀ (l1 : Int) (V : qV), qB S V → zr l1 → K l1 V → Z M_X11_findCubes (d + 2) kc ks 161 [some (.ref 602), some (.int (iI l1)), none, none, none, none] [] S (qi V) (qj J) (qP_uV S J Q)) : ∀ (f : Nat) (l1 : Int) (V : qV), qB S V → zr l1 → lp_X11_findCubes_2 K f l1 V → Z M_X11_findCubes (d + 2) kc ks 2 [some (.ref 602), some (.int (iI l1)), none, none, none, none] [] S (qi V) (qj J) (qP_uV S J Q) := by
  intro f
  induction f with
  | zero =>
    intro l1 V hB z1 h
    exact h.elim
  | succ f ih =>
    intro l1 V hB z1 h
    rw [lp_X11_findCubes_2] at h
    refine z_iload_n Q_X11_findCubes (k := 2) rfl rfl ?_
    refine z_ldc Q_X11_findCubes (k := 3) rfl cC_X11_66 (y_raw (y := 59049) rfl ?_)
    refine y_icmp_ge 161 Q_X11_findCubes (k := 4) rfl (by decide) z1 ⟨by decide, by decide⟩ (fun c => ?_) (fun c => ?_)
    · replace h := h.1 c
      exact y_fg (zsb_c rfl (zsb_c rfl (zsb_n (zsb_n (zsb_n (zsb_n zsb_e)))))) (hK l1 V hB z1 h)
    · replace h := h.2 c
      refine y_iconst Q_X11_findCubes (k := 5) rfl ?_
      refine y_istore_n (L' := [some (.ref 602), some (.int (iI l1)), some (.int (iI (-1))), none, none, none]) Q_X11_findCubes (k := 6) rfl (by decide) rfl ?_
      refine y_iconst Q_X11_findCubes (k := 7) rfl ?_
      refine y_istore_n (L' := [some (.ref 602), some (.int (iI l1)), some (.int (iI (-1))), some (.int (iI 0)), none, none]) Q_X11_findCubes (k := 8) rfl (by decide) rfl ?_
      refine y_iconst Q_X11_findCubes (k := 9) rfl ?_
      refine y_istore (L' := [some (.ref 602), some (.int (iI l1)), some (.int (iI (-1))), some (.int (iI 0)), some (.int (iI 0)), none]) Q_X11_findCubes (k := 10) rfl (by decide) rfl ?_
      refine y_fg (zsb_c rfl (zsb_c rfl (zsb_c rfl (zsb_c rfl (zsb_c rfl (zsb_n zsb_e)))))) (v_X11_findCubes_15 d hB z1 (fun l2x7 l3x7 l4x7 zl2x7 zl3x7 zl4x7 h => ?_) 100000 (-1) 0 0 ⟨by decide, by decide⟩ ⟨by decide, by decide⟩ ⟨by decide, by decide⟩ h)
      refine z_iload_n Q_X11_findCubes (k := 41) rfl rfl ?_
      refine y_iconst Q_X11_findCubes (k := 42) rfl ?_
      refine y_icmp_ne 109 Q_X11_findCubes (k := 43) rfl (by decide) zl2x7 ⟨by decide, by decide⟩ (fun c => ?_) (fun c => ?_)
      · replace h := h.2 c
        refine z_aload_n Q_X11_findCubes (k := 67) rfl rfl ?_
        refine z_getR (b := 619) Q_X11_findCubes (k := 68) rfl F_X11_67 rfl (n_ hB.1 rfl) (k_602 hB.1) (r_602_29 hB.1) ?_
        refine z_iload_n Q_X11_findCubes (k := 69) rfl rfl ?_
        refine z_aload_n Q_X11_findCubes (k := 70) rfl rfl ?_
        refine z_getR (b := 619) Q_X11_findCubes (k := 71) rfl F_X11_67 rfl (n_ hB.1 rfl) (k_602 hB.1) (r_602_29 hB.1) ?_
        refine z_iload_n Q_X11_findCubes (k := 72) rfl rfl ?_
        refine z_aload_n Q_X11_findCubes (k := 73) rfl rfl ?_
        refine z_getR (b := 621) Q_X11_findCubes (k := 74) rfl F_X11_73 rfl (n_ hB.1 rfl) (k_602 hB.1) (r_602_31 hB.1) ?_
        refine z_iload_n Q_X11_findCubes (k := 75) rfl rfl ?_
        obtain ⟨q8, h⟩ := h
        refine q_iald (o := 621) (N := 10) Q_X11_findCubes (k := 76) rfl rfl (n_ hB.1 rfl) (k_621 hB.1) rfl q8 (by decide) ?_
        obtain ⟨q9, h⟩ := h
        refine y_isub Q_X11_findCubes (k := 77) rfl ?_
        obtain ⟨q10, h⟩ := h
        refine q_iald (o := 619) (N := 59049) Q_X11_findCubes (k := 78) rfl rfl (n_ hB.1 rfl) (k_619 hB.1) rfl q10 (by decide) ?_
        refine z_aload_n Q_X11_findCubes (k := 79) rfl rfl ?_
        refine z_getR (b := 619) Q_X11_findCubes (k := 80) rfl F_X11_67 rfl (n_ hB.1 rfl) (k_602 hB.1) (r_602_29 hB.1) ?_
        refine z_iload_n Q_X11_findCubes (k := 81) rfl rfl ?_
        refine y_iconst Q_X11_findCubes (k := 82) rfl ?_
        refine z_aload_n Q_X11_findCubes (k := 83) rfl rfl ?_
        refine z_getR (b := 621) Q_X11_findCubes (k := 84) rfl F_X11_73 rfl (n_ hB.1 rfl) (k_602 hB.1) (r_602_31 hB.1) ?_
        refine z_iload_n Q_X11_findCubes (k := 85) rfl rfl ?_
        obtain ⟨q11, h⟩ := h
        refine q_iald (o := 621) (N := 10) Q_X11_findCubes (k := 86) rfl rfl (n_ hB.1 rfl) (k_621 hB.1) rfl q11 (by decide) ?_
        obtain ⟨q12, h⟩ := h
        refine y_imul Q_X11_findCubes (k := 87) rfl ?_
        obtain ⟨q13, h⟩ := h
        refine y_isub Q_X11_findCubes (k := 88) rfl ?_
        obtain ⟨q14, h⟩ := h
        refine q_iald (o := 619) (N := 59049) Q_X11_findCubes (k := 89) rfl rfl (n_ hB.1 rfl) (k_619 hB.1) rfl q14 (by decide) ?_
        refine y_ior Q_X11_findCubes (k := 90) rfl ?_
        obtain ⟨q15, h⟩ := h
        refine q_iast (o := 619) (N := 59049) Q_X11_findCubes (k := 91) rfl rfl (n_ hB.1 rfl) (k_619 hB.1) rfl q15 (by decide) ?_
        have hB16 := qB.u (a := 619) (j := l1) (x := zor (V 619 (l1 - (V 621 l2x7))) (V 619 (l1 - (2 * (V 621 l2x7))))) hB (zor_r _ _) (Or.inl (by decide))
        refine z_aload_n Q_X11_findCubes (k := 92) rfl rfl ?_
        refine z_getR (b := 620) Q_X11_findCubes (k := 93) rfl F_X11_70 rfl (n_ hB16.1 rfl) (k_602 hB16.1) (r_602_30 hB16.1) ?_
        refine z_iload_n Q_X11_findCubes (k := 94) rfl rfl ?_
        refine z_aload_n Q_X11_findCubes (k := 95) rfl rfl ?_
        refine z_iload_n Q_X11_findCubes (k := 96) rfl rfl ?_
        refine q_callV1_i Q_X11_findCubes (k := 97) rfl rfl K_X11_leastAsks V_X11_leastAsks L_X11_285 (n_ hB16.1 rfl) (k_602 hB16.1) (Nat.le_of_ble_eq_true rfl) (Nat.le_of_ble_eq_true rfl) rfl (Nat.zero_le _) (Nat.zero_le _) (w_X11_leastAsks d hB16 z1 h) (fun r17 hz17 h => ?_)
        obtain ⟨q18, h⟩ := h
        refine q_iast (o := 620) (N := 59049) Q_X11_findCubes (k := 98) rfl rfl (n_ hB16.1 rfl) (k_620 hB16.1) rfl q18 (by decide) ?_
        have hB19 := qB.u (a := 620) (j := l1) (x := r17) hB16 hz17 (Or.inl (by decide))
        obtain ⟨q20, h⟩ := h
        refine y_iinc (L' := [some (.ref 602), some (.int (iI (l1 + 1))), some (.int (iI l2x7)), some (.int (iI l3x7)), some (.int (iI l4x7)), none]) Q_X11_findCubes (k := 99) rfl (by decide) rfl rfl ?_
        refine z_goto (tgt := 2) Q_X11_findCubes (k := 100) rfl (by decide) ?_
        exact y_fg (zsb_c rfl (zsb_c rfl (zsb_n (zsb_n (zsb_n (zsb_n zsb_e)))))) (ih (l1 + 1) (qu (qu V 619 l1 (zor (V 619 (l1 - (V 621 l2x7))) (V 619 (l1 - (2 * (V 621 l2x7)))))) 620 l1 r17) hB19 q20 h)
      · replace h := h.1 c
        refine z_aload_n Q_X11_findCubes (k := 44) rfl rfl ?_
        refine z_getR (b := 619) Q_X11_findCubes (k := 45) rfl F_X11_67 rfl (n_ hB.1 rfl) (k_602 hB.1) (r_602_29 hB.1) ?_
        refine z_iload_n Q_X11_findCubes (k := 46) rfl rfl ?_
        refine z_aload_n Q_X11_findCubes (k := 47) rfl rfl ?_
        refine z_getR (b := 616) Q_X11_findCubes (k := 48) rfl F_X11_56 rfl (n_ hB.1 rfl) (k_602 hB.1) (r_602_24 hB.1) ?_
        refine z_iload_n Q_X11_findCubes (k := 49) rfl rfl ?_
        obtain ⟨q21, h⟩ := h
        refine q_zald (o := 616) (N := 1024) Q_X11_findCubes (k := 50) rfl rfl (n_ hB.1 rfl) (k_616 hB.1) rfl q21 (by decide) ?_
        refine y_if_eq 97 Q_X11_findCubes (k := 51) rfl (by decide) (hB.2.1 _ _) (fun c => ?_) (fun c => ?_)
        · replace h := h.1 c
          refine y_iconst Q_X11_findCubes (k := 59) rfl ?_
          obtain ⟨q22, h⟩ := h
          refine q_iast (o := 619) (N := 59049) Q_X11_findCubes (k := 60) rfl rfl (n_ hB.1 rfl) (k_619 hB.1) rfl q22 (by decide) ?_
          have hB23 := qB.u (a := 619) (j := l1) (x := 0) hB ⟨by decide, by decide⟩ (Or.inl (by decide))
          refine z_aload_n Q_X11_findCubes (k := 61) rfl rfl ?_
          refine z_getR (b := 620) Q_X11_findCubes (k := 62) rfl F_X11_70 rfl (n_ hB23.1 rfl) (k_602 hB23.1) (r_602_30 hB23.1) ?_
          refine z_iload_n Q_X11_findCubes (k := 63) rfl rfl ?_
          refine y_iconst Q_X11_findCubes (k := 64) rfl ?_
          obtain ⟨q24, h⟩ := h
          refine q_iast (o := 620) (N := 59049) Q_X11_findCubes (k := 65) rfl rfl (n_ hB23.1 rfl) (k_620 hB23.1) rfl q24 (by decide) ?_
          have hB25 := qB.u (a := 620) (j := l1) (x := 0) hB23 ⟨by decide, by decide⟩ (Or.inl (by decide))
          refine z_goto (tgt := 155) Q_X11_findCubes (k := 66) rfl (by decide) ?_
          obtain ⟨q26, h⟩ := h
          refine y_iinc (L' := [some (.ref 602), some (.int (iI (l1 + 1))), some (.int (iI l2x7)), some (.int (iI l3x7)), some (.int (iI l4x7)), none]) Q_X11_findCubes (k := 99) rfl (by decide) rfl rfl ?_
          refine z_goto (tgt := 2) Q_X11_findCubes (k := 100) rfl (by decide) ?_
          exact y_fg (zsb_c rfl (zsb_c rfl (zsb_n (zsb_n (zsb_n (zsb_n zsb_e)))))) (ih (l1 + 1) (qu (qu V 619 l1 0) 620 l1 0) hB25 q26 h)
        · replace h := h.2 c
          refine y_iconst Q_X11_findCubes (k := 52) rfl ?_
          refine z_aload_n Q_X11_findCubes (k := 53) rfl rfl ?_
          refine z_getR (b := 617) Q_X11_findCubes (k := 54) rfl F_X11_60 rfl (n_ hB.1 rfl) (k_602 hB.1) (r_602_26 hB.1) ?_
          refine z_iload_n Q_X11_findCubes (k := 55) rfl rfl ?_
          obtain ⟨q27, h⟩ := h
          refine q_iald (o := 617) (N := 1024) Q_X11_findCubes (k := 56) rfl rfl (n_ hB.1 rfl) (k_617 hB.1) rfl q27 (by decide) ?_
          refine y_ishl Q_X11_findCubes (k := 57) rfl ?_
          refine z_goto (tgt := 98) Q_X11_findCubes (k := 58) rfl (by decide) ?_
          obtain ⟨q28, h⟩ := h
          refine q_iast (o := 619) (N := 59049) Q_X11_findCubes (k := 60) rfl rfl (n_ hB.1 rfl) (k_619 hB.1) rfl q28 (by decide) ?_
          have hB29 := qB.u (a := 619) (j := l1) (x := zshl 1 (V 617 l3x7)) hB (zshl_r _ _) (Or.inl (by decide))
          refine z_aload_n Q_X11_findCubes (k := 61) rfl rfl ?_
          refine z_getR (b := 620) Q_X11_findCubes (k := 62) rfl F_X11_70 rfl (n_ hB29.1 rfl) (k_602 hB29.1) (r_602_30 hB29.1) ?_
          refine z_iload_n Q_X11_findCubes (k := 63) rfl rfl ?_
          refine y_iconst Q_X11_findCubes (k := 64) rfl ?_
          obtain ⟨q30, h⟩ := h
          refine q_iast (o := 620) (N := 59049) Q_X11_findCubes (k := 65) rfl rfl (n_ hB29.1 rfl) (k_620 hB29.1) rfl q30 (by decide) ?_
          have hB31 := qB.u (a := 620) (j := l1) (x := 0) hB29 ⟨by decide, by decide⟩ (Or.inl (by decide))
          refine z_goto (tgt := 155) Q_X11_findCubes (k := 66) rfl (by decide) ?_
          obtain ⟨q32, h⟩ := h
          refine y_iinc (L' := [some (.ref 602), some (.int (iI (l1 + 1))), some (.int (iI l2x7)), some (.int (iI l3x7)), some (.int (iI l4x7)), none]) Q_X11_findCubes (k := 99) rfl (by decide) rfl rfl ?_
          refine z_goto (tgt := 2) Q_X11_findCubes (k := 100) rfl (by decide) ?_
          exact y_fg (zsb_c rfl (zsb_c rfl (zsb_n (zsb_n (zsb_n (zsb_n zsb_e)))))) (ih (l1 + 1) (qu (qu V 619 l1 (zshl 1 (V 617 l3x7))) 620 l1 0) hB31 q32 h)
set_option maxHeartbeats 4000000 in
set_option maxRecDepth 20000 in
theorem w_X11_findCubes {S : zS} {V : qV} {J : qJ} {Q : qV → Prop} (d : Nat) (hB : qB S V) (h : W_X11_findCubes V Q) : Z M_X11_findCubes (d + 2) 0 0 0 [some (.ref 602), none, none, none, none, none] [] S (qi V) (qj J) (qP_uV S J Q) := by
  unfold W_X11_findCubes at h
  refine y_iconst Q_X11_findCubes (k := 0) rfl ?_
  refine y_istore_n (L' := [some (.ref 602), some (.int (iI 0)), none, none, none, none]) Q_X11_findCubes (k := 1) rfl (by decide) rfl ?_
  refine y_fg (zsb_c rfl (zsb_c rfl (zsb_n (zsb_n (zsb_n (zsb_n zsb_e)))))) (v_X11_findCubes_2 d (fun l1x33 V33 hB33 zl1x33 h => ?_) 100000 0 V hB ⟨by decide, by decide⟩ h)
  exact z_vret Q_X11_findCubes (k := 101) rfl rfl (qI_uV hB33 h)
set_option maxHeartbeats 4000000 in
set_option maxRecDepth 20000 in
theorem w_X11_questions {S : zS} {V : qV} {J : qJ} {Q : Int → qV → Prop} (d : Nat) (hB : qB S V) {a1 : Int} (z1 : zr a1) {a2 : Int} (z2 : zr a2) (h : W_X11_questions a1 a2 V Q) : Z M_X11_questions (d + 3) 0 0 0 [some (.ref 602), some (.int (iI a1)), some (.int (iI a2))] [] S (qi V) (qj J) (qP_iV S J Q) := by
  unfold W_X11_questions at h
  refine z_aload_n Q_X11_questions (k := 0) rfl rfl ?_
  refine y_iconst Q_X11_questions (k := 1) rfl ?_
  refine q_putI (o := 602) (z := 0) Q_X11_questions (k := 2) rfl F_X11_1 rfl rfl rfl (n_ hB.1 rfl) (k_602 hB.1) ?_
  have hB1 := qB.u (a := 602) (j := 0) (x := 0) hB ⟨by decide, by decide⟩ (Or.inl (by decide))
  refine z_aload_n Q_X11_questions (k := 3) rfl rfl ?_
  refine z_iload_n Q_X11_questions (k := 4) rfl rfl ?_
  refine z_iload_n Q_X11_questions (k := 5) rfl rfl ?_
  refine q_callV2_zV Q_X11_questions (k := 6) rfl rfl K_X11_asks V_X11_asks L_X11_267 (n_ hB1.1 rfl) (k_602 hB1.1) (Nat.le_of_ble_eq_true rfl) (Nat.le_of_ble_eq_true rfl) rfl (Nat.zero_le _) (Nat.zero_le _) (w_X11_asks d hB1 z1 z2 h) (fun r2 V2 hB2 hz2 hb2 h => ?_)
  refine y_if_ne 16 Q_X11_questions (k := 7) rfl (by decide) hz2 (fun c => ?_) (fun c => ?_)
  · replace h := h.2 c
    refine z_aload_n Q_X11_questions (k := 10) rfl rfl ?_
    refine z_iload_n Q_X11_questions (k := 11) rfl rfl ?_
    refine z_iload_n Q_X11_questions (k := 12) rfl rfl ?_
    refine q_callV2_uV Q_X11_questions (k := 13) rfl rfl K_X11_findWho V_X11_findWho L_X11_270 (n_ hB2.1 rfl) (k_602 hB2.1) (Nat.le_of_ble_eq_true rfl) (Nat.le_of_ble_eq_true rfl) rfl (Nat.zero_le _) (Nat.zero_le _) (w_X11_findWho d hB2 z1 z2 h) (fun V3 hB3 h => ?_)
    refine z_aload_n Q_X11_questions (k := 14) rfl rfl ?_
    refine q_callV0_uV Q_X11_questions (k := 15) rfl rfl K_X11_findCubes V_X11_findCubes L_X11_291 (n_ hB3.1 rfl) (k_602 hB3.1) (Nat.le_of_ble_eq_true rfl) (Nat.le_of_ble_eq_true rfl) rfl (Nat.zero_le _) (Nat.zero_le _) (w_X11_findCubes d hB3  h) (fun V4 hB4 h => ?_)
    refine z_aload_n Q_X11_questions (k := 16) rfl rfl ?_
    refine z_getR (b := 620) Q_X11_questions (k := 17) rfl F_X11_70 rfl (n_ hB4.1 rfl) (k_602 hB4.1) (r_602_30 hB4.1) ?_
    refine z_aload_n Q_X11_questions (k := 18) rfl rfl ?_
    refine q_callV0_i Q_X11_questions (k := 19) rfl rfl K_X11_startCube V_X11_startCube L_X11_294 (n_ hB4.1 rfl) (k_602 hB4.1) (Nat.le_of_ble_eq_true rfl) (Nat.le_of_ble_eq_true rfl) rfl (Nat.zero_le _) (Nat.zero_le _) (w_X11_startCube (d + 2) hB4  h) (fun r5 hz5 h => ?_)
    obtain ⟨q6, h⟩ := h
    refine q_iald (o := 620) (N := 59049) Q_X11_questions (k := 20) rfl rfl (n_ hB4.1 rfl) (k_620 hB4.1) rfl q6 (by decide) ?_
    exact y_iret Q_X11_questions (k := 21) rfl rfl (qI_iV hB4 (hB4.2.1 _ _) h)
  · replace h := h.1 c
    refine y_iconst Q_X11_questions (k := 8) rfl ?_
    exact y_iret Q_X11_questions (k := 9) rfl rfl (qI_iV hB2 ⟨by decide, by decide⟩ h)
set_option maxHeartbeats 4000000 in
set_option maxRecDepth 20000 in
theorem v_X11_ask_45 {S : zS} {V : qV} {J : qJ} {K : Int → Prop} {Q : Int → qV → Prop} {kc ks : Nat} (d : Nat) (hB : qB S V) {l3 : Int} (z3 : zr l3) (hK : ∀ (l4 : Int), zr l4 → K l4 → Z M_X11_ask (d + 3) kc ks 82 [some (.ref 602), none, none, some (.int (iI l3)), some (.int (iI l4))] [] S (qi V) (qj J) (qP_iV S J Q)) : ∀ (f : Nat) (l4 : Int), zr l4 → lp_X11_ask_45 l3 V K f l4 → Z M_X11_ask (d + 3) kc ks 45 [some (.ref 602), none, none, some (.int (iI l3)), some (.int (iI l4))] [] S (qi V) (qj J) (qP_iV S J Q) := by
  intro f
  induction f with
  | zero =>
    intro l4 z4 h
    exact h.elim
  | succ f ih =>
    intro l4 z4 h
    rw [lp_X11_ask_45] at h
    refine z_aload_n Q_X11_ask (k := 28) rfl rfl ?_
    refine z_getR (b := 603) Q_X11_ask (k := 29) rfl F_X11_13 rfl (n_ hB.1 rfl) (k_602 hB.1) (r_602_1 hB.1) ?_
    refine y_iconst Q_X11_ask (k := 30) rfl ?_
    refine z_iload Q_X11_ask (k := 31) rfl rfl ?_
    obtain ⟨q7, h⟩ := h
    refine y_iadd Q_X11_ask (k := 32) rfl ?_
    obtain ⟨q8, h⟩ := h
    refine q_iald (o := 603) (N := 594) Q_X11_ask (k := 33) rfl rfl (n_ hB.1 rfl) (k_603 hB.1) rfl q8 (by decide) ?_
    refine y_iconst Q_X11_ask (k := 34) rfl ?_
    refine y_icmp_ne 76 Q_X11_ask (k := 35) rfl (by decide) (hB.2.1 _ _) ⟨by decide, by decide⟩ (fun c => ?_) (fun c => ?_)
    · replace h := h.2 c
      obtain ⟨q9, h⟩ := h
      refine y_iinc (L' := [some (.ref 602), none, none, some (.int (iI l3)), some (.int (iI (l4 + 1)))]) Q_X11_ask (k := 47) rfl (by decide) rfl rfl ?_
      refine z_goto (tgt := 45) Q_X11_ask (k := 48) rfl (by decide) ?_
      exact y_fg (zsb_c rfl (zsb_n (zsb_n (zsb_c rfl (zsb_c rfl zsb_e))))) (ih (l4 + 1) q9 h)
    · replace h := h.1 c
      refine y_iconst Q_X11_ask (k := 36) rfl ?_
      refine z_aload_n Q_X11_ask (k := 37) rfl rfl ?_
      refine z_iload_n Q_X11_ask (k := 38) rfl rfl ?_
      refine z_iload Q_X11_ask (k := 39) rfl rfl ?_
      refine q_callV2_i Q_X11_ask (k := 40) rfl rfl K_X11_worseOf V_X11_worseOf L_X11_288 (n_ hB.1 rfl) (k_602 hB.1) (Nat.le_of_ble_eq_true rfl) (Nat.le_of_ble_eq_true rfl) rfl (Nat.zero_le _) (Nat.zero_le _) (w_X11_worseOf (d + 2) hB z3 z4 h) (fun r10 hz10 h => ?_)
      obtain ⟨q11, h⟩ := h
      refine y_iadd Q_X11_ask (k := 41) rfl ?_
      refine z_aload_n Q_X11_ask (k := 42) rfl rfl ?_
      refine z_getR (b := 620) Q_X11_ask (k := 43) rfl F_X11_70 rfl (n_ hB.1 rfl) (k_602 hB.1) (r_602_30 hB.1) ?_
      refine z_iload_n Q_X11_ask (k := 44) rfl rfl ?_
      obtain ⟨q12, h⟩ := h
      refine q_iald (o := 620) (N := 59049) Q_X11_ask (k := 45) rfl rfl (n_ hB.1 rfl) (k_620 hB.1) rfl q12 (by decide) ?_
      refine y_icmp_eq 82 Q_X11_ask (k := 46) rfl (by decide) q11 (hB.2.1 _ _) (fun c => ?_) (fun c => ?_)
      · replace h := h.1 c
        exact y_fg (zsb_c rfl (zsb_n (zsb_n (zsb_c rfl (zsb_c rfl zsb_e))))) (hK l4 z4 h)
      · replace h := h.2 c
        obtain ⟨q13, h⟩ := h
        refine y_iinc (L' := [some (.ref 602), none, none, some (.int (iI l3)), some (.int (iI (l4 + 1)))]) Q_X11_ask (k := 47) rfl (by decide) rfl rfl ?_
        refine z_goto (tgt := 45) Q_X11_ask (k := 48) rfl (by decide) ?_
        exact y_fg (zsb_c rfl (zsb_n (zsb_n (zsb_c rfl (zsb_c rfl zsb_e))))) (ih (l4 + 1) q13 h)
set_option maxHeartbeats 4000000 in
set_option maxRecDepth 20000 in
theorem w_X11_ask {S : zS} {V : qV} {J : qJ} {Q : Int → qV → Prop} (d : Nat) (hB : qB S V) {a1 : Int} (z1 : zr a1) {a2 : Int} (z2 : zr a2) (h : W_X11_ask a1 a2 V Q) : Z M_X11_ask (d + 3) 0 0 0 [some (.ref 602), some (.int (iI a1)), some (.int (iI a2)), none, none] [] S (qi V) (qj J) (qP_iV S J Q) := by
  unfold W_X11_ask at h
  refine z_aload_n Q_X11_ask (k := 0) rfl rfl ?_
  refine y_iconst Q_X11_ask (k := 1) rfl ?_
  refine q_putI (o := 602) (z := 0) Q_X11_ask (k := 2) rfl F_X11_1 rfl rfl rfl (n_ hB.1 rfl) (k_602 hB.1) ?_
  have hB1 := qB.u (a := 602) (j := 0) (x := 0) hB ⟨by decide, by decide⟩ (Or.inl (by decide))
  refine z_aload_n Q_X11_ask (k := 3) rfl rfl ?_
  refine z_iload_n Q_X11_ask (k := 4) rfl rfl ?_
  refine z_iload_n Q_X11_ask (k := 5) rfl rfl ?_
  refine q_callV2_zV Q_X11_ask (k := 6) rfl rfl K_X11_asks V_X11_asks L_X11_267 (n_ hB1.1 rfl) (k_602 hB1.1) (Nat.le_of_ble_eq_true rfl) (Nat.le_of_ble_eq_true rfl) rfl (Nat.zero_le _) (Nat.zero_le _) (w_X11_asks d hB1 z1 z2 h) (fun r2 V2 hB2 hz2 hb2 h => ?_)
  refine y_if_ne 16 Q_X11_ask (k := 7) rfl (by decide) hz2 (fun c => ?_) (fun c => ?_)
  · replace h := h.2 c
    refine z_aload_n Q_X11_ask (k := 10) rfl rfl ?_
    refine z_iload_n Q_X11_ask (k := 11) rfl rfl ?_
    refine z_iload_n Q_X11_ask (k := 12) rfl rfl ?_
    refine q_callV2_uV Q_X11_ask (k := 13) rfl rfl K_X11_findWho V_X11_findWho L_X11_270 (n_ hB2.1 rfl) (k_602 hB2.1) (Nat.le_of_ble_eq_true rfl) (Nat.le_of_ble_eq_true rfl) rfl (Nat.zero_le _) (Nat.zero_le _) (w_X11_findWho d hB2 z1 z2 h) (fun V3 hB3 h => ?_)
    refine z_aload_n Q_X11_ask (k := 14) rfl rfl ?_
    refine q_callV0_uV Q_X11_ask (k := 15) rfl rfl K_X11_findCubes V_X11_findCubes L_X11_291 (n_ hB3.1 rfl) (k_602 hB3.1) (Nat.le_of_ble_eq_true rfl) (Nat.le_of_ble_eq_true rfl) rfl (Nat.zero_le _) (Nat.zero_le _) (w_X11_findCubes d hB3  h) (fun V4 hB4 h => ?_)
    refine z_aload_n Q_X11_ask (k := 16) rfl rfl ?_
    refine q_callV0_i Q_X11_ask (k := 17) rfl rfl K_X11_startCube V_X11_startCube L_X11_294 (n_ hB4.1 rfl) (k_602 hB4.1) (Nat.le_of_ble_eq_true rfl) (Nat.le_of_ble_eq_true rfl) rfl (Nat.zero_le _) (Nat.zero_le _) (w_X11_startCube (d + 2) hB4  h) (fun r5 hz5 h => ?_)
    refine y_istore_n (L' := [some (.ref 602), some (.int (iI a1)), some (.int (iI a2)), some (.int (iI r5)), none]) Q_X11_ask (k := 18) rfl (by decide) rfl ?_
    refine z_aload_n Q_X11_ask (k := 19) rfl rfl ?_
    refine z_getR (b := 620) Q_X11_ask (k := 20) rfl F_X11_70 rfl (n_ hB4.1 rfl) (k_602 hB4.1) (r_602_30 hB4.1) ?_
    refine z_iload_n Q_X11_ask (k := 21) rfl rfl ?_
    obtain ⟨q6, h⟩ := h
    refine q_iald (o := 620) (N := 59049) Q_X11_ask (k := 22) rfl rfl (n_ hB4.1 rfl) (k_620 hB4.1) rfl q6 (by decide) ?_
    refine y_if_ne 42 Q_X11_ask (k := 23) rfl (by decide) (hB4.2.1 _ _) (fun c => ?_) (fun c => ?_)
    · replace h := h.2 c
      refine y_iconst Q_X11_ask (k := 26) rfl ?_
      refine y_istore (L' := [some (.ref 602), some (.int (iI a1)), some (.int (iI a2)), some (.int (iI r5)), some (.int (iI 0))]) Q_X11_ask (k := 27) rfl (by decide) rfl ?_
      refine y_fg (zsb_c rfl (zsb_n (zsb_n (zsb_c rfl (zsb_c rfl zsb_e))))) (v_X11_ask_45 d hB4 hz5 (fun l4x14 zl4x14 h => ?_) 100000 0 ⟨by decide, by decide⟩ h)
      refine z_iload Q_X11_ask (k := 49) rfl rfl ?_
      exact y_iret Q_X11_ask (k := 50) rfl rfl (qI_iV hB4 zl4x14 h)
    · replace h := h.1 c
      refine y_iconst Q_X11_ask (k := 24) rfl ?_
      exact y_iret Q_X11_ask (k := 25) rfl rfl (qI_iV hB4 ⟨by decide, by decide⟩ h)
  · replace h := h.1 c
    refine y_iconst Q_X11_ask (k := 8) rfl ?_
    exact y_iret Q_X11_ask (k := 9) rfl rfl (qI_iV hB2 ⟨by decide, by decide⟩ h)
set_option maxHeartbeats 4000000 in
set_option maxRecDepth 20000 in
theorem w_X11_claim {S : zS} {V : qV} {J : qJ} {Q : Int → qV → Prop} (d : Nat) (hB : qB S V) {a1 : Int} (z1 : zr a1) {a2 : Int} (z2 : zr a2) {a3 : Int} (z3 : zr a3) (h : W_X11_claim a1 a2 a3 V Q) : Z M_X11_claim (d + 2) 0 0 0 [some (.ref 602), some (.int (iI a1)), some (.int (iI a2)), some (.int (iI a3)), none] [] S (qi V) (qj J) (qP_iV S J Q) := by
  unfold W_X11_claim at h
  refine z_aload_n Q_X11_claim (k := 0) rfl rfl ?_
  refine y_iconst Q_X11_claim (k := 1) rfl ?_
  refine q_putI (o := 602) (z := 0) Q_X11_claim (k := 2) rfl F_X11_1 rfl rfl rfl (n_ hB.1 rfl) (k_602 hB.1) ?_
  have hB1 := qB.u (a := 602) (j := 0) (x := 0) hB ⟨by decide, by decide⟩ (Or.inl (by decide))
  refine z_aload_n Q_X11_claim (k := 3) rfl rfl ?_
  refine z_iload_n Q_X11_claim (k := 4) rfl rfl ?_
  refine q_callV1_zV Q_X11_claim (k := 5) rfl rfl K_X11_isFind V_X11_isFind L_X11_245 (n_ hB1.1 rfl) (k_602 hB1.1) (Nat.le_of_ble_eq_true rfl) (Nat.le_of_ble_eq_true rfl) rfl (Nat.zero_le _) (Nat.zero_le _) (w_X11_isFind d hB1 z1 h) (fun r2 V2 hB2 hz2 hb2 h => ?_)
  refine y_if_eq 38 Q_X11_claim (k := 6) rfl (by decide) hz2 (fun c => ?_) (fun c => ?_)
  · replace h := h.1 c
    refine y_iconst Q_X11_claim (k := 20) rfl ?_
    exact y_iret Q_X11_claim (k := 21) rfl rfl (qI_iV hB2 ⟨by decide, by decide⟩ h)
  · replace h := h.2 c
    refine z_aload_n Q_X11_claim (k := 7) rfl rfl ?_
    refine z_iload_n Q_X11_claim (k := 8) rfl rfl ?_
    refine y_iconst Q_X11_claim (k := 9) rfl ?_
    refine q_callV2_zV Q_X11_claim (k := 10) rfl rfl K_X11_isPerson V_X11_isPerson L_X11_223 (n_ hB2.1 rfl) (k_602 hB2.1) (Nat.le_of_ble_eq_true rfl) (Nat.le_of_ble_eq_true rfl) rfl (Nat.zero_le _) (Nat.zero_le _) (w_X11_isPerson d hB2 z2 ⟨by decide, by decide⟩ h) (fun r3 V3 hB3 hz3 hb3 h => ?_)
    refine y_if_eq 38 Q_X11_claim (k := 11) rfl (by decide) hz3 (fun c => ?_) (fun c => ?_)
    · replace h := h.1 c
      refine y_iconst Q_X11_claim (k := 20) rfl ?_
      exact y_iret Q_X11_claim (k := 21) rfl rfl (qI_iV hB3 ⟨by decide, by decide⟩ h)
    · replace h := h.2 c
      refine z_aload_n Q_X11_claim (k := 12) rfl rfl ?_
      refine z_iload_n Q_X11_claim (k := 13) rfl rfl ?_
      refine y_iconst Q_X11_claim (k := 14) rfl ?_
      refine y_sipush Q_X11_claim (k := 15) rfl (by decide) ?_
      refine q_callS3_z Q_X11_claim (k := 16) rfl rfl K_X11_within S_X11_within L_X11_207 (Nat.le_of_ble_eq_true rfl) (Nat.le_of_ble_eq_true rfl) rfl (Nat.zero_le _) (Nat.zero_le _) (w_X11_within (d + 1) hB3 z3 ⟨by decide, by decide⟩ ⟨by decide, by decide⟩ h) (fun r4 hz4 hb4 h => ?_)
      refine y_iconst Q_X11_claim (k := 17) rfl ?_
      refine q_callV2_zV Q_X11_claim (k := 18) rfl rfl K_X11_may V_X11_may L_X11_187 (n_ hB3.1 rfl) (k_602 hB3.1) (Nat.le_of_ble_eq_true rfl) (Nat.le_of_ble_eq_true rfl) rfl (Nat.zero_le _) (Nat.zero_le _) (w_X11_may (d + 1) hB3 hz4 hb4 ⟨by decide, by decide⟩ h) (fun r5 V5 hB5 hz5 hb5 h => ?_)
      refine y_if_ne 40 Q_X11_claim (k := 19) rfl (by decide) hz5 (fun c => ?_) (fun c => ?_)
      · replace h := h.2 c
        refine z_aload_n Q_X11_claim (k := 22) rfl rfl ?_
        refine z_getR (b := 603) Q_X11_claim (k := 23) rfl F_X11_13 rfl (n_ hB5.1 rfl) (k_602 hB5.1) (r_602_1 hB5.1) ?_
        refine y_sipush Q_X11_claim (k := 24) rfl (by decide) ?_
        refine q_iald (o := 603) (N := 594) Q_X11_claim (k := 25) rfl rfl (n_ hB5.1 rfl) (k_603 hB5.1) rfl ⟨by decide, by decide⟩ (by decide) ?_
        refine y_bipush Q_X11_claim (k := 26) rfl (by decide) ?_
        refine y_icmp_ne 55 Q_X11_claim (k := 27) rfl (by decide) (hB5.2.1 _ _) ⟨by decide, by decide⟩ (fun c => ?_) (fun c => ?_)
        · replace h := h.2 c
          refine y_sipush Q_X11_claim (k := 30) rfl (by decide) ?_
          refine y_iconst Q_X11_claim (k := 31) rfl ?_
          refine z_aload_n Q_X11_claim (k := 32) rfl rfl ?_
          refine z_getR (b := 603) Q_X11_claim (k := 33) rfl F_X11_13 rfl (n_ hB5.1 rfl) (k_602 hB5.1) (r_602_1 hB5.1) ?_
          refine y_sipush Q_X11_claim (k := 34) rfl (by decide) ?_
          refine q_iald (o := 603) (N := 594) Q_X11_claim (k := 35) rfl rfl (n_ hB5.1 rfl) (k_603 hB5.1) rfl ⟨by decide, by decide⟩ (by decide) ?_
          obtain ⟨q6, h⟩ := h
          refine y_imul Q_X11_claim (k := 36) rfl ?_
          obtain ⟨q7, h⟩ := h
          refine y_iadd Q_X11_claim (k := 37) rfl ?_
          refine y_istore (L' := [some (.ref 602), some (.int (iI a1)), some (.int (iI a2)), some (.int (iI a3)), some (.int (iI (360 + (3 * (V5 603 359)))))]) Q_X11_claim (k := 38) rfl (by decide) rfl ?_
          refine z_aload_n Q_X11_claim (k := 39) rfl rfl ?_
          refine z_getR (b := 603) Q_X11_claim (k := 40) rfl F_X11_13 rfl (n_ hB5.1 rfl) (k_602 hB5.1) (r_602_1 hB5.1) ?_
          refine z_iload Q_X11_claim (k := 41) rfl rfl ?_
          refine z_iload_n Q_X11_claim (k := 42) rfl rfl ?_
          obtain ⟨q8, h⟩ := h
          refine q_iast (o := 603) (N := 594) Q_X11_claim (k := 43) rfl rfl (n_ hB5.1 rfl) (k_603 hB5.1) rfl q8 (by decide) ?_
          have hB9 := qB.u (a := 603) (j := 360 + (3 * (V5 603 359))) (x := a1) hB5 z1 (Or.inl (by decide))
          refine z_aload_n Q_X11_claim (k := 44) rfl rfl ?_
          refine z_getR (b := 603) Q_X11_claim (k := 45) rfl F_X11_13 rfl (n_ hB9.1 rfl) (k_602 hB9.1) (r_602_1 hB9.1) ?_
          refine z_iload Q_X11_claim (k := 46) rfl rfl ?_
          refine y_iconst Q_X11_claim (k := 47) rfl ?_
          obtain ⟨q10, h⟩ := h
          refine y_iadd Q_X11_claim (k := 48) rfl ?_
          refine z_iload_n Q_X11_claim (k := 49) rfl rfl ?_
          obtain ⟨q11, h⟩ := h
          refine q_iast (o := 603) (N := 594) Q_X11_claim (k := 50) rfl rfl (n_ hB9.1 rfl) (k_603 hB9.1) rfl q11 (by decide) ?_
          have hB12 := qB.u (a := 603) (j := (360 + (3 * (V5 603 359))) + 1) (x := a2) hB9 z2 (Or.inl (by decide))
          refine z_aload_n Q_X11_claim (k := 51) rfl rfl ?_
          refine z_getR (b := 603) Q_X11_claim (k := 52) rfl F_X11_13 rfl (n_ hB12.1 rfl) (k_602 hB12.1) (r_602_1 hB12.1) ?_
          refine z_iload Q_X11_claim (k := 53) rfl rfl ?_
          refine y_iconst Q_X11_claim (k := 54) rfl ?_
          obtain ⟨q13, h⟩ := h
          refine y_iadd Q_X11_claim (k := 55) rfl ?_
          refine z_iload_n Q_X11_claim (k := 56) rfl rfl ?_
          obtain ⟨q14, h⟩ := h
          refine q_iast (o := 603) (N := 594) Q_X11_claim (k := 57) rfl rfl (n_ hB12.1 rfl) (k_603 hB12.1) rfl q14 (by decide) ?_
          have hB15 := qB.u (a := 603) (j := (360 + (3 * (V5 603 359))) + 2) (x := a3) hB12 z3 (Or.inl (by decide))
          refine z_aload_n Q_X11_claim (k := 58) rfl rfl ?_
          refine z_getR (b := 603) Q_X11_claim (k := 59) rfl F_X11_13 rfl (n_ hB15.1 rfl) (k_602 hB15.1) (r_602_1 hB15.1) ?_
          refine y_sipush Q_X11_claim (k := 60) rfl (by decide) ?_
          refine z_dup2 Q_X11_claim (k := 61) rfl rfl rfl ?_
          refine q_iald (o := 603) (N := 594) Q_X11_claim (k := 62) rfl rfl (n_ hB15.1 rfl) (k_603 hB15.1) rfl ⟨by decide, by decide⟩ (by decide) ?_
          refine y_iconst Q_X11_claim (k := 63) rfl ?_
          obtain ⟨q16, h⟩ := h
          refine y_iadd Q_X11_claim (k := 64) rfl ?_
          refine q_iast (o := 603) (N := 594) Q_X11_claim (k := 65) rfl rfl (n_ hB15.1 rfl) (k_603 hB15.1) rfl ⟨by decide, by decide⟩ (by decide) ?_
          have hB17 := qB.u (a := 603) (j := 359) (x := ((qu (qu (qu V5 603 (360 + (3 * (V5 603 359))) a1) 603 ((360 + (3 * (V5 603 359))) + 1) a2) 603 ((360 + (3 * (V5 603 359))) + 2) a3) 603 359) + 1) hB15 q16 (Or.inl (by decide))
          refine z_aload_n Q_X11_claim (k := 66) rfl rfl ?_
          refine z_getR (b := 603) Q_X11_claim (k := 67) rfl F_X11_13 rfl (n_ hB17.1 rfl) (k_602 hB17.1) (r_602_1 hB17.1) ?_
          refine y_sipush Q_X11_claim (k := 68) rfl (by decide) ?_
          refine q_iald (o := 603) (N := 594) Q_X11_claim (k := 69) rfl rfl (n_ hB17.1 rfl) (k_603 hB17.1) rfl ⟨by decide, by decide⟩ (by decide) ?_
          refine y_iconst Q_X11_claim (k := 70) rfl ?_
          obtain ⟨q18, h⟩ := h
          refine y_isub Q_X11_claim (k := 71) rfl ?_
          exact y_iret Q_X11_claim (k := 72) rfl rfl (qI_iV hB17 q18 h)
        · replace h := h.1 c
          refine y_iconst Q_X11_claim (k := 28) rfl ?_
          exact y_iret Q_X11_claim (k := 29) rfl rfl (qI_iV hB5 ⟨by decide, by decide⟩ h)
      · replace h := h.1 c
        refine y_iconst Q_X11_claim (k := 20) rfl ?_
        exact y_iret Q_X11_claim (k := 21) rfl rfl (qI_iV hB5 ⟨by decide, by decide⟩ h)
set_option maxHeartbeats 4000000 in
set_option maxRecDepth 20000 in
theorem w_X11_fits {S : zS} {V : qV} {J : qJ} {Q : Int → Prop} (d : Nat) (hB : qB S V) {a1 : Int} (z1 : zr a1) (h : W_X11_fits a1 V Q) : Z M_X11_fits (d + 1) 0 0 0 [some (.ref 602), some (.int (iI a1)), none] [] S (qi V) (qj J) (qP_z S V J Q) := by
  unfold W_X11_fits at h
  refine z_aload_n Q_X11_fits (k := 0) rfl rfl ?_
  refine z_getR (b := 603) Q_X11_fits (k := 1) rfl F_X11_13 rfl (n_ hB.1 rfl) (k_602 hB.1) (r_602_1 hB.1) ?_
  refine y_sipush Q_X11_fits (k := 2) rfl (by decide) ?_
  refine y_iconst Q_X11_fits (k := 3) rfl ?_
  refine z_iload_n Q_X11_fits (k := 4) rfl rfl ?_
  obtain ⟨q1, h⟩ := h
  refine y_imul Q_X11_fits (k := 5) rfl ?_
  obtain ⟨q2, h⟩ := h
  refine y_iadd Q_X11_fits (k := 6) rfl ?_
  refine y_iconst Q_X11_fits (k := 7) rfl ?_
  obtain ⟨q3, h⟩ := h
  refine y_iadd Q_X11_fits (k := 8) rfl ?_
  obtain ⟨q4, h⟩ := h
  refine q_iald (o := 603) (N := 594) Q_X11_fits (k := 9) rfl rfl (n_ hB.1 rfl) (k_603 hB.1) rfl q4 (by decide) ?_
  refine y_istore_n (L' := [some (.ref 602), some (.int (iI a1)), some (.int (iI (V 603 ((360 + (3 * a1)) + 2))))]) Q_X11_fits (k := 10) rfl (by decide) rfl ?_
  refine z_aload_n Q_X11_fits (k := 11) rfl rfl ?_
  refine z_getR (b := 603) Q_X11_fits (k := 12) rfl F_X11_13 rfl (n_ hB.1 rfl) (k_602 hB.1) (r_602_1 hB.1) ?_
  refine z_aload_n Q_X11_fits (k := 13) rfl rfl ?_
  refine z_getR (b := 603) Q_X11_fits (k := 14) rfl F_X11_13 rfl (n_ hB.1 rfl) (k_602 hB.1) (r_602_1 hB.1) ?_
  refine y_sipush Q_X11_fits (k := 15) rfl (by decide) ?_
  refine y_iconst Q_X11_fits (k := 16) rfl ?_
  refine z_iload_n Q_X11_fits (k := 17) rfl rfl ?_
  obtain ⟨q5, h⟩ := h
  refine y_imul Q_X11_fits (k := 18) rfl ?_
  obtain ⟨q6, h⟩ := h
  refine y_iadd Q_X11_fits (k := 19) rfl ?_
  obtain ⟨q7, h⟩ := h
  refine q_iald (o := 603) (N := 594) Q_X11_fits (k := 20) rfl rfl (n_ hB.1 rfl) (k_603 hB.1) rfl q7 (by decide) ?_
  refine q_callS1_i Q_X11_fits (k := 21) rfl rfl K_X11_find_ S_X11_find_ L_X11_230 (Nat.le_of_ble_eq_true rfl) (Nat.le_of_ble_eq_true rfl) rfl (Nat.zero_le _) (Nat.zero_le _) (w_X11_find_ d hB (hB.2.1 _ _) h) (fun r8 hz8 h => ?_)
  refine y_iconst Q_X11_fits (k := 22) rfl ?_
  obtain ⟨q9, h⟩ := h
  refine y_iadd Q_X11_fits (k := 23) rfl ?_
  obtain ⟨q10, h⟩ := h
  refine q_iald (o := 603) (N := 594) Q_X11_fits (k := 24) rfl rfl (n_ hB.1 rfl) (k_603 hB.1) rfl q10 (by decide) ?_
  refine z_iload_n Q_X11_fits (k := 25) rfl rfl ?_
  refine y_iand Q_X11_fits (k := 26) rfl ?_
  refine z_iload_n Q_X11_fits (k := 27) rfl rfl ?_
  refine y_icmp_ne 75 Q_X11_fits (k := 28) rfl (by decide) (zand_r _ _) (hB.2.1 _ _) (fun c => ?_) (fun c => ?_)
  · replace h := h.2 c
    refine y_iconst Q_X11_fits (k := 50) rfl ?_
    exact y_zret Q_X11_fits (k := 51) rfl rfl (Or.inl rfl) (qI_z ⟨by decide, by decide⟩ (Or.inl rfl) h)
  · replace h := h.1 c
    refine z_aload_n Q_X11_fits (k := 29) rfl rfl ?_
    refine z_getR (b := 603) Q_X11_fits (k := 30) rfl F_X11_13 rfl (n_ hB.1 rfl) (k_602 hB.1) (r_602_1 hB.1) ?_
    refine y_bipush Q_X11_fits (k := 31) rfl (by decide) ?_
    refine z_aload_n Q_X11_fits (k := 32) rfl rfl ?_
    refine z_getR (b := 603) Q_X11_fits (k := 33) rfl F_X11_13 rfl (n_ hB.1 rfl) (k_602 hB.1) (r_602_1 hB.1) ?_
    refine y_sipush Q_X11_fits (k := 34) rfl (by decide) ?_
    refine y_iconst Q_X11_fits (k := 35) rfl ?_
    refine z_iload_n Q_X11_fits (k := 36) rfl rfl ?_
    obtain ⟨q11, h⟩ := h
    refine y_imul Q_X11_fits (k := 37) rfl ?_
    obtain ⟨q12, h⟩ := h
    refine y_iadd Q_X11_fits (k := 38) rfl ?_
    refine y_iconst Q_X11_fits (k := 39) rfl ?_
    obtain ⟨q13, h⟩ := h
    refine y_iadd Q_X11_fits (k := 40) rfl ?_
    obtain ⟨q14, h⟩ := h
    refine q_iald (o := 603) (N := 594) Q_X11_fits (k := 41) rfl rfl (n_ hB.1 rfl) (k_603 hB.1) rfl q14 (by decide) ?_
    obtain ⟨q15, h⟩ := h
    refine y_iadd Q_X11_fits (k := 42) rfl ?_
    obtain ⟨q16, h⟩ := h
    refine q_iald (o := 603) (N := 594) Q_X11_fits (k := 43) rfl rfl (n_ hB.1 rfl) (k_603 hB.1) rfl q16 (by decide) ?_
    refine z_iload_n Q_X11_fits (k := 44) rfl rfl ?_
    refine y_iand Q_X11_fits (k := 45) rfl ?_
    refine z_iload_n Q_X11_fits (k := 46) rfl rfl ?_
    refine y_icmp_ne 75 Q_X11_fits (k := 47) rfl (by decide) (zand_r _ _) (hB.2.1 _ _) (fun c => ?_) (fun c => ?_)
    · replace h := h.2 c
      refine y_iconst Q_X11_fits (k := 50) rfl ?_
      exact y_zret Q_X11_fits (k := 51) rfl rfl (Or.inl rfl) (qI_z ⟨by decide, by decide⟩ (Or.inl rfl) h)
    · replace h := h.1 c
      refine y_iconst Q_X11_fits (k := 48) rfl ?_
      refine z_goto (tgt := 76) Q_X11_fits (k := 49) rfl (by decide) ?_
      exact y_zret Q_X11_fits (k := 51) rfl rfl (Or.inr rfl) (qI_z ⟨by decide, by decide⟩ (Or.inr rfl) h)
set_option maxHeartbeats 4000000 in
set_option maxRecDepth 20000 in
theorem w_X11_claimed {S : zS} {V : qV} {J : qJ} {Q : Int → qV → Prop} (d : Nat) (hB : qB S V) {a1 : Int} (z1 : zr a1) {a2 : Int} (z2 : zr a2) (h : W_X11_claimed a1 a2 V Q) : Z M_X11_claimed (d + 2) 0 0 0 [some (.ref 602), some (.int (iI a1)), some (.int (iI a2)), none] [] S (qi V) (qj J) (qP_iV S J Q) := by
  unfold W_X11_claimed at h
  refine z_aload_n Q_X11_claimed (k := 0) rfl rfl ?_
  refine y_iconst Q_X11_claimed (k := 1) rfl ?_
  refine q_putI (o := 602) (z := 0) Q_X11_claimed (k := 2) rfl F_X11_1 rfl rfl rfl (n_ hB.1 rfl) (k_602 hB.1) ?_
  have hB1 := qB.u (a := 602) (j := 0) (x := 0) hB ⟨by decide, by decide⟩ (Or.inl (by decide))
  refine z_aload_n Q_X11_claimed (k := 3) rfl rfl ?_
  refine z_iload_n Q_X11_claimed (k := 4) rfl rfl ?_
  refine y_iconst Q_X11_claimed (k := 5) rfl ?_
  refine z_aload_n Q_X11_claimed (k := 6) rfl rfl ?_
  refine z_getR (b := 603) Q_X11_claimed (k := 7) rfl F_X11_13 rfl (n_ hB1.1 rfl) (k_602 hB1.1) (r_602_1 hB1.1) ?_
  refine y_sipush Q_X11_claimed (k := 8) rfl (by decide) ?_
  refine q_iald (o := 603) (N := 594) Q_X11_claimed (k := 9) rfl rfl (n_ hB1.1 rfl) (k_603 hB1.1) rfl ⟨by decide, by decide⟩ (by decide) ?_
  refine y_iconst Q_X11_claimed (k := 10) rfl ?_
  obtain ⟨q2, h⟩ := h
  refine y_isub Q_X11_claimed (k := 11) rfl ?_
  refine q_callS3_z Q_X11_claimed (k := 12) rfl rfl K_X11_within S_X11_within L_X11_207 (Nat.le_of_ble_eq_true rfl) (Nat.le_of_ble_eq_true rfl) rfl (Nat.zero_le _) (Nat.zero_le _) (w_X11_within (d + 1) hB1 z1 ⟨by decide, by decide⟩ q2 h) (fun r3 hz3 hb3 h => ?_)
  refine y_iconst Q_X11_claimed (k := 13) rfl ?_
  refine q_callV2_zV Q_X11_claimed (k := 14) rfl rfl K_X11_may V_X11_may L_X11_187 (n_ hB1.1 rfl) (k_602 hB1.1) (Nat.le_of_ble_eq_true rfl) (Nat.le_of_ble_eq_true rfl) rfl (Nat.zero_le _) (Nat.zero_le _) (w_X11_may (d + 1) hB1 hz3 hb3 ⟨by decide, by decide⟩ h) (fun r4 V4 hB4 hz4 hb4 h => ?_)
  refine y_if_eq 42 Q_X11_claimed (k := 15) rfl (by decide) hz4 (fun c => ?_) (fun c => ?_)
  · replace h := h.1 c
    refine y_iconst Q_X11_claimed (k := 24) rfl ?_
    exact y_iret Q_X11_claimed (k := 25) rfl rfl (qI_iV hB4 ⟨by decide, by decide⟩ h)
  · replace h := h.2 c
    refine z_aload_n Q_X11_claimed (k := 16) rfl rfl ?_
    refine z_iload_n Q_X11_claimed (k := 17) rfl rfl ?_
    refine y_iconst Q_X11_claimed (k := 18) rfl ?_
    refine y_iconst Q_X11_claimed (k := 19) rfl ?_
    refine q_callS3_z Q_X11_claimed (k := 20) rfl rfl K_X11_within S_X11_within L_X11_207 (Nat.le_of_ble_eq_true rfl) (Nat.le_of_ble_eq_true rfl) rfl (Nat.zero_le _) (Nat.zero_le _) (w_X11_within (d + 1) hB4 z2 ⟨by decide, by decide⟩ ⟨by decide, by decide⟩ h) (fun r5 hz5 hb5 h => ?_)
    refine y_iconst Q_X11_claimed (k := 21) rfl ?_
    refine q_callV2_zV Q_X11_claimed (k := 22) rfl rfl K_X11_may V_X11_may L_X11_187 (n_ hB4.1 rfl) (k_602 hB4.1) (Nat.le_of_ble_eq_true rfl) (Nat.le_of_ble_eq_true rfl) rfl (Nat.zero_le _) (Nat.zero_le _) (w_X11_may (d + 1) hB4 hz5 hb5 ⟨by decide, by decide⟩ h) (fun r6 V6 hB6 hz6 hb6 h => ?_)
    refine y_if_ne 44 Q_X11_claimed (k := 23) rfl (by decide) hz6 (fun c => ?_) (fun c => ?_)
    · replace h := h.2 c
      refine z_aload_n Q_X11_claimed (k := 26) rfl rfl ?_
      refine z_aload_n Q_X11_claimed (k := 27) rfl rfl ?_
      refine z_getR (b := 603) Q_X11_claimed (k := 28) rfl F_X11_13 rfl (n_ hB6.1 rfl) (k_602 hB6.1) (r_602_1 hB6.1) ?_
      refine y_sipush Q_X11_claimed (k := 29) rfl (by decide) ?_
      refine y_iconst Q_X11_claimed (k := 30) rfl ?_
      refine z_iload_n Q_X11_claimed (k := 31) rfl rfl ?_
      obtain ⟨q7, h⟩ := h
      refine y_imul Q_X11_claimed (k := 32) rfl ?_
      obtain ⟨q8, h⟩ := h
      refine y_iadd Q_X11_claimed (k := 33) rfl ?_
      refine y_iconst Q_X11_claimed (k := 34) rfl ?_
      obtain ⟨q9, h⟩ := h
      refine y_iadd Q_X11_claimed (k := 35) rfl ?_
      obtain ⟨q10, h⟩ := h
      refine q_iald (o := 603) (N := 594) Q_X11_claimed (k := 36) rfl rfl (n_ hB6.1 rfl) (k_603 hB6.1) rfl q10 (by decide) ?_
      refine q_callV1_i Q_X11_claimed (k := 37) rfl rfl K_X11_have V_X11_have L_X11_239 (n_ hB6.1 rfl) (k_602 hB6.1) (Nat.le_of_ble_eq_true rfl) (Nat.le_of_ble_eq_true rfl) rfl (Nat.zero_le _) (Nat.zero_le _) (w_X11_have (d + 1) hB6 (hB6.2.1 _ _) h) (fun r11 hz11 h => ?_)
      refine y_istore_n (L' := [some (.ref 602), some (.int (iI a1)), some (.int (iI a2)), some (.int (iI r11))]) Q_X11_claimed (k := 38) rfl (by decide) rfl ?_
      refine z_iload_n Q_X11_claimed (k := 39) rfl rfl ?_
      refine y_iconst Q_X11_claimed (k := 40) rfl ?_
      refine y_icmp_ge 83 Q_X11_claimed (k := 41) rfl (by decide) z2 ⟨by decide, by decide⟩ (fun c => ?_) (fun c => ?_)
      · replace h := h.1 c
        refine z_iload_n Q_X11_claimed (k := 53) rfl rfl ?_
        refine y_iconst Q_X11_claimed (k := 54) rfl ?_
        refine y_icmp_ne 104 Q_X11_claimed (k := 55) rfl (by decide) z2 ⟨by decide, by decide⟩ (fun c => ?_) (fun c => ?_)
        · replace h := h.2 c
          refine z_iload_n Q_X11_claimed (k := 64) rfl rfl ?_
          refine y_iconst Q_X11_claimed (k := 65) rfl ?_
          refine y_icmp_ne 113 Q_X11_claimed (k := 66) rfl (by decide) z2 ⟨by decide, by decide⟩ (fun c => ?_) (fun c => ?_)
          · replace h := h.2 c
            refine z_aload_n Q_X11_claimed (k := 69) rfl rfl ?_
            refine z_iload_n Q_X11_claimed (k := 70) rfl rfl ?_
            refine q_callV1_z Q_X11_claimed (k := 71) rfl rfl K_X11_fits V_X11_fits L_X11_297 (n_ hB6.1 rfl) (k_602 hB6.1) (Nat.le_of_ble_eq_true rfl) (Nat.le_of_ble_eq_true rfl) rfl (Nat.zero_le _) (Nat.zero_le _) (w_X11_fits d hB6 z1 h) (fun r12 hz12 hb12 h => ?_)
            refine y_if_eq 130 Q_X11_claimed (k := 72) rfl (by decide) hz12 (fun c => ?_) (fun c => ?_)
            · replace h := h.1 c
              refine y_iconst Q_X11_claimed (k := 78) rfl ?_
              exact y_iret Q_X11_claimed (k := 79) rfl rfl (qI_iV hB6 ⟨by decide, by decide⟩ h)
            · replace h := h.2 c
              refine z_iload_n Q_X11_claimed (k := 73) rfl rfl ?_
              refine y_iconst Q_X11_claimed (k := 74) rfl ?_
              refine y_icmp_ne 130 Q_X11_claimed (k := 75) rfl (by decide) hz11 ⟨by decide, by decide⟩ (fun c => ?_) (fun c => ?_)
              · replace h := h.2 c
                refine y_iconst Q_X11_claimed (k := 78) rfl ?_
                exact y_iret Q_X11_claimed (k := 79) rfl rfl (qI_iV hB6 ⟨by decide, by decide⟩ h)
              · replace h := h.1 c
                refine y_iconst Q_X11_claimed (k := 76) rfl ?_
                refine z_goto (tgt := 131) Q_X11_claimed (k := 77) rfl (by decide) ?_
                exact y_iret Q_X11_claimed (k := 79) rfl rfl (qI_iV hB6 ⟨by decide, by decide⟩ h)
          · replace h := h.1 c
            refine z_iload_n Q_X11_claimed (k := 67) rfl rfl ?_
            refine z_goto (tgt := 131) Q_X11_claimed (k := 68) rfl (by decide) ?_
            exact y_iret Q_X11_claimed (k := 79) rfl rfl (qI_iV hB6 hz11 h)
        · replace h := h.1 c
          refine z_aload_n Q_X11_claimed (k := 56) rfl rfl ?_
          refine z_iload_n Q_X11_claimed (k := 57) rfl rfl ?_
          refine q_callV1_z Q_X11_claimed (k := 58) rfl rfl K_X11_fits V_X11_fits L_X11_297 (n_ hB6.1 rfl) (k_602 hB6.1) (Nat.le_of_ble_eq_true rfl) (Nat.le_of_ble_eq_true rfl) rfl (Nat.zero_le _) (Nat.zero_le _) (w_X11_fits d hB6 z1 h) (fun r13 hz13 hb13 h => ?_)
          refine y_if_eq 100 Q_X11_claimed (k := 59) rfl (by decide) hz13 (fun c => ?_) (fun c => ?_)
          · replace h := h.1 c
            refine y_iconst Q_X11_claimed (k := 62) rfl ?_
            refine z_goto (tgt := 131) Q_X11_claimed (k := 63) rfl (by decide) ?_
            exact y_iret Q_X11_claimed (k := 79) rfl rfl (qI_iV hB6 ⟨by decide, by decide⟩ h)
          · replace h := h.2 c
            refine y_iconst Q_X11_claimed (k := 60) rfl ?_
            refine z_goto (tgt := 131) Q_X11_claimed (k := 61) rfl (by decide) ?_
            exact y_iret Q_X11_claimed (k := 79) rfl rfl (qI_iV hB6 ⟨by decide, by decide⟩ h)
      · replace h := h.2 c
        refine z_aload_n Q_X11_claimed (k := 42) rfl rfl ?_
        refine z_getR (b := 603) Q_X11_claimed (k := 43) rfl F_X11_13 rfl (n_ hB6.1 rfl) (k_602 hB6.1) (r_602_1 hB6.1) ?_
        refine y_sipush Q_X11_claimed (k := 44) rfl (by decide) ?_
        refine y_iconst Q_X11_claimed (k := 45) rfl ?_
        refine z_iload_n Q_X11_claimed (k := 46) rfl rfl ?_
        obtain ⟨q14, h⟩ := h
        refine y_imul Q_X11_claimed (k := 47) rfl ?_
        obtain ⟨q15, h⟩ := h
        refine y_iadd Q_X11_claimed (k := 48) rfl ?_
        refine z_iload_n Q_X11_claimed (k := 49) rfl rfl ?_
        obtain ⟨q16, h⟩ := h
        refine y_iadd Q_X11_claimed (k := 50) rfl ?_
        obtain ⟨q17, h⟩ := h
        refine q_iald (o := 603) (N := 594) Q_X11_claimed (k := 51) rfl rfl (n_ hB6.1 rfl) (k_603 hB6.1) rfl q17 (by decide) ?_
        exact y_iret Q_X11_claimed (k := 52) rfl rfl (qI_iV hB6 (hB6.2.1 _ _) h)
    · replace h := h.1 c
      refine y_iconst Q_X11_claimed (k := 24) rfl ?_
      exact y_iret Q_X11_claimed (k := 25) rfl rfl (qI_iV hB6 ⟨by decide, by decide⟩ h)
set_option maxHeartbeats 4000000 in
set_option maxRecDepth 20000 in
theorem v_X11_best_23 {S : zS} {V : qV} {J : qJ} {K : Int → Int → Int → Prop} {Q : Int → qV → Prop} {kc ks : Nat} (d : Nat) (hB : qB S V) {l1 : Int} (z1 : zr l1) (hK : ∀ (l2 : Int) (l3 : Int) (l4 : Int), zr l2 → zr l3 → zr l4 → K l2 l3 l4 → Z M_X11_best (d + 2) kc ks 139 [some (.ref 602), some (.int (iI l1)), some (.int (iI l2)), some (.int (iI l3)), some (.int (iI l4)), none, none] [] S (qi V) (qj J) (qP_iV S J Q)) : ∀ (f : Nat) (l2 : Int) (l3 : Int) (l4 : Int), zr l2 → zr l3 → zr l4 → lp_X11_best_23 l1 V K f l2 l3 l4 → Z M_X11_best (d + 2) kc ks 23 [some (.ref 602), some (.int (iI l1)), some (.int (iI l2)), some (.int (iI l3)), some (.int (iI l4)), none, none] [] S (qi V) (qj J) (qP_iV S J Q) := by
  intro f
  induction f with
  | zero =>
    intro l2 l3 l4 z2 z3 z4 h
    exact h.elim
  | succ f ih =>
    intro l2 l3 l4 z2 z3 z4 h
    rw [lp_X11_best_23] at h
    refine z_iload Q_X11_best (k := 15) rfl rfl ?_
    refine z_aload_n Q_X11_best (k := 16) rfl rfl ?_
    refine z_getR (b := 603) Q_X11_best (k := 17) rfl F_X11_13 rfl (n_ hB.1 rfl) (k_602 hB.1) (r_602_1 hB.1) ?_
    refine y_sipush Q_X11_best (k := 18) rfl (by decide) ?_
    refine q_iald (o := 603) (N := 594) Q_X11_best (k := 19) rfl rfl (n_ hB.1 rfl) (k_603 hB.1) rfl ⟨by decide, by decide⟩ (by decide) ?_
    refine y_icmp_ge 139 Q_X11_best (k := 20) rfl (by decide) z4 (hB.2.1 _ _) (fun c => ?_) (fun c => ?_)
    · replace h := h.1 c
      exact y_fg (zsb_c rfl (zsb_c rfl (zsb_c rfl (zsb_c rfl (zsb_c rfl (zsb_n (zsb_n zsb_e))))))) (hK l2 l3 l4 z2 z3 z4 h)
    · replace h := h.2 c
      refine z_aload_n Q_X11_best (k := 21) rfl rfl ?_
      refine z_getR (b := 603) Q_X11_best (k := 22) rfl F_X11_13 rfl (n_ hB.1 rfl) (k_602 hB.1) (r_602_1 hB.1) ?_
      refine y_sipush Q_X11_best (k := 23) rfl (by decide) ?_
      refine y_iconst Q_X11_best (k := 24) rfl ?_
      refine z_iload Q_X11_best (k := 25) rfl rfl ?_
      obtain ⟨q3, h⟩ := h
      refine y_imul Q_X11_best (k := 26) rfl ?_
      obtain ⟨q4, h⟩ := h
      refine y_iadd Q_X11_best (k := 27) rfl ?_
      obtain ⟨q5, h⟩ := h
      refine q_iald (o := 603) (N := 594) Q_X11_best (k := 28) rfl rfl (n_ hB.1 rfl) (k_603 hB.1) rfl q5 (by decide) ?_
      refine z_iload_n Q_X11_best (k := 29) rfl rfl ?_
      refine y_icmp_ne 133 Q_X11_best (k := 30) rfl (by decide) (hB.2.1 _ _) z1 (fun c => ?_) (fun c => ?_)
      · replace h := h.2 c
        obtain ⟨q6, h⟩ := h
        refine y_iinc (L' := [some (.ref 602), some (.int (iI l1)), some (.int (iI l2)), some (.int (iI l3)), some (.int (iI (l4 + 1))), none, none]) Q_X11_best (k := 76) rfl (by decide) rfl rfl ?_
        refine z_goto (tgt := 23) Q_X11_best (k := 77) rfl (by decide) ?_
        exact y_fg (zsb_c rfl (zsb_c rfl (zsb_c rfl (zsb_c rfl (zsb_c rfl (zsb_n (zsb_n zsb_e))))))) (ih l2 l3 (l4 + 1) z2 z3 q6 h)
      · replace h := h.1 c
        refine z_aload_n Q_X11_best (k := 31) rfl rfl ?_
        refine z_iload Q_X11_best (k := 32) rfl rfl ?_
        refine q_callV1_z Q_X11_best (k := 33) rfl rfl K_X11_fits V_X11_fits L_X11_297 (n_ hB.1 rfl) (k_602 hB.1) (Nat.le_of_ble_eq_true rfl) (Nat.le_of_ble_eq_true rfl) rfl (Nat.zero_le _) (Nat.zero_le _) (w_X11_fits d hB z4 h) (fun r7 hz7 hb7 h => ?_)
        refine y_if_ne 65 Q_X11_best (k := 34) rfl (by decide) hz7 (fun c => ?_) (fun c => ?_)
        · replace h := h.2 c
          refine z_aload_n Q_X11_best (k := 36) rfl rfl ?_
          refine z_getR (b := 603) Q_X11_best (k := 37) rfl F_X11_13 rfl (n_ hB.1 rfl) (k_602 hB.1) (r_602_1 hB.1) ?_
          refine y_sipush Q_X11_best (k := 38) rfl (by decide) ?_
          refine y_iconst Q_X11_best (k := 39) rfl ?_
          refine z_iload Q_X11_best (k := 40) rfl rfl ?_
          obtain ⟨q8, h⟩ := h
          refine y_imul Q_X11_best (k := 41) rfl ?_
          obtain ⟨q9, h⟩ := h
          refine y_iadd Q_X11_best (k := 42) rfl ?_
          refine y_iconst Q_X11_best (k := 43) rfl ?_
          obtain ⟨q10, h⟩ := h
          refine y_iadd Q_X11_best (k := 44) rfl ?_
          obtain ⟨q11, h⟩ := h
          refine q_iald (o := 603) (N := 594) Q_X11_best (k := 45) rfl rfl (n_ hB.1 rfl) (k_603 hB.1) rfl q11 (by decide) ?_
          refine y_istore (L' := [some (.ref 602), some (.int (iI l1)), some (.int (iI l2)), some (.int (iI l3)), some (.int (iI l4)), some (.int (iI (V 603 ((360 + (3 * l4)) + 1)))), none]) Q_X11_best (k := 46) rfl (by decide) rfl ?_
          refine z_aload_n Q_X11_best (k := 47) rfl rfl ?_
          refine z_aload_n Q_X11_best (k := 48) rfl rfl ?_
          refine z_getR (b := 603) Q_X11_best (k := 49) rfl F_X11_13 rfl (n_ hB.1 rfl) (k_602 hB.1) (r_602_1 hB.1) ?_
          refine y_sipush Q_X11_best (k := 50) rfl (by decide) ?_
          refine y_iconst Q_X11_best (k := 51) rfl ?_
          refine z_iload Q_X11_best (k := 52) rfl rfl ?_
          obtain ⟨q12, h⟩ := h
          refine y_imul Q_X11_best (k := 53) rfl ?_
          obtain ⟨q13, h⟩ := h
          refine y_iadd Q_X11_best (k := 54) rfl ?_
          refine y_iconst Q_X11_best (k := 55) rfl ?_
          obtain ⟨q14, h⟩ := h
          refine y_iadd Q_X11_best (k := 56) rfl ?_
          obtain ⟨q15, h⟩ := h
          refine q_iald (o := 603) (N := 594) Q_X11_best (k := 57) rfl rfl (n_ hB.1 rfl) (k_603 hB.1) rfl q15 (by decide) ?_
          refine q_callV1_i Q_X11_best (k := 58) rfl rfl K_X11_have V_X11_have L_X11_239 (n_ hB.1 rfl) (k_602 hB.1) (Nat.le_of_ble_eq_true rfl) (Nat.le_of_ble_eq_true rfl) rfl (Nat.zero_le _) (Nat.zero_le _) (w_X11_have (d + 1) hB (hB.2.1 _ _) h) (fun r16 hz16 h => ?_)
          refine y_istore (L' := [some (.ref 602), some (.int (iI l1)), some (.int (iI l2)), some (.int (iI l3)), some (.int (iI l4)), some (.int (iI (V 603 ((360 + (3 * l4)) + 1)))), some (.int (iI r16))]) Q_X11_best (k := 59) rfl (by decide) rfl ?_
          refine z_iload Q_X11_best (k := 60) rfl rfl ?_
          refine z_iload_n Q_X11_best (k := 61) rfl rfl ?_
          refine y_icmp_ge 118 Q_X11_best (k := 62) rfl (by decide) hz16 z3 (fun c => ?_) (fun c => ?_)
          · replace h := h.1 c
            refine z_iload Q_X11_best (k := 68) rfl rfl ?_
            refine z_iload_n Q_X11_best (k := 69) rfl rfl ?_
            refine y_icmp_ne 133 Q_X11_best (k := 70) rfl (by decide) hz16 z3 (fun c => ?_) (fun c => ?_)
            · replace h := h.2 c
              obtain ⟨q17, h⟩ := h
              refine y_iinc (L' := [some (.ref 602), some (.int (iI l1)), some (.int (iI l2)), some (.int (iI l3)), some (.int (iI (l4 + 1))), some (.int (iI (V 603 ((360 + (3 * l4)) + 1)))), some (.int (iI r16))]) Q_X11_best (k := 76) rfl (by decide) rfl rfl ?_
              refine z_goto (tgt := 23) Q_X11_best (k := 77) rfl (by decide) ?_
              exact y_fg (zsb_c rfl (zsb_c rfl (zsb_c rfl (zsb_c rfl (zsb_c rfl (zsb_n (zsb_n zsb_e))))))) (ih l2 l3 (l4 + 1) z2 z3 q17 h)
            · replace h := h.1 c
              refine z_iload_n Q_X11_best (k := 71) rfl rfl ?_
              refine z_iload Q_X11_best (k := 72) rfl rfl ?_
              refine y_icmp_eq 133 Q_X11_best (k := 73) rfl (by decide) z2 (hB.2.1 _ _) (fun c => ?_) (fun c => ?_)
              · replace h := h.1 c
                obtain ⟨q18, h⟩ := h
                refine y_iinc (L' := [some (.ref 602), some (.int (iI l1)), some (.int (iI l2)), some (.int (iI l3)), some (.int (iI (l4 + 1))), some (.int (iI (V 603 ((360 + (3 * l4)) + 1)))), some (.int (iI r16))]) Q_X11_best (k := 76) rfl (by decide) rfl rfl ?_
                refine z_goto (tgt := 23) Q_X11_best (k := 77) rfl (by decide) ?_
                exact y_fg (zsb_c rfl (zsb_c rfl (zsb_c rfl (zsb_c rfl (zsb_c rfl (zsb_n (zsb_n zsb_e))))))) (ih l2 l3 (l4 + 1) z2 z3 q18 h)
              · replace h := h.2 c
                refine y_bipush Q_X11_best (k := 74) rfl (by decide) ?_
                refine y_istore_n (L' := [some (.ref 602), some (.int (iI l1)), some (.int (iI (-2))), some (.int (iI l3)), some (.int (iI l4)), some (.int (iI (V 603 ((360 + (3 * l4)) + 1)))), some (.int (iI r16))]) Q_X11_best (k := 75) rfl (by decide) rfl ?_
                obtain ⟨q19, h⟩ := h
                refine y_iinc (L' := [some (.ref 602), some (.int (iI l1)), some (.int (iI (-2))), some (.int (iI l3)), some (.int (iI (l4 + 1))), some (.int (iI (V 603 ((360 + (3 * l4)) + 1)))), some (.int (iI r16))]) Q_X11_best (k := 76) rfl (by decide) rfl rfl ?_
                refine z_goto (tgt := 23) Q_X11_best (k := 77) rfl (by decide) ?_
                exact y_fg (zsb_c rfl (zsb_c rfl (zsb_c rfl (zsb_c rfl (zsb_c rfl (zsb_n (zsb_n zsb_e))))))) (ih (-2) l3 (l4 + 1) ⟨by decide, by decide⟩ z3 q19 h)
          · replace h := h.2 c
            refine z_iload Q_X11_best (k := 63) rfl rfl ?_
            refine y_istore_n (L' := [some (.ref 602), some (.int (iI l1)), some (.int (iI l2)), some (.int (iI r16)), some (.int (iI l4)), some (.int (iI (V 603 ((360 + (3 * l4)) + 1)))), some (.int (iI r16))]) Q_X11_best (k := 64) rfl (by decide) rfl ?_
            refine z_iload Q_X11_best (k := 65) rfl rfl ?_
            refine y_istore_n (L' := [some (.ref 602), some (.int (iI l1)), some (.int (iI (V 603 ((360 + (3 * l4)) + 1)))), some (.int (iI r16)), some (.int (iI l4)), some (.int (iI (V 603 ((360 + (3 * l4)) + 1)))), some (.int (iI r16))]) Q_X11_best (k := 66) rfl (by decide) rfl ?_
            refine z_goto (tgt := 133) Q_X11_best (k := 67) rfl (by decide) ?_
            obtain ⟨q20, h⟩ := h
            refine y_iinc (L' := [some (.ref 602), some (.int (iI l1)), some (.int (iI (V 603 ((360 + (3 * l4)) + 1)))), some (.int (iI r16)), some (.int (iI (l4 + 1))), some (.int (iI (V 603 ((360 + (3 * l4)) + 1)))), some (.int (iI r16))]) Q_X11_best (k := 76) rfl (by decide) rfl rfl ?_
            refine z_goto (tgt := 23) Q_X11_best (k := 77) rfl (by decide) ?_
            exact y_fg (zsb_c rfl (zsb_c rfl (zsb_c rfl (zsb_c rfl (zsb_c rfl (zsb_n (zsb_n zsb_e))))))) (ih (V 603 ((360 + (3 * l4)) + 1)) r16 (l4 + 1) (hB.2.1 _ _) hz16 q20 h)
        · replace h := h.1 c
          refine z_goto (tgt := 133) Q_X11_best (k := 35) rfl (by decide) ?_
          obtain ⟨q21, h⟩ := h
          refine y_iinc (L' := [some (.ref 602), some (.int (iI l1)), some (.int (iI l2)), some (.int (iI l3)), some (.int (iI (l4 + 1))), none, none]) Q_X11_best (k := 76) rfl (by decide) rfl rfl ?_
          refine z_goto (tgt := 23) Q_X11_best (k := 77) rfl (by decide) ?_
          exact y_fg (zsb_c rfl (zsb_c rfl (zsb_c rfl (zsb_c rfl (zsb_c rfl (zsb_n (zsb_n zsb_e))))))) (ih l2 l3 (l4 + 1) z2 z3 q21 h)
set_option maxHeartbeats 4000000 in
set_option maxRecDepth 20000 in
theorem w_X11_best {S : zS} {V : qV} {J : qJ} {Q : Int → qV → Prop} (d : Nat) (hB : qB S V) {a1 : Int} (z1 : zr a1) (h : W_X11_best a1 V Q) : Z M_X11_best (d + 2) 0 0 0 [some (.ref 602), some (.int (iI a1)), none, none, none, none, none] [] S (qi V) (qj J) (qP_iV S J Q) := by
  unfold W_X11_best at h
  refine z_aload_n Q_X11_best (k := 0) rfl rfl ?_
  refine y_iconst Q_X11_best (k := 1) rfl ?_
  refine q_putI (o := 602) (z := 0) Q_X11_best (k := 2) rfl F_X11_1 rfl rfl rfl (n_ hB.1 rfl) (k_602 hB.1) ?_
  have hB1 := qB.u (a := 602) (j := 0) (x := 0) hB ⟨by decide, by decide⟩ (Or.inl (by decide))
  refine z_aload_n Q_X11_best (k := 3) rfl rfl ?_
  refine z_iload_n Q_X11_best (k := 4) rfl rfl ?_
  refine q_callV1_zV Q_X11_best (k := 5) rfl rfl K_X11_isFind V_X11_isFind L_X11_245 (n_ hB1.1 rfl) (k_602 hB1.1) (Nat.le_of_ble_eq_true rfl) (Nat.le_of_ble_eq_true rfl) rfl (Nat.zero_le _) (Nat.zero_le _) (w_X11_isFind d hB1 z1 h) (fun r2 V2 hB2 hz2 hb2 h => ?_)
  refine y_if_ne 15 Q_X11_best (k := 6) rfl (by decide) hz2 (fun c => ?_) (fun c => ?_)
  · replace h := h.2 c
    refine y_iconst Q_X11_best (k := 9) rfl ?_
    refine y_istore_n (L' := [some (.ref 602), some (.int (iI a1)), some (.int (iI (-1))), none, none, none, none]) Q_X11_best (k := 10) rfl (by decide) rfl ?_
    refine y_bipush Q_X11_best (k := 11) rfl (by decide) ?_
    refine y_istore_n (L' := [some (.ref 602), some (.int (iI a1)), some (.int (iI (-1))), some (.int (iI 99)), none, none, none]) Q_X11_best (k := 12) rfl (by decide) rfl ?_
    refine y_iconst Q_X11_best (k := 13) rfl ?_
    refine y_istore (L' := [some (.ref 602), some (.int (iI a1)), some (.int (iI (-1))), some (.int (iI 99)), some (.int (iI 0)), none, none]) Q_X11_best (k := 14) rfl (by decide) rfl ?_
    refine y_fg (zsb_c rfl (zsb_c rfl (zsb_c rfl (zsb_c rfl (zsb_c rfl (zsb_n (zsb_n zsb_e))))))) (v_X11_best_23 d hB2 z1 (fun l2x22 l3x22 l4x22 zl2x22 zl3x22 zl4x22 h => ?_) 100000 (-1) 99 0 ⟨by decide, by decide⟩ ⟨by decide, by decide⟩ ⟨by decide, by decide⟩ h)
    refine z_iload_n Q_X11_best (k := 78) rfl rfl ?_
    exact y_iret Q_X11_best (k := 79) rfl rfl (qI_iV hB2 zl2x22 h)
  · replace h := h.1 c
    refine y_iconst Q_X11_best (k := 7) rfl ?_
    exact y_iret Q_X11_best (k := 8) rfl rfl (qI_iV hB2 ⟨by decide, by decide⟩ h)
set_option maxHeartbeats 4000000 in
set_option maxRecDepth 20000 in
theorem v_X11_added_35 {S : zS} {V : qV} {J : qJ} {K : Int → Int → Int → Prop} {Q : Int → qV → Prop} {kc ks : Nat} (d : Nat) (hB : qB S V) {l1 : Int} (z1 : zr l1) {l2 : Int} (z2 : zr l2) (hK : ∀ (l3 : Int) (l4 : Int) (l5 : Int), zr l3 → zr l4 → zr l5 → K l3 l4 l5 → Z M_X11_added (d + 2) kc ks 114 [some (.ref 602), some (.int (iI l1)), some (.int (iI l2)), some (.int (iI l3)), some (.int (iI l4)), some (.int (iI l5)), none] [] S (qi V) (qj J) (qP_iV S J Q)) : ∀ (f : Nat) (l3 : Int) (l4 : Int) (l5 : Int), zr l3 → zr l4 → zr l5 → lp_X11_added_35 l1 l2 V K f l3 l4 l5 → Z M_X11_added (d + 2) kc ks 35 [some (.ref 602), some (.int (iI l1)), some (.int (iI l2)), some (.int (iI l3)), some (.int (iI l4)), some (.int (iI l5)), none] [] S (qi V) (qj J) (qP_iV S J Q) := by
  intro f
  induction f with
  | zero =>
    intro l3 l4 l5 z3 z4 z5 h
    exact h.elim
  | succ f ih =>
    intro l3 l4 l5 z3 z4 z5 h
    rw [lp_X11_added_35] at h
    refine z_iload Q_X11_added (k := 21) rfl rfl ?_
    refine y_bipush Q_X11_added (k := 22) rfl (by decide) ?_
    refine y_icmp_ge 114 Q_X11_added (k := 23) rfl (by decide) z5 ⟨by decide, by decide⟩ (fun c => ?_) (fun c => ?_)
    · replace h := h.1 c
      exact y_fg (zsb_c rfl (zsb_c rfl (zsb_c rfl (zsb_c rfl (zsb_c rfl (zsb_c rfl (zsb_n zsb_e))))))) (hK l3 l4 l5 z3 z4 z5 h)
    · replace h := h.2 c
      refine z_aload_n Q_X11_added (k := 24) rfl rfl ?_
      refine z_getR (b := 603) Q_X11_added (k := 25) rfl F_X11_13 rfl (n_ hB.1 rfl) (k_602 hB.1) (r_602_1 hB.1) ?_
      refine z_iload_n Q_X11_added (k := 26) rfl rfl ?_
      refine q_callS1_i Q_X11_added (k := 27) rfl rfl K_X11_find_ S_X11_find_ L_X11_230 (Nat.le_of_ble_eq_true rfl) (Nat.le_of_ble_eq_true rfl) rfl (Nat.zero_le _) (Nat.zero_le _) (w_X11_find_ (d + 1) hB z1 h) (fun r5 hz5 h => ?_)
      refine y_iconst Q_X11_added (k := 28) rfl ?_
      obtain ⟨q6, h⟩ := h
      refine y_iadd Q_X11_added (k := 29) rfl ?_
      obtain ⟨q7, h⟩ := h
      refine q_iald (o := 603) (N := 594) Q_X11_added (k := 30) rfl rfl (n_ hB.1 rfl) (k_603 hB.1) rfl q7 (by decide) ?_
      refine z_iload Q_X11_added (k := 31) rfl rfl ?_
      refine y_ishr Q_X11_added (k := 32) rfl ?_
      refine y_iconst Q_X11_added (k := 33) rfl ?_
      refine y_iand Q_X11_added (k := 34) rfl ?_
      refine y_if_eq 108 Q_X11_added (k := 35) rfl (by decide) (zand_r _ _) (fun c => ?_) (fun c => ?_)
      · replace h := h.1 c
        obtain ⟨q8, h⟩ := h
        refine y_iinc (L' := [some (.ref 602), some (.int (iI l1)), some (.int (iI l2)), some (.int (iI l3)), some (.int (iI l4)), some (.int (iI (l5 + 1))), none]) Q_X11_added (k := 63) rfl (by decide) rfl rfl ?_
        refine z_goto (tgt := 35) Q_X11_added (k := 64) rfl (by decide) ?_
        exact y_fg (zsb_c rfl (zsb_c rfl (zsb_c rfl (zsb_c rfl (zsb_c rfl (zsb_c rfl (zsb_n zsb_e))))))) (ih l3 l4 (l5 + 1) z3 z4 q8 h)
      · replace h := h.2 c
        refine z_iload_n Q_X11_added (k := 36) rfl rfl ?_
        refine z_iload Q_X11_added (k := 37) rfl rfl ?_
        refine y_ishr Q_X11_added (k := 38) rfl ?_
        refine y_iconst Q_X11_added (k := 39) rfl ?_
        refine y_iand Q_X11_added (k := 40) rfl ?_
        refine y_iconst Q_X11_added (k := 41) rfl ?_
        refine y_icmp_ne 74 Q_X11_added (k := 42) rfl (by decide) (zand_r _ _) ⟨by decide, by decide⟩ (fun c => ?_) (fun c => ?_)
        · replace h := h.2 c
          refine z_aload_n Q_X11_added (k := 44) rfl rfl ?_
          refine z_iload_n Q_X11_added (k := 45) rfl rfl ?_
          refine y_iconst Q_X11_added (k := 46) rfl ?_
          refine z_iload Q_X11_added (k := 47) rfl rfl ?_
          refine y_ishl Q_X11_added (k := 48) rfl ?_
          refine y_ior Q_X11_added (k := 49) rfl ?_
          refine q_callV1_i Q_X11_added (k := 50) rfl rfl K_X11_have V_X11_have L_X11_239 (n_ hB.1 rfl) (k_602 hB.1) (Nat.le_of_ble_eq_true rfl) (Nat.le_of_ble_eq_true rfl) rfl (Nat.zero_le _) (Nat.zero_le _) (w_X11_have (d + 1) hB (zor_r _ _) h) (fun r9 hz9 h => ?_)
          refine y_istore (L' := [some (.ref 602), some (.int (iI l1)), some (.int (iI l2)), some (.int (iI l3)), some (.int (iI l4)), some (.int (iI l5)), some (.int (iI r9))]) Q_X11_added (k := 51) rfl (by decide) rfl ?_
          refine z_iload_n Q_X11_added (k := 52) rfl rfl ?_
          refine y_iconst Q_X11_added (k := 53) rfl ?_
          refine y_icmp_eq 101 Q_X11_added (k := 54) rfl (by decide) z3 ⟨by decide, by decide⟩ (fun c => ?_) (fun c => ?_)
          · replace h := h.1 c
            refine z_iload Q_X11_added (k := 59) rfl rfl ?_
            refine y_istore_n (L' := [some (.ref 602), some (.int (iI l1)), some (.int (iI l2)), some (.int (iI l5)), some (.int (iI l4)), some (.int (iI l5)), some (.int (iI r9))]) Q_X11_added (k := 60) rfl (by decide) rfl ?_
            refine z_iload Q_X11_added (k := 61) rfl rfl ?_
            refine y_istore (L' := [some (.ref 602), some (.int (iI l1)), some (.int (iI l2)), some (.int (iI l5)), some (.int (iI r9)), some (.int (iI l5)), some (.int (iI r9))]) Q_X11_added (k := 62) rfl (by decide) rfl ?_
            obtain ⟨q10, h⟩ := h
            refine y_iinc (L' := [some (.ref 602), some (.int (iI l1)), some (.int (iI l2)), some (.int (iI l5)), some (.int (iI r9)), some (.int (iI (l5 + 1))), some (.int (iI r9))]) Q_X11_added (k := 63) rfl (by decide) rfl rfl ?_
            refine z_goto (tgt := 35) Q_X11_added (k := 64) rfl (by decide) ?_
            exact y_fg (zsb_c rfl (zsb_c rfl (zsb_c rfl (zsb_c rfl (zsb_c rfl (zsb_c rfl (zsb_n zsb_e))))))) (ih l5 r9 (l5 + 1) z5 hz9 q10 h)
          · replace h := h.2 c
            refine z_iload Q_X11_added (k := 55) rfl rfl ?_
            refine z_iload Q_X11_added (k := 56) rfl rfl ?_
            refine y_icmp_lt 101 Q_X11_added (k := 57) rfl (by decide) hz9 z4 (fun c => ?_) (fun c => ?_)
            · replace h := h.1 c
              refine z_iload Q_X11_added (k := 59) rfl rfl ?_
              refine y_istore_n (L' := [some (.ref 602), some (.int (iI l1)), some (.int (iI l2)), some (.int (iI l5)), some (.int (iI l4)), some (.int (iI l5)), some (.int (iI r9))]) Q_X11_added (k := 60) rfl (by decide) rfl ?_
              refine z_iload Q_X11_added (k := 61) rfl rfl ?_
              refine y_istore (L' := [some (.ref 602), some (.int (iI l1)), some (.int (iI l2)), some (.int (iI l5)), some (.int (iI r9)), some (.int (iI l5)), some (.int (iI r9))]) Q_X11_added (k := 62) rfl (by decide) rfl ?_
              obtain ⟨q11, h⟩ := h
              refine y_iinc (L' := [some (.ref 602), some (.int (iI l1)), some (.int (iI l2)), some (.int (iI l5)), some (.int (iI r9)), some (.int (iI (l5 + 1))), some (.int (iI r9))]) Q_X11_added (k := 63) rfl (by decide) rfl rfl ?_
              refine z_goto (tgt := 35) Q_X11_added (k := 64) rfl (by decide) ?_
              exact y_fg (zsb_c rfl (zsb_c rfl (zsb_c rfl (zsb_c rfl (zsb_c rfl (zsb_c rfl (zsb_n zsb_e))))))) (ih l5 r9 (l5 + 1) z5 hz9 q11 h)
            · replace h := h.2 c
              refine z_goto (tgt := 108) Q_X11_added (k := 58) rfl (by decide) ?_
              obtain ⟨q12, h⟩ := h
              refine y_iinc (L' := [some (.ref 602), some (.int (iI l1)), some (.int (iI l2)), some (.int (iI l3)), some (.int (iI l4)), some (.int (iI (l5 + 1))), some (.int (iI r9))]) Q_X11_added (k := 63) rfl (by decide) rfl rfl ?_
              refine z_goto (tgt := 35) Q_X11_added (k := 64) rfl (by decide) ?_
              exact y_fg (zsb_c rfl (zsb_c rfl (zsb_c rfl (zsb_c rfl (zsb_c rfl (zsb_c rfl (zsb_n zsb_e))))))) (ih l3 l4 (l5 + 1) z3 z4 q12 h)
        · replace h := h.1 c
          refine z_goto (tgt := 108) Q_X11_added (k := 43) rfl (by decide) ?_
          obtain ⟨q13, h⟩ := h
          refine y_iinc (L' := [some (.ref 602), some (.int (iI l1)), some (.int (iI l2)), some (.int (iI l3)), some (.int (iI l4)), some (.int (iI (l5 + 1))), none]) Q_X11_added (k := 63) rfl (by decide) rfl rfl ?_
          refine z_goto (tgt := 35) Q_X11_added (k := 64) rfl (by decide) ?_
          exact y_fg (zsb_c rfl (zsb_c rfl (zsb_c rfl (zsb_c rfl (zsb_c rfl (zsb_c rfl (zsb_n zsb_e))))))) (ih l3 l4 (l5 + 1) z3 z4 q13 h)
set_option maxHeartbeats 4000000 in
set_option maxRecDepth 20000 in
theorem w_X11_added {S : zS} {V : qV} {J : qJ} {Q : Int → qV → Prop} (d : Nat) (hB : qB S V) {a1 : Int} (z1 : zr a1) {a2 : Int} (z2 : zr a2) (h : W_X11_added a1 a2 V Q) : Z M_X11_added (d + 2) 0 0 0 [some (.ref 602), some (.int (iI a1)), some (.int (iI a2)), none, none, none, none] [] S (qi V) (qj J) (qP_iV S J Q) := by
  unfold W_X11_added at h
  refine z_aload_n Q_X11_added (k := 0) rfl rfl ?_
  refine y_iconst Q_X11_added (k := 1) rfl ?_
  refine q_putI (o := 602) (z := 0) Q_X11_added (k := 2) rfl F_X11_1 rfl rfl rfl (n_ hB.1 rfl) (k_602 hB.1) ?_
  have hB1 := qB.u (a := 602) (j := 0) (x := 0) hB ⟨by decide, by decide⟩ (Or.inl (by decide))
  refine z_aload_n Q_X11_added (k := 3) rfl rfl ?_
  refine z_iload_n Q_X11_added (k := 4) rfl rfl ?_
  refine q_callV1_zV Q_X11_added (k := 5) rfl rfl K_X11_isFind V_X11_isFind L_X11_245 (n_ hB1.1 rfl) (k_602 hB1.1) (Nat.le_of_ble_eq_true rfl) (Nat.le_of_ble_eq_true rfl) rfl (Nat.zero_le _) (Nat.zero_le _) (w_X11_isFind d hB1 z1 h) (fun r2 V2 hB2 hz2 hb2 h => ?_)
  refine y_if_eq 25 Q_X11_added (k := 6) rfl (by decide) hz2 (fun c => ?_) (fun c => ?_)
  · replace h := h.1 c
    refine y_iconst Q_X11_added (k := 13) rfl ?_
    exact y_iret Q_X11_added (k := 14) rfl rfl (qI_iV hB2 ⟨by decide, by decide⟩ h)
  · replace h := h.2 c
    refine z_aload_n Q_X11_added (k := 7) rfl rfl ?_
    refine z_iload_n Q_X11_added (k := 8) rfl rfl ?_
    refine q_callS1_z Q_X11_added (k := 9) rfl rfl K_X11_isMarks S_X11_isMarks L_X11_220 (Nat.le_of_ble_eq_true rfl) (Nat.le_of_ble_eq_true rfl) rfl (Nat.zero_le _) (Nat.zero_le _) (w_X11_isMarks d hB2 z2 h) (fun r3 hz3 hb3 h => ?_)
    refine y_iconst Q_X11_added (k := 10) rfl ?_
    refine q_callV2_zV Q_X11_added (k := 11) rfl rfl K_X11_may V_X11_may L_X11_187 (n_ hB2.1 rfl) (k_602 hB2.1) (Nat.le_of_ble_eq_true rfl) (Nat.le_of_ble_eq_true rfl) rfl (Nat.zero_le _) (Nat.zero_le _) (w_X11_may (d + 1) hB2 hz3 hb3 ⟨by decide, by decide⟩ h) (fun r4 V4 hB4 hz4 hb4 h => ?_)
    refine y_if_ne 27 Q_X11_added (k := 12) rfl (by decide) hz4 (fun c => ?_) (fun c => ?_)
    · replace h := h.2 c
      refine y_iconst Q_X11_added (k := 15) rfl ?_
      refine y_istore_n (L' := [some (.ref 602), some (.int (iI a1)), some (.int (iI a2)), some (.int (iI (-1))), none, none, none]) Q_X11_added (k := 16) rfl (by decide) rfl ?_
      refine y_iconst Q_X11_added (k := 17) rfl ?_
      refine y_istore (L' := [some (.ref 602), some (.int (iI a1)), some (.int (iI a2)), some (.int (iI (-1))), some (.int (iI 0)), none, none]) Q_X11_added (k := 18) rfl (by decide) rfl ?_
      refine y_iconst Q_X11_added (k := 19) rfl ?_
      refine y_istore (L' := [some (.ref 602), some (.int (iI a1)), some (.int (iI a2)), some (.int (iI (-1))), some (.int (iI 0)), some (.int (iI 0)), none]) Q_X11_added (k := 20) rfl (by decide) rfl ?_
      refine y_fg (zsb_c rfl (zsb_c rfl (zsb_c rfl (zsb_c rfl (zsb_c rfl (zsb_c rfl (zsb_n zsb_e))))))) (v_X11_added_35 d hB4 z1 z2 (fun l3x14 l4x14 l5x14 zl3x14 zl4x14 zl5x14 h => ?_) 100000 (-1) 0 0 ⟨by decide, by decide⟩ ⟨by decide, by decide⟩ ⟨by decide, by decide⟩ h)
      refine z_iload_n Q_X11_added (k := 65) rfl rfl ?_
      exact y_iret Q_X11_added (k := 66) rfl rfl (qI_iV hB4 zl3x14 h)
    · replace h := h.1 c
      refine y_iconst Q_X11_added (k := 13) rfl ?_
      exact y_iret Q_X11_added (k := 14) rfl rfl (qI_iV hB4 ⟨by decide, by decide⟩ h)
set_option maxHeartbeats 4000000 in
set_option maxRecDepth 20000 in
theorem w_X11_cry {S : zS} {V : qV} {J : qJ} {Q : Int → qV → Prop} (d : Nat) (hB : qB S V) {a1 : Int} (z1 : zr a1) (h : W_X11_cry a1 V Q) : Z M_X11_cry (d + 2) 0 0 0 [some (.ref 602), some (.int (iI a1)), none] [] S (qi V) (qj J) (qP_iV S J Q) := by
  unfold W_X11_cry at h
  refine z_aload_n Q_X11_cry (k := 0) rfl rfl ?_
  refine y_iconst Q_X11_cry (k := 1) rfl ?_
  refine q_putI (o := 602) (z := 0) Q_X11_cry (k := 2) rfl F_X11_1 rfl rfl rfl (n_ hB.1 rfl) (k_602 hB.1) ?_
  have hB1 := qB.u (a := 602) (j := 0) (x := 0) hB ⟨by decide, by decide⟩ (Or.inl (by decide))
  refine z_aload_n Q_X11_cry (k := 3) rfl rfl ?_
  refine z_iload_n Q_X11_cry (k := 4) rfl rfl ?_
  refine q_callV1_zV Q_X11_cry (k := 5) rfl rfl K_X11_isFind V_X11_isFind L_X11_245 (n_ hB1.1 rfl) (k_602 hB1.1) (Nat.le_of_ble_eq_true rfl) (Nat.le_of_ble_eq_true rfl) rfl (Nat.zero_le _) (Nat.zero_le _) (w_X11_isFind d hB1 z1 h) (fun r2 V2 hB2 hz2 hb2 h => ?_)
  refine y_if_ne 15 Q_X11_cry (k := 6) rfl (by decide) hz2 (fun c => ?_) (fun c => ?_)
  · replace h := h.2 c
    refine z_iload_n Q_X11_cry (k := 9) rfl rfl ?_
    refine q_callS1_i Q_X11_cry (k := 10) rfl rfl K_X11_find_ S_X11_find_ L_X11_230 (Nat.le_of_ble_eq_true rfl) (Nat.le_of_ble_eq_true rfl) rfl (Nat.zero_le _) (Nat.zero_le _) (w_X11_find_ (d + 1) hB2 z1 h) (fun r3 hz3 h => ?_)
    refine y_istore_n (L' := [some (.ref 602), some (.int (iI a1)), some (.int (iI r3))]) Q_X11_cry (k := 11) rfl (by decide) rfl ?_
    refine z_aload_n Q_X11_cry (k := 12) rfl rfl ?_
    refine z_getR (b := 603) Q_X11_cry (k := 13) rfl F_X11_13 rfl (n_ hB2.1 rfl) (k_602 hB2.1) (r_602_1 hB2.1) ?_
    refine z_iload_n Q_X11_cry (k := 14) rfl rfl ?_
    refine y_bipush Q_X11_cry (k := 15) rfl (by decide) ?_
    obtain ⟨q4, h⟩ := h
    refine y_iadd Q_X11_cry (k := 16) rfl ?_
    obtain ⟨q5, h⟩ := h
    refine q_iald (o := 603) (N := 594) Q_X11_cry (k := 17) rfl rfl (n_ hB2.1 rfl) (k_603 hB2.1) rfl q5 (by decide) ?_
    refine z_aload_n Q_X11_cry (k := 18) rfl rfl ?_
    refine z_getR (b := 603) Q_X11_cry (k := 19) rfl F_X11_13 rfl (n_ hB2.1 rfl) (k_602 hB2.1) (r_602_1 hB2.1) ?_
    refine y_bipush Q_X11_cry (k := 20) rfl (by decide) ?_
    refine q_iald (o := 603) (N := 594) Q_X11_cry (k := 21) rfl rfl (n_ hB2.1 rfl) (k_603 hB2.1) rfl ⟨by decide, by decide⟩ (by decide) ?_
    refine y_icmp_ne 41 Q_X11_cry (k := 22) rfl (by decide) (hB2.2.1 _ _) (hB2.2.1 _ _) (fun c => ?_) (fun c => ?_)
    · replace h := h.2 c
      refine z_aload_n Q_X11_cry (k := 25) rfl rfl ?_
      refine z_getR (b := 603) Q_X11_cry (k := 26) rfl F_X11_13 rfl (n_ hB2.1 rfl) (k_602 hB2.1) (r_602_1 hB2.1) ?_
      refine z_iload_n Q_X11_cry (k := 27) rfl rfl ?_
      refine y_bipush Q_X11_cry (k := 28) rfl (by decide) ?_
      obtain ⟨q6, h⟩ := h
      refine y_iadd Q_X11_cry (k := 29) rfl ?_
      refine z_aload_n Q_X11_cry (k := 30) rfl rfl ?_
      refine z_getR (b := 603) Q_X11_cry (k := 31) rfl F_X11_13 rfl (n_ hB2.1 rfl) (k_602 hB2.1) (r_602_1 hB2.1) ?_
      refine y_bipush Q_X11_cry (k := 32) rfl (by decide) ?_
      refine q_iald (o := 603) (N := 594) Q_X11_cry (k := 33) rfl rfl (n_ hB2.1 rfl) (k_603 hB2.1) rfl ⟨by decide, by decide⟩ (by decide) ?_
      obtain ⟨q7, h⟩ := h
      refine q_iast (o := 603) (N := 594) Q_X11_cry (k := 34) rfl rfl (n_ hB2.1 rfl) (k_603 hB2.1) rfl q7 (by decide) ?_
      have hB8 := qB.u (a := 603) (j := r3 + 7) (x := V2 603 20) hB2 (hB2.2.1 _ _) (Or.inl (by decide))
      refine z_aload_n Q_X11_cry (k := 35) rfl rfl ?_
      refine z_getR (b := 603) Q_X11_cry (k := 36) rfl F_X11_13 rfl (n_ hB8.1 rfl) (k_602 hB8.1) (r_602_1 hB8.1) ?_
      refine z_iload_n Q_X11_cry (k := 37) rfl rfl ?_
      refine y_bipush Q_X11_cry (k := 38) rfl (by decide) ?_
      obtain ⟨q9, h⟩ := h
      refine y_iadd Q_X11_cry (k := 39) rfl ?_
      refine z_dup2 Q_X11_cry (k := 40) rfl rfl rfl ?_
      obtain ⟨q10, h⟩ := h
      refine q_iald (o := 603) (N := 594) Q_X11_cry (k := 41) rfl rfl (n_ hB8.1 rfl) (k_603 hB8.1) rfl q10 (by decide) ?_
      refine y_iconst Q_X11_cry (k := 42) rfl ?_
      obtain ⟨q11, h⟩ := h
      refine y_iadd Q_X11_cry (k := 43) rfl ?_
      obtain ⟨q12, h⟩ := h
      refine q_iast (o := 603) (N := 594) Q_X11_cry (k := 44) rfl rfl (n_ hB8.1 rfl) (k_603 hB8.1) rfl q12 (by decide) ?_
      have hB13 := qB.u (a := 603) (j := r3 + 6) (x := ((qu V2 603 (r3 + 7) (V2 603 20)) 603 (r3 + 6)) + 1) hB8 q11 (Or.inl (by decide))
      refine y_iconst Q_X11_cry (k := 45) rfl ?_
      exact y_iret Q_X11_cry (k := 46) rfl rfl (qI_iV hB13 ⟨by decide, by decide⟩ h)
    · replace h := h.1 c
      refine y_iconst Q_X11_cry (k := 23) rfl ?_
      exact y_iret Q_X11_cry (k := 24) rfl rfl (qI_iV hB2 ⟨by decide, by decide⟩ h)
  · replace h := h.1 c
    refine y_iconst Q_X11_cry (k := 7) rfl ?_
    exact y_iret Q_X11_cry (k := 8) rfl rfl (qI_iV hB2 ⟨by decide, by decide⟩ h)
set_option maxHeartbeats 4000000 in
set_option maxRecDepth 20000 in
theorem w_X11_dueNow {S : zS} {V : qV} {J : qJ} {Q : Int → Prop} (d : Nat) (hB : qB S V) {a1 : Int} (z1 : zr a1) (h : W_X11_dueNow a1 V Q) : Z M_X11_dueNow (d + 1) 0 0 0 [some (.ref 602), some (.int (iI a1)), none] [] S (qi V) (qj J) (qP_i S V J Q) := by
  unfold W_X11_dueNow at h
  refine z_aload_n Q_X11_dueNow (k := 0) rfl rfl ?_
  refine q_getI (o := 602) (z := 27) Q_X11_dueNow (k := 1) rfl F_X11_264 rfl rfl rfl (n_ hB.1 rfl) (k_602 hB.1) ?_
  refine z_aload_n Q_X11_dueNow (k := 2) rfl rfl ?_
  refine z_getR (b := 603) Q_X11_dueNow (k := 3) rfl F_X11_13 rfl (n_ hB.1 rfl) (k_602 hB.1) (r_602_1 hB.1) ?_
  refine z_iload_n Q_X11_dueNow (k := 4) rfl rfl ?_
  refine q_callS1_i Q_X11_dueNow (k := 5) rfl rfl K_X11_find_ S_X11_find_ L_X11_230 (Nat.le_of_ble_eq_true rfl) (Nat.le_of_ble_eq_true rfl) rfl (Nat.zero_le _) (Nat.zero_le _) (w_X11_find_ d hB z1 h) (fun r1 hz1 h => ?_)
  refine y_bipush Q_X11_dueNow (k := 6) rfl (by decide) ?_
  obtain ⟨q2, h⟩ := h
  refine y_iadd Q_X11_dueNow (k := 7) rfl ?_
  obtain ⟨q3, h⟩ := h
  refine q_iald (o := 603) (N := 594) Q_X11_dueNow (k := 8) rfl rfl (n_ hB.1 rfl) (k_603 hB.1) rfl q3 (by decide) ?_
  obtain ⟨q4, h⟩ := h
  refine y_isub Q_X11_dueNow (k := 9) rfl ?_
  refine y_istore_n (L' := [some (.ref 602), some (.int (iI a1)), some (.int (iI ((V 602 27) - (V 603 (r1 + 6)))))]) Q_X11_dueNow (k := 10) rfl (by decide) rfl ?_
  refine z_iload_n Q_X11_dueNow (k := 11) rfl rfl ?_
  refine y_if_le 26 Q_X11_dueNow (k := 12) rfl (by decide) q4 (fun c => ?_) (fun c => ?_)
  · replace h := h.1 c
    refine y_iconst Q_X11_dueNow (k := 15) rfl ?_
    exact y_iret Q_X11_dueNow (k := 16) rfl rfl (qI_i ⟨by decide, by decide⟩ h)
  · replace h := h.2 c
    refine z_iload_n Q_X11_dueNow (k := 13) rfl rfl ?_
    refine z_goto (tgt := 27) Q_X11_dueNow (k := 14) rfl (by decide) ?_
    exact y_iret Q_X11_dueNow (k := 16) rfl rfl (qI_i q4 h)
set_option maxHeartbeats 4000000 in
set_option maxRecDepth 20000 in
theorem w_X11_due {S : zS} {V : qV} {J : qJ} {Q : Int → qV → Prop} (d : Nat) (hB : qB S V) {a1 : Int} (z1 : zr a1) {a2 : Int} (z2 : zr a2) (h : W_X11_due a1 a2 V Q) : Z M_X11_due (d + 3) 0 0 0 [some (.ref 602), some (.int (iI a1)), some (.int (iI a2))] [] S (qi V) (qj J) (qP_iV S J Q) := by
  unfold W_X11_due at h
  refine z_aload_n Q_X11_due (k := 0) rfl rfl ?_
  refine y_iconst Q_X11_due (k := 1) rfl ?_
  refine q_putI (o := 602) (z := 0) Q_X11_due (k := 2) rfl F_X11_1 rfl rfl rfl (n_ hB.1 rfl) (k_602 hB.1) ?_
  have hB1 := qB.u (a := 602) (j := 0) (x := 0) hB ⟨by decide, by decide⟩ (Or.inl (by decide))
  refine z_aload_n Q_X11_due (k := 3) rfl rfl ?_
  refine z_iload_n Q_X11_due (k := 4) rfl rfl ?_
  refine z_iload_n Q_X11_due (k := 5) rfl rfl ?_
  refine q_callV2_zV Q_X11_due (k := 6) rfl rfl K_X11_asks V_X11_asks L_X11_267 (n_ hB1.1 rfl) (k_602 hB1.1) (Nat.le_of_ble_eq_true rfl) (Nat.le_of_ble_eq_true rfl) rfl (Nat.zero_le _) (Nat.zero_le _) (w_X11_asks d hB1 z1 z2 h) (fun r2 V2 hB2 hz2 hb2 h => ?_)
  refine y_if_ne 16 Q_X11_due (k := 7) rfl (by decide) hz2 (fun c => ?_) (fun c => ?_)
  · replace h := h.2 c
    refine z_aload_n Q_X11_due (k := 10) rfl rfl ?_
    refine z_iload_n Q_X11_due (k := 11) rfl rfl ?_
    refine z_iload_n Q_X11_due (k := 12) rfl rfl ?_
    refine q_callV2_uV Q_X11_due (k := 13) rfl rfl K_X11_findWho V_X11_findWho L_X11_270 (n_ hB2.1 rfl) (k_602 hB2.1) (Nat.le_of_ble_eq_true rfl) (Nat.le_of_ble_eq_true rfl) rfl (Nat.zero_le _) (Nat.zero_le _) (w_X11_findWho d hB2 z1 z2 h) (fun V3 hB3 h => ?_)
    refine z_aload_n Q_X11_due (k := 14) rfl rfl ?_
    refine q_getI (o := 602) (z := 25) Q_X11_due (k := 15) rfl F_X11_200 rfl rfl rfl (n_ hB3.1 rfl) (k_602 hB3.1) ?_
    refine y_if_ne 33 Q_X11_due (k := 16) rfl (by decide) (hB3.2.1 _ _) (fun c => ?_) (fun c => ?_)
    · replace h := h.2 c
      refine z_aload_n Q_X11_due (k := 19) rfl rfl ?_
      refine z_iload_n Q_X11_due (k := 20) rfl rfl ?_
      refine q_callV1_i Q_X11_due (k := 21) rfl rfl K_X11_dueNow V_X11_dueNow L_X11_300 (n_ hB3.1 rfl) (k_602 hB3.1) (Nat.le_of_ble_eq_true rfl) (Nat.le_of_ble_eq_true rfl) rfl (Nat.zero_le _) (Nat.zero_le _) (w_X11_dueNow (d + 1) hB3 z1 h) (fun r4 hz4 h => ?_)
      exact y_iret Q_X11_due (k := 22) rfl rfl (qI_iV hB3 hz4 h)
    · replace h := h.1 c
      refine y_iconst Q_X11_due (k := 17) rfl ?_
      refine z_goto (tgt := 38) Q_X11_due (k := 18) rfl (by decide) ?_
      exact y_iret Q_X11_due (k := 22) rfl rfl (qI_iV hB3 ⟨by decide, by decide⟩ h)
  · replace h := h.1 c
    refine y_iconst Q_X11_due (k := 8) rfl ?_
    exact y_iret Q_X11_due (k := 9) rfl rfl (qI_iV hB2 ⟨by decide, by decide⟩ h)
set_option maxHeartbeats 4000000 in
set_option maxRecDepth 20000 in
theorem w_X11_leftOn {S : zS} {V : qV} {J : qJ} {Q : Int → Prop} (d : Nat) (hB : qB S V) {a1 : Int} (z1 : zr a1) {a2 : Int} (z2 : zr a2) (h : W_X11_leftOn a1 a2 V Q) : Z M_X11_leftOn (d + 1) 0 0 0 [some (.ref 602), some (.int (iI a1)), some (.int (iI a2)), none, none] [] S (qi V) (qj J) (qP_i S V J Q) := by
  unfold W_X11_leftOn at h
  refine z_iload_n Q_X11_leftOn (k := 0) rfl rfl ?_
  refine q_callS1_i Q_X11_leftOn (k := 1) rfl rfl K_X11_find_ S_X11_find_ L_X11_230 (Nat.le_of_ble_eq_true rfl) (Nat.le_of_ble_eq_true rfl) rfl (Nat.zero_le _) (Nat.zero_le _) (w_X11_find_ d hB z1 h) (fun r1 hz1 h => ?_)
  refine y_istore_n (L' := [some (.ref 602), some (.int (iI a1)), some (.int (iI a2)), some (.int (iI r1)), none]) Q_X11_leftOn (k := 2) rfl (by decide) rfl ?_
  refine z_aload_n Q_X11_leftOn (k := 3) rfl rfl ?_
  refine z_getR (b := 603) Q_X11_leftOn (k := 4) rfl F_X11_13 rfl (n_ hB.1 rfl) (k_602 hB.1) (r_602_1 hB.1) ?_
  refine z_iload_n Q_X11_leftOn (k := 5) rfl rfl ?_
  refine y_iconst Q_X11_leftOn (k := 6) rfl ?_
  obtain ⟨q2, h⟩ := h
  refine y_iadd Q_X11_leftOn (k := 7) rfl ?_
  obtain ⟨q3, h⟩ := h
  refine q_iald (o := 603) (N := 594) Q_X11_leftOn (k := 8) rfl rfl (n_ hB.1 rfl) (k_603 hB.1) rfl q3 (by decide) ?_
  refine z_aload_n Q_X11_leftOn (k := 9) rfl rfl ?_
  refine z_getR (b := 603) Q_X11_leftOn (k := 10) rfl F_X11_13 rfl (n_ hB.1 rfl) (k_602 hB.1) (r_602_1 hB.1) ?_
  refine z_iload_n Q_X11_leftOn (k := 11) rfl rfl ?_
  refine y_iconst Q_X11_leftOn (k := 12) rfl ?_
  obtain ⟨q4, h⟩ := h
  refine y_iadd Q_X11_leftOn (k := 13) rfl ?_
  obtain ⟨q5, h⟩ := h
  refine q_iald (o := 603) (N := 594) Q_X11_leftOn (k := 14) rfl rfl (n_ hB.1 rfl) (k_603 hB.1) rfl q5 (by decide) ?_
  refine z_iload_n Q_X11_leftOn (k := 15) rfl rfl ?_
  refine z_aload_n Q_X11_leftOn (k := 16) rfl rfl ?_
  refine z_getR (b := 603) Q_X11_leftOn (k := 17) rfl F_X11_13 rfl (n_ hB.1 rfl) (k_602 hB.1) (r_602_1 hB.1) ?_
  refine z_iload_n Q_X11_leftOn (k := 18) rfl rfl ?_
  refine y_iconst Q_X11_leftOn (k := 19) rfl ?_
  obtain ⟨q6, h⟩ := h
  refine y_iadd Q_X11_leftOn (k := 20) rfl ?_
  obtain ⟨q7, h⟩ := h
  refine q_iald (o := 603) (N := 594) Q_X11_leftOn (k := 21) rfl rfl (n_ hB.1 rfl) (k_603 hB.1) rfl q7 (by decide) ?_
  obtain ⟨q8, h⟩ := h
  refine y_isub Q_X11_leftOn (k := 22) rfl ?_
  obtain ⟨q9, h⟩ := h
  refine y_imul Q_X11_leftOn (k := 23) rfl ?_
  obtain ⟨q10, h⟩ := h
  refine y_isub Q_X11_leftOn (k := 24) rfl ?_
  refine y_istore (L' := [some (.ref 602), some (.int (iI a1)), some (.int (iI a2)), some (.int (iI r1)), some (.int (iI ((V 603 (r1 + 2)) - ((V 603 (r1 + 4)) * (a2 - (V 603 (r1 + 5)))))))]) Q_X11_leftOn (k := 25) rfl (by decide) rfl ?_
  refine z_iload Q_X11_leftOn (k := 26) rfl rfl ?_
  refine y_if_le 45 Q_X11_leftOn (k := 27) rfl (by decide) q10 (fun c => ?_) (fun c => ?_)
  · replace h := h.1 c
    refine y_iconst Q_X11_leftOn (k := 30) rfl ?_
    exact y_iret Q_X11_leftOn (k := 31) rfl rfl (qI_i ⟨by decide, by decide⟩ h)
  · replace h := h.2 c
    refine z_iload Q_X11_leftOn (k := 28) rfl rfl ?_
    refine z_goto (tgt := 46) Q_X11_leftOn (k := 29) rfl (by decide) ?_
    exact y_iret Q_X11_leftOn (k := 31) rfl rfl (qI_i q10 h)
set_option maxHeartbeats 4000000 in
set_option maxRecDepth 20000 in
theorem w_X11_left {S : zS} {V : qV} {J : qJ} {Q : Int → qV → Prop} (d : Nat) (hB : qB S V) {a1 : Int} (z1 : zr a1) {a2 : Int} (z2 : zr a2) (h : W_X11_left a1 a2 V Q) : Z M_X11_left (d + 2) 0 0 0 [some (.ref 602), some (.int (iI a1)), some (.int (iI a2))] [] S (qi V) (qj J) (qP_iV S J Q) := by
  unfold W_X11_left at h
  refine z_aload_n Q_X11_left (k := 0) rfl rfl ?_
  refine y_iconst Q_X11_left (k := 1) rfl ?_
  refine q_putI (o := 602) (z := 0) Q_X11_left (k := 2) rfl F_X11_1 rfl rfl rfl (n_ hB.1 rfl) (k_602 hB.1) ?_
  have hB1 := qB.u (a := 602) (j := 0) (x := 0) hB ⟨by decide, by decide⟩ (Or.inl (by decide))
  refine z_aload_n Q_X11_left (k := 3) rfl rfl ?_
  refine z_iload_n Q_X11_left (k := 4) rfl rfl ?_
  refine q_callV1_zV Q_X11_left (k := 5) rfl rfl K_X11_isFind V_X11_isFind L_X11_245 (n_ hB1.1 rfl) (k_602 hB1.1) (Nat.le_of_ble_eq_true rfl) (Nat.le_of_ble_eq_true rfl) rfl (Nat.zero_le _) (Nat.zero_le _) (w_X11_isFind d hB1 z1 h) (fun r2 V2 hB2 hz2 hb2 h => ?_)
  refine y_if_eq 39 Q_X11_left (k := 6) rfl (by decide) hz2 (fun c => ?_) (fun c => ?_)
  · replace h := h.1 c
    refine y_iconst Q_X11_left (k := 21) rfl ?_
    exact y_iret Q_X11_left (k := 22) rfl rfl (qI_iV hB2 ⟨by decide, by decide⟩ h)
  · replace h := h.2 c
    refine z_aload_n Q_X11_left (k := 7) rfl rfl ?_
    refine z_iload_n Q_X11_left (k := 8) rfl rfl ?_
    refine z_aload_n Q_X11_left (k := 9) rfl rfl ?_
    refine z_getR (b := 603) Q_X11_left (k := 10) rfl F_X11_13 rfl (n_ hB2.1 rfl) (k_602 hB2.1) (r_602_1 hB2.1) ?_
    refine z_iload_n Q_X11_left (k := 11) rfl rfl ?_
    refine q_callS1_i Q_X11_left (k := 12) rfl rfl K_X11_find_ S_X11_find_ L_X11_230 (Nat.le_of_ble_eq_true rfl) (Nat.le_of_ble_eq_true rfl) rfl (Nat.zero_le _) (Nat.zero_le _) (w_X11_find_ (d + 1) hB2 z1 h) (fun r3 hz3 h => ?_)
    refine y_iconst Q_X11_left (k := 13) rfl ?_
    obtain ⟨q4, h⟩ := h
    refine y_iadd Q_X11_left (k := 14) rfl ?_
    obtain ⟨q5, h⟩ := h
    refine q_iald (o := 603) (N := 594) Q_X11_left (k := 15) rfl rfl (n_ hB2.1 rfl) (k_603 hB2.1) rfl q5 (by decide) ?_
    refine y_sipush Q_X11_left (k := 16) rfl (by decide) ?_
    refine q_callS3_z Q_X11_left (k := 17) rfl rfl K_X11_within S_X11_within L_X11_207 (Nat.le_of_ble_eq_true rfl) (Nat.le_of_ble_eq_true rfl) rfl (Nat.zero_le _) (Nat.zero_le _) (w_X11_within (d + 1) hB2 z2 (hB2.2.1 _ _) ⟨by decide, by decide⟩ h) (fun r6 hz6 hb6 h => ?_)
    refine y_iconst Q_X11_left (k := 18) rfl ?_
    refine q_callV2_zV Q_X11_left (k := 19) rfl rfl K_X11_may V_X11_may L_X11_187 (n_ hB2.1 rfl) (k_602 hB2.1) (Nat.le_of_ble_eq_true rfl) (Nat.le_of_ble_eq_true rfl) rfl (Nat.zero_le _) (Nat.zero_le _) (w_X11_may (d + 1) hB2 hz6 hb6 ⟨by decide, by decide⟩ h) (fun r7 V7 hB7 hz7 hb7 h => ?_)
    refine y_if_ne 41 Q_X11_left (k := 20) rfl (by decide) hz7 (fun c => ?_) (fun c => ?_)
    · replace h := h.2 c
      refine z_aload_n Q_X11_left (k := 23) rfl rfl ?_
      refine z_iload_n Q_X11_left (k := 24) rfl rfl ?_
      refine z_iload_n Q_X11_left (k := 25) rfl rfl ?_
      refine q_callV2_i Q_X11_left (k := 26) rfl rfl K_X11_leftOn V_X11_leftOn L_X11_303 (n_ hB7.1 rfl) (k_602 hB7.1) (Nat.le_of_ble_eq_true rfl) (Nat.le_of_ble_eq_true rfl) rfl (Nat.zero_le _) (Nat.zero_le _) (w_X11_leftOn d hB7 z1 z2 h) (fun r8 hz8 h => ?_)
      exact y_iret Q_X11_left (k := 27) rfl rfl (qI_iV hB7 hz8 h)
    · replace h := h.1 c
      refine y_iconst Q_X11_left (k := 21) rfl ?_
      exact y_iret Q_X11_left (k := 22) rfl rfl (qI_iV hB7 ⟨by decide, by decide⟩ h)
set_option maxHeartbeats 4000000 in
set_option maxRecDepth 20000 in
theorem v_X11_gone_27 {S : zS} {V : qV} {J : qJ} {K : Int → Prop} {Q : Int → qV → Prop} {kc ks : Nat} (d : Nat) (hB : qB S V) {l1 : Int} (z1 : zr l1) (hK : ∀ (l2 : Int), zr l2 → K l2 → Z M_X11_gone (d + 2) kc ks 51 [some (.ref 602), some (.int (iI l1)), some (.int (iI l2))] [] S (qi V) (qj J) (qP_iV S J Q)) : ∀ (f : Nat) (l2 : Int), zr l2 → lp_X11_gone_27 l1 V K Q f l2 → Z M_X11_gone (d + 2) kc ks 27 [some (.ref 602), some (.int (iI l1)), some (.int (iI l2))] [] S (qi V) (qj J) (qP_iV S J Q) := by
  intro f
  induction f with
  | zero =>
    intro l2 z2 h
    exact h.elim
  | succ f ih =>
    intro l2 z2 h
    rw [lp_X11_gone_27] at h
    refine z_iload_n Q_X11_gone (k := 17) rfl rfl ?_
    refine y_sipush Q_X11_gone (k := 18) rfl (by decide) ?_
    refine y_icmp_gt 51 Q_X11_gone (k := 19) rfl (by decide) z2 ⟨by decide, by decide⟩ (fun c => ?_) (fun c => ?_)
    · replace h := h.1 c
      exact y_fg (zsb_c rfl (zsb_c rfl (zsb_c rfl zsb_e))) (hK l2 z2 h)
    · replace h := h.2 c
      refine z_aload_n Q_X11_gone (k := 20) rfl rfl ?_
      refine z_iload_n Q_X11_gone (k := 21) rfl rfl ?_
      refine z_iload_n Q_X11_gone (k := 22) rfl rfl ?_
      refine q_callV2_i Q_X11_gone (k := 23) rfl rfl K_X11_leftOn V_X11_leftOn L_X11_303 (n_ hB.1 rfl) (k_602 hB.1) (Nat.le_of_ble_eq_true rfl) (Nat.le_of_ble_eq_true rfl) rfl (Nat.zero_le _) (Nat.zero_le _) (w_X11_leftOn d hB z1 z2 h) (fun r6 hz6 h => ?_)
      refine y_if_ne 45 Q_X11_gone (k := 24) rfl (by decide) hz6 (fun c => ?_) (fun c => ?_)
      · replace h := h.2 c
        obtain ⟨q7, h⟩ := h
        refine y_iinc (L' := [some (.ref 602), some (.int (iI l1)), some (.int (iI (l2 + 1)))]) Q_X11_gone (k := 27) rfl (by decide) rfl rfl ?_
        refine z_goto (tgt := 27) Q_X11_gone (k := 28) rfl (by decide) ?_
        exact y_fg (zsb_c rfl (zsb_c rfl (zsb_c rfl zsb_e))) (ih (l2 + 1) q7 h)
      · replace h := h.1 c
        refine z_iload_n Q_X11_gone (k := 25) rfl rfl ?_
        exact y_iret Q_X11_gone (k := 26) rfl rfl (qI_iV hB z2 h)
set_option maxHeartbeats 4000000 in
set_option maxRecDepth 20000 in
theorem w_X11_gone {S : zS} {V : qV} {J : qJ} {Q : Int → qV → Prop} (d : Nat) (hB : qB S V) {a1 : Int} (z1 : zr a1) (h : W_X11_gone a1 V Q) : Z M_X11_gone (d + 2) 0 0 0 [some (.ref 602), some (.int (iI a1)), none] [] S (qi V) (qj J) (qP_iV S J Q) := by
  unfold W_X11_gone at h
  refine z_aload_n Q_X11_gone (k := 0) rfl rfl ?_
  refine y_iconst Q_X11_gone (k := 1) rfl ?_
  refine q_putI (o := 602) (z := 0) Q_X11_gone (k := 2) rfl F_X11_1 rfl rfl rfl (n_ hB.1 rfl) (k_602 hB.1) ?_
  have hB1 := qB.u (a := 602) (j := 0) (x := 0) hB ⟨by decide, by decide⟩ (Or.inl (by decide))
  refine z_aload_n Q_X11_gone (k := 3) rfl rfl ?_
  refine z_iload_n Q_X11_gone (k := 4) rfl rfl ?_
  refine q_callV1_zV Q_X11_gone (k := 5) rfl rfl K_X11_isFind V_X11_isFind L_X11_245 (n_ hB1.1 rfl) (k_602 hB1.1) (Nat.le_of_ble_eq_true rfl) (Nat.le_of_ble_eq_true rfl) rfl (Nat.zero_le _) (Nat.zero_le _) (w_X11_isFind d hB1 z1 h) (fun r2 V2 hB2 hz2 hb2 h => ?_)
  refine y_if_ne 15 Q_X11_gone (k := 6) rfl (by decide) hz2 (fun c => ?_) (fun c => ?_)
  · replace h := h.2 c
    refine z_aload_n Q_X11_gone (k := 9) rfl rfl ?_
    refine z_getR (b := 603) Q_X11_gone (k := 10) rfl F_X11_13 rfl (n_ hB2.1 rfl) (k_602 hB2.1) (r_602_1 hB2.1) ?_
    refine z_iload_n Q_X11_gone (k := 11) rfl rfl ?_
    refine q_callS1_i Q_X11_gone (k := 12) rfl rfl K_X11_find_ S_X11_find_ L_X11_230 (Nat.le_of_ble_eq_true rfl) (Nat.le_of_ble_eq_true rfl) rfl (Nat.zero_le _) (Nat.zero_le _) (w_X11_find_ (d + 1) hB2 z1 h) (fun r3 hz3 h => ?_)
    refine y_iconst Q_X11_gone (k := 13) rfl ?_
    obtain ⟨q4, h⟩ := h
    refine y_iadd Q_X11_gone (k := 14) rfl ?_
    obtain ⟨q5, h⟩ := h
    refine q_iald (o := 603) (N := 594) Q_X11_gone (k := 15) rfl rfl (n_ hB2.1 rfl) (k_603 hB2.1) rfl q5 (by decide) ?_
    refine y_istore_n (L' := [some (.ref 602), some (.int (iI a1)), some (.int (iI (V2 603 (r3 + 5))))]) Q_X11_gone (k := 16) rfl (by decide) rfl ?_
    refine y_fg (zsb_c rfl (zsb_c rfl (zsb_c rfl zsb_e))) (v_X11_gone_27 d hB2 z1 (fun l2x8 zl2x8 h => ?_) 100000 (V2 603 (r3 + 5)) (hB2.2.1 _ _) h)
    refine y_iconst Q_X11_gone (k := 29) rfl ?_
    exact y_iret Q_X11_gone (k := 30) rfl rfl (qI_iV hB2 ⟨by decide, by decide⟩ h)
  · replace h := h.1 c
    refine y_iconst Q_X11_gone (k := 7) rfl ?_
    exact y_iret Q_X11_gone (k := 8) rfl rfl (qI_iV hB2 ⟨by decide, by decide⟩ h)
set_option maxHeartbeats 4000000 in
set_option maxRecDepth 20000 in
theorem w_X11_late {S : zS} {V : qV} {J : qJ} {Q : Int → qV → Prop} (d : Nat) (hB : qB S V) {a1 : Int} (z1 : zr a1) {a2 : Int} (z2 : zr a2) (h : W_X11_late a1 a2 V Q) : Z M_X11_late (d + 3) 0 0 0 [some (.ref 602), some (.int (iI a1)), some (.int (iI a2)), none, none] [] S (qi V) (qj J) (qP_iV S J Q) := by
  unfold W_X11_late at h
  refine z_aload_n Q_X11_late (k := 0) rfl rfl ?_
  refine y_iconst Q_X11_late (k := 1) rfl ?_
  refine q_putI (o := 602) (z := 0) Q_X11_late (k := 2) rfl F_X11_1 rfl rfl rfl (n_ hB.1 rfl) (k_602 hB.1) ?_
  have hB1 := qB.u (a := 602) (j := 0) (x := 0) hB ⟨by decide, by decide⟩ (Or.inl (by decide))
  refine z_aload_n Q_X11_late (k := 3) rfl rfl ?_
  refine z_iload_n Q_X11_late (k := 4) rfl rfl ?_
  refine z_iload_n Q_X11_late (k := 5) rfl rfl ?_
  refine q_callV2_zV Q_X11_late (k := 6) rfl rfl K_X11_asks V_X11_asks L_X11_267 (n_ hB1.1 rfl) (k_602 hB1.1) (Nat.le_of_ble_eq_true rfl) (Nat.le_of_ble_eq_true rfl) rfl (Nat.zero_le _) (Nat.zero_le _) (w_X11_asks d hB1 z1 z2 h) (fun r2 V2 hB2 hz2 hb2 h => ?_)
  refine y_if_ne 16 Q_X11_late (k := 7) rfl (by decide) hz2 (fun c => ?_) (fun c => ?_)
  · replace h := h.2 c
    refine z_aload_n Q_X11_late (k := 10) rfl rfl ?_
    refine z_iload_n Q_X11_late (k := 11) rfl rfl ?_
    refine z_iload_n Q_X11_late (k := 12) rfl rfl ?_
    refine q_callV2_uV Q_X11_late (k := 13) rfl rfl K_X11_findWho V_X11_findWho L_X11_270 (n_ hB2.1 rfl) (k_602 hB2.1) (Nat.le_of_ble_eq_true rfl) (Nat.le_of_ble_eq_true rfl) rfl (Nat.zero_le _) (Nat.zero_le _) (w_X11_findWho d hB2 z1 z2 h) (fun V3 hB3 h => ?_)
    refine z_aload_n Q_X11_late (k := 14) rfl rfl ?_
    refine q_getI (o := 602) (z := 25) Q_X11_late (k := 15) rfl F_X11_200 rfl rfl rfl (n_ hB3.1 rfl) (k_602 hB3.1) ?_
    refine y_if_ne 31 Q_X11_late (k := 16) rfl (by decide) (hB3.2.1 _ _) (fun c => ?_) (fun c => ?_)
    · replace h := h.2 c
      refine z_aload_n Q_X11_late (k := 19) rfl rfl ?_
      refine q_callV0_i Q_X11_late (k := 20) rfl rfl K_X11_mayBits V_X11_mayBits L_X11_273 (n_ hB3.1 rfl) (k_602 hB3.1) (Nat.le_of_ble_eq_true rfl) (Nat.le_of_ble_eq_true rfl) rfl (Nat.zero_le _) (Nat.zero_le _) (w_X11_mayBits (d + 2) hB3  h) (fun r4 hz4 h => ?_)
      refine y_istore_n (L' := [some (.ref 602), some (.int (iI a1)), some (.int (iI a2)), some (.int (iI r4)), none]) Q_X11_late (k := 21) rfl (by decide) rfl ?_
      refine z_aload_n Q_X11_late (k := 22) rfl rfl ?_
      refine z_iload_n Q_X11_late (k := 23) rfl rfl ?_
      refine z_aload_n Q_X11_late (k := 24) rfl rfl ?_
      refine z_getR (b := 603) Q_X11_late (k := 25) rfl F_X11_13 rfl (n_ hB3.1 rfl) (k_602 hB3.1) (r_602_1 hB3.1) ?_
      refine y_bipush Q_X11_late (k := 26) rfl (by decide) ?_
      refine q_iald (o := 603) (N := 594) Q_X11_late (k := 27) rfl rfl (n_ hB3.1 rfl) (k_603 hB3.1) rfl ⟨by decide, by decide⟩ (by decide) ?_
      refine q_callV2_i Q_X11_late (k := 28) rfl rfl K_X11_leftOn V_X11_leftOn L_X11_303 (n_ hB3.1 rfl) (k_602 hB3.1) (Nat.le_of_ble_eq_true rfl) (Nat.le_of_ble_eq_true rfl) rfl (Nat.zero_le _) (Nat.zero_le _) (w_X11_leftOn (d + 1) hB3 z1 (hB3.2.1 _ _) h) (fun r5 hz5 h => ?_)
      refine y_istore (L' := [some (.ref 602), some (.int (iI a1)), some (.int (iI a2)), some (.int (iI r4)), some (.int (iI r5))]) Q_X11_late (k := 29) rfl (by decide) rfl ?_
      refine z_iload_n Q_X11_late (k := 30) rfl rfl ?_
      refine y_iconst Q_X11_late (k := 31) rfl ?_
      refine y_icmp_ne 58 Q_X11_late (k := 32) rfl (by decide) hz4 ⟨by decide, by decide⟩ (fun c => ?_) (fun c => ?_)
      · replace h := h.2 c
        refine z_iload_n Q_X11_late (k := 35) rfl rfl ?_
        refine y_iconst Q_X11_late (k := 36) rfl ?_
        refine y_iand Q_X11_late (k := 37) rfl ?_
        refine y_if_ne 76 Q_X11_late (k := 38) rfl (by decide) (zand_r _ _) (fun c => ?_) (fun c => ?_)
        · replace h := h.2 c
          refine z_iload Q_X11_late (k := 45) rfl rfl ?_
          refine y_iconst Q_X11_late (k := 46) rfl ?_
          refine y_idiv Q_X11_late (k := 47) rfl hz5 (by decide) ⟨by decide, by decide⟩ ?_
          exact y_iret Q_X11_late (k := 48) rfl rfl (qI_iV hB3 (q_tdiv hz5 (by decide)) h)
        · replace h := h.1 c
          refine z_aload_n Q_X11_late (k := 39) rfl rfl ?_
          refine z_iload_n Q_X11_late (k := 40) rfl rfl ?_
          refine q_callV1_i Q_X11_late (k := 41) rfl rfl K_X11_dueNow V_X11_dueNow L_X11_300 (n_ hB3.1 rfl) (k_602 hB3.1) (Nat.le_of_ble_eq_true rfl) (Nat.le_of_ble_eq_true rfl) rfl (Nat.zero_le _) (Nat.zero_le _) (w_X11_dueNow (d + 1) hB3 z1 h) (fun r6 hz6 h => ?_)
          refine y_if_ne 76 Q_X11_late (k := 42) rfl (by decide) hz6 (fun c => ?_) (fun c => ?_)
          · replace h := h.2 c
            refine z_iload Q_X11_late (k := 45) rfl rfl ?_
            refine y_iconst Q_X11_late (k := 46) rfl ?_
            refine y_idiv Q_X11_late (k := 47) rfl hz5 (by decide) ⟨by decide, by decide⟩ ?_
            exact y_iret Q_X11_late (k := 48) rfl rfl (qI_iV hB3 (q_tdiv hz5 (by decide)) h)
          · replace h := h.1 c
            refine y_iconst Q_X11_late (k := 43) rfl ?_
            refine z_goto (tgt := 80) Q_X11_late (k := 44) rfl (by decide) ?_
            exact y_iret Q_X11_late (k := 48) rfl rfl (qI_iV hB3 ⟨by decide, by decide⟩ h)
      · replace h := h.1 c
        refine z_iload Q_X11_late (k := 33) rfl rfl ?_
        exact y_iret Q_X11_late (k := 34) rfl rfl (qI_iV hB3 hz5 h)
    · replace h := h.1 c
      refine y_iconst Q_X11_late (k := 17) rfl ?_
      exact y_iret Q_X11_late (k := 18) rfl rfl (qI_iV hB3 ⟨by decide, by decide⟩ h)
  · replace h := h.1 c
    refine y_iconst Q_X11_late (k := 8) rfl ?_
    exact y_iret Q_X11_late (k := 9) rfl rfl (qI_iV hB2 ⟨by decide, by decide⟩ h)
set_option maxHeartbeats 4000000 in
set_option maxRecDepth 20000 in
theorem v_X11_hasNow_8 {S : zS} {V : qV} {J : qJ} {K : Int → Int → Prop} {Q : Int → Prop} {kc ks : Nat} (d : Nat) (hB : qB S V) {l1 : Int} (z1 : zr l1) (hK : ∀ (l2 : Int) (l3 : Int), zr l2 → zr l3 → K l2 l3 → Z M_X11_hasNow (d + 2) kc ks 59 [some (.ref 602), some (.int (iI l1)), some (.int (iI l2)), some (.int (iI l3))] [] S (qi V) (qj J) (qP_i S V J Q)) : ∀ (f : Nat) (l2 : Int) (l3 : Int), zr l2 → zr l3 → lp_X11_hasNow_8 l1 V K f l2 l3 → Z M_X11_hasNow (d + 2) kc ks 8 [some (.ref 602), some (.int (iI l1)), some (.int (iI l2)), some (.int (iI l3))] [] S (qi V) (qj J) (qP_i S V J Q) := by
  intro f
  induction f with
  | zero =>
    intro l2 l3 z2 z3 h
    exact h.elim
  | succ f ih =>
    intro l2 l3 z2 z3 h
    rw [lp_X11_hasNow_8] at h
    refine z_iload_n Q_X11_hasNow (k := 6) rfl rfl ?_
    refine z_aload_n Q_X11_hasNow (k := 7) rfl rfl ?_
    refine z_getR (b := 603) Q_X11_hasNow (k := 8) rfl F_X11_13 rfl (n_ hB.1 rfl) (k_602 hB.1) (r_602_1 hB.1) ?_
    refine y_sipush Q_X11_hasNow (k := 9) rfl (by decide) ?_
    refine q_iald (o := 603) (N := 594) Q_X11_hasNow (k := 10) rfl rfl (n_ hB.1 rfl) (k_603 hB.1) rfl ⟨by decide, by decide⟩ (by decide) ?_
    refine y_icmp_ge 59 Q_X11_hasNow (k := 11) rfl (by decide) z3 (hB.2.1 _ _) (fun c => ?_) (fun c => ?_)
    · replace h := h.1 c
      exact y_fg (zsb_c rfl (zsb_c rfl (zsb_c rfl (zsb_c rfl zsb_e)))) (hK l2 l3 z2 z3 h)
    · replace h := h.2 c
      refine z_aload_n Q_X11_hasNow (k := 12) rfl rfl ?_
      refine z_getR (b := 603) Q_X11_hasNow (k := 13) rfl F_X11_13 rfl (n_ hB.1 rfl) (k_602 hB.1) (r_602_1 hB.1) ?_
      refine y_sipush Q_X11_hasNow (k := 14) rfl (by decide) ?_
      refine y_iconst Q_X11_hasNow (k := 15) rfl ?_
      refine z_iload_n Q_X11_hasNow (k := 16) rfl rfl ?_
      obtain ⟨q2, h⟩ := h
      refine y_imul Q_X11_hasNow (k := 17) rfl ?_
      obtain ⟨q3, h⟩ := h
      refine y_iadd Q_X11_hasNow (k := 18) rfl ?_
      obtain ⟨q4, h⟩ := h
      refine q_iald (o := 603) (N := 594) Q_X11_hasNow (k := 19) rfl rfl (n_ hB.1 rfl) (k_603 hB.1) rfl q4 (by decide) ?_
      refine z_iload_n Q_X11_hasNow (k := 20) rfl rfl ?_
      refine y_icmp_ne 53 Q_X11_hasNow (k := 21) rfl (by decide) (hB.2.1 _ _) z1 (fun c => ?_) (fun c => ?_)
      · replace h := h.2 c
        obtain ⟨q5, h⟩ := h
        refine y_iinc (L' := [some (.ref 602), some (.int (iI l1)), some (.int (iI l2)), some (.int (iI (l3 + 1)))]) Q_X11_hasNow (k := 35) rfl (by decide) rfl rfl ?_
        refine z_goto (tgt := 8) Q_X11_hasNow (k := 36) rfl (by decide) ?_
        exact y_fg (zsb_c rfl (zsb_c rfl (zsb_c rfl (zsb_c rfl zsb_e)))) (ih l2 (l3 + 1) z2 q5 h)
      · replace h := h.1 c
        refine y_iconst Q_X11_hasNow (k := 22) rfl ?_
        refine z_aload_n Q_X11_hasNow (k := 23) rfl rfl ?_
        refine z_getR (b := 603) Q_X11_hasNow (k := 24) rfl F_X11_13 rfl (n_ hB.1 rfl) (k_602 hB.1) (r_602_1 hB.1) ?_
        refine y_sipush Q_X11_hasNow (k := 25) rfl (by decide) ?_
        refine y_iconst Q_X11_hasNow (k := 26) rfl ?_
        refine z_iload_n Q_X11_hasNow (k := 27) rfl rfl ?_
        obtain ⟨q6, h⟩ := h
        refine y_imul Q_X11_hasNow (k := 28) rfl ?_
        obtain ⟨q7, h⟩ := h
        refine y_iadd Q_X11_hasNow (k := 29) rfl ?_
        refine y_iconst Q_X11_hasNow (k := 30) rfl ?_
        obtain ⟨q8, h⟩ := h
        refine y_iadd Q_X11_hasNow (k := 31) rfl ?_
        obtain ⟨q9, h⟩ := h
        refine q_iald (o := 603) (N := 594) Q_X11_hasNow (k := 32) rfl rfl (n_ hB.1 rfl) (k_603 hB.1) rfl q9 (by decide) ?_
        refine y_ishl Q_X11_hasNow (k := 33) rfl ?_
        refine y_istore_n (L' := [some (.ref 602), some (.int (iI l1)), some (.int (iI (zshl 1 (V 603 ((433 + (4 * l3)) + 2))))), some (.int (iI l3))]) Q_X11_hasNow (k := 34) rfl (by decide) rfl ?_
        obtain ⟨q10, h⟩ := h
        refine y_iinc (L' := [some (.ref 602), some (.int (iI l1)), some (.int (iI (zshl 1 (V 603 ((433 + (4 * l3)) + 2))))), some (.int (iI (l3 + 1)))]) Q_X11_hasNow (k := 35) rfl (by decide) rfl rfl ?_
        refine z_goto (tgt := 8) Q_X11_hasNow (k := 36) rfl (by decide) ?_
        exact y_fg (zsb_c rfl (zsb_c rfl (zsb_c rfl (zsb_c rfl zsb_e)))) (ih (zshl 1 (V 603 ((433 + (4 * l3)) + 2))) (l3 + 1) (zshl_r _ _) q10 h)
set_option maxHeartbeats 4000000 in
set_option maxRecDepth 20000 in
theorem w_X11_hasNow {S : zS} {V : qV} {J : qJ} {Q : Int → Prop} (d : Nat) (hB : qB S V) {a1 : Int} (z1 : zr a1) (h : W_X11_hasNow a1 V Q) : Z M_X11_hasNow (d + 2) 0 0 0 [some (.ref 602), some (.int (iI a1)), none, none] [] S (qi V) (qj J) (qP_i S V J Q) := by
  unfold W_X11_hasNow at h
  refine z_aload_n Q_X11_hasNow (k := 0) rfl rfl ?_
  refine z_iload_n Q_X11_hasNow (k := 1) rfl rfl ?_
  refine q_callV1_i Q_X11_hasNow (k := 2) rfl rfl K_X11_findersOf V_X11_findersOf L_X11_251 (n_ hB.1 rfl) (k_602 hB.1) (Nat.le_of_ble_eq_true rfl) (Nat.le_of_ble_eq_true rfl) rfl (Nat.zero_le _) (Nat.zero_le _) (w_X11_findersOf d hB z1 h) (fun r1 hz1 h => ?_)
  refine y_istore_n (L' := [some (.ref 602), some (.int (iI a1)), some (.int (iI r1)), none]) Q_X11_hasNow (k := 3) rfl (by decide) rfl ?_
  refine y_iconst Q_X11_hasNow (k := 4) rfl ?_
  refine y_istore_n (L' := [some (.ref 602), some (.int (iI a1)), some (.int (iI r1)), some (.int (iI 0))]) Q_X11_hasNow (k := 5) rfl (by decide) rfl ?_
  refine y_fg (zsb_c rfl (zsb_c rfl (zsb_c rfl (zsb_c rfl zsb_e)))) (v_X11_hasNow_8 d hB z1 (fun l2x11 l3x11 zl2x11 zl3x11 h => ?_) 100000 r1 0 hz1 ⟨by decide, by decide⟩ h)
  refine z_iload_n Q_X11_hasNow (k := 37) rfl rfl ?_
  exact y_iret Q_X11_hasNow (k := 38) rfl rfl (qI_i zl2x11 h)
set_option maxHeartbeats 4000000 in
set_option maxRecDepth 20000 in
theorem w_X11_pass_ {S : zS} {V : qV} {J : qJ} {Q : Int → qV → Prop} (d : Nat) (hB : qB S V) {a1 : Int} (z1 : zr a1) {a2 : Int} (z2 : zr a2) {a3 : Int} (z3 : zr a3) {a4 : Int} (z4 : zr a4) (h : W_X11_pass_ a1 a2 a3 a4 V Q) : Z M_X11_pass_ (d + 3) 0 0 0 [some (.ref 602), some (.int (iI a1)), some (.int (iI a2)), some (.int (iI a3)), some (.int (iI a4)), none] [] S (qi V) (qj J) (qP_iV S J Q) := by
  unfold W_X11_pass_ at h
  refine z_aload_n Q_X11_pass_ (k := 0) rfl rfl ?_
  refine y_iconst Q_X11_pass_ (k := 1) rfl ?_
  refine q_putI (o := 602) (z := 0) Q_X11_pass_ (k := 2) rfl F_X11_1 rfl rfl rfl (n_ hB.1 rfl) (k_602 hB.1) ?_
  have hB1 := qB.u (a := 602) (j := 0) (x := 0) hB ⟨by decide, by decide⟩ (Or.inl (by decide))
  refine z_aload_n Q_X11_pass_ (k := 3) rfl rfl ?_
  refine z_iload_n Q_X11_pass_ (k := 4) rfl rfl ?_
  refine q_callV1_zV Q_X11_pass_ (k := 5) rfl rfl K_X11_isFind V_X11_isFind L_X11_245 (n_ hB1.1 rfl) (k_602 hB1.1) (Nat.le_of_ble_eq_true rfl) (Nat.le_of_ble_eq_true rfl) rfl (Nat.zero_le _) (Nat.zero_le _) (w_X11_isFind (d + 1) hB1 z1 h) (fun r2 V2 hB2 hz2 hb2 h => ?_)
  refine y_if_eq 48 Q_X11_pass_ (k := 6) rfl (by decide) hz2 (fun c => ?_) (fun c => ?_)
  · replace h := h.1 c
    refine y_iconst Q_X11_pass_ (k := 25) rfl ?_
    exact y_iret Q_X11_pass_ (k := 26) rfl rfl (qI_iV hB2 ⟨by decide, by decide⟩ h)
  · replace h := h.2 c
    refine z_aload_n Q_X11_pass_ (k := 7) rfl rfl ?_
    refine z_iload_n Q_X11_pass_ (k := 8) rfl rfl ?_
    refine y_iconst Q_X11_pass_ (k := 9) rfl ?_
    refine q_callV2_zV Q_X11_pass_ (k := 10) rfl rfl K_X11_isPerson V_X11_isPerson L_X11_223 (n_ hB2.1 rfl) (k_602 hB2.1) (Nat.le_of_ble_eq_true rfl) (Nat.le_of_ble_eq_true rfl) rfl (Nat.zero_le _) (Nat.zero_le _) (w_X11_isPerson (d + 1) hB2 z2 ⟨by decide, by decide⟩ h) (fun r3 V3 hB3 hz3 hb3 h => ?_)
    refine y_if_eq 48 Q_X11_pass_ (k := 11) rfl (by decide) hz3 (fun c => ?_) (fun c => ?_)
    · replace h := h.1 c
      refine y_iconst Q_X11_pass_ (k := 25) rfl ?_
      exact y_iret Q_X11_pass_ (k := 26) rfl rfl (qI_iV hB3 ⟨by decide, by decide⟩ h)
    · replace h := h.2 c
      refine z_aload_n Q_X11_pass_ (k := 12) rfl rfl ?_
      refine z_iload_n Q_X11_pass_ (k := 13) rfl rfl ?_
      refine y_iconst Q_X11_pass_ (k := 14) rfl ?_
      refine q_callV2_zV Q_X11_pass_ (k := 15) rfl rfl K_X11_isPerson V_X11_isPerson L_X11_223 (n_ hB3.1 rfl) (k_602 hB3.1) (Nat.le_of_ble_eq_true rfl) (Nat.le_of_ble_eq_true rfl) rfl (Nat.zero_le _) (Nat.zero_le _) (w_X11_isPerson (d + 1) hB3 z3 ⟨by decide, by decide⟩ h) (fun r4 V4 hB4 hz4 hb4 h => ?_)
      refine y_if_eq 48 Q_X11_pass_ (k := 16) rfl (by decide) hz4 (fun c => ?_) (fun c => ?_)
      · replace h := h.1 c
        refine y_iconst Q_X11_pass_ (k := 25) rfl ?_
        exact y_iret Q_X11_pass_ (k := 26) rfl rfl (qI_iV hB4 ⟨by decide, by decide⟩ h)
      · replace h := h.2 c
        refine z_aload_n Q_X11_pass_ (k := 17) rfl rfl ?_
        refine z_iload Q_X11_pass_ (k := 18) rfl rfl ?_
        refine y_iconst Q_X11_pass_ (k := 19) rfl ?_
        refine y_sipush Q_X11_pass_ (k := 20) rfl (by decide) ?_
        refine q_callS3_z Q_X11_pass_ (k := 21) rfl rfl K_X11_within S_X11_within L_X11_207 (Nat.le_of_ble_eq_true rfl) (Nat.le_of_ble_eq_true rfl) rfl (Nat.zero_le _) (Nat.zero_le _) (w_X11_within (d + 2) hB4 z4 ⟨by decide, by decide⟩ ⟨by decide, by decide⟩ h) (fun r5 hz5 hb5 h => ?_)
        refine y_iconst Q_X11_pass_ (k := 22) rfl ?_
        refine q_callV2_zV Q_X11_pass_ (k := 23) rfl rfl K_X11_may V_X11_may L_X11_187 (n_ hB4.1 rfl) (k_602 hB4.1) (Nat.le_of_ble_eq_true rfl) (Nat.le_of_ble_eq_true rfl) rfl (Nat.zero_le _) (Nat.zero_le _) (w_X11_may (d + 2) hB4 hz5 hb5 ⟨by decide, by decide⟩ h) (fun r6 V6 hB6 hz6 hb6 h => ?_)
        refine y_if_ne 50 Q_X11_pass_ (k := 24) rfl (by decide) hz6 (fun c => ?_) (fun c => ?_)
        · replace h := h.2 c
          refine z_aload_n Q_X11_pass_ (k := 27) rfl rfl ?_
          refine z_getR (b := 603) Q_X11_pass_ (k := 28) rfl F_X11_13 rfl (n_ hB6.1 rfl) (k_602 hB6.1) (r_602_1 hB6.1) ?_
          refine y_sipush Q_X11_pass_ (k := 29) rfl (by decide) ?_
          refine q_iald (o := 603) (N := 594) Q_X11_pass_ (k := 30) rfl rfl (n_ hB6.1 rfl) (k_603 hB6.1) rfl ⟨by decide, by decide⟩ (by decide) ?_
          refine y_bipush Q_X11_pass_ (k := 31) rfl (by decide) ?_
          refine y_icmp_ne 65 Q_X11_pass_ (k := 32) rfl (by decide) (hB6.2.1 _ _) ⟨by decide, by decide⟩ (fun c => ?_) (fun c => ?_)
          · replace h := h.2 c
            refine z_iload_n Q_X11_pass_ (k := 35) rfl rfl ?_
            refine z_iload_n Q_X11_pass_ (k := 36) rfl rfl ?_
            refine y_icmp_eq 82 Q_X11_pass_ (k := 37) rfl (by decide) z2 z3 (fun c => ?_) (fun c => ?_)
            · replace h := h.1 c
              refine y_bipush Q_X11_pass_ (k := 46) rfl (by decide) ?_
              exact y_iret Q_X11_pass_ (k := 47) rfl rfl (qI_iV hB6 ⟨by decide, by decide⟩ h)
            · replace h := h.2 c
              refine z_aload_n Q_X11_pass_ (k := 38) rfl rfl ?_
              refine z_iload_n Q_X11_pass_ (k := 39) rfl rfl ?_
              refine q_callV1_i Q_X11_pass_ (k := 40) rfl rfl K_X11_hasNow V_X11_hasNow L_X11_306 (n_ hB6.1 rfl) (k_602 hB6.1) (Nat.le_of_ble_eq_true rfl) (Nat.le_of_ble_eq_true rfl) rfl (Nat.zero_le _) (Nat.zero_le _) (w_X11_hasNow d hB6 z1 h) (fun r7 hz7 h => ?_)
              refine z_iload_n Q_X11_pass_ (k := 41) rfl rfl ?_
              refine y_ishr Q_X11_pass_ (k := 42) rfl ?_
              refine y_iconst Q_X11_pass_ (k := 43) rfl ?_
              refine y_iand Q_X11_pass_ (k := 44) rfl ?_
              refine y_if_ne 85 Q_X11_pass_ (k := 45) rfl (by decide) (zand_r _ _) (fun c => ?_) (fun c => ?_)
              · replace h := h.2 c
                refine y_sipush Q_X11_pass_ (k := 48) rfl (by decide) ?_
                refine y_iconst Q_X11_pass_ (k := 49) rfl ?_
                refine z_aload_n Q_X11_pass_ (k := 50) rfl rfl ?_
                refine z_getR (b := 603) Q_X11_pass_ (k := 51) rfl F_X11_13 rfl (n_ hB6.1 rfl) (k_602 hB6.1) (r_602_1 hB6.1) ?_
                refine y_sipush Q_X11_pass_ (k := 52) rfl (by decide) ?_
                refine q_iald (o := 603) (N := 594) Q_X11_pass_ (k := 53) rfl rfl (n_ hB6.1 rfl) (k_603 hB6.1) rfl ⟨by decide, by decide⟩ (by decide) ?_
                obtain ⟨q8, h⟩ := h
                refine y_imul Q_X11_pass_ (k := 54) rfl ?_
                obtain ⟨q9, h⟩ := h
                refine y_iadd Q_X11_pass_ (k := 55) rfl ?_
                refine y_istore (L' := [some (.ref 602), some (.int (iI a1)), some (.int (iI a2)), some (.int (iI a3)), some (.int (iI a4)), some (.int (iI (433 + (4 * (V6 603 432)))))]) Q_X11_pass_ (k := 56) rfl (by decide) rfl ?_
                refine z_aload_n Q_X11_pass_ (k := 57) rfl rfl ?_
                refine z_getR (b := 603) Q_X11_pass_ (k := 58) rfl F_X11_13 rfl (n_ hB6.1 rfl) (k_602 hB6.1) (r_602_1 hB6.1) ?_
                refine z_iload Q_X11_pass_ (k := 59) rfl rfl ?_
                refine z_iload_n Q_X11_pass_ (k := 60) rfl rfl ?_
                obtain ⟨q10, h⟩ := h
                refine q_iast (o := 603) (N := 594) Q_X11_pass_ (k := 61) rfl rfl (n_ hB6.1 rfl) (k_603 hB6.1) rfl q10 (by decide) ?_
                have hB11 := qB.u (a := 603) (j := 433 + (4 * (V6 603 432))) (x := a1) hB6 z1 (Or.inl (by decide))
                refine z_aload_n Q_X11_pass_ (k := 62) rfl rfl ?_
                refine z_getR (b := 603) Q_X11_pass_ (k := 63) rfl F_X11_13 rfl (n_ hB11.1 rfl) (k_602 hB11.1) (r_602_1 hB11.1) ?_
                refine z_iload Q_X11_pass_ (k := 64) rfl rfl ?_
                refine y_iconst Q_X11_pass_ (k := 65) rfl ?_
                obtain ⟨q12, h⟩ := h
                refine y_iadd Q_X11_pass_ (k := 66) rfl ?_
                refine z_iload_n Q_X11_pass_ (k := 67) rfl rfl ?_
                obtain ⟨q13, h⟩ := h
                refine q_iast (o := 603) (N := 594) Q_X11_pass_ (k := 68) rfl rfl (n_ hB11.1 rfl) (k_603 hB11.1) rfl q13 (by decide) ?_
                have hB14 := qB.u (a := 603) (j := (433 + (4 * (V6 603 432))) + 1) (x := a2) hB11 z2 (Or.inl (by decide))
                refine z_aload_n Q_X11_pass_ (k := 69) rfl rfl ?_
                refine z_getR (b := 603) Q_X11_pass_ (k := 70) rfl F_X11_13 rfl (n_ hB14.1 rfl) (k_602 hB14.1) (r_602_1 hB14.1) ?_
                refine z_iload Q_X11_pass_ (k := 71) rfl rfl ?_
                refine y_iconst Q_X11_pass_ (k := 72) rfl ?_
                obtain ⟨q15, h⟩ := h
                refine y_iadd Q_X11_pass_ (k := 73) rfl ?_
                refine z_iload_n Q_X11_pass_ (k := 74) rfl rfl ?_
                obtain ⟨q16, h⟩ := h
                refine q_iast (o := 603) (N := 594) Q_X11_pass_ (k := 75) rfl rfl (n_ hB14.1 rfl) (k_603 hB14.1) rfl q16 (by decide) ?_
                have hB17 := qB.u (a := 603) (j := (433 + (4 * (V6 603 432))) + 2) (x := a3) hB14 z3 (Or.inl (by decide))
                refine z_aload_n Q_X11_pass_ (k := 76) rfl rfl ?_
                refine z_getR (b := 603) Q_X11_pass_ (k := 77) rfl F_X11_13 rfl (n_ hB17.1 rfl) (k_602 hB17.1) (r_602_1 hB17.1) ?_
                refine z_iload Q_X11_pass_ (k := 78) rfl rfl ?_
                refine y_iconst Q_X11_pass_ (k := 79) rfl ?_
                obtain ⟨q18, h⟩ := h
                refine y_iadd Q_X11_pass_ (k := 80) rfl ?_
                refine z_iload Q_X11_pass_ (k := 81) rfl rfl ?_
                obtain ⟨q19, h⟩ := h
                refine q_iast (o := 603) (N := 594) Q_X11_pass_ (k := 82) rfl rfl (n_ hB17.1 rfl) (k_603 hB17.1) rfl q19 (by decide) ?_
                have hB20 := qB.u (a := 603) (j := (433 + (4 * (V6 603 432))) + 3) (x := a4) hB17 z4 (Or.inl (by decide))
                refine z_aload_n Q_X11_pass_ (k := 83) rfl rfl ?_
                refine z_getR (b := 603) Q_X11_pass_ (k := 84) rfl F_X11_13 rfl (n_ hB20.1 rfl) (k_602 hB20.1) (r_602_1 hB20.1) ?_
                refine y_sipush Q_X11_pass_ (k := 85) rfl (by decide) ?_
                refine z_dup2 Q_X11_pass_ (k := 86) rfl rfl rfl ?_
                refine q_iald (o := 603) (N := 594) Q_X11_pass_ (k := 87) rfl rfl (n_ hB20.1 rfl) (k_603 hB20.1) rfl ⟨by decide, by decide⟩ (by decide) ?_
                refine y_iconst Q_X11_pass_ (k := 88) rfl ?_
                obtain ⟨q21, h⟩ := h
                refine y_iadd Q_X11_pass_ (k := 89) rfl ?_
                refine q_iast (o := 603) (N := 594) Q_X11_pass_ (k := 90) rfl rfl (n_ hB20.1 rfl) (k_603 hB20.1) rfl ⟨by decide, by decide⟩ (by decide) ?_
                have hB22 := qB.u (a := 603) (j := 432) (x := ((qu (qu (qu (qu V6 603 (433 + (4 * (V6 603 432))) a1) 603 ((433 + (4 * (V6 603 432))) + 1) a2) 603 ((433 + (4 * (V6 603 432))) + 2) a3) 603 ((433 + (4 * (V6 603 432))) + 3) a4) 603 432) + 1) hB20 q21 (Or.inl (by decide))
                refine z_iload_n Q_X11_pass_ (k := 91) rfl rfl ?_
                exact y_iret Q_X11_pass_ (k := 92) rfl rfl (qI_iV hB22 z3 h)
              · replace h := h.1 c
                refine y_bipush Q_X11_pass_ (k := 46) rfl (by decide) ?_
                exact y_iret Q_X11_pass_ (k := 47) rfl rfl (qI_iV hB6 ⟨by decide, by decide⟩ h)
          · replace h := h.1 c
            refine y_iconst Q_X11_pass_ (k := 33) rfl ?_
            exact y_iret Q_X11_pass_ (k := 34) rfl rfl (qI_iV hB6 ⟨by decide, by decide⟩ h)
        · replace h := h.1 c
          refine y_iconst Q_X11_pass_ (k := 25) rfl ?_
          exact y_iret Q_X11_pass_ (k := 26) rfl rfl (qI_iV hB6 ⟨by decide, by decide⟩ h)
set_option maxHeartbeats 4000000 in
set_option maxRecDepth 20000 in
theorem w_X11_has {S : zS} {V : qV} {J : qJ} {Q : Int → qV → Prop} (d : Nat) (hB : qB S V) {a1 : Int} (z1 : zr a1) (h : W_X11_has a1 V Q) : Z M_X11_has (d + 3) 0 0 0 [some (.ref 602), some (.int (iI a1))] [] S (qi V) (qj J) (qP_iV S J Q) := by
  unfold W_X11_has at h
  refine z_aload_n Q_X11_has (k := 0) rfl rfl ?_
  refine y_iconst Q_X11_has (k := 1) rfl ?_
  refine q_putI (o := 602) (z := 0) Q_X11_has (k := 2) rfl F_X11_1 rfl rfl rfl (n_ hB.1 rfl) (k_602 hB.1) ?_
  have hB1 := qB.u (a := 602) (j := 0) (x := 0) hB ⟨by decide, by decide⟩ (Or.inl (by decide))
  refine z_aload_n Q_X11_has (k := 3) rfl rfl ?_
  refine z_iload_n Q_X11_has (k := 4) rfl rfl ?_
  refine q_callV1_zV Q_X11_has (k := 5) rfl rfl K_X11_isFind V_X11_isFind L_X11_245 (n_ hB1.1 rfl) (k_602 hB1.1) (Nat.le_of_ble_eq_true rfl) (Nat.le_of_ble_eq_true rfl) rfl (Nat.zero_le _) (Nat.zero_le _) (w_X11_isFind (d + 1) hB1 z1 h) (fun r2 V2 hB2 hz2 hb2 h => ?_)
  refine y_if_ne 15 Q_X11_has (k := 6) rfl (by decide) hz2 (fun c => ?_) (fun c => ?_)
  · replace h := h.2 c
    refine z_aload_n Q_X11_has (k := 9) rfl rfl ?_
    refine z_iload_n Q_X11_has (k := 10) rfl rfl ?_
    refine q_callV1_i Q_X11_has (k := 11) rfl rfl K_X11_hasNow V_X11_hasNow L_X11_306 (n_ hB2.1 rfl) (k_602 hB2.1) (Nat.le_of_ble_eq_true rfl) (Nat.le_of_ble_eq_true rfl) rfl (Nat.zero_le _) (Nat.zero_le _) (w_X11_hasNow d hB2 z1 h) (fun r3 hz3 h => ?_)
    exact y_iret Q_X11_has (k := 12) rfl rfl (qI_iV hB2 hz3 h)
  · replace h := h.1 c
    refine y_iconst Q_X11_has (k := 7) rfl ?_
    exact y_iret Q_X11_has (k := 8) rfl rfl (qI_iV hB2 ⟨by decide, by decide⟩ h)
set_option maxHeartbeats 4000000 in
set_option maxRecDepth 20000 in
theorem w_X11_away {S : zS} {V : qV} {J : qJ} {Q : Int → qV → Prop} (d : Nat) (hB : qB S V) {a1 : Int} (z1 : zr a1) {a2 : Int} (z2 : zr a2) (b2 : a2 = 0 ∨ a2 = 1) (h : W_X11_away a1 a2 V Q) : Z M_X11_away (d + 2) 0 0 0 [some (.ref 602), some (.int (iI a1)), some (.int (iI a2)), none] [] S (qi V) (qj J) (qP_zV S J Q) := by
  unfold W_X11_away at h
  refine z_aload_n Q_X11_away (k := 0) rfl rfl ?_
  refine y_iconst Q_X11_away (k := 1) rfl ?_
  refine q_putI (o := 602) (z := 0) Q_X11_away (k := 2) rfl F_X11_1 rfl rfl rfl (n_ hB.1 rfl) (k_602 hB.1) ?_
  have hB1 := qB.u (a := 602) (j := 0) (x := 0) hB ⟨by decide, by decide⟩ (Or.inl (by decide))
  refine z_aload_n Q_X11_away (k := 3) rfl rfl ?_
  refine z_iload_n Q_X11_away (k := 4) rfl rfl ?_
  refine y_iconst Q_X11_away (k := 5) rfl ?_
  refine q_callV2_zV Q_X11_away (k := 6) rfl rfl K_X11_isPerson V_X11_isPerson L_X11_223 (n_ hB1.1 rfl) (k_602 hB1.1) (Nat.le_of_ble_eq_true rfl) (Nat.le_of_ble_eq_true rfl) rfl (Nat.zero_le _) (Nat.zero_le _) (w_X11_isPerson d hB1 z1 ⟨by decide, by decide⟩ h) (fun r2 V2 hB2 hz2 hb2 h => ?_)
  refine y_if_ne 16 Q_X11_away (k := 7) rfl (by decide) hz2 (fun c => ?_) (fun c => ?_)
  · replace h := h.2 c
    refine z_aload_n Q_X11_away (k := 10) rfl rfl ?_
    refine z_getR (b := 603) Q_X11_away (k := 11) rfl F_X11_13 rfl (n_ hB2.1 rfl) (k_602 hB2.1) (r_602_1 hB2.1) ?_
    refine y_bipush Q_X11_away (k := 12) rfl (by decide) ?_
    refine z_iload_n Q_X11_away (k := 13) rfl rfl ?_
    obtain ⟨q3, h⟩ := h
    refine y_iadd Q_X11_away (k := 14) rfl ?_
    obtain ⟨q4, h⟩ := h
    refine q_iald (o := 603) (N := 594) Q_X11_away (k := 15) rfl rfl (n_ hB2.1 rfl) (k_603 hB2.1) rfl q4 (by decide) ?_
    refine y_iconst Q_X11_away (k := 16) rfl ?_
    refine y_icmp_ne 33 Q_X11_away (k := 17) rfl (by decide) (hB2.2.1 _ _) ⟨by decide, by decide⟩ (fun c => ?_) (fun c => ?_)
    · replace h := h.2 c
      refine y_iconst Q_X11_away (k := 20) rfl ?_
      refine y_istore_n (L' := [some (.ref 602), some (.int (iI a1)), some (.int (iI a2)), some (.int (iI 0))]) Q_X11_away (k := 21) rfl (by decide) rfl ?_
      refine z_aload_n Q_X11_away (k := 22) rfl rfl ?_
      refine z_getR (b := 603) Q_X11_away (k := 23) rfl F_X11_13 rfl (n_ hB2.1 rfl) (k_602 hB2.1) (r_602_1 hB2.1) ?_
      refine y_bipush Q_X11_away (k := 24) rfl (by decide) ?_
      refine z_iload_n Q_X11_away (k := 25) rfl rfl ?_
      obtain ⟨q5, h⟩ := h
      refine y_iadd Q_X11_away (k := 26) rfl ?_
      refine z_iload_n Q_X11_away (k := 27) rfl rfl ?_
      refine y_if_eq 51 Q_X11_away (k := 28) rfl (by decide) z2 (fun c => ?_) (fun c => ?_)
      · replace h := h.1 c
        refine y_iconst Q_X11_away (k := 31) rfl ?_
        obtain ⟨q6, h⟩ := h
        refine q_iast (o := 603) (N := 594) Q_X11_away (k := 32) rfl rfl (n_ hB2.1 rfl) (k_603 hB2.1) rfl q6 (by decide) ?_
        have hB7 := qB.u (a := 603) (j := 54 + a1) (x := 0) hB2 ⟨by decide, by decide⟩ (Or.inl (by decide))
        refine z_iload_n Q_X11_away (k := 33) rfl rfl ?_
        exact y_zret Q_X11_away (k := 34) rfl rfl (Or.inl rfl) (qI_zV hB7 ⟨by decide, by decide⟩ (Or.inl rfl) h)
      · replace h := h.2 c
        refine y_iconst Q_X11_away (k := 29) rfl ?_
        refine z_goto (tgt := 52) Q_X11_away (k := 30) rfl (by decide) ?_
        obtain ⟨q8, h⟩ := h
        refine q_iast (o := 603) (N := 594) Q_X11_away (k := 32) rfl rfl (n_ hB2.1 rfl) (k_603 hB2.1) rfl q8 (by decide) ?_
        have hB9 := qB.u (a := 603) (j := 54 + a1) (x := 1) hB2 ⟨by decide, by decide⟩ (Or.inl (by decide))
        refine z_iload_n Q_X11_away (k := 33) rfl rfl ?_
        exact y_zret Q_X11_away (k := 34) rfl rfl (Or.inl rfl) (qI_zV hB9 ⟨by decide, by decide⟩ (Or.inl rfl) h)
    · replace h := h.1 c
      refine y_iconst Q_X11_away (k := 18) rfl ?_
      refine z_goto (tgt := 34) Q_X11_away (k := 19) rfl (by decide) ?_
      refine y_istore_n (L' := [some (.ref 602), some (.int (iI a1)), some (.int (iI a2)), some (.int (iI 1))]) Q_X11_away (k := 21) rfl (by decide) rfl ?_
      refine z_aload_n Q_X11_away (k := 22) rfl rfl ?_
      refine z_getR (b := 603) Q_X11_away (k := 23) rfl F_X11_13 rfl (n_ hB2.1 rfl) (k_602 hB2.1) (r_602_1 hB2.1) ?_
      refine y_bipush Q_X11_away (k := 24) rfl (by decide) ?_
      refine z_iload_n Q_X11_away (k := 25) rfl rfl ?_
      obtain ⟨q10, h⟩ := h
      refine y_iadd Q_X11_away (k := 26) rfl ?_
      refine z_iload_n Q_X11_away (k := 27) rfl rfl ?_
      refine y_if_eq 51 Q_X11_away (k := 28) rfl (by decide) z2 (fun c => ?_) (fun c => ?_)
      · replace h := h.1 c
        refine y_iconst Q_X11_away (k := 31) rfl ?_
        obtain ⟨q11, h⟩ := h
        refine q_iast (o := 603) (N := 594) Q_X11_away (k := 32) rfl rfl (n_ hB2.1 rfl) (k_603 hB2.1) rfl q11 (by decide) ?_
        have hB12 := qB.u (a := 603) (j := 54 + a1) (x := 0) hB2 ⟨by decide, by decide⟩ (Or.inl (by decide))
        refine z_iload_n Q_X11_away (k := 33) rfl rfl ?_
        exact y_zret Q_X11_away (k := 34) rfl rfl (Or.inr rfl) (qI_zV hB12 ⟨by decide, by decide⟩ (Or.inr rfl) h)
      · replace h := h.2 c
        refine y_iconst Q_X11_away (k := 29) rfl ?_
        refine z_goto (tgt := 52) Q_X11_away (k := 30) rfl (by decide) ?_
        obtain ⟨q13, h⟩ := h
        refine q_iast (o := 603) (N := 594) Q_X11_away (k := 32) rfl rfl (n_ hB2.1 rfl) (k_603 hB2.1) rfl q13 (by decide) ?_
        have hB14 := qB.u (a := 603) (j := 54 + a1) (x := 1) hB2 ⟨by decide, by decide⟩ (Or.inl (by decide))
        refine z_iload_n Q_X11_away (k := 33) rfl rfl ?_
        exact y_zret Q_X11_away (k := 34) rfl rfl (Or.inr rfl) (qI_zV hB14 ⟨by decide, by decide⟩ (Or.inr rfl) h)
  · replace h := h.1 c
    refine y_iconst Q_X11_away (k := 8) rfl ?_
    exact y_zret Q_X11_away (k := 9) rfl rfl (Or.inl rfl) (qI_zV hB2 ⟨by decide, by decide⟩ (Or.inl rfl) h)
set_option maxHeartbeats 4000000 in
set_option maxRecDepth 20000 in
theorem v_X11_loss_29 {S : zS} {V : qV} {J : qJ} {K : Int → Int → Prop} {Q : Int → qV → Prop} {kc ks : Nat} (d : Nat) (hB : qB S V) {l1 : Int} (z1 : zr l1) {l2 : Int} (z2 : zr l2) (hK : ∀ (l3 : Int) (l4 : Int), zr l3 → zr l4 → K l3 l4 → Z M_X11_loss (d + 2) kc ks 147 [some (.ref 602), some (.int (iI l1)), some (.int (iI l2)), some (.int (iI l3)), some (.int (iI l4)), none] [] S (qi V) (qj J) (qP_iV S J Q)) : ∀ (f : Nat) (l3 : Int) (l4 : Int), zr l3 → zr l4 → lp_X11_loss_29 l1 l2 V K f l3 l4 → Z M_X11_loss (d + 2) kc ks 29 [some (.ref 602), some (.int (iI l1)), some (.int (iI l2)), some (.int (iI l3)), some (.int (iI l4)), none] [] S (qi V) (qj J) (qP_iV S J Q) := by
  intro f
  induction f with
  | zero =>
    intro l3 l4 z3 z4 h
    exact h.elim
  | succ f ih =>
    intro l3 l4 z3 z4 h
    rw [lp_X11_loss_29] at h
    refine z_iload Q_X11_loss (k := 18) rfl rfl ?_
    refine z_aload_n Q_X11_loss (k := 19) rfl rfl ?_
    refine z_getR (b := 603) Q_X11_loss (k := 20) rfl F_X11_13 rfl (n_ hB.1 rfl) (k_602 hB.1) (r_602_1 hB.1) ?_
    refine y_sipush Q_X11_loss (k := 21) rfl (by decide) ?_
    refine q_iald (o := 603) (N := 594) Q_X11_loss (k := 22) rfl rfl (n_ hB.1 rfl) (k_603 hB.1) rfl ⟨by decide, by decide⟩ (by decide) ?_
    refine y_icmp_ge 147 Q_X11_loss (k := 23) rfl (by decide) z4 (hB.2.1 _ _) (fun c => ?_) (fun c => ?_)
    · replace h := h.1 c
      exact y_fg (zsb_c rfl (zsb_c rfl (zsb_c rfl (zsb_c rfl (zsb_c rfl (zsb_n zsb_e)))))) (hK l3 l4 z3 z4 h)
    · replace h := h.2 c
      refine y_sipush Q_X11_loss (k := 24) rfl (by decide) ?_
      refine y_iconst Q_X11_loss (k := 25) rfl ?_
      refine z_iload Q_X11_loss (k := 26) rfl rfl ?_
      obtain ⟨q4, h⟩ := h
      refine y_imul Q_X11_loss (k := 27) rfl ?_
      obtain ⟨q5, h⟩ := h
      refine y_iadd Q_X11_loss (k := 28) rfl ?_
      refine y_istore (L' := [some (.ref 602), some (.int (iI l1)), some (.int (iI l2)), some (.int (iI l3)), some (.int (iI l4)), some (.int (iI (433 + (4 * l4))))]) Q_X11_loss (k := 29) rfl (by decide) rfl ?_
      refine z_aload_n Q_X11_loss (k := 30) rfl rfl ?_
      refine z_getR (b := 603) Q_X11_loss (k := 31) rfl F_X11_13 rfl (n_ hB.1 rfl) (k_602 hB.1) (r_602_1 hB.1) ?_
      refine z_iload Q_X11_loss (k := 32) rfl rfl ?_
      obtain ⟨q6, h⟩ := h
      refine q_iald (o := 603) (N := 594) Q_X11_loss (k := 33) rfl rfl (n_ hB.1 rfl) (k_603 hB.1) rfl q6 (by decide) ?_
      refine z_iload_n Q_X11_loss (k := 34) rfl rfl ?_
      refine y_icmp_ne 141 Q_X11_loss (k := 35) rfl (by decide) (hB.2.1 _ _) z1 (fun c => ?_) (fun c => ?_)
      · replace h := h.2 c
        obtain ⟨q7, h⟩ := h
        refine y_iinc (L' := [some (.ref 602), some (.int (iI l1)), some (.int (iI l2)), some (.int (iI l3)), some (.int (iI (l4 + 1))), some (.int (iI (433 + (4 * l4))))]) Q_X11_loss (k := 84) rfl (by decide) rfl rfl ?_
        refine z_goto (tgt := 29) Q_X11_loss (k := 85) rfl (by decide) ?_
        exact y_fg (zsb_c rfl (zsb_c rfl (zsb_c rfl (zsb_c rfl (zsb_c rfl (zsb_n zsb_e)))))) (ih l3 (l4 + 1) z3 q7 h)
      · replace h := h.1 c
        refine z_aload_n Q_X11_loss (k := 36) rfl rfl ?_
        refine z_getR (b := 603) Q_X11_loss (k := 37) rfl F_X11_13 rfl (n_ hB.1 rfl) (k_602 hB.1) (r_602_1 hB.1) ?_
        refine y_bipush Q_X11_loss (k := 38) rfl (by decide) ?_
        refine z_aload_n Q_X11_loss (k := 39) rfl rfl ?_
        refine z_getR (b := 603) Q_X11_loss (k := 40) rfl F_X11_13 rfl (n_ hB.1 rfl) (k_602 hB.1) (r_602_1 hB.1) ?_
        refine z_iload Q_X11_loss (k := 41) rfl rfl ?_
        refine y_iconst Q_X11_loss (k := 42) rfl ?_
        obtain ⟨q8, h⟩ := h
        refine y_iadd Q_X11_loss (k := 43) rfl ?_
        obtain ⟨q9, h⟩ := h
        refine q_iald (o := 603) (N := 594) Q_X11_loss (k := 44) rfl rfl (n_ hB.1 rfl) (k_603 hB.1) rfl q9 (by decide) ?_
        obtain ⟨q10, h⟩ := h
        refine y_iadd Q_X11_loss (k := 45) rfl ?_
        obtain ⟨q11, h⟩ := h
        refine q_iald (o := 603) (N := 594) Q_X11_loss (k := 46) rfl rfl (n_ hB.1 rfl) (k_603 hB.1) rfl q11 (by decide) ?_
        refine y_if_ne 86 Q_X11_loss (k := 47) rfl (by decide) (hB.2.1 _ _) (fun c => ?_) (fun c => ?_)
        · replace h := h.2 c
          refine z_iload_n Q_X11_loss (k := 49) rfl rfl ?_
          refine z_aload_n Q_X11_loss (k := 50) rfl rfl ?_
          refine z_getR (b := 603) Q_X11_loss (k := 51) rfl F_X11_13 rfl (n_ hB.1 rfl) (k_602 hB.1) (r_602_1 hB.1) ?_
          refine z_iload Q_X11_loss (k := 52) rfl rfl ?_
          refine y_iconst Q_X11_loss (k := 53) rfl ?_
          obtain ⟨q12, h⟩ := h
          refine y_iadd Q_X11_loss (k := 54) rfl ?_
          obtain ⟨q13, h⟩ := h
          refine q_iald (o := 603) (N := 594) Q_X11_loss (k := 55) rfl rfl (n_ hB.1 rfl) (k_603 hB.1) rfl q13 (by decide) ?_
          refine z_iload_n Q_X11_loss (k := 56) rfl rfl ?_
          refine y_icmp_ne 112 Q_X11_loss (k := 57) rfl (by decide) (hB.2.1 _ _) z2 (fun c => ?_) (fun c => ?_)
          · replace h := h.2 c
            refine z_aload_n Q_X11_loss (k := 65) rfl rfl ?_
            refine z_getR (b := 603) Q_X11_loss (k := 66) rfl F_X11_13 rfl (n_ hB.1 rfl) (k_602 hB.1) (r_602_1 hB.1) ?_
            refine z_iload Q_X11_loss (k := 67) rfl rfl ?_
            refine y_iconst Q_X11_loss (k := 68) rfl ?_
            obtain ⟨q14, h⟩ := h
            refine y_iadd Q_X11_loss (k := 69) rfl ?_
            obtain ⟨q15, h⟩ := h
            refine q_iald (o := 603) (N := 594) Q_X11_loss (k := 70) rfl rfl (n_ hB.1 rfl) (k_603 hB.1) rfl q15 (by decide) ?_
            refine z_iload_n Q_X11_loss (k := 71) rfl rfl ?_
            refine y_icmp_ne 138 Q_X11_loss (k := 72) rfl (by decide) (hB.2.1 _ _) z2 (fun c => ?_) (fun c => ?_)
            · replace h := h.2 c
              refine y_iconst Q_X11_loss (k := 81) rfl ?_
              obtain ⟨q16, h⟩ := h
              refine y_iadd Q_X11_loss (k := 82) rfl ?_
              refine y_istore_n (L' := [some (.ref 602), some (.int (iI l1)), some (.int (iI l2)), some (.int (iI (l3 + 0))), some (.int (iI l4)), some (.int (iI (433 + (4 * l4))))]) Q_X11_loss (k := 83) rfl (by decide) rfl ?_
              obtain ⟨q17, h⟩ := h
              refine y_iinc (L' := [some (.ref 602), some (.int (iI l1)), some (.int (iI l2)), some (.int (iI (l3 + 0))), some (.int (iI (l4 + 1))), some (.int (iI (433 + (4 * l4))))]) Q_X11_loss (k := 84) rfl (by decide) rfl rfl ?_
              refine z_goto (tgt := 29) Q_X11_loss (k := 85) rfl (by decide) ?_
              exact y_fg (zsb_c rfl (zsb_c rfl (zsb_c rfl (zsb_c rfl (zsb_c rfl (zsb_n zsb_e)))))) (ih (l3 + 0) (l4 + 1) q16 q17 h)
            · replace h := h.1 c
              refine z_aload_n Q_X11_loss (k := 73) rfl rfl ?_
              refine z_getR (b := 603) Q_X11_loss (k := 74) rfl F_X11_13 rfl (n_ hB.1 rfl) (k_602 hB.1) (r_602_1 hB.1) ?_
              refine z_iload Q_X11_loss (k := 75) rfl rfl ?_
              refine y_iconst Q_X11_loss (k := 76) rfl ?_
              obtain ⟨q18, h⟩ := h
              refine y_iadd Q_X11_loss (k := 77) rfl ?_
              obtain ⟨q19, h⟩ := h
              refine q_iald (o := 603) (N := 594) Q_X11_loss (k := 78) rfl rfl (n_ hB.1 rfl) (k_603 hB.1) rfl q19 (by decide) ?_
              obtain ⟨q20, h⟩ := h
              refine y_ineg Q_X11_loss (k := 79) rfl ?_
              refine z_goto (tgt := 139) Q_X11_loss (k := 80) rfl (by decide) ?_
              obtain ⟨q21, h⟩ := h
              refine y_iadd Q_X11_loss (k := 82) rfl ?_
              refine y_istore_n (L' := [some (.ref 602), some (.int (iI l1)), some (.int (iI l2)), some (.int (iI (l3 + (-(V 603 ((433 + (4 * l4)) + 3)))))), some (.int (iI l4)), some (.int (iI (433 + (4 * l4))))]) Q_X11_loss (k := 83) rfl (by decide) rfl ?_
              obtain ⟨q22, h⟩ := h
              refine y_iinc (L' := [some (.ref 602), some (.int (iI l1)), some (.int (iI l2)), some (.int (iI (l3 + (-(V 603 ((433 + (4 * l4)) + 3)))))), some (.int (iI (l4 + 1))), some (.int (iI (433 + (4 * l4))))]) Q_X11_loss (k := 84) rfl (by decide) rfl rfl ?_
              refine z_goto (tgt := 29) Q_X11_loss (k := 85) rfl (by decide) ?_
              exact y_fg (zsb_c rfl (zsb_c rfl (zsb_c rfl (zsb_c rfl (zsb_c rfl (zsb_n zsb_e)))))) (ih (l3 + (-(V 603 ((433 + (4 * l4)) + 3)))) (l4 + 1) q21 q22 h)
          · replace h := h.1 c
            refine z_aload_n Q_X11_loss (k := 58) rfl rfl ?_
            refine z_getR (b := 603) Q_X11_loss (k := 59) rfl F_X11_13 rfl (n_ hB.1 rfl) (k_602 hB.1) (r_602_1 hB.1) ?_
            refine z_iload Q_X11_loss (k := 60) rfl rfl ?_
            refine y_iconst Q_X11_loss (k := 61) rfl ?_
            obtain ⟨q23, h⟩ := h
            refine y_iadd Q_X11_loss (k := 62) rfl ?_
            obtain ⟨q24, h⟩ := h
            refine q_iald (o := 603) (N := 594) Q_X11_loss (k := 63) rfl rfl (n_ hB.1 rfl) (k_603 hB.1) rfl q24 (by decide) ?_
            refine z_goto (tgt := 139) Q_X11_loss (k := 64) rfl (by decide) ?_
            obtain ⟨q25, h⟩ := h
            refine y_iadd Q_X11_loss (k := 82) rfl ?_
            refine y_istore_n (L' := [some (.ref 602), some (.int (iI l1)), some (.int (iI l2)), some (.int (iI (l3 + (V 603 ((433 + (4 * l4)) + 3))))), some (.int (iI l4)), some (.int (iI (433 + (4 * l4))))]) Q_X11_loss (k := 83) rfl (by decide) rfl ?_
            obtain ⟨q26, h⟩ := h
            refine y_iinc (L' := [some (.ref 602), some (.int (iI l1)), some (.int (iI l2)), some (.int (iI (l3 + (V 603 ((433 + (4 * l4)) + 3))))), some (.int (iI (l4 + 1))), some (.int (iI (433 + (4 * l4))))]) Q_X11_loss (k := 84) rfl (by decide) rfl rfl ?_
            refine z_goto (tgt := 29) Q_X11_loss (k := 85) rfl (by decide) ?_
            exact y_fg (zsb_c rfl (zsb_c rfl (zsb_c rfl (zsb_c rfl (zsb_c rfl (zsb_n zsb_e)))))) (ih (l3 + (V 603 ((433 + (4 * l4)) + 3))) (l4 + 1) q25 q26 h)
        · replace h := h.1 c
          refine z_goto (tgt := 141) Q_X11_loss (k := 48) rfl (by decide) ?_
          obtain ⟨q27, h⟩ := h
          refine y_iinc (L' := [some (.ref 602), some (.int (iI l1)), some (.int (iI l2)), some (.int (iI l3)), some (.int (iI (l4 + 1))), some (.int (iI (433 + (4 * l4))))]) Q_X11_loss (k := 84) rfl (by decide) rfl rfl ?_
          refine z_goto (tgt := 29) Q_X11_loss (k := 85) rfl (by decide) ?_
          exact y_fg (zsb_c rfl (zsb_c rfl (zsb_c rfl (zsb_c rfl (zsb_c rfl (zsb_n zsb_e)))))) (ih l3 (l4 + 1) z3 q27 h)
set_option maxHeartbeats 4000000 in
set_option maxRecDepth 20000 in
theorem w_X11_loss {S : zS} {V : qV} {J : qJ} {Q : Int → qV → Prop} (d : Nat) (hB : qB S V) {a1 : Int} (z1 : zr a1) {a2 : Int} (z2 : zr a2) (h : W_X11_loss a1 a2 V Q) : Z M_X11_loss (d + 2) 0 0 0 [some (.ref 602), some (.int (iI a1)), some (.int (iI a2)), none, none, none] [] S (qi V) (qj J) (qP_iV S J Q) := by
  unfold W_X11_loss at h
  refine z_aload_n Q_X11_loss (k := 0) rfl rfl ?_
  refine y_iconst Q_X11_loss (k := 1) rfl ?_
  refine q_putI (o := 602) (z := 0) Q_X11_loss (k := 2) rfl F_X11_1 rfl rfl rfl (n_ hB.1 rfl) (k_602 hB.1) ?_
  have hB1 := qB.u (a := 602) (j := 0) (x := 0) hB ⟨by decide, by decide⟩ (Or.inl (by decide))
  refine z_aload_n Q_X11_loss (k := 3) rfl rfl ?_
  refine z_iload_n Q_X11_loss (k := 4) rfl rfl ?_
  refine q_callV1_zV Q_X11_loss (k := 5) rfl rfl K_X11_isFind V_X11_isFind L_X11_245 (n_ hB1.1 rfl) (k_602 hB1.1) (Nat.le_of_ble_eq_true rfl) (Nat.le_of_ble_eq_true rfl) rfl (Nat.zero_le _) (Nat.zero_le _) (w_X11_isFind d hB1 z1 h) (fun r2 V2 hB2 hz2 hb2 h => ?_)
  refine y_if_eq 22 Q_X11_loss (k := 6) rfl (by decide) hz2 (fun c => ?_) (fun c => ?_)
  · replace h := h.1 c
    refine y_iconst Q_X11_loss (k := 12) rfl ?_
    exact y_iret Q_X11_loss (k := 13) rfl rfl (qI_iV hB2 ⟨by decide, by decide⟩ h)
  · replace h := h.2 c
    refine z_aload_n Q_X11_loss (k := 7) rfl rfl ?_
    refine z_iload_n Q_X11_loss (k := 8) rfl rfl ?_
    refine y_iconst Q_X11_loss (k := 9) rfl ?_
    refine q_callV2_zV Q_X11_loss (k := 10) rfl rfl K_X11_isPerson V_X11_isPerson L_X11_223 (n_ hB2.1 rfl) (k_602 hB2.1) (Nat.le_of_ble_eq_true rfl) (Nat.le_of_ble_eq_true rfl) rfl (Nat.zero_le _) (Nat.zero_le _) (w_X11_isPerson d hB2 z2 ⟨by decide, by decide⟩ h) (fun r3 V3 hB3 hz3 hb3 h => ?_)
    refine y_if_ne 24 Q_X11_loss (k := 11) rfl (by decide) hz3 (fun c => ?_) (fun c => ?_)
    · replace h := h.2 c
      refine y_iconst Q_X11_loss (k := 14) rfl ?_
      refine y_istore_n (L' := [some (.ref 602), some (.int (iI a1)), some (.int (iI a2)), some (.int (iI 0)), none, none]) Q_X11_loss (k := 15) rfl (by decide) rfl ?_
      refine y_iconst Q_X11_loss (k := 16) rfl ?_
      refine y_istore (L' := [some (.ref 602), some (.int (iI a1)), some (.int (iI a2)), some (.int (iI 0)), some (.int (iI 0)), none]) Q_X11_loss (k := 17) rfl (by decide) rfl ?_
      refine y_fg (zsb_c rfl (zsb_c rfl (zsb_c rfl (zsb_c rfl (zsb_c rfl (zsb_n zsb_e)))))) (v_X11_loss_29 d hB3 z1 z2 (fun l3x28 l4x28 zl3x28 zl4x28 h => ?_) 100000 0 0 ⟨by decide, by decide⟩ ⟨by decide, by decide⟩ h)
      refine z_iload_n Q_X11_loss (k := 86) rfl rfl ?_
      exact y_iret Q_X11_loss (k := 87) rfl rfl (qI_iV hB3 zl3x28 h)
    · replace h := h.1 c
      refine y_iconst Q_X11_loss (k := 12) rfl ?_
      exact y_iret Q_X11_loss (k := 13) rfl rfl (qI_iV hB3 ⟨by decide, by decide⟩ h)
set_option maxHeartbeats 4000000 in
set_option maxRecDepth 20000 in
theorem v_X11_findViews_6 {S : zS} {J : qJ} {K : Int → qV → Prop} {Q : qV → Prop} {kc ks : Nat} (d : Nat) {l1 : Int} (z1 : zr l1) {l2 : Int} (z2 : zr l2) (hK : ∀ (l3 : Int) (V : qV), qB S V → zr l3 → K l3 V → Z M_X11_findViews (d + 2) kc ks 26 [some (.ref 602), some (.int (iI l1)), some (.int (iI l2)), some (.int (iI l3))] [] S (qi V) (qj J) (qP_uV S J Q)) : ∀ (f : Nat) (l3 : Int) (V : qV), qB S V → zr l3 → lp_X11_findViews_6 l1 l2 K f l3 V → Z M_X11_findViews (d + 2) kc ks 6 [some (.ref 602), some (.int (iI l1)), some (.int (iI l2)), some (.int (iI l3))] [] S (qi V) (qj J) (qP_uV S J Q) := by
  intro f
  induction f with
  | zero =>
    intro l3 V hB z3 h
    exact h.elim
  | succ f ih =>
    intro l3 V hB z3 h
    rw [lp_X11_findViews_6] at h
    refine z_iload_n Q_X11_findViews (k := 4) rfl rfl ?_
    refine y_sipush Q_X11_findViews (k := 5) rfl (by decide) ?_
    refine y_icmp_ge 26 Q_X11_findViews (k := 6) rfl (by decide) z3 ⟨by decide, by decide⟩ (fun c => ?_) (fun c => ?_)
    · replace h := h.1 c
      exact y_fg (zsb_c rfl (zsb_c rfl (zsb_c rfl (zsb_c rfl zsb_e)))) (hK l3 V hB z3 h)
    · replace h := h.2 c
      refine z_aload_n Q_X11_findViews (k := 7) rfl rfl ?_
      refine z_getR (b := 622) Q_X11_findViews (k := 8) rfl F_X11_76 rfl (n_ hB.1 rfl) (k_602 hB.1) (r_602_32 hB.1) ?_
      refine z_iload_n Q_X11_findViews (k := 9) rfl rfl ?_
      refine y_iconst Q_X11_findViews (k := 10) rfl ?_
      obtain ⟨q2, h⟩ := h
      refine q_zast (o := 622) (N := 1024) Q_X11_findViews (k := 11) rfl rfl (n_ hB.1 rfl) (k_622 hB.1) rfl q2 (by decide) (Or.inl rfl) ?_
      have hB3 := qB.u (a := 622) (j := l3) (x := 0) hB ⟨by decide, by decide⟩ (Or.inl (by decide))
      obtain ⟨q4, h⟩ := h
      refine y_iinc (L' := [some (.ref 602), some (.int (iI l1)), some (.int (iI l2)), some (.int (iI (l3 + 1)))]) Q_X11_findViews (k := 12) rfl (by decide) rfl rfl ?_
      refine z_goto (tgt := 6) Q_X11_findViews (k := 13) rfl (by decide) ?_
      exact y_fg (zsb_c rfl (zsb_c rfl (zsb_c rfl (zsb_c rfl zsb_e)))) (ih (l3 + 1) (qu V 622 l3 0) hB3 q4 h)
set_option maxHeartbeats 4000000 in
set_option maxRecDepth 20000 in
theorem v_X11_findViews_28 {S : zS} {J : qJ} {K : Int → qV → Prop} {Q : qV → Prop} {kc ks : Nat} (d : Nat) {l1 : Int} (z1 : zr l1) {l2 : Int} (z2 : zr l2) (hK : ∀ (l3 : Int) (V : qV), qB S V → zr l3 → K l3 V → Z M_X11_findViews (d + 2) kc ks 71 [some (.ref 602), some (.int (iI l1)), some (.int (iI l2)), some (.int (iI l3))] [] S (qi V) (qj J) (qP_uV S J Q)) : ∀ (f : Nat) (l3 : Int) (V : qV), qB S V → zr l3 → lp_X11_findViews_28 l1 l2 K f l3 V → Z M_X11_findViews (d + 2) kc ks 28 [some (.ref 602), some (.int (iI l1)), some (.int (iI l2)), some (.int (iI l3))] [] S (qi V) (qj J) (qP_uV S J Q) := by
  intro f
  induction f with
  | zero =>
    intro l3 V hB z3 h
    exact h.elim
  | succ f ih =>
    intro l3 V hB z3 h
    rw [lp_X11_findViews_28] at h
    refine z_iload_n Q_X11_findViews (k := 16) rfl rfl ?_
    refine y_sipush Q_X11_findViews (k := 17) rfl (by decide) ?_
    refine y_icmp_ge 71 Q_X11_findViews (k := 18) rfl (by decide) z3 ⟨by decide, by decide⟩ (fun c => ?_) (fun c => ?_)
    · replace h := h.1 c
      exact y_fg (zsb_c rfl (zsb_c rfl (zsb_c rfl (zsb_c rfl zsb_e)))) (hK l3 V hB z3 h)
    · replace h := h.2 c
      refine z_aload_n Q_X11_findViews (k := 19) rfl rfl ?_
      refine z_getR (b := 616) Q_X11_findViews (k := 20) rfl F_X11_56 rfl (n_ hB.1 rfl) (k_602 hB.1) (r_602_24 hB.1) ?_
      refine z_iload_n Q_X11_findViews (k := 21) rfl rfl ?_
      obtain ⟨q6, h⟩ := h
      refine q_zald (o := 616) (N := 1024) Q_X11_findViews (k := 22) rfl rfl (n_ hB.1 rfl) (k_616 hB.1) rfl q6 (by decide) ?_
      refine y_if_eq 65 Q_X11_findViews (k := 23) rfl (by decide) (hB.2.1 _ _) (fun c => ?_) (fun c => ?_)
      · replace h := h.1 c
        obtain ⟨q7, h⟩ := h
        refine y_iinc (L' := [some (.ref 602), some (.int (iI l1)), some (.int (iI l2)), some (.int (iI (l3 + 1)))]) Q_X11_findViews (k := 39) rfl (by decide) rfl rfl ?_
        refine z_goto (tgt := 28) Q_X11_findViews (k := 40) rfl (by decide) ?_
        exact y_fg (zsb_c rfl (zsb_c rfl (zsb_c rfl (zsb_c rfl zsb_e)))) (ih (l3 + 1) V hB q7 h)
      · replace h := h.2 c
        refine z_aload_n Q_X11_findViews (k := 24) rfl rfl ?_
        refine z_getR (b := 622) Q_X11_findViews (k := 25) rfl F_X11_76 rfl (n_ hB.1 rfl) (k_602 hB.1) (r_602_32 hB.1) ?_
        refine z_iload_n Q_X11_findViews (k := 26) rfl rfl ?_
        refine z_aload_n Q_X11_findViews (k := 27) rfl rfl ?_
        refine z_getR (b := 612) Q_X11_findViews (k := 28) rfl F_X11_41 rfl (n_ hB.1 rfl) (k_602 hB.1) (r_602_10 hB.1) ?_
        refine z_iload_n Q_X11_findViews (k := 29) rfl rfl ?_
        obtain ⟨q8, h⟩ := h
        refine q_iald (o := 612) (N := 3) Q_X11_findViews (k := 30) rfl rfl (n_ hB.1 rfl) (k_612 hB.1) rfl q8 (by decide) ?_
        refine z_aload_n Q_X11_findViews (k := 31) rfl rfl ?_
        refine z_getR (b := 612) Q_X11_findViews (k := 32) rfl F_X11_41 rfl (n_ hB.1 rfl) (k_602 hB.1) (r_602_10 hB.1) ?_
        refine z_iload_n Q_X11_findViews (k := 33) rfl rfl ?_
        obtain ⟨q9, h⟩ := h
        refine q_iald (o := 612) (N := 3) Q_X11_findViews (k := 34) rfl rfl (n_ hB.1 rfl) (k_612 hB.1) rfl q9 (by decide) ?_
        refine y_ior Q_X11_findViews (k := 35) rfl ?_
        refine y_iand Q_X11_findViews (k := 36) rfl ?_
        refine y_iconst Q_X11_findViews (k := 37) rfl ?_
        obtain ⟨q10, h⟩ := h
        refine q_zast (o := 622) (N := 1024) Q_X11_findViews (k := 38) rfl rfl (n_ hB.1 rfl) (k_622 hB.1) rfl q10 (by decide) (Or.inr rfl) ?_
        have hB11 := qB.u (a := 622) (j := zand l3 (zor (V 612 l1) (V 612 l2))) (x := 1) hB ⟨by decide, by decide⟩ (Or.inl (by decide))
        obtain ⟨q12, h⟩ := h
        refine y_iinc (L' := [some (.ref 602), some (.int (iI l1)), some (.int (iI l2)), some (.int (iI (l3 + 1)))]) Q_X11_findViews (k := 39) rfl (by decide) rfl rfl ?_
        refine z_goto (tgt := 28) Q_X11_findViews (k := 40) rfl (by decide) ?_
        exact y_fg (zsb_c rfl (zsb_c rfl (zsb_c rfl (zsb_c rfl zsb_e)))) (ih (l3 + 1) (qu V 622 (zand l3 (zor (V 612 l1) (V 612 l2))) 1) hB11 q12 h)
set_option maxHeartbeats 4000000 in
set_option maxRecDepth 20000 in
theorem w_X11_findViews {S : zS} {V : qV} {J : qJ} {Q : qV → Prop} (d : Nat) (hB : qB S V) {a1 : Int} (z1 : zr a1) {a2 : Int} (z2 : zr a2) (h : W_X11_findViews a1 a2 V Q) : Z M_X11_findViews (d + 2) 0 0 0 [some (.ref 602), some (.int (iI a1)), some (.int (iI a2)), none] [] S (qi V) (qj J) (qP_uV S J Q) := by
  unfold W_X11_findViews at h
  refine z_aload_n Q_X11_findViews (k := 0) rfl rfl ?_
  refine q_callV0_uV Q_X11_findViews (k := 1) rfl rfl K_X11_findWorlds V_X11_findWorlds L_X11_213 (n_ hB.1 rfl) (k_602 hB.1) (Nat.le_of_ble_eq_true rfl) (Nat.le_of_ble_eq_true rfl) rfl (Nat.zero_le _) (Nat.zero_le _) (w_X11_findWorlds d hB  h) (fun V1 hB1 h => ?_)
  refine y_iconst Q_X11_findViews (k := 2) rfl ?_
  refine y_istore_n (L' := [some (.ref 602), some (.int (iI a1)), some (.int (iI a2)), some (.int (iI 0))]) Q_X11_findViews (k := 3) rfl (by decide) rfl ?_
  refine y_fg (zsb_c rfl (zsb_c rfl (zsb_c rfl (zsb_c rfl zsb_e)))) (v_X11_findViews_6 d z1 z2 (fun l3x5 V5 hB5 zl3x5 h => ?_) 100000 0 V1 hB1 ⟨by decide, by decide⟩ h)
  refine y_iconst Q_X11_findViews (k := 14) rfl ?_
  refine y_istore_n (L' := [some (.ref 602), some (.int (iI a1)), some (.int (iI a2)), some (.int (iI 0))]) Q_X11_findViews (k := 15) rfl (by decide) rfl ?_
  refine y_fg (zsb_c rfl (zsb_c rfl (zsb_c rfl (zsb_c rfl zsb_e)))) (v_X11_findViews_28 d z1 z2 (fun l3x13 V13 hB13 zl3x13 h => ?_) 100000 0 V5 hB5 ⟨by decide, by decide⟩ h)
  exact z_vret Q_X11_findViews (k := 41) rfl rfl (qI_uV hB13 h)
