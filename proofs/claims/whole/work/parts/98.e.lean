/-! the constructor of the reference -/
def by0 : bS := bnew 11 0 bx49
def by1 : bS := bnew 100 594 by0
def by2 : bS := bref 602 1 603 by1
def by3 : bS := bnew 100 4620 by2
def by4 : bS := bref 602 2 604 by3
def by5 : bS := bnew 100 4620 by4
def by6 : bS := bref 602 3 605 by5
def by7 : bS := bnew 100 36 by6
def by8 : bS := bref 602 4 606 by7
def by9 : bS := bnew 100 36 by8
def by10 : bS := bref 602 5 607 by9
def by11 : bS := bnew 100 36 by10
def by12 : bS := bref 602 6 608 by11
def by13 : bS := bnew 100 36 by12
def by14 : bS := bref 602 7 609 by13
def by15 : bS := bnew 100 3 by14
def by16 : bS := bref 602 8 610 by15
def by17 : bS := bnew 100 8 by16
def by18 : bS := bref 602 9 611 by17
def by19 : bS := bnew 100 3 by18
def by20 : bS := bref 602 10 612 by19
def by21 : bS := bint 602 20 (iI (-1)) by20
def by22 : bS := bnew 100 400 by21
def by23 : bS := bref 602 21 613 by22
def by24 : bS := bnew 100 10 by23
def by25 : bS := bref 602 22 614 by24
def by26 : bS := bnew 100 210 by25
def by27 : bS := bref 602 23 615 by26
def by28 : bS := bnew 103 1024 by27
def by29 : bS := bref 602 24 616 by28
def by30 : bS := bnew 100 1024 by29
def by31 : bS := bref 602 26 617 by30
def by32 : bS := bnew 100 1024 by31
def by33 : bS := bref 602 28 618 by32
def by34 : bS := bnew 100 59049 by33
def by35 : bS := bref 602 29 619 by34
def by36 : bS := bnew 100 59049 by35
def by37 : bS := bref 602 30 620 by36
def by38 : bS := bnew 100 10 by37
def by39 : bS := bint 621 0 (iI (1)) by38
def by40 : bS := bint 621 1 (iI (3)) by39
def by41 : bS := bint 621 2 (iI (9)) by40
def by42 : bS := bint 621 3 (iI (27)) by41
def by43 : bS := bint 621 4 (iI (81)) by42
def by44 : bS := bint 621 5 (iI (243)) by43
def by45 : bS := bint 621 6 (iI (729)) by44
def by46 : bS := bint 621 7 (iI (2187)) by45
def by47 : bS := bint 621 8 (iI (6561)) by46
def by48 : bS := bint 621 9 (iI (19683)) by47
def by49 : bS := bref 602 31 621 by48
def by50 : bS := bnew 103 1024 by49
def by51 : bS := bref 602 32 622 by50
def by52 : bS := bnew 100 1782 by51
def by53 : bS := bref 602 34 623 by52
def by54 : bS := bint 603 0 (iI (2)) by53
def by55 : bS := bint 603 10 (iI (5)) by54
def by56 : bS := bint 603 1 (iI (2)) by55
def by57 : bS := bint 603 11 (iI (5)) by56
def by58 : bS := bint 603 2 (iI (2)) by57
def by59 : bS := bint 603 12 (iI (5)) by58
def by60 : bS := bint 603 3 (iI (2)) by59
def by61 : bS := bint 603 13 (iI (5)) by60
def by62 : bS := bint 603 4 (iI (2)) by61
def by63 : bS := bint 603 14 (iI (5)) by62
def by64 : bS := bint 603 5 (iI (2)) by63
def by65 : bS := bint 603 15 (iI (5)) by64
def by66 : bS := bint 603 6 (iI (2)) by65
def by67 : bS := bint 603 16 (iI (5)) by66
def by68 : bS := bint 603 7 (iI (2)) by67
def by69 : bS := bint 603 17 (iI (5)) by68
def by70 : bS := bint 603 8 (iI (2)) by69
def by71 : bS := bint 603 18 (iI (5)) by70
def by72 : bS := bint 603 9 (iI (2)) by71
def by73 : bS := bint 603 19 (iI (5)) by72
def by74 : bS := bint 603 138 (iI (-1)) by73
def by75 : bS := bint 603 139 (iI (-1)) by74
def by76 : bS := bint 603 140 (iI (-1)) by75
def by77 : bS := bint 603 141 (iI (-1)) by76
theorem i_X11 {S0 S : zS} {I : zI} {J : zJ} (d : Nat) (h : bAt S0 by0 S I J) : Z M_X11_init d 21 134598 0 [some (.ref 602), none] [] S I J (bQ S0 by77) := by
  refine z_aload_n Q_X11_init (k := 0) rfl rfl ?_
  refine z_object Q_X11_init (k := 1) rfl L_X11_7 G_obj.1 G_obj.2 (by decide) ?_
  refine z_aload_n Q_X11_init (k := 2) rfl rfl ?_
  refine y_sipush Q_X11_init (k := 3) rfl (by decide) ?_
  refine b_newa (t := 0) (n := 594) h Q_X11_init (k := 4) rfl rfl rfl (by decide) A_int rfl (by decide) (by decide) (by decide) (by decide +kernel) (by decide +kernel) (by decide) (by decide) (fun S1 I1 J1 (h1 : bAt S0 by1 S1 I1 J1) => ?_)
  rw [show by0.1 = 603 by decide +kernel]
  refine b_putR h1 (bK_ (s := by1) (i := 602) (k := (11, 0)) (by decide +kernel)) (b := 603) (by decide +kernel) (by decide +kernel) Q_X11_init (k := 5) rfl F_X11_13 rfl (fun _ => rfl) (fun _ => rfl) (Or.inr ⟨rfl, rfl⟩) (fun S2 I2 J2 (h2 : bAt S0 by2 S2 I2 J2) => ?_)
  refine z_aload_n Q_X11_init (k := 6) rfl rfl ?_
  refine y_sipush Q_X11_init (k := 7) rfl (by decide) ?_
  refine b_newa (t := 0) (n := 4620) h2 Q_X11_init (k := 8) rfl rfl rfl (by decide) A_int rfl (by decide) (by decide) (by decide) (by decide +kernel) (by decide +kernel) (by decide) (by decide) (fun S3 I3 J3 (h3 : bAt S0 by3 S3 I3 J3) => ?_)
  rw [show by2.1 = 604 by decide +kernel]
  refine b_putR h3 (bK_ (s := by3) (i := 602) (k := (11, 0)) (by decide +kernel)) (b := 604) (by decide +kernel) (by decide +kernel) Q_X11_init (k := 9) rfl F_X11_17 rfl (fun _ => rfl) (fun _ => rfl) (Or.inr ⟨rfl, rfl⟩) (fun S4 I4 J4 (h4 : bAt S0 by4 S4 I4 J4) => ?_)
  refine z_aload_n Q_X11_init (k := 10) rfl rfl ?_
  refine y_sipush Q_X11_init (k := 11) rfl (by decide) ?_
  refine b_newa (t := 0) (n := 4620) h4 Q_X11_init (k := 12) rfl rfl rfl (by decide) A_int rfl (by decide) (by decide) (by decide) (by decide +kernel) (by decide +kernel) (by decide) (by decide) (fun S5 I5 J5 (h5 : bAt S0 by5 S5 I5 J5) => ?_)
  rw [show by4.1 = 605 by decide +kernel]
  refine b_putR h5 (bK_ (s := by5) (i := 602) (k := (11, 0)) (by decide +kernel)) (b := 605) (by decide +kernel) (by decide +kernel) Q_X11_init (k := 13) rfl F_X11_20 rfl (fun _ => rfl) (fun _ => rfl) (Or.inr ⟨rfl, rfl⟩) (fun S6 I6 J6 (h6 : bAt S0 by6 S6 I6 J6) => ?_)
  refine z_aload_n Q_X11_init (k := 14) rfl rfl ?_
  refine y_bipush Q_X11_init (k := 15) rfl (by decide) ?_
  refine b_newa (t := 0) (n := 36) h6 Q_X11_init (k := 16) rfl rfl rfl (by decide) A_int rfl (by decide) (by decide) (by decide) (by decide +kernel) (by decide +kernel) (by decide) (by decide) (fun S7 I7 J7 (h7 : bAt S0 by7 S7 I7 J7) => ?_)
  rw [show by6.1 = 606 by decide +kernel]
  refine b_putR h7 (bK_ (s := by7) (i := 602) (k := (11, 0)) (by decide +kernel)) (b := 606) (by decide +kernel) (by decide +kernel) Q_X11_init (k := 17) rfl F_X11_23 rfl (fun _ => rfl) (fun _ => rfl) (Or.inr ⟨rfl, rfl⟩) (fun S8 I8 J8 (h8 : bAt S0 by8 S8 I8 J8) => ?_)
  refine z_aload_n Q_X11_init (k := 18) rfl rfl ?_
  refine y_bipush Q_X11_init (k := 19) rfl (by decide) ?_
  refine b_newa (t := 0) (n := 36) h8 Q_X11_init (k := 20) rfl rfl rfl (by decide) A_int rfl (by decide) (by decide) (by decide) (by decide +kernel) (by decide +kernel) (by decide) (by decide) (fun S9 I9 J9 (h9 : bAt S0 by9 S9 I9 J9) => ?_)
  rw [show by8.1 = 607 by decide +kernel]
  refine b_putR h9 (bK_ (s := by9) (i := 602) (k := (11, 0)) (by decide +kernel)) (b := 607) (by decide +kernel) (by decide +kernel) Q_X11_init (k := 21) rfl F_X11_26 rfl (fun _ => rfl) (fun _ => rfl) (Or.inr ⟨rfl, rfl⟩) (fun S10 I10 J10 (h10 : bAt S0 by10 S10 I10 J10) => ?_)
  refine z_aload_n Q_X11_init (k := 22) rfl rfl ?_
  refine y_bipush Q_X11_init (k := 23) rfl (by decide) ?_
  refine b_newa (t := 0) (n := 36) h10 Q_X11_init (k := 24) rfl rfl rfl (by decide) A_int rfl (by decide) (by decide) (by decide) (by decide +kernel) (by decide +kernel) (by decide) (by decide) (fun S11 I11 J11 (h11 : bAt S0 by11 S11 I11 J11) => ?_)
  rw [show by10.1 = 608 by decide +kernel]
  refine b_putR h11 (bK_ (s := by11) (i := 602) (k := (11, 0)) (by decide +kernel)) (b := 608) (by decide +kernel) (by decide +kernel) Q_X11_init (k := 25) rfl F_X11_29 rfl (fun _ => rfl) (fun _ => rfl) (Or.inr ⟨rfl, rfl⟩) (fun S12 I12 J12 (h12 : bAt S0 by12 S12 I12 J12) => ?_)
  refine z_aload_n Q_X11_init (k := 26) rfl rfl ?_
  refine y_bipush Q_X11_init (k := 27) rfl (by decide) ?_
  refine b_newa (t := 0) (n := 36) h12 Q_X11_init (k := 28) rfl rfl rfl (by decide) A_int rfl (by decide) (by decide) (by decide) (by decide +kernel) (by decide +kernel) (by decide) (by decide) (fun S13 I13 J13 (h13 : bAt S0 by13 S13 I13 J13) => ?_)
  rw [show by12.1 = 609 by decide +kernel]
  refine b_putR h13 (bK_ (s := by13) (i := 602) (k := (11, 0)) (by decide +kernel)) (b := 609) (by decide +kernel) (by decide +kernel) Q_X11_init (k := 29) rfl F_X11_32 rfl (fun _ => rfl) (fun _ => rfl) (Or.inr ⟨rfl, rfl⟩) (fun S14 I14 J14 (h14 : bAt S0 by14 S14 I14 J14) => ?_)
  refine z_aload_n Q_X11_init (k := 30) rfl rfl ?_
  refine y_iconst Q_X11_init (k := 31) rfl ?_
  refine b_newa (t := 0) (n := 3) h14 Q_X11_init (k := 32) rfl rfl rfl (by decide) A_int rfl (by decide) (by decide) (by decide) (by decide +kernel) (by decide +kernel) (by decide) (by decide) (fun S15 I15 J15 (h15 : bAt S0 by15 S15 I15 J15) => ?_)
  rw [show by14.1 = 610 by decide +kernel]
  refine b_putR h15 (bK_ (s := by15) (i := 602) (k := (11, 0)) (by decide +kernel)) (b := 610) (by decide +kernel) (by decide +kernel) Q_X11_init (k := 33) rfl F_X11_35 rfl (fun _ => rfl) (fun _ => rfl) (Or.inr ⟨rfl, rfl⟩) (fun S16 I16 J16 (h16 : bAt S0 by16 S16 I16 J16) => ?_)
  refine z_aload_n Q_X11_init (k := 34) rfl rfl ?_
  refine y_bipush Q_X11_init (k := 35) rfl (by decide) ?_
  refine b_newa (t := 0) (n := 8) h16 Q_X11_init (k := 36) rfl rfl rfl (by decide) A_int rfl (by decide) (by decide) (by decide) (by decide +kernel) (by decide +kernel) (by decide) (by decide) (fun S17 I17 J17 (h17 : bAt S0 by17 S17 I17 J17) => ?_)
  rw [show by16.1 = 611 by decide +kernel]
  refine b_putR h17 (bK_ (s := by17) (i := 602) (k := (11, 0)) (by decide +kernel)) (b := 611) (by decide +kernel) (by decide +kernel) Q_X11_init (k := 37) rfl F_X11_38 rfl (fun _ => rfl) (fun _ => rfl) (Or.inr ⟨rfl, rfl⟩) (fun S18 I18 J18 (h18 : bAt S0 by18 S18 I18 J18) => ?_)
  refine z_aload_n Q_X11_init (k := 38) rfl rfl ?_
  refine y_iconst Q_X11_init (k := 39) rfl ?_
  refine b_newa (t := 0) (n := 3) h18 Q_X11_init (k := 40) rfl rfl rfl (by decide) A_int rfl (by decide) (by decide) (by decide) (by decide +kernel) (by decide +kernel) (by decide) (by decide) (fun S19 I19 J19 (h19 : bAt S0 by19 S19 I19 J19) => ?_)
  rw [show by18.1 = 612 by decide +kernel]
  refine b_putR h19 (bK_ (s := by19) (i := 602) (k := (11, 0)) (by decide +kernel)) (b := 612) (by decide +kernel) (by decide +kernel) Q_X11_init (k := 41) rfl F_X11_41 rfl (fun _ => rfl) (fun _ => rfl) (Or.inr ⟨rfl, rfl⟩) (fun S20 I20 J20 (h20 : bAt S0 by20 S20 I20 J20) => ?_)
  refine z_aload_n Q_X11_init (k := 42) rfl rfl ?_
  refine y_iconst Q_X11_init (k := 43) rfl ?_
  refine b_putI h20 (bK_ (s := by20) (i := 602) (k := (11, 0)) (by decide +kernel)) Q_X11_init (k := 44) rfl F_X11_44 rfl rfl rfl (fun S21 I21 J21 (h21 : bAt S0 by21 S21 I21 J21) => ?_)
  refine z_aload_n Q_X11_init (k := 45) rfl rfl ?_
  refine y_sipush Q_X11_init (k := 46) rfl (by decide) ?_
  refine b_newa (t := 0) (n := 400) h21 Q_X11_init (k := 47) rfl rfl rfl (by decide) A_int rfl (by decide) (by decide) (by decide) (by decide +kernel) (by decide +kernel) (by decide) (by decide) (fun S22 I22 J22 (h22 : bAt S0 by22 S22 I22 J22) => ?_)
  rw [show by21.1 = 613 by decide +kernel]
  refine b_putR h22 (bK_ (s := by22) (i := 602) (k := (11, 0)) (by decide +kernel)) (b := 613) (by decide +kernel) (by decide +kernel) Q_X11_init (k := 48) rfl F_X11_47 rfl (fun _ => rfl) (fun _ => rfl) (Or.inr ⟨rfl, rfl⟩) (fun S23 I23 J23 (h23 : bAt S0 by23 S23 I23 J23) => ?_)
  refine z_aload_n Q_X11_init (k := 49) rfl rfl ?_
  refine y_bipush Q_X11_init (k := 50) rfl (by decide) ?_
  refine b_newa (t := 0) (n := 10) h23 Q_X11_init (k := 51) rfl rfl rfl (by decide) A_int rfl (by decide) (by decide) (by decide) (by decide +kernel) (by decide +kernel) (by decide) (by decide) (fun S24 I24 J24 (h24 : bAt S0 by24 S24 I24 J24) => ?_)
  rw [show by23.1 = 614 by decide +kernel]
  refine b_putR h24 (bK_ (s := by24) (i := 602) (k := (11, 0)) (by decide +kernel)) (b := 614) (by decide +kernel) (by decide +kernel) Q_X11_init (k := 52) rfl F_X11_50 rfl (fun _ => rfl) (fun _ => rfl) (Or.inr ⟨rfl, rfl⟩) (fun S25 I25 J25 (h25 : bAt S0 by25 S25 I25 J25) => ?_)
  refine z_aload_n Q_X11_init (k := 53) rfl rfl ?_
  refine y_sipush Q_X11_init (k := 54) rfl (by decide) ?_
  refine b_newa (t := 0) (n := 210) h25 Q_X11_init (k := 55) rfl rfl rfl (by decide) A_int rfl (by decide) (by decide) (by decide) (by decide +kernel) (by decide +kernel) (by decide) (by decide) (fun S26 I26 J26 (h26 : bAt S0 by26 S26 I26 J26) => ?_)
  rw [show by25.1 = 615 by decide +kernel]
  refine b_putR h26 (bK_ (s := by26) (i := 602) (k := (11, 0)) (by decide +kernel)) (b := 615) (by decide +kernel) (by decide +kernel) Q_X11_init (k := 56) rfl F_X11_53 rfl (fun _ => rfl) (fun _ => rfl) (Or.inr ⟨rfl, rfl⟩) (fun S27 I27 J27 (h27 : bAt S0 by27 S27 I27 J27) => ?_)
  refine z_aload_n Q_X11_init (k := 57) rfl rfl ?_
  refine y_sipush Q_X11_init (k := 58) rfl (by decide) ?_
  refine b_newa (t := 3) (n := 1024) h27 Q_X11_init (k := 59) rfl rfl rfl (by decide) A_boolean rfl (by decide) (by decide) (by decide) (by decide +kernel) (by decide +kernel) (by decide) (by decide) (fun S28 I28 J28 (h28 : bAt S0 by28 S28 I28 J28) => ?_)
  rw [show by27.1 = 616 by decide +kernel]
  refine b_putR h28 (bK_ (s := by28) (i := 602) (k := (11, 0)) (by decide +kernel)) (b := 616) (by decide +kernel) (by decide +kernel) Q_X11_init (k := 60) rfl F_X11_56 rfl (fun _ => rfl) (fun _ => rfl) (Or.inr ⟨rfl, rfl⟩) (fun S29 I29 J29 (h29 : bAt S0 by29 S29 I29 J29) => ?_)
  refine z_aload_n Q_X11_init (k := 61) rfl rfl ?_
  refine y_sipush Q_X11_init (k := 62) rfl (by decide) ?_
  refine b_newa (t := 0) (n := 1024) h29 Q_X11_init (k := 63) rfl rfl rfl (by decide) A_int rfl (by decide) (by decide) (by decide) (by decide +kernel) (by decide +kernel) (by decide) (by decide) (fun S30 I30 J30 (h30 : bAt S0 by30 S30 I30 J30) => ?_)
  rw [show by29.1 = 617 by decide +kernel]
  refine b_putR h30 (bK_ (s := by30) (i := 602) (k := (11, 0)) (by decide +kernel)) (b := 617) (by decide +kernel) (by decide +kernel) Q_X11_init (k := 64) rfl F_X11_60 rfl (fun _ => rfl) (fun _ => rfl) (Or.inr ⟨rfl, rfl⟩) (fun S31 I31 J31 (h31 : bAt S0 by31 S31 I31 J31) => ?_)
  refine z_aload_n Q_X11_init (k := 65) rfl rfl ?_
  refine y_sipush Q_X11_init (k := 66) rfl (by decide) ?_
  refine b_newa (t := 0) (n := 1024) h31 Q_X11_init (k := 67) rfl rfl rfl (by decide) A_int rfl (by decide) (by decide) (by decide) (by decide +kernel) (by decide +kernel) (by decide) (by decide) (fun S32 I32 J32 (h32 : bAt S0 by32 S32 I32 J32) => ?_)
  rw [show by31.1 = 618 by decide +kernel]
  refine b_putR h32 (bK_ (s := by32) (i := 602) (k := (11, 0)) (by decide +kernel)) (b := 618) (by decide +kernel) (by decide +kernel) Q_X11_init (k := 68) rfl F_X11_63 rfl (fun _ => rfl) (fun _ => rfl) (Or.inr ⟨rfl, rfl⟩) (fun S33 I33 J33 (h33 : bAt S0 by33 S33 I33 J33) => ?_)
  refine z_aload_n Q_X11_init (k := 69) rfl rfl ?_
  refine z_ldc Q_X11_init (k := 70) rfl cC_X11_66 ?_
  refine b_newa (t := 0) (n := 59049) h33 Q_X11_init (k := 71) rfl rfl rfl (by decide) A_int rfl (by decide) (by decide) (by decide) (by decide +kernel) (by decide +kernel) (by decide) (by decide) (fun S34 I34 J34 (h34 : bAt S0 by34 S34 I34 J34) => ?_)
  rw [show by33.1 = 619 by decide +kernel]
  refine b_putR h34 (bK_ (s := by34) (i := 602) (k := (11, 0)) (by decide +kernel)) (b := 619) (by decide +kernel) (by decide +kernel) Q_X11_init (k := 72) rfl F_X11_67 rfl (fun _ => rfl) (fun _ => rfl) (Or.inr ⟨rfl, rfl⟩) (fun S35 I35 J35 (h35 : bAt S0 by35 S35 I35 J35) => ?_)
  refine z_aload_n Q_X11_init (k := 73) rfl rfl ?_
  refine z_ldc Q_X11_init (k := 74) rfl cC_X11_66 ?_
  refine b_newa (t := 0) (n := 59049) h35 Q_X11_init (k := 75) rfl rfl rfl (by decide) A_int rfl (by decide) (by decide) (by decide) (by decide +kernel) (by decide +kernel) (by decide) (by decide) (fun S36 I36 J36 (h36 : bAt S0 by36 S36 I36 J36) => ?_)
  rw [show by35.1 = 620 by decide +kernel]
  refine b_putR h36 (bK_ (s := by36) (i := 602) (k := (11, 0)) (by decide +kernel)) (b := 620) (by decide +kernel) (by decide +kernel) Q_X11_init (k := 76) rfl F_X11_70 rfl (fun _ => rfl) (fun _ => rfl) (Or.inr ⟨rfl, rfl⟩) (fun S37 I37 J37 (h37 : bAt S0 by37 S37 I37 J37) => ?_)
  refine z_aload_n Q_X11_init (k := 77) rfl rfl ?_
  refine y_bipush Q_X11_init (k := 78) rfl (by decide) ?_
  refine b_newa (t := 0) (n := 10) h37 Q_X11_init (k := 79) rfl rfl rfl (by decide) A_int rfl (by decide) (by decide) (by decide) (by decide +kernel) (by decide +kernel) (by decide) (by decide) (fun S38 I38 J38 (h38 : bAt S0 by38 S38 I38 J38) => ?_)
  rw [show by37.1 = 621 by decide +kernel]
  refine z_dup Q_X11_init (k := 80) rfl rfl ?_
  refine y_iconst Q_X11_init (k := 81) rfl ?_
  refine y_iconst Q_X11_init (k := 82) rfl ?_
  refine b_iast (j := 0) h38 (bK_ (s := by38) (i := 621) (k := (100, 10)) (by decide +kernel)) Q_X11_init (k := 83) rfl (by decide) (by decide) (by decide) (fun S39 I39 J39 (h39 : bAt S0 by39 S39 I39 J39) => ?_)
  refine z_dup Q_X11_init (k := 84) rfl rfl ?_
  refine y_iconst Q_X11_init (k := 85) rfl ?_
  refine y_iconst Q_X11_init (k := 86) rfl ?_
  refine b_iast (j := 1) h39 (bK_ (s := by39) (i := 621) (k := (100, 10)) (by decide +kernel)) Q_X11_init (k := 87) rfl (by decide) (by decide) (by decide) (fun S40 I40 J40 (h40 : bAt S0 by40 S40 I40 J40) => ?_)
  refine z_dup Q_X11_init (k := 88) rfl rfl ?_
  refine y_iconst Q_X11_init (k := 89) rfl ?_
  refine y_bipush Q_X11_init (k := 90) rfl (by decide) ?_
  refine b_iast (j := 2) h40 (bK_ (s := by40) (i := 621) (k := (100, 10)) (by decide +kernel)) Q_X11_init (k := 91) rfl (by decide) (by decide) (by decide) (fun S41 I41 J41 (h41 : bAt S0 by41 S41 I41 J41) => ?_)
  refine z_dup Q_X11_init (k := 92) rfl rfl ?_
  refine y_iconst Q_X11_init (k := 93) rfl ?_
  refine y_bipush Q_X11_init (k := 94) rfl (by decide) ?_
  refine b_iast (j := 3) h41 (bK_ (s := by41) (i := 621) (k := (100, 10)) (by decide +kernel)) Q_X11_init (k := 95) rfl (by decide) (by decide) (by decide) (fun S42 I42 J42 (h42 : bAt S0 by42 S42 I42 J42) => ?_)
  refine z_dup Q_X11_init (k := 96) rfl rfl ?_
  refine y_iconst Q_X11_init (k := 97) rfl ?_
  refine y_bipush Q_X11_init (k := 98) rfl (by decide) ?_
  refine b_iast (j := 4) h42 (bK_ (s := by42) (i := 621) (k := (100, 10)) (by decide +kernel)) Q_X11_init (k := 99) rfl (by decide) (by decide) (by decide) (fun S43 I43 J43 (h43 : bAt S0 by43 S43 I43 J43) => ?_)
  refine z_dup Q_X11_init (k := 100) rfl rfl ?_
  refine y_iconst Q_X11_init (k := 101) rfl ?_
  refine y_sipush Q_X11_init (k := 102) rfl (by decide) ?_
  refine b_iast (j := 5) h43 (bK_ (s := by43) (i := 621) (k := (100, 10)) (by decide +kernel)) Q_X11_init (k := 103) rfl (by decide) (by decide) (by decide) (fun S44 I44 J44 (h44 : bAt S0 by44 S44 I44 J44) => ?_)
  refine z_dup Q_X11_init (k := 104) rfl rfl ?_
  refine y_bipush Q_X11_init (k := 105) rfl (by decide) ?_
  refine y_sipush Q_X11_init (k := 106) rfl (by decide) ?_
  refine b_iast (j := 6) h44 (bK_ (s := by44) (i := 621) (k := (100, 10)) (by decide +kernel)) Q_X11_init (k := 107) rfl (by decide) (by decide) (by decide) (fun S45 I45 J45 (h45 : bAt S0 by45 S45 I45 J45) => ?_)
  refine z_dup Q_X11_init (k := 108) rfl rfl ?_
  refine y_bipush Q_X11_init (k := 109) rfl (by decide) ?_
  refine y_sipush Q_X11_init (k := 110) rfl (by decide) ?_
  refine b_iast (j := 7) h45 (bK_ (s := by45) (i := 621) (k := (100, 10)) (by decide +kernel)) Q_X11_init (k := 111) rfl (by decide) (by decide) (by decide) (fun S46 I46 J46 (h46 : bAt S0 by46 S46 I46 J46) => ?_)
  refine z_dup Q_X11_init (k := 112) rfl rfl ?_
  refine y_bipush Q_X11_init (k := 113) rfl (by decide) ?_
  refine y_sipush Q_X11_init (k := 114) rfl (by decide) ?_
  refine b_iast (j := 8) h46 (bK_ (s := by46) (i := 621) (k := (100, 10)) (by decide +kernel)) Q_X11_init (k := 115) rfl (by decide) (by decide) (by decide) (fun S47 I47 J47 (h47 : bAt S0 by47 S47 I47 J47) => ?_)
  refine z_dup Q_X11_init (k := 116) rfl rfl ?_
  refine y_bipush Q_X11_init (k := 117) rfl (by decide) ?_
  refine y_sipush Q_X11_init (k := 118) rfl (by decide) ?_
  refine b_iast (j := 9) h47 (bK_ (s := by47) (i := 621) (k := (100, 10)) (by decide +kernel)) Q_X11_init (k := 119) rfl (by decide) (by decide) (by decide) (fun S48 I48 J48 (h48 : bAt S0 by48 S48 I48 J48) => ?_)
  refine b_putR h48 (bK_ (s := by48) (i := 602) (k := (11, 0)) (by decide +kernel)) (b := 621) (by decide +kernel) (by decide +kernel) Q_X11_init (k := 120) rfl F_X11_73 rfl (fun _ => rfl) (fun _ => rfl) (Or.inr ⟨rfl, rfl⟩) (fun S49 I49 J49 (h49 : bAt S0 by49 S49 I49 J49) => ?_)
  refine z_aload_n Q_X11_init (k := 121) rfl rfl ?_
  refine y_sipush Q_X11_init (k := 122) rfl (by decide) ?_
  refine b_newa (t := 3) (n := 1024) h49 Q_X11_init (k := 123) rfl rfl rfl (by decide) A_boolean rfl (by decide) (by decide) (by decide) (by decide +kernel) (by decide +kernel) (by decide) (by decide) (fun S50 I50 J50 (h50 : bAt S0 by50 S50 I50 J50) => ?_)
  rw [show by49.1 = 622 by decide +kernel]
  refine b_putR h50 (bK_ (s := by50) (i := 602) (k := (11, 0)) (by decide +kernel)) (b := 622) (by decide +kernel) (by decide +kernel) Q_X11_init (k := 124) rfl F_X11_76 rfl (fun _ => rfl) (fun _ => rfl) (Or.inr ⟨rfl, rfl⟩) (fun S51 I51 J51 (h51 : bAt S0 by51 S51 I51 J51) => ?_)
  refine z_aload_n Q_X11_init (k := 125) rfl rfl ?_
  refine y_sipush Q_X11_init (k := 126) rfl (by decide) ?_
  refine b_newa (t := 0) (n := 1782) h51 Q_X11_init (k := 127) rfl rfl rfl (by decide) A_int rfl (by decide) (by decide) (by decide) (by decide +kernel) (by decide +kernel) (by decide) (by decide) (fun S52 I52 J52 (h52 : bAt S0 by52 S52 I52 J52) => ?_)
  rw [show by51.1 = 623 by decide +kernel]
  refine b_putR h52 (bK_ (s := by52) (i := 602) (k := (11, 0)) (by decide +kernel)) (b := 623) (by decide +kernel) (by decide +kernel) Q_X11_init (k := 128) rfl F_X11_79 rfl (fun _ => rfl) (fun _ => rfl) (Or.inr ⟨rfl, rfl⟩) (fun S53 I53 J53 (h53 : bAt S0 by53 S53 I53 J53) => ?_)
  refine y_iconst Q_X11_init (k := 129) rfl ?_
  refine y_istore_n (L' := [some (.ref 602), some (.int (iI 0))]) Q_X11_init (k := 130) rfl (by decide) rfl ?_
  refine z_iload_n Q_X11_init (k := 131) rfl rfl ?_
  refine y_bipush Q_X11_init (k := 132) rfl (by decide) ?_
  refine y_icmp_ge 275 Q_X11_init (k := 133) rfl (by decide) ⟨by decide, by decide⟩ ⟨by decide, by decide⟩ (fun e => absurd e (by decide)) (fun _ => ?_)
  refine z_aload_n Q_X11_init (k := 134) rfl rfl ?_
  refine b_getR (b := 603) h53 (bK_ (s := by53) (i := 602) (k := (11, 0)) (by decide +kernel)) (bR_ (s := by53) (i := 602) (f := 1) (b := 603) (by decide +kernel)) Q_X11_init (k := 135) rfl F_X11_13 rfl ?_
  refine y_iconst Q_X11_init (k := 136) rfl ?_
  refine z_iload_n Q_X11_init (k := 137) rfl rfl ?_
  refine y_iadd Q_X11_init (k := 138) rfl ?_
  refine y_iconst Q_X11_init (k := 139) rfl ?_
  refine b_iast (j := 0) h53 (bK_ (s := by53) (i := 603) (k := (100, 594)) (by decide +kernel)) Q_X11_init (k := 140) rfl (by decide) (by decide) (by decide) (fun S54 I54 J54 (h54 : bAt S0 by54 S54 I54 J54) => ?_)
  refine z_aload_n Q_X11_init (k := 141) rfl rfl ?_
  refine b_getR (b := 603) h54 (bK_ (s := by54) (i := 602) (k := (11, 0)) (by decide +kernel)) (bR_ (s := by54) (i := 602) (f := 1) (b := 603) (by decide +kernel)) Q_X11_init (k := 142) rfl F_X11_13 rfl ?_
  refine y_bipush Q_X11_init (k := 143) rfl (by decide) ?_
  refine z_iload_n Q_X11_init (k := 144) rfl rfl ?_
  refine y_iadd Q_X11_init (k := 145) rfl ?_
  refine y_iconst Q_X11_init (k := 146) rfl ?_
  refine b_iast (j := 10) h54 (bK_ (s := by54) (i := 603) (k := (100, 594)) (by decide +kernel)) Q_X11_init (k := 147) rfl (by decide) (by decide) (by decide) (fun S55 I55 J55 (h55 : bAt S0 by55 S55 I55 J55) => ?_)
  refine y_iinc (L' := [some (.ref 602), some (.int (iI 1))]) Q_X11_init (k := 148) rfl (by decide) rfl rfl ?_
  refine z_goto Q_X11_init (k := 149) (tgt := 244) rfl (by decide) ?_
  refine z_iload_n Q_X11_init (k := 131) rfl rfl ?_
  refine y_bipush Q_X11_init (k := 132) rfl (by decide) ?_
  refine y_icmp_ge 275 Q_X11_init (k := 133) rfl (by decide) ⟨by decide, by decide⟩ ⟨by decide, by decide⟩ (fun e => absurd e (by decide)) (fun _ => ?_)
  refine z_aload_n Q_X11_init (k := 134) rfl rfl ?_
  refine b_getR (b := 603) h55 (bK_ (s := by55) (i := 602) (k := (11, 0)) (by decide +kernel)) (bR_ (s := by55) (i := 602) (f := 1) (b := 603) (by decide +kernel)) Q_X11_init (k := 135) rfl F_X11_13 rfl ?_
  refine y_iconst Q_X11_init (k := 136) rfl ?_
  refine z_iload_n Q_X11_init (k := 137) rfl rfl ?_
  refine y_iadd Q_X11_init (k := 138) rfl ?_
  refine y_iconst Q_X11_init (k := 139) rfl ?_
  refine b_iast (j := 1) h55 (bK_ (s := by55) (i := 603) (k := (100, 594)) (by decide +kernel)) Q_X11_init (k := 140) rfl (by decide) (by decide) (by decide) (fun S56 I56 J56 (h56 : bAt S0 by56 S56 I56 J56) => ?_)
  refine z_aload_n Q_X11_init (k := 141) rfl rfl ?_
  refine b_getR (b := 603) h56 (bK_ (s := by56) (i := 602) (k := (11, 0)) (by decide +kernel)) (bR_ (s := by56) (i := 602) (f := 1) (b := 603) (by decide +kernel)) Q_X11_init (k := 142) rfl F_X11_13 rfl ?_
  refine y_bipush Q_X11_init (k := 143) rfl (by decide) ?_
  refine z_iload_n Q_X11_init (k := 144) rfl rfl ?_
  refine y_iadd Q_X11_init (k := 145) rfl ?_
  refine y_iconst Q_X11_init (k := 146) rfl ?_
  refine b_iast (j := 11) h56 (bK_ (s := by56) (i := 603) (k := (100, 594)) (by decide +kernel)) Q_X11_init (k := 147) rfl (by decide) (by decide) (by decide) (fun S57 I57 J57 (h57 : bAt S0 by57 S57 I57 J57) => ?_)
  refine y_iinc (L' := [some (.ref 602), some (.int (iI 2))]) Q_X11_init (k := 148) rfl (by decide) rfl rfl ?_
  refine z_goto Q_X11_init (k := 149) (tgt := 244) rfl (by decide) ?_
  refine z_iload_n Q_X11_init (k := 131) rfl rfl ?_
  refine y_bipush Q_X11_init (k := 132) rfl (by decide) ?_
  refine y_icmp_ge 275 Q_X11_init (k := 133) rfl (by decide) ⟨by decide, by decide⟩ ⟨by decide, by decide⟩ (fun e => absurd e (by decide)) (fun _ => ?_)
  refine z_aload_n Q_X11_init (k := 134) rfl rfl ?_
  refine b_getR (b := 603) h57 (bK_ (s := by57) (i := 602) (k := (11, 0)) (by decide +kernel)) (bR_ (s := by57) (i := 602) (f := 1) (b := 603) (by decide +kernel)) Q_X11_init (k := 135) rfl F_X11_13 rfl ?_
  refine y_iconst Q_X11_init (k := 136) rfl ?_
  refine z_iload_n Q_X11_init (k := 137) rfl rfl ?_
  refine y_iadd Q_X11_init (k := 138) rfl ?_
  refine y_iconst Q_X11_init (k := 139) rfl ?_
  refine b_iast (j := 2) h57 (bK_ (s := by57) (i := 603) (k := (100, 594)) (by decide +kernel)) Q_X11_init (k := 140) rfl (by decide) (by decide) (by decide) (fun S58 I58 J58 (h58 : bAt S0 by58 S58 I58 J58) => ?_)
  refine z_aload_n Q_X11_init (k := 141) rfl rfl ?_
  refine b_getR (b := 603) h58 (bK_ (s := by58) (i := 602) (k := (11, 0)) (by decide +kernel)) (bR_ (s := by58) (i := 602) (f := 1) (b := 603) (by decide +kernel)) Q_X11_init (k := 142) rfl F_X11_13 rfl ?_
  refine y_bipush Q_X11_init (k := 143) rfl (by decide) ?_
  refine z_iload_n Q_X11_init (k := 144) rfl rfl ?_
  refine y_iadd Q_X11_init (k := 145) rfl ?_
  refine y_iconst Q_X11_init (k := 146) rfl ?_
  refine b_iast (j := 12) h58 (bK_ (s := by58) (i := 603) (k := (100, 594)) (by decide +kernel)) Q_X11_init (k := 147) rfl (by decide) (by decide) (by decide) (fun S59 I59 J59 (h59 : bAt S0 by59 S59 I59 J59) => ?_)
  refine y_iinc (L' := [some (.ref 602), some (.int (iI 3))]) Q_X11_init (k := 148) rfl (by decide) rfl rfl ?_
  refine z_goto Q_X11_init (k := 149) (tgt := 244) rfl (by decide) ?_
  refine z_iload_n Q_X11_init (k := 131) rfl rfl ?_
  refine y_bipush Q_X11_init (k := 132) rfl (by decide) ?_
  refine y_icmp_ge 275 Q_X11_init (k := 133) rfl (by decide) ⟨by decide, by decide⟩ ⟨by decide, by decide⟩ (fun e => absurd e (by decide)) (fun _ => ?_)
  refine z_aload_n Q_X11_init (k := 134) rfl rfl ?_
  refine b_getR (b := 603) h59 (bK_ (s := by59) (i := 602) (k := (11, 0)) (by decide +kernel)) (bR_ (s := by59) (i := 602) (f := 1) (b := 603) (by decide +kernel)) Q_X11_init (k := 135) rfl F_X11_13 rfl ?_
  refine y_iconst Q_X11_init (k := 136) rfl ?_
  refine z_iload_n Q_X11_init (k := 137) rfl rfl ?_
  refine y_iadd Q_X11_init (k := 138) rfl ?_
  refine y_iconst Q_X11_init (k := 139) rfl ?_
  refine b_iast (j := 3) h59 (bK_ (s := by59) (i := 603) (k := (100, 594)) (by decide +kernel)) Q_X11_init (k := 140) rfl (by decide) (by decide) (by decide) (fun S60 I60 J60 (h60 : bAt S0 by60 S60 I60 J60) => ?_)
  refine z_aload_n Q_X11_init (k := 141) rfl rfl ?_
  refine b_getR (b := 603) h60 (bK_ (s := by60) (i := 602) (k := (11, 0)) (by decide +kernel)) (bR_ (s := by60) (i := 602) (f := 1) (b := 603) (by decide +kernel)) Q_X11_init (k := 142) rfl F_X11_13 rfl ?_
  refine y_bipush Q_X11_init (k := 143) rfl (by decide) ?_
  refine z_iload_n Q_X11_init (k := 144) rfl rfl ?_
  refine y_iadd Q_X11_init (k := 145) rfl ?_
  refine y_iconst Q_X11_init (k := 146) rfl ?_
  refine b_iast (j := 13) h60 (bK_ (s := by60) (i := 603) (k := (100, 594)) (by decide +kernel)) Q_X11_init (k := 147) rfl (by decide) (by decide) (by decide) (fun S61 I61 J61 (h61 : bAt S0 by61 S61 I61 J61) => ?_)
  refine y_iinc (L' := [some (.ref 602), some (.int (iI 4))]) Q_X11_init (k := 148) rfl (by decide) rfl rfl ?_
  refine z_goto Q_X11_init (k := 149) (tgt := 244) rfl (by decide) ?_
  refine z_iload_n Q_X11_init (k := 131) rfl rfl ?_
  refine y_bipush Q_X11_init (k := 132) rfl (by decide) ?_
  refine y_icmp_ge 275 Q_X11_init (k := 133) rfl (by decide) ⟨by decide, by decide⟩ ⟨by decide, by decide⟩ (fun e => absurd e (by decide)) (fun _ => ?_)
  refine z_aload_n Q_X11_init (k := 134) rfl rfl ?_
  refine b_getR (b := 603) h61 (bK_ (s := by61) (i := 602) (k := (11, 0)) (by decide +kernel)) (bR_ (s := by61) (i := 602) (f := 1) (b := 603) (by decide +kernel)) Q_X11_init (k := 135) rfl F_X11_13 rfl ?_
  refine y_iconst Q_X11_init (k := 136) rfl ?_
  refine z_iload_n Q_X11_init (k := 137) rfl rfl ?_
  refine y_iadd Q_X11_init (k := 138) rfl ?_
  refine y_iconst Q_X11_init (k := 139) rfl ?_
  refine b_iast (j := 4) h61 (bK_ (s := by61) (i := 603) (k := (100, 594)) (by decide +kernel)) Q_X11_init (k := 140) rfl (by decide) (by decide) (by decide) (fun S62 I62 J62 (h62 : bAt S0 by62 S62 I62 J62) => ?_)
  refine z_aload_n Q_X11_init (k := 141) rfl rfl ?_
  refine b_getR (b := 603) h62 (bK_ (s := by62) (i := 602) (k := (11, 0)) (by decide +kernel)) (bR_ (s := by62) (i := 602) (f := 1) (b := 603) (by decide +kernel)) Q_X11_init (k := 142) rfl F_X11_13 rfl ?_
  refine y_bipush Q_X11_init (k := 143) rfl (by decide) ?_
  refine z_iload_n Q_X11_init (k := 144) rfl rfl ?_
  refine y_iadd Q_X11_init (k := 145) rfl ?_
  refine y_iconst Q_X11_init (k := 146) rfl ?_
  refine b_iast (j := 14) h62 (bK_ (s := by62) (i := 603) (k := (100, 594)) (by decide +kernel)) Q_X11_init (k := 147) rfl (by decide) (by decide) (by decide) (fun S63 I63 J63 (h63 : bAt S0 by63 S63 I63 J63) => ?_)
  refine y_iinc (L' := [some (.ref 602), some (.int (iI 5))]) Q_X11_init (k := 148) rfl (by decide) rfl rfl ?_
  refine z_goto Q_X11_init (k := 149) (tgt := 244) rfl (by decide) ?_
  refine z_iload_n Q_X11_init (k := 131) rfl rfl ?_
  refine y_bipush Q_X11_init (k := 132) rfl (by decide) ?_
  refine y_icmp_ge 275 Q_X11_init (k := 133) rfl (by decide) ⟨by decide, by decide⟩ ⟨by decide, by decide⟩ (fun e => absurd e (by decide)) (fun _ => ?_)
  refine z_aload_n Q_X11_init (k := 134) rfl rfl ?_
  refine b_getR (b := 603) h63 (bK_ (s := by63) (i := 602) (k := (11, 0)) (by decide +kernel)) (bR_ (s := by63) (i := 602) (f := 1) (b := 603) (by decide +kernel)) Q_X11_init (k := 135) rfl F_X11_13 rfl ?_
  refine y_iconst Q_X11_init (k := 136) rfl ?_
  refine z_iload_n Q_X11_init (k := 137) rfl rfl ?_
  refine y_iadd Q_X11_init (k := 138) rfl ?_
  refine y_iconst Q_X11_init (k := 139) rfl ?_
  refine b_iast (j := 5) h63 (bK_ (s := by63) (i := 603) (k := (100, 594)) (by decide +kernel)) Q_X11_init (k := 140) rfl (by decide) (by decide) (by decide) (fun S64 I64 J64 (h64 : bAt S0 by64 S64 I64 J64) => ?_)
  refine z_aload_n Q_X11_init (k := 141) rfl rfl ?_
  refine b_getR (b := 603) h64 (bK_ (s := by64) (i := 602) (k := (11, 0)) (by decide +kernel)) (bR_ (s := by64) (i := 602) (f := 1) (b := 603) (by decide +kernel)) Q_X11_init (k := 142) rfl F_X11_13 rfl ?_
  refine y_bipush Q_X11_init (k := 143) rfl (by decide) ?_
  refine z_iload_n Q_X11_init (k := 144) rfl rfl ?_
  refine y_iadd Q_X11_init (k := 145) rfl ?_
  refine y_iconst Q_X11_init (k := 146) rfl ?_
  refine b_iast (j := 15) h64 (bK_ (s := by64) (i := 603) (k := (100, 594)) (by decide +kernel)) Q_X11_init (k := 147) rfl (by decide) (by decide) (by decide) (fun S65 I65 J65 (h65 : bAt S0 by65 S65 I65 J65) => ?_)
  refine y_iinc (L' := [some (.ref 602), some (.int (iI 6))]) Q_X11_init (k := 148) rfl (by decide) rfl rfl ?_
  refine z_goto Q_X11_init (k := 149) (tgt := 244) rfl (by decide) ?_
  refine z_iload_n Q_X11_init (k := 131) rfl rfl ?_
  refine y_bipush Q_X11_init (k := 132) rfl (by decide) ?_
  refine y_icmp_ge 275 Q_X11_init (k := 133) rfl (by decide) ⟨by decide, by decide⟩ ⟨by decide, by decide⟩ (fun e => absurd e (by decide)) (fun _ => ?_)
  refine z_aload_n Q_X11_init (k := 134) rfl rfl ?_
  refine b_getR (b := 603) h65 (bK_ (s := by65) (i := 602) (k := (11, 0)) (by decide +kernel)) (bR_ (s := by65) (i := 602) (f := 1) (b := 603) (by decide +kernel)) Q_X11_init (k := 135) rfl F_X11_13 rfl ?_
  refine y_iconst Q_X11_init (k := 136) rfl ?_
  refine z_iload_n Q_X11_init (k := 137) rfl rfl ?_
  refine y_iadd Q_X11_init (k := 138) rfl ?_
  refine y_iconst Q_X11_init (k := 139) rfl ?_
  refine b_iast (j := 6) h65 (bK_ (s := by65) (i := 603) (k := (100, 594)) (by decide +kernel)) Q_X11_init (k := 140) rfl (by decide) (by decide) (by decide) (fun S66 I66 J66 (h66 : bAt S0 by66 S66 I66 J66) => ?_)
  refine z_aload_n Q_X11_init (k := 141) rfl rfl ?_
  refine b_getR (b := 603) h66 (bK_ (s := by66) (i := 602) (k := (11, 0)) (by decide +kernel)) (bR_ (s := by66) (i := 602) (f := 1) (b := 603) (by decide +kernel)) Q_X11_init (k := 142) rfl F_X11_13 rfl ?_
  refine y_bipush Q_X11_init (k := 143) rfl (by decide) ?_
  refine z_iload_n Q_X11_init (k := 144) rfl rfl ?_
  refine y_iadd Q_X11_init (k := 145) rfl ?_
  refine y_iconst Q_X11_init (k := 146) rfl ?_
  refine b_iast (j := 16) h66 (bK_ (s := by66) (i := 603) (k := (100, 594)) (by decide +kernel)) Q_X11_init (k := 147) rfl (by decide) (by decide) (by decide) (fun S67 I67 J67 (h67 : bAt S0 by67 S67 I67 J67) => ?_)
  refine y_iinc (L' := [some (.ref 602), some (.int (iI 7))]) Q_X11_init (k := 148) rfl (by decide) rfl rfl ?_
  refine z_goto Q_X11_init (k := 149) (tgt := 244) rfl (by decide) ?_
  refine z_iload_n Q_X11_init (k := 131) rfl rfl ?_
  refine y_bipush Q_X11_init (k := 132) rfl (by decide) ?_
  refine y_icmp_ge 275 Q_X11_init (k := 133) rfl (by decide) ⟨by decide, by decide⟩ ⟨by decide, by decide⟩ (fun e => absurd e (by decide)) (fun _ => ?_)
  refine z_aload_n Q_X11_init (k := 134) rfl rfl ?_
  refine b_getR (b := 603) h67 (bK_ (s := by67) (i := 602) (k := (11, 0)) (by decide +kernel)) (bR_ (s := by67) (i := 602) (f := 1) (b := 603) (by decide +kernel)) Q_X11_init (k := 135) rfl F_X11_13 rfl ?_
  refine y_iconst Q_X11_init (k := 136) rfl ?_
  refine z_iload_n Q_X11_init (k := 137) rfl rfl ?_
  refine y_iadd Q_X11_init (k := 138) rfl ?_
  refine y_iconst Q_X11_init (k := 139) rfl ?_
  refine b_iast (j := 7) h67 (bK_ (s := by67) (i := 603) (k := (100, 594)) (by decide +kernel)) Q_X11_init (k := 140) rfl (by decide) (by decide) (by decide) (fun S68 I68 J68 (h68 : bAt S0 by68 S68 I68 J68) => ?_)
  refine z_aload_n Q_X11_init (k := 141) rfl rfl ?_
  refine b_getR (b := 603) h68 (bK_ (s := by68) (i := 602) (k := (11, 0)) (by decide +kernel)) (bR_ (s := by68) (i := 602) (f := 1) (b := 603) (by decide +kernel)) Q_X11_init (k := 142) rfl F_X11_13 rfl ?_
  refine y_bipush Q_X11_init (k := 143) rfl (by decide) ?_
  refine z_iload_n Q_X11_init (k := 144) rfl rfl ?_
  refine y_iadd Q_X11_init (k := 145) rfl ?_
  refine y_iconst Q_X11_init (k := 146) rfl ?_
  refine b_iast (j := 17) h68 (bK_ (s := by68) (i := 603) (k := (100, 594)) (by decide +kernel)) Q_X11_init (k := 147) rfl (by decide) (by decide) (by decide) (fun S69 I69 J69 (h69 : bAt S0 by69 S69 I69 J69) => ?_)
  refine y_iinc (L' := [some (.ref 602), some (.int (iI 8))]) Q_X11_init (k := 148) rfl (by decide) rfl rfl ?_
  refine z_goto Q_X11_init (k := 149) (tgt := 244) rfl (by decide) ?_
  refine z_iload_n Q_X11_init (k := 131) rfl rfl ?_
  refine y_bipush Q_X11_init (k := 132) rfl (by decide) ?_
  refine y_icmp_ge 275 Q_X11_init (k := 133) rfl (by decide) ⟨by decide, by decide⟩ ⟨by decide, by decide⟩ (fun e => absurd e (by decide)) (fun _ => ?_)
  refine z_aload_n Q_X11_init (k := 134) rfl rfl ?_
  refine b_getR (b := 603) h69 (bK_ (s := by69) (i := 602) (k := (11, 0)) (by decide +kernel)) (bR_ (s := by69) (i := 602) (f := 1) (b := 603) (by decide +kernel)) Q_X11_init (k := 135) rfl F_X11_13 rfl ?_
  refine y_iconst Q_X11_init (k := 136) rfl ?_
  refine z_iload_n Q_X11_init (k := 137) rfl rfl ?_
  refine y_iadd Q_X11_init (k := 138) rfl ?_
  refine y_iconst Q_X11_init (k := 139) rfl ?_
  refine b_iast (j := 8) h69 (bK_ (s := by69) (i := 603) (k := (100, 594)) (by decide +kernel)) Q_X11_init (k := 140) rfl (by decide) (by decide) (by decide) (fun S70 I70 J70 (h70 : bAt S0 by70 S70 I70 J70) => ?_)
  refine z_aload_n Q_X11_init (k := 141) rfl rfl ?_
  refine b_getR (b := 603) h70 (bK_ (s := by70) (i := 602) (k := (11, 0)) (by decide +kernel)) (bR_ (s := by70) (i := 602) (f := 1) (b := 603) (by decide +kernel)) Q_X11_init (k := 142) rfl F_X11_13 rfl ?_
  refine y_bipush Q_X11_init (k := 143) rfl (by decide) ?_
  refine z_iload_n Q_X11_init (k := 144) rfl rfl ?_
  refine y_iadd Q_X11_init (k := 145) rfl ?_
  refine y_iconst Q_X11_init (k := 146) rfl ?_
  refine b_iast (j := 18) h70 (bK_ (s := by70) (i := 603) (k := (100, 594)) (by decide +kernel)) Q_X11_init (k := 147) rfl (by decide) (by decide) (by decide) (fun S71 I71 J71 (h71 : bAt S0 by71 S71 I71 J71) => ?_)
  refine y_iinc (L' := [some (.ref 602), some (.int (iI 9))]) Q_X11_init (k := 148) rfl (by decide) rfl rfl ?_
  refine z_goto Q_X11_init (k := 149) (tgt := 244) rfl (by decide) ?_
  refine z_iload_n Q_X11_init (k := 131) rfl rfl ?_
  refine y_bipush Q_X11_init (k := 132) rfl (by decide) ?_
  refine y_icmp_ge 275 Q_X11_init (k := 133) rfl (by decide) ⟨by decide, by decide⟩ ⟨by decide, by decide⟩ (fun e => absurd e (by decide)) (fun _ => ?_)
  refine z_aload_n Q_X11_init (k := 134) rfl rfl ?_
  refine b_getR (b := 603) h71 (bK_ (s := by71) (i := 602) (k := (11, 0)) (by decide +kernel)) (bR_ (s := by71) (i := 602) (f := 1) (b := 603) (by decide +kernel)) Q_X11_init (k := 135) rfl F_X11_13 rfl ?_
  refine y_iconst Q_X11_init (k := 136) rfl ?_
  refine z_iload_n Q_X11_init (k := 137) rfl rfl ?_
  refine y_iadd Q_X11_init (k := 138) rfl ?_
  refine y_iconst Q_X11_init (k := 139) rfl ?_
  refine b_iast (j := 9) h71 (bK_ (s := by71) (i := 603) (k := (100, 594)) (by decide +kernel)) Q_X11_init (k := 140) rfl (by decide) (by decide) (by decide) (fun S72 I72 J72 (h72 : bAt S0 by72 S72 I72 J72) => ?_)
  refine z_aload_n Q_X11_init (k := 141) rfl rfl ?_
  refine b_getR (b := 603) h72 (bK_ (s := by72) (i := 602) (k := (11, 0)) (by decide +kernel)) (bR_ (s := by72) (i := 602) (f := 1) (b := 603) (by decide +kernel)) Q_X11_init (k := 142) rfl F_X11_13 rfl ?_
  refine y_bipush Q_X11_init (k := 143) rfl (by decide) ?_
  refine z_iload_n Q_X11_init (k := 144) rfl rfl ?_
  refine y_iadd Q_X11_init (k := 145) rfl ?_
  refine y_iconst Q_X11_init (k := 146) rfl ?_
  refine b_iast (j := 19) h72 (bK_ (s := by72) (i := 603) (k := (100, 594)) (by decide +kernel)) Q_X11_init (k := 147) rfl (by decide) (by decide) (by decide) (fun S73 I73 J73 (h73 : bAt S0 by73 S73 I73 J73) => ?_)
  refine y_iinc (L' := [some (.ref 602), some (.int (iI 10))]) Q_X11_init (k := 148) rfl (by decide) rfl rfl ?_
  refine z_goto Q_X11_init (k := 149) (tgt := 244) rfl (by decide) ?_
  refine z_iload_n Q_X11_init (k := 131) rfl rfl ?_
  refine y_bipush Q_X11_init (k := 132) rfl (by decide) ?_
  refine y_icmp_ge 275 Q_X11_init (k := 133) rfl (by decide) ⟨by decide, by decide⟩ ⟨by decide, by decide⟩ (fun _ => ?_) (fun e => absurd (by decide) e)
  refine y_iconst Q_X11_init (k := 150) rfl ?_
  refine y_istore_n (L' := [some (.ref 602), some (.int (iI 0))]) Q_X11_init (k := 151) rfl (by decide) rfl ?_
  refine z_iload_n Q_X11_init (k := 152) rfl rfl ?_
  refine y_iconst Q_X11_init (k := 153) rfl ?_
  refine y_icmp_ge 299 Q_X11_init (k := 154) rfl (by decide) ⟨by decide, by decide⟩ ⟨by decide, by decide⟩ (fun e => absurd e (by decide)) (fun _ => ?_)
  refine z_aload_n Q_X11_init (k := 155) rfl rfl ?_
  refine b_getR (b := 603) h73 (bK_ (s := by73) (i := 602) (k := (11, 0)) (by decide +kernel)) (bR_ (s := by73) (i := 602) (f := 1) (b := 603) (by decide +kernel)) Q_X11_init (k := 156) rfl F_X11_13 rfl ?_
  refine y_sipush Q_X11_init (k := 157) rfl (by decide) ?_
  refine z_iload_n Q_X11_init (k := 158) rfl rfl ?_
  refine y_iadd Q_X11_init (k := 159) rfl ?_
  refine y_iconst Q_X11_init (k := 160) rfl ?_
  refine b_iast (j := 138) h73 (bK_ (s := by73) (i := 603) (k := (100, 594)) (by decide +kernel)) Q_X11_init (k := 161) rfl (by decide) (by decide) (by decide) (fun S74 I74 J74 (h74 : bAt S0 by74 S74 I74 J74) => ?_)
  refine y_iinc (L' := [some (.ref 602), some (.int (iI 1))]) Q_X11_init (k := 162) rfl (by decide) rfl rfl ?_
  refine z_goto Q_X11_init (k := 163) (tgt := 277) rfl (by decide) ?_
  refine z_iload_n Q_X11_init (k := 152) rfl rfl ?_
  refine y_iconst Q_X11_init (k := 153) rfl ?_
  refine y_icmp_ge 299 Q_X11_init (k := 154) rfl (by decide) ⟨by decide, by decide⟩ ⟨by decide, by decide⟩ (fun e => absurd e (by decide)) (fun _ => ?_)
  refine z_aload_n Q_X11_init (k := 155) rfl rfl ?_
  refine b_getR (b := 603) h74 (bK_ (s := by74) (i := 602) (k := (11, 0)) (by decide +kernel)) (bR_ (s := by74) (i := 602) (f := 1) (b := 603) (by decide +kernel)) Q_X11_init (k := 156) rfl F_X11_13 rfl ?_
  refine y_sipush Q_X11_init (k := 157) rfl (by decide) ?_
  refine z_iload_n Q_X11_init (k := 158) rfl rfl ?_
  refine y_iadd Q_X11_init (k := 159) rfl ?_
  refine y_iconst Q_X11_init (k := 160) rfl ?_
  refine b_iast (j := 139) h74 (bK_ (s := by74) (i := 603) (k := (100, 594)) (by decide +kernel)) Q_X11_init (k := 161) rfl (by decide) (by decide) (by decide) (fun S75 I75 J75 (h75 : bAt S0 by75 S75 I75 J75) => ?_)
  refine y_iinc (L' := [some (.ref 602), some (.int (iI 2))]) Q_X11_init (k := 162) rfl (by decide) rfl rfl ?_
  refine z_goto Q_X11_init (k := 163) (tgt := 277) rfl (by decide) ?_
  refine z_iload_n Q_X11_init (k := 152) rfl rfl ?_
  refine y_iconst Q_X11_init (k := 153) rfl ?_
  refine y_icmp_ge 299 Q_X11_init (k := 154) rfl (by decide) ⟨by decide, by decide⟩ ⟨by decide, by decide⟩ (fun e => absurd e (by decide)) (fun _ => ?_)
  refine z_aload_n Q_X11_init (k := 155) rfl rfl ?_
  refine b_getR (b := 603) h75 (bK_ (s := by75) (i := 602) (k := (11, 0)) (by decide +kernel)) (bR_ (s := by75) (i := 602) (f := 1) (b := 603) (by decide +kernel)) Q_X11_init (k := 156) rfl F_X11_13 rfl ?_
  refine y_sipush Q_X11_init (k := 157) rfl (by decide) ?_
  refine z_iload_n Q_X11_init (k := 158) rfl rfl ?_
  refine y_iadd Q_X11_init (k := 159) rfl ?_
  refine y_iconst Q_X11_init (k := 160) rfl ?_
  refine b_iast (j := 140) h75 (bK_ (s := by75) (i := 603) (k := (100, 594)) (by decide +kernel)) Q_X11_init (k := 161) rfl (by decide) (by decide) (by decide) (fun S76 I76 J76 (h76 : bAt S0 by76 S76 I76 J76) => ?_)
  refine y_iinc (L' := [some (.ref 602), some (.int (iI 3))]) Q_X11_init (k := 162) rfl (by decide) rfl rfl ?_
  refine z_goto Q_X11_init (k := 163) (tgt := 277) rfl (by decide) ?_
  refine z_iload_n Q_X11_init (k := 152) rfl rfl ?_
  refine y_iconst Q_X11_init (k := 153) rfl ?_
  refine y_icmp_ge 299 Q_X11_init (k := 154) rfl (by decide) ⟨by decide, by decide⟩ ⟨by decide, by decide⟩ (fun e => absurd e (by decide)) (fun _ => ?_)
  refine z_aload_n Q_X11_init (k := 155) rfl rfl ?_
  refine b_getR (b := 603) h76 (bK_ (s := by76) (i := 602) (k := (11, 0)) (by decide +kernel)) (bR_ (s := by76) (i := 602) (f := 1) (b := 603) (by decide +kernel)) Q_X11_init (k := 156) rfl F_X11_13 rfl ?_
  refine y_sipush Q_X11_init (k := 157) rfl (by decide) ?_
  refine z_iload_n Q_X11_init (k := 158) rfl rfl ?_
  refine y_iadd Q_X11_init (k := 159) rfl ?_
  refine y_iconst Q_X11_init (k := 160) rfl ?_
  refine b_iast (j := 141) h76 (bK_ (s := by76) (i := 603) (k := (100, 594)) (by decide +kernel)) Q_X11_init (k := 161) rfl (by decide) (by decide) (by decide) (fun S77 I77 J77 (h77 : bAt S0 by77 S77 I77 J77) => ?_)
  refine y_iinc (L' := [some (.ref 602), some (.int (iI 4))]) Q_X11_init (k := 162) rfl (by decide) rfl rfl ?_
  refine z_goto Q_X11_init (k := 163) (tgt := 277) rfl (by decide) ?_
  refine z_iload_n Q_X11_init (k := 152) rfl rfl ?_
  refine y_iconst Q_X11_init (k := 153) rfl ?_
  refine y_icmp_ge 299 Q_X11_init (k := 154) rfl (by decide) ⟨by decide, by decide⟩ ⟨by decide, by decide⟩ (fun _ => ?_) (fun e => absurd (by decide) e)
  exact z_vret Q_X11_init (k := 164) rfl rfl ⟨rfl, h77⟩
