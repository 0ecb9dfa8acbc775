/-! the constructor of the class -/
theorem bK_ {s : bS} {i : Nat} {k : Nat × Nat} (h : al1 s.2.1 i = some k) : bK s i k := h
theorem bR_ {s : bS} {i f b : Nat} (h : al2 s.2.2.1 i f = some b) : bR s i f b := h
def bw0 : bS := (0, [], [], [], [])
def bx0 : bS := bnew 10 0 bw0
def bx1 : bS := bnew 6 0 bx0
def bx2 : bS := c_X6 1 bx1
def bx3 : bS := bref 0 0 1 bx2
def bx4 : bS := bnew 104 3 bx3
def bx5 : bS := bref 0 1 11 bx4
def bx6 : bS := bnew 8 0 bx5
def bx7 : bS := c_X8 12 bx6
def bx8 : bS := bref 0 3 12 bx7
def bx9 : bS := bnew 105 3 bx8
def bx10 : bS := bref 0 4 150 bx9
def bx11 : bS := bnew 2 0 bx10
def bx12 : bS := c_X2 151 bx11
def bx13 : bS := bref 0 6 151 bx12
def bx14 : bS := bnew 9 0 bx13
def bx15 : bS := c_X9 155 bx14
def bx16 : bS := bref 0 7 155 bx15
def bx17 : bS := bnew 9 0 bx16
def bx18 : bS := c_X9 157 bx17
def bx19 : bS := bref 0 8 157 bx18
def bx20 : bS := bnew 7 0 bx19
def bx21 : bS := c_X7 159 bx20
def bx22 : bS := bref 0 9 159 bx21
def bx23 : bS := bnew 101 16 bx22
def bx24 : bS := bref 0 10 166 bx23
def bx25 : bS := bnew 101 1024 bx24
def bx26 : bS := bref 0 11 167 bx25
def bx27 : bS := bnew 100 10 bx26
def bx28 : bS := bref 0 12 168 bx27
def bx29 : bS := bnew 1 0 bx28
def bx30 : bS := c_X1 169 bx29
def bx31 : bS := bref 0 13 169 bx30
def bx32 : bS := bnew 3 0 bx31
def bx33 : bS := c_X3 173 bx32
def bx34 : bS := bref 11 0 173 bx33
def bx35 : bS := bnew 3 0 bx34
def bx36 : bS := c_X3 178 bx35
def bx37 : bS := bref 11 1 178 bx36
def bx38 : bS := bnew 3 0 bx37
def bx39 : bS := c_X3 183 bx38
def bx40 : bS := bref 11 2 183 bx39
def bx41 : bS := bnew 8 0 bx40
def bx42 : bS := c_X8 188 bx41
def bx43 : bS := bref 150 0 188 bx42
def bx44 : bS := bnew 8 0 bx43
def bx45 : bS := c_X8 326 bx44
def bx46 : bS := bref 150 1 326 bx45
def bx47 : bS := bnew 8 0 bx46
def bx48 : bS := c_X8 464 bx47
def bx49 : bS := bref 150 2 464 bx48
theorem i_X10 {S0 S : zS} {I : zI} {J : zJ} (d : Nat) (h : bAt S0 bx0 S I J) : Z M_X10_init (d + 2) 601 10046 0 [some (.ref 0), none] [] S I J (bQ S0 bx49) := by
  refine z_aload_n Q_X10_init (k := 0) rfl rfl ?_
  refine z_object Q_X10_init (k := 1) rfl L_X10_3 G_obj.1 G_obj.2 (by decide) ?_
  refine z_aload_n Q_X10_init (k := 2) rfl rfl ?_
  refine b_new h Q_X10_init (k := 3) rfl CK_6 (by decide) C_X10_9 N_X6 J_X6 (by decide +kernel) (by decide +kernel) (by decide) (by decide) (fun S1 I1 J1 (h1 : bAt S0 bx1 S1 I1 J1) => ?_)
  rw [show bx0.1 = 1 by decide +kernel]
  refine z_dup Q_X10_init (k := 4) rfl rfl ?_
  refine b_call (s' := bx2) h1 Q_X10_init (k := 5) rfl rfl K_X6_init rfl rfl I_X6_init L_X10_11 (Nat.le_of_ble_eq_true rfl) rfl (Nat.le_of_ble_eq_true rfl) (show 9 ≤ _ by decide) (show 2046 ≤ _ by decide) (by decide +kernel) (i_X6 _ h1 (bK_ (s := bx1) (i := 1) (k := (6, 0)) (by decide +kernel)) (by decide +kernel)) (fun S2 I2 J2 (h2 : bAt S0 bx2 S2 I2 J2) => ?_)
  refine b_putR h2 (bK_ (s := bx2) (i := 0) (k := (10, 0)) (by decide +kernel)) (b := 1) (by decide +kernel) (by decide +kernel) Q_X10_init (k := 6) rfl F_X10_12 rfl (fun _ => rfl) (fun _ => rfl) (Or.inr ⟨rfl, rfl⟩) (fun S3 I3 J3 (h3 : bAt S0 bx3 S3 I3 J3) => ?_)
  refine z_aload_n Q_X10_init (k := 7) rfl rfl ?_
  refine y_iconst Q_X10_init (k := 8) rfl ?_
  refine b_newq (t := 4) (n := 3) h3 Q_X10_init (k := 9) rfl rfl (by decide) (by decide) C_X10_16 (by decide) (by decide) (by decide +kernel) (by decide +kernel) (by decide) (by decide) (fun S4 I4 J4 (h4 : bAt S0 bx4 S4 I4 J4) => ?_)
  rw [show bx3.1 = 11 by decide +kernel]
  refine b_putR h4 (bK_ (s := bx4) (i := 0) (k := (10, 0)) (by decide +kernel)) (b := 11) (by decide +kernel) (by decide +kernel) Q_X10_init (k := 10) rfl F_X10_18 rfl (fun _ => rfl) (fun _ => rfl) (Or.inr ⟨rfl, rfl⟩) (fun S5 I5 J5 (h5 : bAt S0 bx5 S5 I5 J5) => ?_)
  refine z_aload_n Q_X10_init (k := 11) rfl rfl ?_
  refine b_new h5 Q_X10_init (k := 12) rfl CK_8 (by decide) C_X10_22 N_X8 J_X8 (by decide +kernel) (by decide +kernel) (by decide) (by decide) (fun S6 I6 J6 (h6 : bAt S0 bx6 S6 I6 J6) => ?_)
  rw [show bx5.1 = 12 by decide +kernel]
  refine z_dup Q_X10_init (k := 13) rfl rfl ?_
  refine b_call (s' := bx7) h6 Q_X10_init (k := 14) rfl rfl K_X8_init rfl rfl I_X8_init L_X10_24 (Nat.le_of_ble_eq_true rfl) rfl (Nat.le_of_ble_eq_true rfl) (show 137 ≤ _ by decide) (show 740 ≤ _ by decide) (by decide +kernel) (i_X8 _ h6 (bK_ (s := bx6) (i := 12) (k := (8, 0)) (by decide +kernel)) (by decide +kernel)) (fun S7 I7 J7 (h7 : bAt S0 bx7 S7 I7 J7) => ?_)
  refine b_putR h7 (bK_ (s := bx7) (i := 0) (k := (10, 0)) (by decide +kernel)) (b := 12) (by decide +kernel) (by decide +kernel) Q_X10_init (k := 15) rfl F_X10_25 rfl (fun _ => rfl) (fun _ => rfl) (Or.inr ⟨rfl, rfl⟩) (fun S8 I8 J8 (h8 : bAt S0 bx8 S8 I8 J8) => ?_)
  refine z_aload_n Q_X10_init (k := 16) rfl rfl ?_
  refine y_iconst Q_X10_init (k := 17) rfl ?_
  refine b_newq (t := 5) (n := 3) h8 Q_X10_init (k := 18) rfl rfl (by decide) (by decide) C_X10_22 (by decide) (by decide) (by decide +kernel) (by decide +kernel) (by decide) (by decide) (fun S9 I9 J9 (h9 : bAt S0 bx9 S9 I9 J9) => ?_)
  rw [show bx8.1 = 150 by decide +kernel]
  refine b_putR h9 (bK_ (s := bx9) (i := 0) (k := (10, 0)) (by decide +kernel)) (b := 150) (by decide +kernel) (by decide +kernel) Q_X10_init (k := 19) rfl F_X10_29 rfl (fun _ => rfl) (fun _ => rfl) (Or.inr ⟨rfl, rfl⟩) (fun S10 I10 J10 (h10 : bAt S0 bx10 S10 I10 J10) => ?_)
  refine z_aload_n Q_X10_init (k := 20) rfl rfl ?_
  refine b_new h10 Q_X10_init (k := 21) rfl CK_2 (by decide) C_X10_33 N_X2 J_X2 (by decide +kernel) (by decide +kernel) (by decide) (by decide) (fun S11 I11 J11 (h11 : bAt S0 bx11 S11 I11 J11) => ?_)
  rw [show bx10.1 = 151 by decide +kernel]
  refine z_dup Q_X10_init (k := 22) rfl rfl ?_
  refine b_call (s' := bx12) h11 Q_X10_init (k := 23) rfl rfl K_X2_init rfl rfl I_X2_init L_X10_35 (Nat.le_of_ble_eq_true rfl) rfl (Nat.le_of_ble_eq_true rfl) (show 3 ≤ _ by decide) (show 288 ≤ _ by decide) (by decide +kernel) (i_X2 _ h11 (bK_ (s := bx11) (i := 151) (k := (2, 0)) (by decide +kernel)) (by decide +kernel)) (fun S12 I12 J12 (h12 : bAt S0 bx12 S12 I12 J12) => ?_)
  refine b_putR h12 (bK_ (s := bx12) (i := 0) (k := (10, 0)) (by decide +kernel)) (b := 151) (by decide +kernel) (by decide +kernel) Q_X10_init (k := 24) rfl F_X10_36 rfl (fun _ => rfl) (fun _ => rfl) (Or.inr ⟨rfl, rfl⟩) (fun S13 I13 J13 (h13 : bAt S0 bx13 S13 I13 J13) => ?_)
  refine z_aload_n Q_X10_init (k := 25) rfl rfl ?_
  refine b_new h13 Q_X10_init (k := 26) rfl CK_9 (by decide) C_X10_40 N_X9 J_X9 (by decide +kernel) (by decide +kernel) (by decide) (by decide) (fun S14 I14 J14 (h14 : bAt S0 bx14 S14 I14 J14) => ?_)
  rw [show bx13.1 = 155 by decide +kernel]
  refine z_dup Q_X10_init (k := 27) rfl rfl ?_
  refine b_call (s' := bx15) h14 Q_X10_init (k := 28) rfl rfl K_X9_init rfl rfl I_X9_init L_X10_42 (Nat.le_of_ble_eq_true rfl) rfl (Nat.le_of_ble_eq_true rfl) (show 1 ≤ _ by decide) (show 80 ≤ _ by decide) (by decide +kernel) (i_X9 _ h14 (bK_ (s := bx14) (i := 155) (k := (9, 0)) (by decide +kernel)) (by decide +kernel)) (fun S15 I15 J15 (h15 : bAt S0 bx15 S15 I15 J15) => ?_)
  refine b_putR h15 (bK_ (s := bx15) (i := 0) (k := (10, 0)) (by decide +kernel)) (b := 155) (by decide +kernel) (by decide +kernel) Q_X10_init (k := 29) rfl F_X10_43 rfl (fun _ => rfl) (fun _ => rfl) (Or.inr ⟨rfl, rfl⟩) (fun S16 I16 J16 (h16 : bAt S0 bx16 S16 I16 J16) => ?_)
  refine z_aload_n Q_X10_init (k := 30) rfl rfl ?_
  refine b_new h16 Q_X10_init (k := 31) rfl CK_9 (by decide) C_X10_40 N_X9 J_X9 (by decide +kernel) (by decide +kernel) (by decide) (by decide) (fun S17 I17 J17 (h17 : bAt S0 bx17 S17 I17 J17) => ?_)
  rw [show bx16.1 = 157 by decide +kernel]
  refine z_dup Q_X10_init (k := 32) rfl rfl ?_
  refine b_call (s' := bx18) h17 Q_X10_init (k := 33) rfl rfl K_X9_init rfl rfl I_X9_init L_X10_42 (Nat.le_of_ble_eq_true rfl) rfl (Nat.le_of_ble_eq_true rfl) (show 1 ≤ _ by decide) (show 80 ≤ _ by decide) (by decide +kernel) (i_X9 _ h17 (bK_ (s := bx17) (i := 157) (k := (9, 0)) (by decide +kernel)) (by decide +kernel)) (fun S18 I18 J18 (h18 : bAt S0 bx18 S18 I18 J18) => ?_)
  refine b_putR h18 (bK_ (s := bx18) (i := 0) (k := (10, 0)) (by decide +kernel)) (b := 157) (by decide +kernel) (by decide +kernel) Q_X10_init (k := 34) rfl F_X10_47 rfl (fun _ => rfl) (fun _ => rfl) (Or.inr ⟨rfl, rfl⟩) (fun S19 I19 J19 (h19 : bAt S0 bx19 S19 I19 J19) => ?_)
  refine z_aload_n Q_X10_init (k := 35) rfl rfl ?_
  refine b_new h19 Q_X10_init (k := 36) rfl CK_7 (by decide) C_X10_50 N_X7 J_X7 (by decide +kernel) (by decide +kernel) (by decide) (by decide) (fun S20 I20 J20 (h20 : bAt S0 bx20 S20 I20 J20) => ?_)
  rw [show bx19.1 = 159 by decide +kernel]
  refine z_dup Q_X10_init (k := 37) rfl rfl ?_
  refine b_call (s' := bx21) h20 Q_X10_init (k := 38) rfl rfl K_X7_init rfl rfl I_X7_init L_X10_52 (Nat.le_of_ble_eq_true rfl) rfl (Nat.le_of_ble_eq_true rfl) (show 6 ≤ _ by decide) (show 2079 ≤ _ by decide) (by decide +kernel) (i_X7 _ h20 (bK_ (s := bx20) (i := 159) (k := (7, 0)) (by decide +kernel)) (by decide +kernel)) (fun S21 I21 J21 (h21 : bAt S0 bx21 S21 I21 J21) => ?_)
  refine b_putR h21 (bK_ (s := bx21) (i := 0) (k := (10, 0)) (by decide +kernel)) (b := 159) (by decide +kernel) (by decide +kernel) Q_X10_init (k := 39) rfl F_X10_53 rfl (fun _ => rfl) (fun _ => rfl) (Or.inr ⟨rfl, rfl⟩) (fun S22 I22 J22 (h22 : bAt S0 bx22 S22 I22 J22) => ?_)
  refine z_aload_n Q_X10_init (k := 40) rfl rfl ?_
  refine y_bipush Q_X10_init (k := 41) rfl (by decide) ?_
  refine b_newa (t := 1) (n := 16) h22 Q_X10_init (k := 42) rfl rfl rfl (by decide) A_long rfl (by decide) (by decide) (by decide) (by decide +kernel) (by decide +kernel) (by decide) (by decide) (fun S23 I23 J23 (h23 : bAt S0 bx23 S23 I23 J23) => ?_)
  rw [show bx22.1 = 166 by decide +kernel]
  refine b_putR h23 (bK_ (s := bx23) (i := 0) (k := (10, 0)) (by decide +kernel)) (b := 166) (by decide +kernel) (by decide +kernel) Q_X10_init (k := 43) rfl F_X10_57 rfl (fun _ => rfl) (fun _ => rfl) (Or.inr ⟨rfl, rfl⟩) (fun S24 I24 J24 (h24 : bAt S0 bx24 S24 I24 J24) => ?_)
  refine z_aload_n Q_X10_init (k := 44) rfl rfl ?_
  refine y_sipush Q_X10_init (k := 45) rfl (by decide) ?_
  refine b_newa (t := 1) (n := 1024) h24 Q_X10_init (k := 46) rfl rfl rfl (by decide) A_long rfl (by decide) (by decide) (by decide) (by decide +kernel) (by decide +kernel) (by decide) (by decide) (fun S25 I25 J25 (h25 : bAt S0 bx25 S25 I25 J25) => ?_)
  rw [show bx24.1 = 167 by decide +kernel]
  refine b_putR h25 (bK_ (s := bx25) (i := 0) (k := (10, 0)) (by decide +kernel)) (b := 167) (by decide +kernel) (by decide +kernel) Q_X10_init (k := 47) rfl F_X10_61 rfl (fun _ => rfl) (fun _ => rfl) (Or.inr ⟨rfl, rfl⟩) (fun S26 I26 J26 (h26 : bAt S0 bx26 S26 I26 J26) => ?_)
  refine z_aload_n Q_X10_init (k := 48) rfl rfl ?_
  refine y_bipush Q_X10_init (k := 49) rfl (by decide) ?_
  refine b_newa (t := 0) (n := 10) h26 Q_X10_init (k := 50) rfl rfl rfl (by decide) A_int rfl (by decide) (by decide) (by decide) (by decide +kernel) (by decide +kernel) (by decide) (by decide) (fun S27 I27 J27 (h27 : bAt S0 bx27 S27 I27 J27) => ?_)
  rw [show bx26.1 = 168 by decide +kernel]
  refine b_putR h27 (bK_ (s := bx27) (i := 0) (k := (10, 0)) (by decide +kernel)) (b := 168) (by decide +kernel) (by decide +kernel) Q_X10_init (k := 51) rfl F_X10_64 rfl (fun _ => rfl) (fun _ => rfl) (Or.inr ⟨rfl, rfl⟩) (fun S28 I28 J28 (h28 : bAt S0 bx28 S28 I28 J28) => ?_)
  refine z_aload_n Q_X10_init (k := 52) rfl rfl ?_
  refine b_new h28 Q_X10_init (k := 53) rfl CK_1 (by decide) C_X10_68 N_X1 J_X1 (by decide +kernel) (by decide +kernel) (by decide) (by decide) (fun S29 I29 J29 (h29 : bAt S0 bx29 S29 I29 J29) => ?_)
  rw [show bx28.1 = 169 by decide +kernel]
  refine z_dup Q_X10_init (k := 54) rfl rfl ?_
  refine b_call (s' := bx30) h29 Q_X10_init (k := 55) rfl rfl K_X1_init rfl rfl I_X1_init L_X10_70 (Nat.le_of_ble_eq_true rfl) rfl (Nat.le_of_ble_eq_true rfl) (show 3 ≤ _ by decide) (show 18 ≤ _ by decide) (by decide +kernel) (i_X1 _ h29 (bK_ (s := bx29) (i := 169) (k := (1, 0)) (by decide +kernel)) (by decide +kernel)) (fun S30 I30 J30 (h30 : bAt S0 bx30 S30 I30 J30) => ?_)
  refine b_putR h30 (bK_ (s := bx30) (i := 0) (k := (10, 0)) (by decide +kernel)) (b := 169) (by decide +kernel) (by decide +kernel) Q_X10_init (k := 56) rfl F_X10_71 rfl (fun _ => rfl) (fun _ => rfl) (Or.inr ⟨rfl, rfl⟩) (fun S31 I31 J31 (h31 : bAt S0 bx31 S31 I31 J31) => ?_)
  refine y_iconst Q_X10_init (k := 57) rfl ?_
  refine y_istore_n (L' := [some (.ref 0), some (.int (iI 0))]) Q_X10_init (k := 58) rfl (by decide) rfl ?_
  refine z_iload_n Q_X10_init (k := 59) rfl rfl ?_
  refine y_iconst Q_X10_init (k := 60) rfl ?_
  refine y_icmp_ge 148 Q_X10_init (k := 61) rfl (by decide) ⟨by decide, by decide⟩ ⟨by decide, by decide⟩ (fun e => absurd e (by decide)) (fun _ => ?_)
  refine z_aload_n Q_X10_init (k := 62) rfl rfl ?_
  refine b_getR (b := 11) h31 (bK_ (s := bx31) (i := 0) (k := (10, 0)) (by decide +kernel)) (bR_ (s := bx31) (i := 0) (f := 1) (b := 11) (by decide +kernel)) Q_X10_init (k := 63) rfl F_X10_18 rfl ?_
  refine z_iload_n Q_X10_init (k := 64) rfl rfl ?_
  refine b_new h31 Q_X10_init (k := 65) rfl CK_3 (by decide) C_X10_16 N_X3 J_X3 (by decide +kernel) (by decide +kernel) (by decide) (by decide) (fun S32 I32 J32 (h32 : bAt S0 bx32 S32 I32 J32) => ?_)
  rw [show bx31.1 = 173 by decide +kernel]
  refine z_dup Q_X10_init (k := 66) rfl rfl ?_
  refine b_call (s' := bx33) h32 Q_X10_init (k := 67) rfl rfl K_X3_init rfl rfl I_X3_init L_X10_75 (Nat.le_of_ble_eq_true rfl) rfl (Nat.le_of_ble_eq_true rfl) (show 4 ≤ _ by decide) (show 436 ≤ _ by decide) (by decide +kernel) (i_X3 _ h32 (bK_ (s := bx32) (i := 173) (k := (3, 0)) (by decide +kernel)) (by decide +kernel)) (fun S33 I33 J33 (h33 : bAt S0 bx33 S33 I33 J33) => ?_)
  refine b_aast (t := 4) (n := 3) (j := 0) h33 (bK_ (s := bx33) (i := 11) (k := (104, 3)) (by decide +kernel)) (bK_ (s := bx33) (i := 173) (k := (3, 0)) (by decide +kernel)) (by decide +kernel) Q_X10_init (k := 68) rfl (by decide) rfl (by decide) (by decide) (by decide) (by decide) rfl (fun S34 I34 J34 (h34 : bAt S0 bx34 S34 I34 J34) => ?_)
  refine y_iinc (L' := [some (.ref 0), some (.int (iI 1))]) Q_X10_init (k := 69) rfl (by decide) rfl rfl ?_
  refine z_goto Q_X10_init (k := 70) (tgt := 124) rfl (by decide) ?_
  refine z_iload_n Q_X10_init (k := 59) rfl rfl ?_
  refine y_iconst Q_X10_init (k := 60) rfl ?_
  refine y_icmp_ge 148 Q_X10_init (k := 61) rfl (by decide) ⟨by decide, by decide⟩ ⟨by decide, by decide⟩ (fun e => absurd e (by decide)) (fun _ => ?_)
  refine z_aload_n Q_X10_init (k := 62) rfl rfl ?_
  refine b_getR (b := 11) h34 (bK_ (s := bx34) (i := 0) (k := (10, 0)) (by decide +kernel)) (bR_ (s := bx34) (i := 0) (f := 1) (b := 11) (by decide +kernel)) Q_X10_init (k := 63) rfl F_X10_18 rfl ?_
  refine z_iload_n Q_X10_init (k := 64) rfl rfl ?_
  refine b_new h34 Q_X10_init (k := 65) rfl CK_3 (by decide) C_X10_16 N_X3 J_X3 (by decide +kernel) (by decide +kernel) (by decide) (by decide) (fun S35 I35 J35 (h35 : bAt S0 bx35 S35 I35 J35) => ?_)
  rw [show bx34.1 = 178 by decide +kernel]
  refine z_dup Q_X10_init (k := 66) rfl rfl ?_
  refine b_call (s' := bx36) h35 Q_X10_init (k := 67) rfl rfl K_X3_init rfl rfl I_X3_init L_X10_75 (Nat.le_of_ble_eq_true rfl) rfl (Nat.le_of_ble_eq_true rfl) (show 4 ≤ _ by decide) (show 436 ≤ _ by decide) (by decide +kernel) (i_X3 _ h35 (bK_ (s := bx35) (i := 178) (k := (3, 0)) (by decide +kernel)) (by decide +kernel)) (fun S36 I36 J36 (h36 : bAt S0 bx36 S36 I36 J36) => ?_)
  refine b_aast (t := 4) (n := 3) (j := 1) h36 (bK_ (s := bx36) (i := 11) (k := (104, 3)) (by decide +kernel)) (bK_ (s := bx36) (i := 178) (k := (3, 0)) (by decide +kernel)) (by decide +kernel) Q_X10_init (k := 68) rfl (by decide) rfl (by decide) (by decide) (by decide) (by decide) rfl (fun S37 I37 J37 (h37 : bAt S0 bx37 S37 I37 J37) => ?_)
  refine y_iinc (L' := [some (.ref 0), some (.int (iI 2))]) Q_X10_init (k := 69) rfl (by decide) rfl rfl ?_
  refine z_goto Q_X10_init (k := 70) (tgt := 124) rfl (by decide) ?_
  refine z_iload_n Q_X10_init (k := 59) rfl rfl ?_
  refine y_iconst Q_X10_init (k := 60) rfl ?_
  refine y_icmp_ge 148 Q_X10_init (k := 61) rfl (by decide) ⟨by decide, by decide⟩ ⟨by decide, by decide⟩ (fun e => absurd e (by decide)) (fun _ => ?_)
  refine z_aload_n Q_X10_init (k := 62) rfl rfl ?_
  refine b_getR (b := 11) h37 (bK_ (s := bx37) (i := 0) (k := (10, 0)) (by decide +kernel)) (bR_ (s := bx37) (i := 0) (f := 1) (b := 11) (by decide +kernel)) Q_X10_init (k := 63) rfl F_X10_18 rfl ?_
  refine z_iload_n Q_X10_init (k := 64) rfl rfl ?_
  refine b_new h37 Q_X10_init (k := 65) rfl CK_3 (by decide) C_X10_16 N_X3 J_X3 (by decide +kernel) (by decide +kernel) (by decide) (by decide) (fun S38 I38 J38 (h38 : bAt S0 bx38 S38 I38 J38) => ?_)
  rw [show bx37.1 = 183 by decide +kernel]
  refine z_dup Q_X10_init (k := 66) rfl rfl ?_
  refine b_call (s' := bx39) h38 Q_X10_init (k := 67) rfl rfl K_X3_init rfl rfl I_X3_init L_X10_75 (Nat.le_of_ble_eq_true rfl) rfl (Nat.le_of_ble_eq_true rfl) (show 4 ≤ _ by decide) (show 436 ≤ _ by decide) (by decide +kernel) (i_X3 _ h38 (bK_ (s := bx38) (i := 183) (k := (3, 0)) (by decide +kernel)) (by decide +kernel)) (fun S39 I39 J39 (h39 : bAt S0 bx39 S39 I39 J39) => ?_)
  refine b_aast (t := 4) (n := 3) (j := 2) h39 (bK_ (s := bx39) (i := 11) (k := (104, 3)) (by decide +kernel)) (bK_ (s := bx39) (i := 183) (k := (3, 0)) (by decide +kernel)) (by decide +kernel) Q_X10_init (k := 68) rfl (by decide) rfl (by decide) (by decide) (by decide) (by decide) rfl (fun S40 I40 J40 (h40 : bAt S0 bx40 S40 I40 J40) => ?_)
  refine y_iinc (L' := [some (.ref 0), some (.int (iI 3))]) Q_X10_init (k := 69) rfl (by decide) rfl rfl ?_
  refine z_goto Q_X10_init (k := 70) (tgt := 124) rfl (by decide) ?_
  refine z_iload_n Q_X10_init (k := 59) rfl rfl ?_
  refine y_iconst Q_X10_init (k := 60) rfl ?_
  refine y_icmp_ge 148 Q_X10_init (k := 61) rfl (by decide) ⟨by decide, by decide⟩ ⟨by decide, by decide⟩ (fun _ => ?_) (fun e => absurd (by decide) e)
  refine y_iconst Q_X10_init (k := 71) rfl ?_
  refine y_istore_n (L' := [some (.ref 0), some (.int (iI 0))]) Q_X10_init (k := 72) rfl (by decide) rfl ?_
  refine z_iload_n Q_X10_init (k := 73) rfl rfl ?_
  refine y_iconst Q_X10_init (k := 74) rfl ?_
  refine y_icmp_ge 174 Q_X10_init (k := 75) rfl (by decide) ⟨by decide, by decide⟩ ⟨by decide, by decide⟩ (fun e => absurd e (by decide)) (fun _ => ?_)
  refine z_aload_n Q_X10_init (k := 76) rfl rfl ?_
  refine b_getR (b := 150) h40 (bK_ (s := bx40) (i := 0) (k := (10, 0)) (by decide +kernel)) (bR_ (s := bx40) (i := 0) (f := 4) (b := 150) (by decide +kernel)) Q_X10_init (k := 77) rfl F_X10_29 rfl ?_
  refine z_iload_n Q_X10_init (k := 78) rfl rfl ?_
  refine b_new h40 Q_X10_init (k := 79) rfl CK_8 (by decide) C_X10_22 N_X8 J_X8 (by decide +kernel) (by decide +kernel) (by decide) (by decide) (fun S41 I41 J41 (h41 : bAt S0 bx41 S41 I41 J41) => ?_)
  rw [show bx40.1 = 188 by decide +kernel]
  refine z_dup Q_X10_init (k := 80) rfl rfl ?_
  refine b_call (s' := bx42) h41 Q_X10_init (k := 81) rfl rfl K_X8_init rfl rfl I_X8_init L_X10_24 (Nat.le_of_ble_eq_true rfl) rfl (Nat.le_of_ble_eq_true rfl) (show 137 ≤ _ by decide) (show 740 ≤ _ by decide) (by decide +kernel) (i_X8 _ h41 (bK_ (s := bx41) (i := 188) (k := (8, 0)) (by decide +kernel)) (by decide +kernel)) (fun S42 I42 J42 (h42 : bAt S0 bx42 S42 I42 J42) => ?_)
  refine b_aast (t := 5) (n := 3) (j := 0) h42 (bK_ (s := bx42) (i := 150) (k := (105, 3)) (by decide +kernel)) (bK_ (s := bx42) (i := 188) (k := (8, 0)) (by decide +kernel)) (by decide +kernel) Q_X10_init (k := 82) rfl (by decide) rfl (by decide) (by decide) (by decide) (by decide) rfl (fun S43 I43 J43 (h43 : bAt S0 bx43 S43 I43 J43) => ?_)
  refine y_iinc (L' := [some (.ref 0), some (.int (iI 1))]) Q_X10_init (k := 83) rfl (by decide) rfl rfl ?_
  refine z_goto Q_X10_init (k := 84) (tgt := 150) rfl (by decide) ?_
  refine z_iload_n Q_X10_init (k := 73) rfl rfl ?_
  refine y_iconst Q_X10_init (k := 74) rfl ?_
  refine y_icmp_ge 174 Q_X10_init (k := 75) rfl (by decide) ⟨by decide, by decide⟩ ⟨by decide, by decide⟩ (fun e => absurd e (by decide)) (fun _ => ?_)
  refine z_aload_n Q_X10_init (k := 76) rfl rfl ?_
  refine b_getR (b := 150) h43 (bK_ (s := bx43) (i := 0) (k := (10, 0)) (by decide +kernel)) (bR_ (s := bx43) (i := 0) (f := 4) (b := 150) (by decide +kernel)) Q_X10_init (k := 77) rfl F_X10_29 rfl ?_
  refine z_iload_n Q_X10_init (k := 78) rfl rfl ?_
  refine b_new h43 Q_X10_init (k := 79) rfl CK_8 (by decide) C_X10_22 N_X8 J_X8 (by decide +kernel) (by decide +kernel) (by decide) (by decide) (fun S44 I44 J44 (h44 : bAt S0 bx44 S44 I44 J44) => ?_)
  rw [show bx43.1 = 326 by decide +kernel]
  refine z_dup Q_X10_init (k := 80) rfl rfl ?_
  refine b_call (s' := bx45) h44 Q_X10_init (k := 81) rfl rfl K_X8_init rfl rfl I_X8_init L_X10_24 (Nat.le_of_ble_eq_true rfl) rfl (Nat.le_of_ble_eq_true rfl) (show 137 ≤ _ by decide) (show 740 ≤ _ by decide) (by decide +kernel) (i_X8 _ h44 (bK_ (s := bx44) (i := 326) (k := (8, 0)) (by decide +kernel)) (by decide +kernel)) (fun S45 I45 J45 (h45 : bAt S0 bx45 S45 I45 J45) => ?_)
  refine b_aast (t := 5) (n := 3) (j := 1) h45 (bK_ (s := bx45) (i := 150) (k := (105, 3)) (by decide +kernel)) (bK_ (s := bx45) (i := 326) (k := (8, 0)) (by decide +kernel)) (by decide +kernel) Q_X10_init (k := 82) rfl (by decide) rfl (by decide) (by decide) (by decide) (by decide) rfl (fun S46 I46 J46 (h46 : bAt S0 bx46 S46 I46 J46) => ?_)
  refine y_iinc (L' := [some (.ref 0), some (.int (iI 2))]) Q_X10_init (k := 83) rfl (by decide) rfl rfl ?_
  refine z_goto Q_X10_init (k := 84) (tgt := 150) rfl (by decide) ?_
  refine z_iload_n Q_X10_init (k := 73) rfl rfl ?_
  refine y_iconst Q_X10_init (k := 74) rfl ?_
  refine y_icmp_ge 174 Q_X10_init (k := 75) rfl (by decide) ⟨by decide, by decide⟩ ⟨by decide, by decide⟩ (fun e => absurd e (by decide)) (fun _ => ?_)
  refine z_aload_n Q_X10_init (k := 76) rfl rfl ?_
  refine b_getR (b := 150) h46 (bK_ (s := bx46) (i := 0) (k := (10, 0)) (by decide +kernel)) (bR_ (s := bx46) (i := 0) (f := 4) (b := 150) (by decide +kernel)) Q_X10_init (k := 77) rfl F_X10_29 rfl ?_
  refine z_iload_n Q_X10_init (k := 78) rfl rfl ?_
  refine b_new h46 Q_X10_init (k := 79) rfl CK_8 (by decide) C_X10_22 N_X8 J_X8 (by decide +kernel) (by decide +kernel) (by decide) (by decide) (fun S47 I47 J47 (h47 : bAt S0 bx47 S47 I47 J47) => ?_)
  rw [show bx46.1 = 464 by decide +kernel]
  refine z_dup Q_X10_init (k := 80) rfl rfl ?_
  refine b_call (s' := bx48) h47 Q_X10_init (k := 81) rfl rfl K_X8_init rfl rfl I_X8_init L_X10_24 (Nat.le_of_ble_eq_true rfl) rfl (Nat.le_of_ble_eq_true rfl) (show 137 ≤ _ by decide) (show 740 ≤ _ by decide) (by decide +kernel) (i_X8 _ h47 (bK_ (s := bx47) (i := 464) (k := (8, 0)) (by decide +kernel)) (by decide +kernel)) (fun S48 I48 J48 (h48 : bAt S0 bx48 S48 I48 J48) => ?_)
  refine b_aast (t := 5) (n := 3) (j := 2) h48 (bK_ (s := bx48) (i := 150) (k := (105, 3)) (by decide +kernel)) (bK_ (s := bx48) (i := 464) (k := (8, 0)) (by decide +kernel)) (by decide +kernel) Q_X10_init (k := 82) rfl (by decide) rfl (by decide) (by decide) (by decide) (by decide) rfl (fun S49 I49 J49 (h49 : bAt S0 bx49 S49 I49 J49) => ?_)
  refine y_iinc (L' := [some (.ref 0), some (.int (iI 3))]) Q_X10_init (k := 83) rfl (by decide) rfl rfl ?_
  refine z_goto Q_X10_init (k := 84) (tgt := 150) rfl (by decide) ?_
  refine z_iload_n Q_X10_init (k := 73) rfl rfl ?_
  refine y_iconst Q_X10_init (k := 74) rfl ?_
  refine y_icmp_ge 174 Q_X10_init (k := 75) rfl (by decide) ⟨by decide, by decide⟩ ⟨by decide, by decide⟩ (fun _ => ?_) (fun e => absurd (by decide) e)
  exact z_vret Q_X10_init (k := 85) rfl rfl ⟨rfl, h49⟩
