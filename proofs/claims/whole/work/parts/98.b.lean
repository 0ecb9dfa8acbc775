/-! constructors without loops -/
def c_X0 (o : Nat) (s : bS) : bS := s
theorem c_X0_K {s : bS} {i o : Nat} {k : Nat × Nat} (h : bK s i k) (hi : i < s.1) : bK (c_X0 o s) i k := h
theorem i_X0 {S0 S : zS} {s : bS} {I : zI} {J : zJ} {o : Nat} (d : Nat) (h : bAt S0 s S I J) (k0 : bK s o (0, 0)) (hz : s.1 + 0 ≤ zXB) : Z M_X0_init d 0 0 0 [some (.ref o)] [] S I J (bQ S0 (c_X0 o s)) := by
  have o0 := b_lt h k0
  refine z_aload_n Q_X0_init (k := 0) rfl rfl ?_
  refine z_object Q_X0_init (k := 1) rfl L_X0_1 G_obj.1 G_obj.2 (by decide) ?_
  exact z_vret Q_X0_init (k := 2) rfl rfl ⟨rfl, h⟩
def c_X4 (o : Nat) (s : bS) : bS := s
theorem c_X4_K {s : bS} {i o : Nat} {k : Nat × Nat} (h : bK s i k) (hi : i < s.1) : bK (c_X4 o s) i k := h
theorem i_X4 {S0 S : zS} {s : bS} {I : zI} {J : zJ} {o : Nat} (d : Nat) (h : bAt S0 s S I J) (k0 : bK s o (4, 0)) (hz : s.1 + 0 ≤ zXB) : Z M_X4_init d 0 0 0 [some (.ref o)] [] S I J (bQ S0 (c_X4 o s)) := by
  have o0 := b_lt h k0
  refine z_aload_n Q_X4_init (k := 0) rfl rfl ?_
  refine z_object Q_X4_init (k := 1) rfl L_X4_1 G_obj.1 G_obj.2 (by decide) ?_
  exact z_vret Q_X4_init (k := 2) rfl rfl ⟨rfl, h⟩
def c_X5 (o : Nat) (s : bS) : bS := (bref o 2 (s.1) (bnew 100 4 s))
theorem c_X5_K {s : bS} {i o : Nat} {k : Nat × Nat} (h : bK s i k) (hi : i < s.1) : bK (c_X5 o s) i k := (h.nw hi)
theorem i_X5 {S0 S : zS} {s : bS} {I : zI} {J : zJ} {o : Nat} (d : Nat) (h : bAt S0 s S I J) (k0 : bK s o (5, 0)) (hz : s.1 + 1 ≤ zXB) : Z M_X5_init d 1 4 0 [some (.ref o)] [] S I J (bQ S0 (c_X5 o s)) := by
  have o0 := b_lt h k0
  refine z_aload_n Q_X5_init (k := 0) rfl rfl ?_
  refine z_object Q_X5_init (k := 1) rfl L_X5_3 G_obj.1 G_obj.2 (by decide) ?_
  refine z_aload_n Q_X5_init (k := 2) rfl rfl ?_
  refine y_iconst Q_X5_init (k := 3) rfl ?_
  refine b_newa (t := 0) (n := 4) h Q_X5_init (k := 4) rfl rfl rfl (by decide) A_int rfl (by decide) (by decide) (by decide) (by simp [bls, zrb, o0]) (show s.1 < zXB by omega) (by omega) (by omega) (fun S1 I1 J1 (h1 : bAt S0 (bnew 100 4 s) S1 I1 J1) => ?_)
  have k1 := k0.nw (c := 100) (n := 4) o0
  have m1 : bK (bnew 100 4 s) (s.1) (100, 4) := bK.me
  refine b_putR h1 k1 (b := s.1) (b_lt h1 m1) (show s.1 + 1 ≤ zXB by omega) Q_X5_init (k := 5) rfl F_X5_9 rfl (fun _ => rfl) (fun _ => rfl) (Or.inr ⟨rfl, rfl⟩) (fun S2 I2 J2 (h2 : bAt S0 (bref o 2 (s.1) (bnew 100 4 s)) S2 I2 J2) => ?_)
  have k2 : bK (bref o 2 (s.1) (bnew 100 4 s)) o (5, 0) := k1
  have o2 := b_lt h2 k2
  exact z_vret Q_X5_init (k := 6) rfl rfl ⟨rfl, h2⟩
def c_X1 (o : Nat) (s : bS) : bS := (bref o 12 (s.1 + 2) (bnew 100 6 (bref o 11 (s.1 + 1) (bnew 100 6 (bref o 10 (s.1) (bnew 100 6 (bint o 8 (iI (-1)) (bint o 7 (iI (-1)) s))))))))
theorem c_X1_K {s : bS} {i o : Nat} {k : Nat × Nat} (h : bK s i k) (hi : i < s.1) : bK (c_X1 o s) i k := (((h.nw hi).nw (show i < s.1 + 1 by omega)).nw (show i < s.1 + 2 by omega))
theorem i_X1 {S0 S : zS} {s : bS} {I : zI} {J : zJ} {o : Nat} (d : Nat) (h : bAt S0 s S I J) (k0 : bK s o (1, 0)) (hz : s.1 + 3 ≤ zXB) : Z M_X1_init d 3 18 0 [some (.ref o)] [] S I J (bQ S0 (c_X1 o s)) := by
  have o0 := b_lt h k0
  refine z_aload_n Q_X1_init (k := 0) rfl rfl ?_
  refine z_object Q_X1_init (k := 1) rfl L_X1_3 G_obj.1 G_obj.2 (by decide) ?_
  refine z_aload_n Q_X1_init (k := 2) rfl rfl ?_
  refine y_iconst Q_X1_init (k := 3) rfl ?_
  refine b_putI h k0 Q_X1_init (k := 4) rfl F_X1_9 rfl rfl rfl (fun S1 I1 J1 (h1 : bAt S0 (bint o 7 (iI (-1)) s) S1 I1 J1) => ?_)
  have k1 : bK (bint o 7 (iI (-1)) s) o (1, 0) := k0
  have o1 := b_lt h1 k1
  refine z_aload_n Q_X1_init (k := 5) rfl rfl ?_
  refine y_iconst Q_X1_init (k := 6) rfl ?_
  refine b_putI h1 k1 Q_X1_init (k := 7) rfl F_X1_15 rfl rfl rfl (fun S2 I2 J2 (h2 : bAt S0 (bint o 8 (iI (-1)) (bint o 7 (iI (-1)) s)) S2 I2 J2) => ?_)
  have k2 : bK (bint o 8 (iI (-1)) (bint o 7 (iI (-1)) s)) o (1, 0) := k1
  have o2 := b_lt h2 k2
  refine z_aload_n Q_X1_init (k := 8) rfl rfl ?_
  refine y_bipush Q_X1_init (k := 9) rfl (by decide) ?_
  refine b_newa (t := 0) (n := 6) h2 Q_X1_init (k := 10) rfl rfl rfl (by decide) A_int rfl (by decide) (by decide) (by decide) (by simp [bls, zrb, o2]) (show s.1 < zXB by omega) (by omega) (by omega) (fun S3 I3 J3 (h3 : bAt S0 (bnew 100 6 (bint o 8 (iI (-1)) (bint o 7 (iI (-1)) s))) S3 I3 J3) => ?_)
  have k3 := k2.nw (c := 100) (n := 6) o2
  have m3 : bK (bnew 100 6 (bint o 8 (iI (-1)) (bint o 7 (iI (-1)) s))) (s.1) (100, 6) := bK.me
  refine b_putR h3 k3 (b := s.1) (b_lt h3 m3) (show s.1 + 1 ≤ zXB by omega) Q_X1_init (k := 11) rfl F_X1_18 rfl (fun _ => rfl) (fun _ => rfl) (Or.inr ⟨rfl, rfl⟩) (fun S4 I4 J4 (h4 : bAt S0 (bref o 10 (s.1) (bnew 100 6 (bint o 8 (iI (-1)) (bint o 7 (iI (-1)) s)))) S4 I4 J4) => ?_)
  have k4 : bK (bref o 10 (s.1) (bnew 100 6 (bint o 8 (iI (-1)) (bint o 7 (iI (-1)) s)))) o (1, 0) := k3
  have o4 := b_lt h4 k4
  refine z_aload_n Q_X1_init (k := 12) rfl rfl ?_
  refine y_bipush Q_X1_init (k := 13) rfl (by decide) ?_
  refine b_newa (t := 0) (n := 6) h4 Q_X1_init (k := 14) rfl rfl rfl (by decide) A_int rfl (by decide) (by decide) (by decide) (by simp [bls, zrb, o4]) (show s.1 + 1 < zXB by omega) (by omega) (by omega) (fun S5 I5 J5 (h5 : bAt S0 (bnew 100 6 (bref o 10 (s.1) (bnew 100 6 (bint o 8 (iI (-1)) (bint o 7 (iI (-1)) s))))) S5 I5 J5) => ?_)
  have k5 := k4.nw (c := 100) (n := 6) o4
  have m5 : bK (bnew 100 6 (bref o 10 (s.1) (bnew 100 6 (bint o 8 (iI (-1)) (bint o 7 (iI (-1)) s))))) (s.1 + 1) (100, 6) := bK.me
  refine b_putR h5 k5 (b := s.1 + 1) (b_lt h5 m5) (show s.1 + 2 ≤ zXB by omega) Q_X1_init (k := 15) rfl F_X1_22 rfl (fun _ => rfl) (fun _ => rfl) (Or.inr ⟨rfl, rfl⟩) (fun S6 I6 J6 (h6 : bAt S0 (bref o 11 (s.1 + 1) (bnew 100 6 (bref o 10 (s.1) (bnew 100 6 (bint o 8 (iI (-1)) (bint o 7 (iI (-1)) s)))))) S6 I6 J6) => ?_)
  have k6 : bK (bref o 11 (s.1 + 1) (bnew 100 6 (bref o 10 (s.1) (bnew 100 6 (bint o 8 (iI (-1)) (bint o 7 (iI (-1)) s)))))) o (1, 0) := k5
  have o6 := b_lt h6 k6
  refine z_aload_n Q_X1_init (k := 16) rfl rfl ?_
  refine y_bipush Q_X1_init (k := 17) rfl (by decide) ?_
  refine b_newa (t := 0) (n := 6) h6 Q_X1_init (k := 18) rfl rfl rfl (by decide) A_int rfl (by decide) (by decide) (by decide) (by simp [bls, zrb, o6]) (show s.1 + 2 < zXB by omega) (by omega) (by omega) (fun S7 I7 J7 (h7 : bAt S0 (bnew 100 6 (bref o 11 (s.1 + 1) (bnew 100 6 (bref o 10 (s.1) (bnew 100 6 (bint o 8 (iI (-1)) (bint o 7 (iI (-1)) s))))))) S7 I7 J7) => ?_)
  have k7 := k6.nw (c := 100) (n := 6) o6
  have m7 : bK (bnew 100 6 (bref o 11 (s.1 + 1) (bnew 100 6 (bref o 10 (s.1) (bnew 100 6 (bint o 8 (iI (-1)) (bint o 7 (iI (-1)) s))))))) (s.1 + 2) (100, 6) := bK.me
  refine b_putR h7 k7 (b := s.1 + 2) (b_lt h7 m7) (show s.1 + 3 ≤ zXB by omega) Q_X1_init (k := 19) rfl F_X1_25 rfl (fun _ => rfl) (fun _ => rfl) (Or.inr ⟨rfl, rfl⟩) (fun S8 I8 J8 (h8 : bAt S0 (bref o 12 (s.1 + 2) (bnew 100 6 (bref o 11 (s.1 + 1) (bnew 100 6 (bref o 10 (s.1) (bnew 100 6 (bint o 8 (iI (-1)) (bint o 7 (iI (-1)) s)))))))) S8 I8 J8) => ?_)
  have k8 : bK (bref o 12 (s.1 + 2) (bnew 100 6 (bref o 11 (s.1 + 1) (bnew 100 6 (bref o 10 (s.1) (bnew 100 6 (bint o 8 (iI (-1)) (bint o 7 (iI (-1)) s)))))))) o (1, 0) := k7
  have o8 := b_lt h8 k8
  exact z_vret Q_X1_init (k := 20) rfl rfl ⟨rfl, h8⟩
def c_X3 (o : Nat) (s : bS) : bS := (bref o 4 (s.1 + 3) (bnew 100 400 (bref o 3 (s.1 + 2) (bnew 100 12 (bref o 2 (s.1 + 1) (bnew 100 12 (bref o 1 (s.1) (bnew 100 12 s))))))))
theorem c_X3_K {s : bS} {i o : Nat} {k : Nat × Nat} (h : bK s i k) (hi : i < s.1) : bK (c_X3 o s) i k := ((((h.nw hi).nw (show i < s.1 + 1 by omega)).nw (show i < s.1 + 2 by omega)).nw (show i < s.1 + 3 by omega))
theorem i_X3 {S0 S : zS} {s : bS} {I : zI} {J : zJ} {o : Nat} (d : Nat) (h : bAt S0 s S I J) (k0 : bK s o (3, 0)) (hz : s.1 + 4 ≤ zXB) : Z M_X3_init d 4 436 0 [some (.ref o)] [] S I J (bQ S0 (c_X3 o s)) := by
  have o0 := b_lt h k0
  refine z_aload_n Q_X3_init (k := 0) rfl rfl ?_
  refine z_object Q_X3_init (k := 1) rfl L_X3_3 G_obj.1 G_obj.2 (by decide) ?_
  refine z_aload_n Q_X3_init (k := 2) rfl rfl ?_
  refine y_bipush Q_X3_init (k := 3) rfl (by decide) ?_
  refine b_newa (t := 0) (n := 12) h Q_X3_init (k := 4) rfl rfl rfl (by decide) A_int rfl (by decide) (by decide) (by decide) (by simp [bls, zrb, o0]) (show s.1 < zXB by omega) (by omega) (by omega) (fun S1 I1 J1 (h1 : bAt S0 (bnew 100 12 s) S1 I1 J1) => ?_)
  have k1 := k0.nw (c := 100) (n := 12) o0
  have m1 : bK (bnew 100 12 s) (s.1) (100, 12) := bK.me
  refine b_putR h1 k1 (b := s.1) (b_lt h1 m1) (show s.1 + 1 ≤ zXB by omega) Q_X3_init (k := 5) rfl F_X3_9 rfl (fun _ => rfl) (fun _ => rfl) (Or.inr ⟨rfl, rfl⟩) (fun S2 I2 J2 (h2 : bAt S0 (bref o 1 (s.1) (bnew 100 12 s)) S2 I2 J2) => ?_)
  have k2 : bK (bref o 1 (s.1) (bnew 100 12 s)) o (3, 0) := k1
  have o2 := b_lt h2 k2
  refine z_aload_n Q_X3_init (k := 6) rfl rfl ?_
  refine y_bipush Q_X3_init (k := 7) rfl (by decide) ?_
  refine b_newa (t := 0) (n := 12) h2 Q_X3_init (k := 8) rfl rfl rfl (by decide) A_int rfl (by decide) (by decide) (by decide) (by simp [bls, zrb, o2]) (show s.1 + 1 < zXB by omega) (by omega) (by omega) (fun S3 I3 J3 (h3 : bAt S0 (bnew 100 12 (bref o 1 (s.1) (bnew 100 12 s))) S3 I3 J3) => ?_)
  have k3 := k2.nw (c := 100) (n := 12) o2
  have m3 : bK (bnew 100 12 (bref o 1 (s.1) (bnew 100 12 s))) (s.1 + 1) (100, 12) := bK.me
  refine b_putR h3 k3 (b := s.1 + 1) (b_lt h3 m3) (show s.1 + 2 ≤ zXB by omega) Q_X3_init (k := 9) rfl F_X3_15 rfl (fun _ => rfl) (fun _ => rfl) (Or.inr ⟨rfl, rfl⟩) (fun S4 I4 J4 (h4 : bAt S0 (bref o 2 (s.1 + 1) (bnew 100 12 (bref o 1 (s.1) (bnew 100 12 s)))) S4 I4 J4) => ?_)
  have k4 : bK (bref o 2 (s.1 + 1) (bnew 100 12 (bref o 1 (s.1) (bnew 100 12 s)))) o (3, 0) := k3
  have o4 := b_lt h4 k4
  refine z_aload_n Q_X3_init (k := 10) rfl rfl ?_
  refine y_bipush Q_X3_init (k := 11) rfl (by decide) ?_
  refine b_newa (t := 0) (n := 12) h4 Q_X3_init (k := 12) rfl rfl rfl (by decide) A_int rfl (by decide) (by decide) (by decide) (by simp [bls, zrb, o4]) (show s.1 + 2 < zXB by omega) (by omega) (by omega) (fun S5 I5 J5 (h5 : bAt S0 (bnew 100 12 (bref o 2 (s.1 + 1) (bnew 100 12 (bref o 1 (s.1) (bnew 100 12 s))))) S5 I5 J5) => ?_)
  have k5 := k4.nw (c := 100) (n := 12) o4
  have m5 : bK (bnew 100 12 (bref o 2 (s.1 + 1) (bnew 100 12 (bref o 1 (s.1) (bnew 100 12 s))))) (s.1 + 2) (100, 12) := bK.me
  refine b_putR h5 k5 (b := s.1 + 2) (b_lt h5 m5) (show s.1 + 3 ≤ zXB by omega) Q_X3_init (k := 13) rfl F_X3_18 rfl (fun _ => rfl) (fun _ => rfl) (Or.inr ⟨rfl, rfl⟩) (fun S6 I6 J6 (h6 : bAt S0 (bref o 3 (s.1 + 2) (bnew 100 12 (bref o 2 (s.1 + 1) (bnew 100 12 (bref o 1 (s.1) (bnew 100 12 s)))))) S6 I6 J6) => ?_)
  have k6 : bK (bref o 3 (s.1 + 2) (bnew 100 12 (bref o 2 (s.1 + 1) (bnew 100 12 (bref o 1 (s.1) (bnew 100 12 s)))))) o (3, 0) := k5
  have o6 := b_lt h6 k6
  refine z_aload_n Q_X3_init (k := 14) rfl rfl ?_
  refine y_sipush Q_X3_init (k := 15) rfl (by decide) ?_
  refine b_newa (t := 0) (n := 400) h6 Q_X3_init (k := 16) rfl rfl rfl (by decide) A_int rfl (by decide) (by decide) (by decide) (by simp [bls, zrb, o6]) (show s.1 + 3 < zXB by omega) (by omega) (by omega) (fun S7 I7 J7 (h7 : bAt S0 (bnew 100 400 (bref o 3 (s.1 + 2) (bnew 100 12 (bref o 2 (s.1 + 1) (bnew 100 12 (bref o 1 (s.1) (bnew 100 12 s))))))) S7 I7 J7) => ?_)
  have k7 := k6.nw (c := 100) (n := 400) o6
  have m7 : bK (bnew 100 400 (bref o 3 (s.1 + 2) (bnew 100 12 (bref o 2 (s.1 + 1) (bnew 100 12 (bref o 1 (s.1) (bnew 100 12 s))))))) (s.1 + 3) (100, 400) := bK.me
  refine b_putR h7 k7 (b := s.1 + 3) (b_lt h7 m7) (show s.1 + 4 ≤ zXB by omega) Q_X3_init (k := 17) rfl F_X3_21 rfl (fun _ => rfl) (fun _ => rfl) (Or.inr ⟨rfl, rfl⟩) (fun S8 I8 J8 (h8 : bAt S0 (bref o 4 (s.1 + 3) (bnew 100 400 (bref o 3 (s.1 + 2) (bnew 100 12 (bref o 2 (s.1 + 1) (bnew 100 12 (bref o 1 (s.1) (bnew 100 12 s)))))))) S8 I8 J8) => ?_)
  have k8 : bK (bref o 4 (s.1 + 3) (bnew 100 400 (bref o 3 (s.1 + 2) (bnew 100 12 (bref o 2 (s.1 + 1) (bnew 100 12 (bref o 1 (s.1) (bnew 100 12 s)))))))) o (3, 0) := k7
  have o8 := b_lt h8 k8
  exact z_vret Q_X3_init (k := 18) rfl rfl ⟨rfl, h8⟩
def c_X9 (o : Nat) (s : bS) : bS := (bref o 0 (s.1) (bnew 101 80 s))
theorem c_X9_K {s : bS} {i o : Nat} {k : Nat × Nat} (h : bK s i k) (hi : i < s.1) : bK (c_X9 o s) i k := (h.nw hi)
theorem i_X9 {S0 S : zS} {s : bS} {I : zI} {J : zJ} {o : Nat} (d : Nat) (h : bAt S0 s S I J) (k0 : bK s o (9, 0)) (hz : s.1 + 1 ≤ zXB) : Z M_X9_init d 1 80 0 [some (.ref o)] [] S I J (bQ S0 (c_X9 o s)) := by
  have o0 := b_lt h k0
  refine z_aload_n Q_X9_init (k := 0) rfl rfl ?_
  refine z_object Q_X9_init (k := 1) rfl L_X9_3 G_obj.1 G_obj.2 (by decide) ?_
  refine z_aload_n Q_X9_init (k := 2) rfl rfl ?_
  refine y_bipush Q_X9_init (k := 3) rfl (by decide) ?_
  refine b_newa (t := 1) (n := 80) h Q_X9_init (k := 4) rfl rfl rfl (by decide) A_long rfl (by decide) (by decide) (by decide) (by simp [bls, zrb, o0]) (show s.1 < zXB by omega) (by omega) (by omega) (fun S1 I1 J1 (h1 : bAt S0 (bnew 101 80 s) S1 I1 J1) => ?_)
  have k1 := k0.nw (c := 101) (n := 80) o0
  have m1 : bK (bnew 101 80 s) (s.1) (101, 80) := bK.me
  refine b_putR h1 k1 (b := s.1) (b_lt h1 m1) (show s.1 + 1 ≤ zXB by omega) Q_X9_init (k := 5) rfl F_X9_9 rfl (fun _ => rfl) (fun _ => rfl) (Or.inr ⟨rfl, rfl⟩) (fun S2 I2 J2 (h2 : bAt S0 (bref o 0 (s.1) (bnew 101 80 s)) S2 I2 J2) => ?_)
  have k2 : bK (bref o 0 (s.1) (bnew 101 80 s)) o (9, 0) := k1
  have o2 := b_lt h2 k2
  exact z_vret Q_X9_init (k := 6) rfl rfl ⟨rfl, h2⟩
def c_X2 (o : Nat) (s : bS) : bS := (bref o 2 (s.1 + 2) (bnew 101 16 (bref o 1 (s.1 + 1) (bnew 100 16 (bref o 0 (s.1) (bnew 101 256 s))))))
theorem c_X2_K {s : bS} {i o : Nat} {k : Nat × Nat} (h : bK s i k) (hi : i < s.1) : bK (c_X2 o s) i k := (((h.nw hi).nw (show i < s.1 + 1 by omega)).nw (show i < s.1 + 2 by omega))
theorem i_X2 {S0 S : zS} {s : bS} {I : zI} {J : zJ} {o : Nat} (d : Nat) (h : bAt S0 s S I J) (k0 : bK s o (2, 0)) (hz : s.1 + 3 ≤ zXB) : Z M_X2_init d 3 288 0 [some (.ref o)] [] S I J (bQ S0 (c_X2 o s)) := by
  have o0 := b_lt h k0
  refine z_aload_n Q_X2_init (k := 0) rfl rfl ?_
  refine z_object Q_X2_init (k := 1) rfl L_X2_3 G_obj.1 G_obj.2 (by decide) ?_
  refine z_aload_n Q_X2_init (k := 2) rfl rfl ?_
  refine y_sipush Q_X2_init (k := 3) rfl (by decide) ?_
  refine b_newa (t := 1) (n := 256) h Q_X2_init (k := 4) rfl rfl rfl (by decide) A_long rfl (by decide) (by decide) (by decide) (by simp [bls, zrb, o0]) (show s.1 < zXB by omega) (by omega) (by omega) (fun S1 I1 J1 (h1 : bAt S0 (bnew 101 256 s) S1 I1 J1) => ?_)
  have k1 := k0.nw (c := 101) (n := 256) o0
  have m1 : bK (bnew 101 256 s) (s.1) (101, 256) := bK.me
  refine b_putR h1 k1 (b := s.1) (b_lt h1 m1) (show s.1 + 1 ≤ zXB by omega) Q_X2_init (k := 5) rfl F_X2_11 rfl (fun _ => rfl) (fun _ => rfl) (Or.inr ⟨rfl, rfl⟩) (fun S2 I2 J2 (h2 : bAt S0 (bref o 0 (s.1) (bnew 101 256 s)) S2 I2 J2) => ?_)
  have k2 : bK (bref o 0 (s.1) (bnew 101 256 s)) o (2, 0) := k1
  have o2 := b_lt h2 k2
  refine z_aload_n Q_X2_init (k := 6) rfl rfl ?_
  refine y_bipush Q_X2_init (k := 7) rfl (by decide) ?_
  refine b_newa (t := 0) (n := 16) h2 Q_X2_init (k := 8) rfl rfl rfl (by decide) A_int rfl (by decide) (by decide) (by decide) (by simp [bls, zrb, o2]) (show s.1 + 1 < zXB by omega) (by omega) (by omega) (fun S3 I3 J3 (h3 : bAt S0 (bnew 100 16 (bref o 0 (s.1) (bnew 101 256 s))) S3 I3 J3) => ?_)
  have k3 := k2.nw (c := 100) (n := 16) o2
  have m3 : bK (bnew 100 16 (bref o 0 (s.1) (bnew 101 256 s))) (s.1 + 1) (100, 16) := bK.me
  refine b_putR h3 k3 (b := s.1 + 1) (b_lt h3 m3) (show s.1 + 2 ≤ zXB by omega) Q_X2_init (k := 9) rfl F_X2_15 rfl (fun _ => rfl) (fun _ => rfl) (Or.inr ⟨rfl, rfl⟩) (fun S4 I4 J4 (h4 : bAt S0 (bref o 1 (s.1 + 1) (bnew 100 16 (bref o 0 (s.1) (bnew 101 256 s)))) S4 I4 J4) => ?_)
  have k4 : bK (bref o 1 (s.1 + 1) (bnew 100 16 (bref o 0 (s.1) (bnew 101 256 s)))) o (2, 0) := k3
  have o4 := b_lt h4 k4
  refine z_aload_n Q_X2_init (k := 10) rfl rfl ?_
  refine y_bipush Q_X2_init (k := 11) rfl (by decide) ?_
  refine b_newa (t := 1) (n := 16) h4 Q_X2_init (k := 12) rfl rfl rfl (by decide) A_long rfl (by decide) (by decide) (by decide) (by simp [bls, zrb, o4]) (show s.1 + 2 < zXB by omega) (by omega) (by omega) (fun S5 I5 J5 (h5 : bAt S0 (bnew 101 16 (bref o 1 (s.1 + 1) (bnew 100 16 (bref o 0 (s.1) (bnew 101 256 s))))) S5 I5 J5) => ?_)
  have k5 := k4.nw (c := 101) (n := 16) o4
  have m5 : bK (bnew 101 16 (bref o 1 (s.1 + 1) (bnew 100 16 (bref o 0 (s.1) (bnew 101 256 s))))) (s.1 + 2) (101, 16) := bK.me
  refine b_putR h5 k5 (b := s.1 + 2) (b_lt h5 m5) (show s.1 + 3 ≤ zXB by omega) Q_X2_init (k := 13) rfl F_X2_19 rfl (fun _ => rfl) (fun _ => rfl) (Or.inr ⟨rfl, rfl⟩) (fun S6 I6 J6 (h6 : bAt S0 (bref o 2 (s.1 + 2) (bnew 101 16 (bref o 1 (s.1 + 1) (bnew 100 16 (bref o 0 (s.1) (bnew 101 256 s)))))) S6 I6 J6) => ?_)
  have k6 : bK (bref o 2 (s.1 + 2) (bnew 101 16 (bref o 1 (s.1 + 1) (bnew 100 16 (bref o 0 (s.1) (bnew 101 256 s)))))) o (2, 0) := k5
  have o6 := b_lt h6 k6
  exact z_vret Q_X2_init (k := 14) rfl rfl ⟨rfl, h6⟩
def c_X7 (o : Nat) (s : bS) : bS := (bref o 10 (s.1 + 5) (bnew 100 10 (bref o 9 (s.1 + 4) (bnew 100 10 (bref o 7 (s.1 + 3) (bnew 102 1 (bref o 5 (s.1 + 2) (bnew 100 10 (bref o 1 (s.1 + 1) (bnew 100 1024 (bref o 0 (s.1) (bnew 102 1024 s))))))))))))
theorem c_X7_K {s : bS} {i o : Nat} {k : Nat × Nat} (h : bK s i k) (hi : i < s.1) : bK (c_X7 o s) i k := ((((((h.nw hi).nw (show i < s.1 + 1 by omega)).nw (show i < s.1 + 2 by omega)).nw (show i < s.1 + 3 by omega)).nw (show i < s.1 + 4 by omega)).nw (show i < s.1 + 5 by omega))
theorem i_X7 {S0 S : zS} {s : bS} {I : zI} {J : zJ} {o : Nat} (d : Nat) (h : bAt S0 s S I J) (k0 : bK s o (7, 0)) (hz : s.1 + 6 ≤ zXB) : Z M_X7_init d 6 2079 0 [some (.ref o)] [] S I J (bQ S0 (c_X7 o s)) := by
  have o0 := b_lt h k0
  refine z_aload_n Q_X7_init (k := 0) rfl rfl ?_
  refine z_object Q_X7_init (k := 1) rfl L_X7_3 G_obj.1 G_obj.2 (by decide) ?_
  refine z_aload_n Q_X7_init (k := 2) rfl rfl ?_
  refine y_sipush Q_X7_init (k := 3) rfl (by decide) ?_
  refine b_newa (t := 2) (n := 1024) h Q_X7_init (k := 4) rfl rfl rfl (by decide) A_byte rfl (by decide) (by decide) (by decide) (by simp [bls, zrb, o0]) (show s.1 < zXB by omega) (by omega) (by omega) (fun S1 I1 J1 (h1 : bAt S0 (bnew 102 1024 s) S1 I1 J1) => ?_)
  have k1 := k0.nw (c := 102) (n := 1024) o0
  have m1 : bK (bnew 102 1024 s) (s.1) (102, 1024) := bK.me
  refine b_putR h1 k1 (b := s.1) (b_lt h1 m1) (show s.1 + 1 ≤ zXB by omega) Q_X7_init (k := 5) rfl F_X7_9 rfl (fun _ => rfl) (fun _ => rfl) (Or.inr ⟨rfl, rfl⟩) (fun S2 I2 J2 (h2 : bAt S0 (bref o 0 (s.1) (bnew 102 1024 s)) S2 I2 J2) => ?_)
  have k2 : bK (bref o 0 (s.1) (bnew 102 1024 s)) o (7, 0) := k1
  have o2 := b_lt h2 k2
  refine z_aload_n Q_X7_init (k := 6) rfl rfl ?_
  refine y_sipush Q_X7_init (k := 7) rfl (by decide) ?_
  refine b_newa (t := 0) (n := 1024) h2 Q_X7_init (k := 8) rfl rfl rfl (by decide) A_int rfl (by decide) (by decide) (by decide) (by simp [bls, zrb, o2]) (show s.1 + 1 < zXB by omega) (by omega) (by omega) (fun S3 I3 J3 (h3 : bAt S0 (bnew 100 1024 (bref o 0 (s.1) (bnew 102 1024 s))) S3 I3 J3) => ?_)
  have k3 := k2.nw (c := 100) (n := 1024) o2
  have m3 : bK (bnew 100 1024 (bref o 0 (s.1) (bnew 102 1024 s))) (s.1 + 1) (100, 1024) := bK.me
  refine b_putR h3 k3 (b := s.1 + 1) (b_lt h3 m3) (show s.1 + 2 ≤ zXB by omega) Q_X7_init (k := 9) rfl F_X7_15 rfl (fun _ => rfl) (fun _ => rfl) (Or.inr ⟨rfl, rfl⟩) (fun S4 I4 J4 (h4 : bAt S0 (bref o 1 (s.1 + 1) (bnew 100 1024 (bref o 0 (s.1) (bnew 102 1024 s)))) S4 I4 J4) => ?_)
  have k4 : bK (bref o 1 (s.1 + 1) (bnew 100 1024 (bref o 0 (s.1) (bnew 102 1024 s)))) o (7, 0) := k3
  have o4 := b_lt h4 k4
  refine z_aload_n Q_X7_init (k := 10) rfl rfl ?_
  refine y_bipush Q_X7_init (k := 11) rfl (by decide) ?_
  refine b_newa (t := 0) (n := 10) h4 Q_X7_init (k := 12) rfl rfl rfl (by decide) A_int rfl (by decide) (by decide) (by decide) (by simp [bls, zrb, o4]) (show s.1 + 2 < zXB by omega) (by omega) (by omega) (fun S5 I5 J5 (h5 : bAt S0 (bnew 100 10 (bref o 1 (s.1 + 1) (bnew 100 1024 (bref o 0 (s.1) (bnew 102 1024 s))))) S5 I5 J5) => ?_)
  have k5 := k4.nw (c := 100) (n := 10) o4
  have m5 : bK (bnew 100 10 (bref o 1 (s.1 + 1) (bnew 100 1024 (bref o 0 (s.1) (bnew 102 1024 s))))) (s.1 + 2) (100, 10) := bK.me
  refine b_putR h5 k5 (b := s.1 + 2) (b_lt h5 m5) (show s.1 + 3 ≤ zXB by omega) Q_X7_init (k := 13) rfl F_X7_19 rfl (fun _ => rfl) (fun _ => rfl) (Or.inr ⟨rfl, rfl⟩) (fun S6 I6 J6 (h6 : bAt S0 (bref o 5 (s.1 + 2) (bnew 100 10 (bref o 1 (s.1 + 1) (bnew 100 1024 (bref o 0 (s.1) (bnew 102 1024 s)))))) S6 I6 J6) => ?_)
  have k6 : bK (bref o 5 (s.1 + 2) (bnew 100 10 (bref o 1 (s.1 + 1) (bnew 100 1024 (bref o 0 (s.1) (bnew 102 1024 s)))))) o (7, 0) := k5
  have o6 := b_lt h6 k6
  refine z_aload_n Q_X7_init (k := 14) rfl rfl ?_
  refine y_iconst Q_X7_init (k := 15) rfl ?_
  refine b_newa (t := 2) (n := 1) h6 Q_X7_init (k := 16) rfl rfl rfl (by decide) A_byte rfl (by decide) (by decide) (by decide) (by simp [bls, zrb, o6]) (show s.1 + 3 < zXB by omega) (by omega) (by omega) (fun S7 I7 J7 (h7 : bAt S0 (bnew 102 1 (bref o 5 (s.1 + 2) (bnew 100 10 (bref o 1 (s.1 + 1) (bnew 100 1024 (bref o 0 (s.1) (bnew 102 1024 s))))))) S7 I7 J7) => ?_)
  have k7 := k6.nw (c := 102) (n := 1) o6
  have m7 : bK (bnew 102 1 (bref o 5 (s.1 + 2) (bnew 100 10 (bref o 1 (s.1 + 1) (bnew 100 1024 (bref o 0 (s.1) (bnew 102 1024 s))))))) (s.1 + 3) (102, 1) := bK.me
  refine b_putR h7 k7 (b := s.1 + 3) (b_lt h7 m7) (show s.1 + 4 ≤ zXB by omega) Q_X7_init (k := 17) rfl F_X7_22 rfl (fun _ => rfl) (fun _ => rfl) (Or.inl rfl) (fun S8 I8 J8 (h8 : bAt S0 (bref o 7 (s.1 + 3) (bnew 102 1 (bref o 5 (s.1 + 2) (bnew 100 10 (bref o 1 (s.1 + 1) (bnew 100 1024 (bref o 0 (s.1) (bnew 102 1024 s)))))))) S8 I8 J8) => ?_)
  have k8 : bK (bref o 7 (s.1 + 3) (bnew 102 1 (bref o 5 (s.1 + 2) (bnew 100 10 (bref o 1 (s.1 + 1) (bnew 100 1024 (bref o 0 (s.1) (bnew 102 1024 s)))))))) o (7, 0) := k7
  have o8 := b_lt h8 k8
  refine z_aload_n Q_X7_init (k := 18) rfl rfl ?_
  refine y_bipush Q_X7_init (k := 19) rfl (by decide) ?_
  refine b_newa (t := 0) (n := 10) h8 Q_X7_init (k := 20) rfl rfl rfl (by decide) A_int rfl (by decide) (by decide) (by decide) (by simp [bls, zrb, o8]) (show s.1 + 4 < zXB by omega) (by omega) (by omega) (fun S9 I9 J9 (h9 : bAt S0 (bnew 100 10 (bref o 7 (s.1 + 3) (bnew 102 1 (bref o 5 (s.1 + 2) (bnew 100 10 (bref o 1 (s.1 + 1) (bnew 100 1024 (bref o 0 (s.1) (bnew 102 1024 s))))))))) S9 I9 J9) => ?_)
  have k9 := k8.nw (c := 100) (n := 10) o8
  have m9 : bK (bnew 100 10 (bref o 7 (s.1 + 3) (bnew 102 1 (bref o 5 (s.1 + 2) (bnew 100 10 (bref o 1 (s.1 + 1) (bnew 100 1024 (bref o 0 (s.1) (bnew 102 1024 s))))))))) (s.1 + 4) (100, 10) := bK.me
  refine b_putR h9 k9 (b := s.1 + 4) (b_lt h9 m9) (show s.1 + 5 ≤ zXB by omega) Q_X7_init (k := 21) rfl F_X7_25 rfl (fun _ => rfl) (fun _ => rfl) (Or.inr ⟨rfl, rfl⟩) (fun S10 I10 J10 (h10 : bAt S0 (bref o 9 (s.1 + 4) (bnew 100 10 (bref o 7 (s.1 + 3) (bnew 102 1 (bref o 5 (s.1 + 2) (bnew 100 10 (bref o 1 (s.1 + 1) (bnew 100 1024 (bref o 0 (s.1) (bnew 102 1024 s)))))))))) S10 I10 J10) => ?_)
  have k10 : bK (bref o 9 (s.1 + 4) (bnew 100 10 (bref o 7 (s.1 + 3) (bnew 102 1 (bref o 5 (s.1 + 2) (bnew 100 10 (bref o 1 (s.1 + 1) (bnew 100 1024 (bref o 0 (s.1) (bnew 102 1024 s)))))))))) o (7, 0) := k9
  have o10 := b_lt h10 k10
  refine z_aload_n Q_X7_init (k := 22) rfl rfl ?_
  refine y_bipush Q_X7_init (k := 23) rfl (by decide) ?_
  refine b_newa (t := 0) (n := 10) h10 Q_X7_init (k := 24) rfl rfl rfl (by decide) A_int rfl (by decide) (by decide) (by decide) (by simp [bls, zrb, o10]) (show s.1 + 5 < zXB by omega) (by omega) (by omega) (fun S11 I11 J11 (h11 : bAt S0 (bnew 100 10 (bref o 9 (s.1 + 4) (bnew 100 10 (bref o 7 (s.1 + 3) (bnew 102 1 (bref o 5 (s.1 + 2) (bnew 100 10 (bref o 1 (s.1 + 1) (bnew 100 1024 (bref o 0 (s.1) (bnew 102 1024 s))))))))))) S11 I11 J11) => ?_)
  have k11 := k10.nw (c := 100) (n := 10) o10
  have m11 : bK (bnew 100 10 (bref o 9 (s.1 + 4) (bnew 100 10 (bref o 7 (s.1 + 3) (bnew 102 1 (bref o 5 (s.1 + 2) (bnew 100 10 (bref o 1 (s.1 + 1) (bnew 100 1024 (bref o 0 (s.1) (bnew 102 1024 s))))))))))) (s.1 + 5) (100, 10) := bK.me
  refine b_putR h11 k11 (b := s.1 + 5) (b_lt h11 m11) (show s.1 + 6 ≤ zXB by omega) Q_X7_init (k := 25) rfl F_X7_28 rfl (fun _ => rfl) (fun _ => rfl) (Or.inr ⟨rfl, rfl⟩) (fun S12 I12 J12 (h12 : bAt S0 (bref o 10 (s.1 + 5) (bnew 100 10 (bref o 9 (s.1 + 4) (bnew 100 10 (bref o 7 (s.1 + 3) (bnew 102 1 (bref o 5 (s.1 + 2) (bnew 100 10 (bref o 1 (s.1 + 1) (bnew 100 1024 (bref o 0 (s.1) (bnew 102 1024 s)))))))))))) S12 I12 J12) => ?_)
  have k12 : bK (bref o 10 (s.1 + 5) (bnew 100 10 (bref o 9 (s.1 + 4) (bnew 100 10 (bref o 7 (s.1 + 3) (bnew 102 1 (bref o 5 (s.1 + 2) (bnew 100 10 (bref o 1 (s.1 + 1) (bnew 100 1024 (bref o 0 (s.1) (bnew 102 1024 s)))))))))))) o (7, 0) := k11
  have o12 := b_lt h12 k12
  exact z_vret Q_X7_init (k := 26) rfl rfl ⟨rfl, h12⟩
def c_X6 (o : Nat) (s : bS) : bS := (bref o 14 (s.1 + 4) (bref o 13 (s.1 + 4) (c_X3 (s.1 + 4) (bnew 3 0 (bint o 12 (iI (-1)) (bref o 5 (s.1 + 3) (bnew 100 401 (bref o 4 (s.1 + 2) (bnew 100 401 (bref o 3 (s.1 + 1) (bnew 100 401 (bref o 0 (s.1) (bnew 102 400 s)))))))))))))
theorem c_X6_K {s : bS} {i o : Nat} {k : Nat × Nat} (h : bK s i k) (hi : i < s.1) : bK (c_X6 o s) i k := (c_X3_K (o := s.1 + 4) (((((h.nw hi).nw (show i < s.1 + 1 by omega)).nw (show i < s.1 + 2 by omega)).nw (show i < s.1 + 3 by omega)).nw (show i < s.1 + 4 by omega)) (show i < s.1 + 4 + 1 by omega))
theorem i_X6 {S0 S : zS} {s : bS} {I : zI} {J : zJ} {o : Nat} (d : Nat) (h : bAt S0 s S I J) (k0 : bK s o (6, 0)) (hz : s.1 + 9 ≤ zXB) : Z M_X6_init (d + 1) 9 2046 0 [some (.ref o)] [] S I J (bQ S0 (c_X6 o s)) := by
  have o0 := b_lt h k0
  refine z_aload_n Q_X6_init (k := 0) rfl rfl ?_
  refine z_object Q_X6_init (k := 1) rfl L_X6_3 G_obj.1 G_obj.2 (by decide) ?_
  refine z_aload_n Q_X6_init (k := 2) rfl rfl ?_
  refine y_sipush Q_X6_init (k := 3) rfl (by decide) ?_
  refine b_newa (t := 2) (n := 400) h Q_X6_init (k := 4) rfl rfl rfl (by decide) A_byte rfl (by decide) (by decide) (by decide) (by simp [bls, zrb, o0]) (show s.1 < zXB by omega) (by omega) (by omega) (fun S1 I1 J1 (h1 : bAt S0 (bnew 102 400 s) S1 I1 J1) => ?_)
  have k1 := k0.nw (c := 102) (n := 400) o0
  have m1 : bK (bnew 102 400 s) (s.1) (102, 400) := bK.me
  refine b_putR h1 k1 (b := s.1) (b_lt h1 m1) (show s.1 + 1 ≤ zXB by omega) Q_X6_init (k := 5) rfl F_X6_9 rfl (fun _ => rfl) (fun _ => rfl) (Or.inr ⟨rfl, rfl⟩) (fun S2 I2 J2 (h2 : bAt S0 (bref o 0 (s.1) (bnew 102 400 s)) S2 I2 J2) => ?_)
  have k2 : bK (bref o 0 (s.1) (bnew 102 400 s)) o (6, 0) := k1
  have o2 := b_lt h2 k2
  refine z_aload_n Q_X6_init (k := 6) rfl rfl ?_
  refine y_sipush Q_X6_init (k := 7) rfl (by decide) ?_
  refine b_newa (t := 0) (n := 401) h2 Q_X6_init (k := 8) rfl rfl rfl (by decide) A_int rfl (by decide) (by decide) (by decide) (by simp [bls, zrb, o2]) (show s.1 + 1 < zXB by omega) (by omega) (by omega) (fun S3 I3 J3 (h3 : bAt S0 (bnew 100 401 (bref o 0 (s.1) (bnew 102 400 s))) S3 I3 J3) => ?_)
  have k3 := k2.nw (c := 100) (n := 401) o2
  have m3 : bK (bnew 100 401 (bref o 0 (s.1) (bnew 102 400 s))) (s.1 + 1) (100, 401) := bK.me
  refine b_putR h3 k3 (b := s.1 + 1) (b_lt h3 m3) (show s.1 + 2 ≤ zXB by omega) Q_X6_init (k := 9) rfl F_X6_15 rfl (fun _ => rfl) (fun _ => rfl) (Or.inr ⟨rfl, rfl⟩) (fun S4 I4 J4 (h4 : bAt S0 (bref o 3 (s.1 + 1) (bnew 100 401 (bref o 0 (s.1) (bnew 102 400 s)))) S4 I4 J4) => ?_)
  have k4 : bK (bref o 3 (s.1 + 1) (bnew 100 401 (bref o 0 (s.1) (bnew 102 400 s)))) o (6, 0) := k3
  have o4 := b_lt h4 k4
  refine z_aload_n Q_X6_init (k := 10) rfl rfl ?_
  refine y_sipush Q_X6_init (k := 11) rfl (by decide) ?_
  refine b_newa (t := 0) (n := 401) h4 Q_X6_init (k := 12) rfl rfl rfl (by decide) A_int rfl (by decide) (by decide) (by decide) (by simp [bls, zrb, o4]) (show s.1 + 2 < zXB by omega) (by omega) (by omega) (fun S5 I5 J5 (h5 : bAt S0 (bnew 100 401 (bref o 3 (s.1 + 1) (bnew 100 401 (bref o 0 (s.1) (bnew 102 400 s))))) S5 I5 J5) => ?_)
  have k5 := k4.nw (c := 100) (n := 401) o4
  have m5 : bK (bnew 100 401 (bref o 3 (s.1 + 1) (bnew 100 401 (bref o 0 (s.1) (bnew 102 400 s))))) (s.1 + 2) (100, 401) := bK.me
  refine b_putR h5 k5 (b := s.1 + 2) (b_lt h5 m5) (show s.1 + 3 ≤ zXB by omega) Q_X6_init (k := 13) rfl F_X6_19 rfl (fun _ => rfl) (fun _ => rfl) (Or.inr ⟨rfl, rfl⟩) (fun S6 I6 J6 (h6 : bAt S0 (bref o 4 (s.1 + 2) (bnew 100 401 (bref o 3 (s.1 + 1) (bnew 100 401 (bref o 0 (s.1) (bnew 102 400 s)))))) S6 I6 J6) => ?_)
  have k6 : bK (bref o 4 (s.1 + 2) (bnew 100 401 (bref o 3 (s.1 + 1) (bnew 100 401 (bref o 0 (s.1) (bnew 102 400 s)))))) o (6, 0) := k5
  have o6 := b_lt h6 k6
  refine z_aload_n Q_X6_init (k := 14) rfl rfl ?_
  refine y_sipush Q_X6_init (k := 15) rfl (by decide) ?_
  refine b_newa (t := 0) (n := 401) h6 Q_X6_init (k := 16) rfl rfl rfl (by decide) A_int rfl (by decide) (by decide) (by decide) (by simp [bls, zrb, o6]) (show s.1 + 3 < zXB by omega) (by omega) (by omega) (fun S7 I7 J7 (h7 : bAt S0 (bnew 100 401 (bref o 4 (s.1 + 2) (bnew 100 401 (bref o 3 (s.1 + 1) (bnew 100 401 (bref o 0 (s.1) (bnew 102 400 s))))))) S7 I7 J7) => ?_)
  have k7 := k6.nw (c := 100) (n := 401) o6
  have m7 : bK (bnew 100 401 (bref o 4 (s.1 + 2) (bnew 100 401 (bref o 3 (s.1 + 1) (bnew 100 401 (bref o 0 (s.1) (bnew 102 400 s))))))) (s.1 + 3) (100, 401) := bK.me
  refine b_putR h7 k7 (b := s.1 + 3) (b_lt h7 m7) (show s.1 + 4 ≤ zXB by omega) Q_X6_init (k := 17) rfl F_X6_22 rfl (fun _ => rfl) (fun _ => rfl) (Or.inr ⟨rfl, rfl⟩) (fun S8 I8 J8 (h8 : bAt S0 (bref o 5 (s.1 + 3) (bnew 100 401 (bref o 4 (s.1 + 2) (bnew 100 401 (bref o 3 (s.1 + 1) (bnew 100 401 (bref o 0 (s.1) (bnew 102 400 s)))))))) S8 I8 J8) => ?_)
  have k8 : bK (bref o 5 (s.1 + 3) (bnew 100 401 (bref o 4 (s.1 + 2) (bnew 100 401 (bref o 3 (s.1 + 1) (bnew 100 401 (bref o 0 (s.1) (bnew 102 400 s)))))))) o (6, 0) := k7
  have o8 := b_lt h8 k8
  refine z_aload_n Q_X6_init (k := 18) rfl rfl ?_
  refine y_iconst Q_X6_init (k := 19) rfl ?_
  refine b_putI h8 k8 Q_X6_init (k := 20) rfl F_X6_25 rfl rfl rfl (fun S9 I9 J9 (h9 : bAt S0 (bint o 12 (iI (-1)) (bref o 5 (s.1 + 3) (bnew 100 401 (bref o 4 (s.1 + 2) (bnew 100 401 (bref o 3 (s.1 + 1) (bnew 100 401 (bref o 0 (s.1) (bnew 102 400 s))))))))) S9 I9 J9) => ?_)
  have k9 : bK (bint o 12 (iI (-1)) (bref o 5 (s.1 + 3) (bnew 100 401 (bref o 4 (s.1 + 2) (bnew 100 401 (bref o 3 (s.1 + 1) (bnew 100 401 (bref o 0 (s.1) (bnew 102 400 s))))))))) o (6, 0) := k8
  have o9 := b_lt h9 k9
  refine z_aload_n Q_X6_init (k := 21) rfl rfl ?_
  refine b_new h9 Q_X6_init (k := 22) rfl CK_3 (by decide) C_X6_29 N_X3 J_X3 (by simp [bls, zrb, o9]) (show s.1 + 4 < zXB by omega) (by omega) (by omega) (fun S10 I10 J10 (h10 : bAt S0 (bnew 3 0 (bint o 12 (iI (-1)) (bref o 5 (s.1 + 3) (bnew 100 401 (bref o 4 (s.1 + 2) (bnew 100 401 (bref o 3 (s.1 + 1) (bnew 100 401 (bref o 0 (s.1) (bnew 102 400 s)))))))))) S10 I10 J10) => ?_)
  have k10 := k9.nw (c := 3) (n := 0) o9
  have o10 := b_lt h10 k10
  have m10 : bK (bnew 3 0 (bint o 12 (iI (-1)) (bref o 5 (s.1 + 3) (bnew 100 401 (bref o 4 (s.1 + 2) (bnew 100 401 (bref o 3 (s.1 + 1) (bnew 100 401 (bref o 0 (s.1) (bnew 102 400 s)))))))))) (s.1 + 4) (3, 0) := bK.me
  have u10 := b_lt h10 m10
  have v10 : (bint o 12 (iI (-1)) (bref o 5 (s.1 + 3) (bnew 100 401 (bref o 4 (s.1 + 2) (bnew 100 401 (bref o 3 (s.1 + 1) (bnew 100 401 (bref o 0 (s.1) (bnew 102 400 s))))))))).1 < (bnew 3 0 (bint o 12 (iI (-1)) (bref o 5 (s.1 + 3) (bnew 100 401 (bref o 4 (s.1 + 2) (bnew 100 401 (bref o 3 (s.1 + 1) (bnew 100 401 (bref o 0 (s.1) (bnew 102 400 s)))))))))).1 := u10
  refine z_dup Q_X6_init (k := 23) rfl rfl ?_
  refine b_call (s' := (c_X3 (s.1 + 4) (bnew 3 0 (bint o 12 (iI (-1)) (bref o 5 (s.1 + 3) (bnew 100 401 (bref o 4 (s.1 + 2) (bnew 100 401 (bref o 3 (s.1 + 1) (bnew 100 401 (bref o 0 (s.1) (bnew 102 400 s)))))))))))) h10 Q_X6_init (k := 24) rfl rfl K_X3_init rfl rfl I_X3_init L_X6_31 (Nat.le_of_ble_eq_true rfl) rfl (Nat.le_of_ble_eq_true rfl) (show 4 ≤ _ by omega) (show 436 ≤ _ by omega) (by simp [bls, zrb, o10, v10]) (i_X3 _ h10 m10 (show s.1 + 5 + 4 ≤ zXB by omega)) (fun S11 I11 J11 h11 => ?_)
  have k11 := c_X3_K (o := s.1 + 4) k10 o10
  have m11 := c_X3_K (o := s.1 + 4) m10 u10
  refine b_putR h11 k11 (b := s.1 + 4) (b_lt h11 m11) (show s.1 + 9 ≤ zXB by omega) Q_X6_init (k := 25) rfl F_X6_32 rfl (fun _ => rfl) (fun _ => rfl) (Or.inr ⟨rfl, rfl⟩) (fun S12 I12 J12 (h12 : bAt S0 (bref o 13 (s.1 + 4) (c_X3 (s.1 + 4) (bnew 3 0 (bint o 12 (iI (-1)) (bref o 5 (s.1 + 3) (bnew 100 401 (bref o 4 (s.1 + 2) (bnew 100 401 (bref o 3 (s.1 + 1) (bnew 100 401 (bref o 0 (s.1) (bnew 102 400 s)))))))))))) S12 I12 J12) => ?_)
  have k12 : bK (bref o 13 (s.1 + 4) (c_X3 (s.1 + 4) (bnew 3 0 (bint o 12 (iI (-1)) (bref o 5 (s.1 + 3) (bnew 100 401 (bref o 4 (s.1 + 2) (bnew 100 401 (bref o 3 (s.1 + 1) (bnew 100 401 (bref o 0 (s.1) (bnew 102 400 s)))))))))))) o (6, 0) := k11
  have o12 := b_lt h12 k12
  refine z_aload_n Q_X6_init (k := 26) rfl rfl ?_
  refine z_aload_n Q_X6_init (k := 27) rfl rfl ?_
  refine b_getR (b := s.1 + 4) h12 k12 bR.me Q_X6_init (k := 28) rfl F_X6_32 rfl ?_
  refine b_putR h12 k12 (b := s.1 + 4) (b_rf h12 bR.me).2 (show s.1 + 9 ≤ zXB by omega) Q_X6_init (k := 29) rfl F_X6_36 rfl (fun _ => rfl) (fun _ => rfl) (Or.inl rfl) (fun S13 I13 J13 (h13 : bAt S0 (bref o 14 (s.1 + 4) (bref o 13 (s.1 + 4) (c_X3 (s.1 + 4) (bnew 3 0 (bint o 12 (iI (-1)) (bref o 5 (s.1 + 3) (bnew 100 401 (bref o 4 (s.1 + 2) (bnew 100 401 (bref o 3 (s.1 + 1) (bnew 100 401 (bref o 0 (s.1) (bnew 102 400 s))))))))))))) S13 I13 J13) => ?_)
  exact z_vret Q_X6_init (k := 30) rfl rfl ⟨rfl, h13⟩
