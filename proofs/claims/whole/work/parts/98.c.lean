/-! the constructor of what is told -/
def c_X8a (o : Nat) (s : bS) : bS := (bref o 13 (s.1 + 8) (bnew 109 40 (bref o 11 (s.1 + 7) (bnew 108 24 (bref o 9 (s.1 + 6) (bnew 107 8 (bref o 7 (s.1 + 5) (bnew 106 16 (bref o 6 (s.1 + 4) (bnew 100 4 (bref o 5 (s.1 + 3) (bnew 100 4 (bref o 3 (s.1 + 2) (bnew 100 10 (bref o 2 (s.1 + 1) (bnew 100 10 (bref o 1 (s.1) (bnew 101 16 s))))))))))))))))))
def tL : List (Nat × Nat × Nat × Nat) := [(1, 0, 101, 16), (2, 1, 100, 10), (3, 2, 100, 10), (5, 3, 100, 4), (6, 4, 100, 4), (7, 5, 106, 16), (9, 6, 107, 8), (11, 7, 108, 24), (13, 8, 109, 40)]
theorem tL_le : ∀ q ∈ tL, q.2.1 ≤ 8 := by decide
def tI (o b : Nat) (s : bS) : Prop := bK s o (8, 0) ∧ ∀ q ∈ tL, bR s o q.1 (b + q.2.1) ∧ bK s (b + q.2.1) q.2.2
theorem tI.nw {o b c n : Nat} {s : bS} (h : tI o b s) (ho : o < s.1) (hb : b + 8 < s.1) : tI o b (bnew c n s) := ⟨h.1.nw ho, fun q hq => ⟨(h.2 q hq).1, (h.2 q hq).2.nw (by have := tL_le q hq; omega)⟩⟩
theorem tI.rf {o b o' f x : Nat} {s : bS} (h : tI o b s) (hn : o' ≠ o) : tI o b (bref o' f x s) := ⟨h.1, fun q hq => ⟨(h.2 q hq).1.rf (Or.inl hn), (h.2 q hq).2⟩⟩
theorem tI.lt {o b : Nat} {S0 S : zS} {s : bS} {I : zI} {J : zJ} (h : tI o b s) (ha : bAt S0 s S I J) : o < s.1 ∧ b + 8 < s.1 := ⟨b_lt ha h.1, b_lt ha (h.2 (13, 8, 109, 40) (by decide)).2⟩
theorem tI.ne {o b f e k n : Nat} {s : bS} (h : tI o b s) (hq : (f, e, k, n) ∈ tL) (hk : k ≠ 8) : b + e ≠ o := by
  intro e1
  have h2 : bK s (b + e) (k, n) := (h.2 (f, e, k, n) hq).2
  rw [e1] at h2
  have h3 : some (k, n) = some (8, 0) := h2.symm.trans h.1
  have h4 := congrArg Prod.fst (Option.some.inj h3)
  exact hk h4
theorem tI.a {o : Nat} {s : bS} (k0 : bK s o (8, 0)) (h0 : o < s.1) : tI o s.1 (c_X8a o s) := by
  refine ⟨?_, fun q hq => ?_⟩
  · show al1 _ o = _
    simp only [c_X8a, bref, bnew, al1_c]
    repeat rw [if_neg (by omega)]
    exact k0
  · simp only [tL, List.mem_cons, List.not_mem_nil, or_false] at hq
    rcases hq with rfl | rfl | rfl | rfl | rfl | rfl | rfl | rfl | rfl <;> simp [bR, bK, c_X8a, bref, bnew, al1_c, al2_c] <;> (repeat rw [if_neg (by omega)]) <;> (try omega)
theorem tI.c_X0 {o b o' : Nat} {s : bS} (h : tI o b s) (ho : o < s.1) (hb : b + 8 < s.1) (hn : o' ≠ o) : tI o b (c_X0 o' s) := h
theorem tI.c_X4 {o b o' : Nat} {s : bS} (h : tI o b s) (ho : o < s.1) (hb : b + 8 < s.1) (hn : o' ≠ o) : tI o b (c_X4 o' s) := h
theorem tI.c_X5 {o b o' : Nat} {s : bS} (h : tI o b s) (ho : o < s.1) (hb : b + 8 < s.1) (hn : o' ≠ o) : tI o b (c_X5 o' s) := (h.nw ho hb).rf hn
theorem tI.c_X1 {o b o' : Nat} {s : bS} (h : tI o b s) (ho : o < s.1) (hb : b + 8 < s.1) (hn : o' ≠ o) : tI o b (c_X1 o' s) := by
  have h1 : tI o b (bint o' 8 (iI (-1)) (bint o' 7 (iI (-1)) s)) := h
  have h2 := (h1.nw (c := 100) (n := 6) ho hb).rf (f := 10) (x := s.1) hn
  have h3 := (h2.nw (c := 100) (n := 6) (show o < s.1 + 1 by omega) (show b + 8 < s.1 + 1 by omega)).rf (f := 11) (x := s.1 + 1) hn
  exact (h3.nw (c := 100) (n := 6) (show o < s.1 + 2 by omega) (show b + 8 < s.1 + 2 by omega)).rf (f := 12) (x := s.1 + 2) hn
/-- g rounds of f, the first with number t -/
def rp (f : Nat → bS → bS) : Nat → Nat → bS → bS
  | _, 0, s => s
  | t, g + 1, s => rp f (t + 1) g (f t s)
theorem rp_K {f : Nat → bS → bS} (hf : ∀ t s i k, bK s i k → i < s.1 → bK (f t s) i k ∧ i < (f t s).1) : ∀ g t s i k, bK s i k → i < s.1 → bK (rp f t g s) i k ∧ i < (rp f t g s).1
  | 0, _, _, _, _, h, hi => ⟨h, hi⟩
  | g + 1, t, s, i, k, h, hi => rp_K hf g (t + 1) (f t s) i k (hf t s i k h hi).1 (hf t s i k h hi).2
def f_0 (b t : Nat) (s : bS) : bS := (blng (b + 0) t (-1) s)
theorem l_X8_0 {S0 : zS} {d kc ks o b : Nat} {Q : zQ} : ∀ (g t : Nat) {s : bS} {S : zS} {I : zI} {J : zJ}, t + g = 16 → s.1 + g * 0 ≤ zXB → tI o b s → bAt S0 s S I J → (∀ S' I' J', bAt S0 (rp (f_0 b) t g s) S' I' J' → tI o b (rp (f_0 b) t g s) → Z M_X8_init (d + 1) kc ks 101 [some (.ref o), some (.int (iI 16))] [] S' I' J' Q) → Z M_X8_init (d + 1) (kc + g * 0) (ks + g * 0) 80 [some (.ref o), some (.int (iI (t : Int)))] [] S I J Q := by
  intro g
  induction g with
  | zero =>
    intro t s S I J ht hz I0 h kk
    have e : t = 16 := by omega
    subst e
    refine z_iload_n Q_X8_init (k := 40) rfl rfl ?_
    refine y_bipush Q_X8_init (k := 41) rfl (by decide) ?_
    exact y_icmp_ge 101 Q_X8_init (k := 42) rfl (by decide) ⟨by decide, by decide⟩ ⟨by decide, by decide⟩ (fun _ => (kk S I J h I0).wid (by omega) (by omega)) (fun e => absurd (by decide) e)
  | succ g ih =>
    intro t s S I J ht hz I0 h kk
    refine z_iload_n Q_X8_init (k := 40) rfl rfl ?_
    refine y_bipush Q_X8_init (k := 41) rfl (by decide) ?_
    refine y_icmp_ge 101 Q_X8_init (k := 42) rfl (by decide) ⟨by omega, by omega⟩ ⟨by decide, by decide⟩ (fun e => absurd e (by omega)) (fun _ => ?_)
    have hI := I0
    have lt := I0.lt h
    refine z_aload_n Q_X8_init (k := 43) rfl rfl ?_
    refine b_getR (b := b + 0) h hI.1 (hI.2 (1, 0, 101, 16) (by decide)).1 Q_X8_init (k := 44) rfl F_X8_9 rfl ?_
    refine z_iload_n Q_X8_init (k := 45) rfl rfl ?_
    refine z_ldc2 Q_X8_init (k := 46) rfl lC_X8_52 ?_
    refine b_last (j := t) h (hI.2 (1, 0, 101, 16) (by decide)).2 Q_X8_init (k := 47) rfl (iI_nat t) (by omega) (by decide) (fun S1 I1 J1 (h1 : bAt S0 (blng (b + 0) t (-1) s) S1 I1 J1) => ?_)
    have hI : tI o b (blng (b + 0) t (-1) s) := hI
    refine y_iinc (L' := [some (.ref o), some (.int (iI ((t + 1 : Nat) : Int)))]) Q_X8_init (k := 48) rfl (by decide) rfl rfl ?_
    refine z_goto Q_X8_init (k := 49) (tgt := 80) rfl (by decide) ?_
    exact (ih (t + 1) (s := (blng (b + 0) t (-1) s)) (by omega) (show s.1 + g * 0 ≤ zXB by omega) hI h1 kk).wid (by omega) (by omega)
def f_1 (b t : Nat) (s : bS) : bS := (bint (b + 2) t (iI (5)) (bint (b + 1) t (iI (2)) s))
theorem l_X8_1 {S0 : zS} {d kc ks o b : Nat} {Q : zQ} : ∀ (g t : Nat) {s : bS} {S : zS} {I : zI} {J : zJ}, t + g = 10 → s.1 + g * 0 ≤ zXB → tI o b s → bAt S0 s S I J → (∀ S' I' J', bAt S0 (rp (f_1 b) t g s) S' I' J' → tI o b (rp (f_1 b) t g s) → Z M_X8_init (d + 1) kc ks 129 [some (.ref o), some (.int (iI 10))] [] S' I' J' Q) → Z M_X8_init (d + 1) (kc + g * 0) (ks + g * 0) 103 [some (.ref o), some (.int (iI (t : Int)))] [] S I J Q := by
  intro g
  induction g with
  | zero =>
    intro t s S I J ht hz I0 h kk
    have e : t = 10 := by omega
    subst e
    refine z_iload_n Q_X8_init (k := 52) rfl rfl ?_
    refine y_bipush Q_X8_init (k := 53) rfl (by decide) ?_
    exact y_icmp_ge 129 Q_X8_init (k := 54) rfl (by decide) ⟨by decide, by decide⟩ ⟨by decide, by decide⟩ (fun _ => (kk S I J h I0).wid (by omega) (by omega)) (fun e => absurd (by decide) e)
  | succ g ih =>
    intro t s S I J ht hz I0 h kk
    refine z_iload_n Q_X8_init (k := 52) rfl rfl ?_
    refine y_bipush Q_X8_init (k := 53) rfl (by decide) ?_
    refine y_icmp_ge 129 Q_X8_init (k := 54) rfl (by decide) ⟨by omega, by omega⟩ ⟨by decide, by decide⟩ (fun e => absurd e (by omega)) (fun _ => ?_)
    have hI := I0
    have lt := I0.lt h
    refine z_aload_n Q_X8_init (k := 55) rfl rfl ?_
    refine b_getR (b := b + 1) h hI.1 (hI.2 (2, 1, 100, 10) (by decide)).1 Q_X8_init (k := 56) rfl F_X8_15 rfl ?_
    refine z_iload_n Q_X8_init (k := 57) rfl rfl ?_
    refine y_iconst Q_X8_init (k := 58) rfl ?_
    refine b_iast (j := t) h (hI.2 (2, 1, 100, 10) (by decide)).2 Q_X8_init (k := 59) rfl (iI_nat t) (by omega) (by decide) (fun S1 I1 J1 (h1 : bAt S0 (bint (b + 1) t (iI (2)) s) S1 I1 J1) => ?_)
    have hI : tI o b (bint (b + 1) t (iI (2)) s) := hI
    refine z_aload_n Q_X8_init (k := 60) rfl rfl ?_
    refine b_getR (b := b + 2) h1 hI.1 (hI.2 (3, 2, 100, 10) (by decide)).1 Q_X8_init (k := 61) rfl F_X8_19 rfl ?_
    refine z_iload_n Q_X8_init (k := 62) rfl rfl ?_
    refine y_iconst Q_X8_init (k := 63) rfl ?_
    refine b_iast (j := t) h1 (hI.2 (3, 2, 100, 10) (by decide)).2 Q_X8_init (k := 64) rfl (iI_nat t) (by omega) (by decide) (fun S2 I2 J2 (h2 : bAt S0 (bint (b + 2) t (iI (5)) (bint (b + 1) t (iI (2)) s)) S2 I2 J2) => ?_)
    have hI : tI o b (bint (b + 2) t (iI (5)) (bint (b + 1) t (iI (2)) s)) := hI
    refine y_iinc (L' := [some (.ref o), some (.int (iI ((t + 1 : Nat) : Int)))]) Q_X8_init (k := 65) rfl (by decide) rfl rfl ?_
    refine z_goto Q_X8_init (k := 66) (tgt := 103) rfl (by decide) ?_
    exact (ih (t + 1) (s := (bint (b + 2) t (iI (5)) (bint (b + 1) t (iI (2)) s))) (by omega) (show s.1 + g * 0 ≤ zXB by omega) hI h2 kk).wid (by omega) (by omega)
def f_2 (b t : Nat) (s : bS) : bS := (bint (b + 4) t (iI (-1)) s)
theorem l_X8_2 {S0 : zS} {d kc ks o b : Nat} {Q : zQ} : ∀ (g t : Nat) {s : bS} {S : zS} {I : zI} {J : zJ}, t + g = 4 → s.1 + g * 0 ≤ zXB → tI o b s → bAt S0 s S I J → (∀ S' I' J', bAt S0 (rp (f_2 b) t g s) S' I' J' → tI o b (rp (f_2 b) t g s) → Z M_X8_init (d + 1) kc ks 149 [some (.ref o), some (.int (iI 4))] [] S' I' J' Q) → Z M_X8_init (d + 1) (kc + g * 0) (ks + g * 0) 131 [some (.ref o), some (.int (iI (t : Int)))] [] S I J Q := by
  intro g
  induction g with
  | zero =>
    intro t s S I J ht hz I0 h kk
    have e : t = 4 := by omega
    subst e
    refine z_iload_n Q_X8_init (k := 69) rfl rfl ?_
    refine y_iconst Q_X8_init (k := 70) rfl ?_
    exact y_icmp_ge 149 Q_X8_init (k := 71) rfl (by decide) ⟨by decide, by decide⟩ ⟨by decide, by decide⟩ (fun _ => (kk S I J h I0).wid (by omega) (by omega)) (fun e => absurd (by decide) e)
  | succ g ih =>
    intro t s S I J ht hz I0 h kk
    refine z_iload_n Q_X8_init (k := 69) rfl rfl ?_
    refine y_iconst Q_X8_init (k := 70) rfl ?_
    refine y_icmp_ge 149 Q_X8_init (k := 71) rfl (by decide) ⟨by omega, by omega⟩ ⟨by decide, by decide⟩ (fun e => absurd e (by omega)) (fun _ => ?_)
    have hI := I0
    have lt := I0.lt h
    refine z_aload_n Q_X8_init (k := 72) rfl rfl ?_
    refine b_getR (b := b + 4) h hI.1 (hI.2 (6, 4, 100, 4) (by decide)).1 Q_X8_init (k := 73) rfl F_X8_25 rfl ?_
    refine z_iload_n Q_X8_init (k := 74) rfl rfl ?_
    refine y_iconst Q_X8_init (k := 75) rfl ?_
    refine b_iast (j := t) h (hI.2 (6, 4, 100, 4) (by decide)).2 Q_X8_init (k := 76) rfl (iI_nat t) (by omega) (by decide) (fun S1 I1 J1 (h1 : bAt S0 (bint (b + 4) t (iI (-1)) s) S1 I1 J1) => ?_)
    have hI : tI o b (bint (b + 4) t (iI (-1)) s) := hI
    refine y_iinc (L' := [some (.ref o), some (.int (iI ((t + 1 : Nat) : Int)))]) Q_X8_init (k := 77) rfl (by decide) rfl rfl ?_
    refine z_goto Q_X8_init (k := 78) (tgt := 131) rfl (by decide) ?_
    exact (ih (t + 1) (s := (bint (b + 4) t (iI (-1)) s)) (by omega) (show s.1 + g * 0 ≤ zXB by omega) hI h1 kk).wid (by omega) (by omega)
def f_3 (b t : Nat) (s : bS) : bS := (bref (b + 5) t s.1 (c_X5 s.1 (bnew 5 0 s)))
theorem l_X8_3 {S0 : zS} {d kc ks o b : Nat} {Q : zQ} : ∀ (g t : Nat) {s : bS} {S : zS} {I : zI} {J : zJ}, t + g = 16 → s.1 + g * 2 ≤ zXB → tI o b s → bAt S0 s S I J → (∀ S' I' J', bAt S0 (rp (f_3 b) t g s) S' I' J' → tI o b (rp (f_3 b) t g s) → Z M_X8_init (d + 1) kc ks 176 [some (.ref o), some (.int (iI 16))] [] S' I' J' Q) → Z M_X8_init (d + 1) (kc + g * 2) (ks + g * 8) 151 [some (.ref o), some (.int (iI (t : Int)))] [] S I J Q := by
  intro g
  induction g with
  | zero =>
    intro t s S I J ht hz I0 h kk
    have e : t = 16 := by omega
    subst e
    refine z_iload_n Q_X8_init (k := 81) rfl rfl ?_
    refine y_bipush Q_X8_init (k := 82) rfl (by decide) ?_
    exact y_icmp_ge 176 Q_X8_init (k := 83) rfl (by decide) ⟨by decide, by decide⟩ ⟨by decide, by decide⟩ (fun _ => (kk S I J h I0).wid (by omega) (by omega)) (fun e => absurd (by decide) e)
  | succ g ih =>
    intro t s S I J ht hz I0 h kk
    refine z_iload_n Q_X8_init (k := 81) rfl rfl ?_
    refine y_bipush Q_X8_init (k := 82) rfl (by decide) ?_
    refine y_icmp_ge 176 Q_X8_init (k := 83) rfl (by decide) ⟨by omega, by omega⟩ ⟨by decide, by decide⟩ (fun e => absurd e (by omega)) (fun _ => ?_)
    have hI := I0
    have lt := I0.lt h
    refine z_aload_n Q_X8_init (k := 84) rfl rfl ?_
    refine b_getR (b := b + 5) h hI.1 (hI.2 (7, 5, 106, 16) (by decide)).1 Q_X8_init (k := 85) rfl F_X8_30 rfl ?_
    refine z_iload_n Q_X8_init (k := 86) rfl rfl ?_
    refine b_new h Q_X8_init (k := 87) rfl CK_5 (by decide) C_X8_28 N_X5 J_X5 (by simp [bls, zrb, lt.1, show b + 5 < s.1 by omega]) (show s.1 < zXB by omega) (by omega) (by omega) (fun S1 I1 J1 (h1 : bAt S0 (bnew 5 0 s) S1 I1 J1) => ?_)
    have m1 : bK (bnew 5 0 s) s.1 (5, 0) := bK.me
    have u1 := b_lt h1 m1
    have hI1 := hI.nw (c := 5) (n := 0) lt.1 lt.2
    have lt1 := hI1.lt h1
    refine z_dup Q_X8_init (k := 88) rfl rfl ?_
    refine b_call (s' := c_X5 s.1 (bnew 5 0 s)) h1 Q_X8_init (k := 89) rfl rfl K_X5_init rfl rfl I_X5_init L_X8_54 (Nat.le_of_ble_eq_true rfl) rfl (Nat.le_of_ble_eq_true rfl) (show 1 ≤ _ by omega) (show 4 ≤ _ by omega) (by simp [bls, zrb, lt1.1, u1, show b + 5 < (bnew 5 0 s).1 by omega]) (i_X5 _ h1 m1 (show s.1 + 1 + 1 ≤ zXB by omega)) (fun S2 I2 J2 h2 => ?_)
    have m2 := c_X5_K (o := s.1) m1 u1
    have hI2 : tI o b (c_X5 s.1 (bnew 5 0 s)) := hI1.c_X5 lt1.1 lt1.2 (show s.1 ≠ o by omega)
    refine b_aast (t := 6) (n := 16) (j := t) h2 (hI2.2 (7, 5, 106, 16) (by decide)).2 m2 (show s.1 + 1 + 1 ≤ zXB by omega) Q_X8_init (k := 90) rfl (by decide) rfl (iI_nat t) (by omega) (by decide) (by decide) rfl (fun S3 I3 J3 (h3 : bAt S0 (bref (b + 5) t s.1 (c_X5 s.1 (bnew 5 0 s))) S3 I3 J3) => ?_)
    have hI : tI o b (bref (b + 5) t s.1 (c_X5 s.1 (bnew 5 0 s))) := hI2.rf (hI2.ne (f := 7) (e := 5) (k := 106) (n := 16) (by decide) (by decide))
    refine y_iinc (L' := [some (.ref o), some (.int (iI ((t + 1 : Nat) : Int)))]) Q_X8_init (k := 91) rfl (by decide) rfl rfl ?_
    refine z_goto Q_X8_init (k := 92) (tgt := 151) rfl (by decide) ?_
    exact (ih (t + 1) (s := (bref (b + 5) t s.1 (c_X5 s.1 (bnew 5 0 s)))) (by omega) (show s.1 + 2 + g * 2 ≤ zXB by omega) hI h3 kk).wid (by omega) (by omega)
def f_4 (b t : Nat) (s : bS) : bS := (bref (b + 6) t s.1 (c_X1 s.1 (bnew 1 0 s)))
theorem l_X8_4 {S0 : zS} {d kc ks o b : Nat} {Q : zQ} : ∀ (g t : Nat) {s : bS} {S : zS} {I : zI} {J : zJ}, t + g = 8 → s.1 + g * 4 ≤ zXB → tI o b s → bAt S0 s S I J → (∀ S' I' J', bAt S0 (rp (f_4 b) t g s) S' I' J' → tI o b (rp (f_4 b) t g s) → Z M_X8_init (d + 1) kc ks 203 [some (.ref o), some (.int (iI 8))] [] S' I' J' Q) → Z M_X8_init (d + 1) (kc + g * 4) (ks + g * 31) 178 [some (.ref o), some (.int (iI (t : Int)))] [] S I J Q := by
  intro g
  induction g with
  | zero =>
    intro t s S I J ht hz I0 h kk
    have e : t = 8 := by omega
    subst e
    refine z_iload_n Q_X8_init (k := 95) rfl rfl ?_
    refine y_bipush Q_X8_init (k := 96) rfl (by decide) ?_
    exact y_icmp_ge 203 Q_X8_init (k := 97) rfl (by decide) ⟨by decide, by decide⟩ ⟨by decide, by decide⟩ (fun _ => (kk S I J h I0).wid (by omega) (by omega)) (fun e => absurd (by decide) e)
  | succ g ih =>
    intro t s S I J ht hz I0 h kk
    refine z_iload_n Q_X8_init (k := 95) rfl rfl ?_
    refine y_bipush Q_X8_init (k := 96) rfl (by decide) ?_
    refine y_icmp_ge 203 Q_X8_init (k := 97) rfl (by decide) ⟨by omega, by omega⟩ ⟨by decide, by decide⟩ (fun e => absurd e (by omega)) (fun _ => ?_)
    have hI := I0
    have lt := I0.lt h
    refine z_aload_n Q_X8_init (k := 98) rfl rfl ?_
    refine b_getR (b := b + 6) h hI.1 (hI.2 (9, 6, 107, 8) (by decide)).1 Q_X8_init (k := 99) rfl F_X8_36 rfl ?_
    refine z_iload_n Q_X8_init (k := 100) rfl rfl ?_
    refine b_new h Q_X8_init (k := 101) rfl CK_1 (by decide) C_X8_34 N_X1 J_X1 (by simp [bls, zrb, lt.1, show b + 6 < s.1 by omega]) (show s.1 < zXB by omega) (by omega) (by omega) (fun S1 I1 J1 (h1 : bAt S0 (bnew 1 0 s) S1 I1 J1) => ?_)
    have m1 : bK (bnew 1 0 s) s.1 (1, 0) := bK.me
    have u1 := b_lt h1 m1
    have hI1 := hI.nw (c := 1) (n := 0) lt.1 lt.2
    have lt1 := hI1.lt h1
    refine z_dup Q_X8_init (k := 102) rfl rfl ?_
    refine b_call (s' := c_X1 s.1 (bnew 1 0 s)) h1 Q_X8_init (k := 103) rfl rfl K_X1_init rfl rfl I_X1_init L_X8_55 (Nat.le_of_ble_eq_true rfl) rfl (Nat.le_of_ble_eq_true rfl) (show 3 ≤ _ by omega) (show 18 ≤ _ by omega) (by simp [bls, zrb, lt1.1, u1, show b + 6 < (bnew 1 0 s).1 by omega]) (i_X1 _ h1 m1 (show s.1 + 1 + 3 ≤ zXB by omega)) (fun S2 I2 J2 h2 => ?_)
    have m2 := c_X1_K (o := s.1) m1 u1
    have hI2 : tI o b (c_X1 s.1 (bnew 1 0 s)) := hI1.c_X1 lt1.1 lt1.2 (show s.1 ≠ o by omega)
    refine b_aast (t := 7) (n := 8) (j := t) h2 (hI2.2 (9, 6, 107, 8) (by decide)).2 m2 (show s.1 + 1 + 3 ≤ zXB by omega) Q_X8_init (k := 104) rfl (by decide) rfl (iI_nat t) (by omega) (by decide) (by decide) rfl (fun S3 I3 J3 (h3 : bAt S0 (bref (b + 6) t s.1 (c_X1 s.1 (bnew 1 0 s))) S3 I3 J3) => ?_)
    have hI : tI o b (bref (b + 6) t s.1 (c_X1 s.1 (bnew 1 0 s))) := hI2.rf (hI2.ne (f := 9) (e := 6) (k := 107) (n := 8) (by decide) (by decide))
    refine y_iinc (L' := [some (.ref o), some (.int (iI ((t + 1 : Nat) : Int)))]) Q_X8_init (k := 105) rfl (by decide) rfl rfl ?_
    refine z_goto Q_X8_init (k := 106) (tgt := 178) rfl (by decide) ?_
    exact (ih (t + 1) (s := (bref (b + 6) t s.1 (c_X1 s.1 (bnew 1 0 s)))) (by omega) (show s.1 + 4 + g * 4 ≤ zXB by omega) hI h3 kk).wid (by omega) (by omega)
def f_5 (b t : Nat) (s : bS) : bS := (bref (b + 7) t s.1 (c_X0 s.1 (bnew 0 0 s)))
theorem l_X8_5 {S0 : zS} {d kc ks o b : Nat} {Q : zQ} : ∀ (g t : Nat) {s : bS} {S : zS} {I : zI} {J : zJ}, t + g = 24 → s.1 + g * 1 ≤ zXB → tI o b s → bAt S0 s S I J → (∀ S' I' J', bAt S0 (rp (f_5 b) t g s) S' I' J' → tI o b (rp (f_5 b) t g s) → Z M_X8_init (d + 1) kc ks 230 [some (.ref o), some (.int (iI 24))] [] S' I' J' Q) → Z M_X8_init (d + 1) (kc + g * 1) (ks + g * 3) 205 [some (.ref o), some (.int (iI (t : Int)))] [] S I J Q := by
  intro g
  induction g with
  | zero =>
    intro t s S I J ht hz I0 h kk
    have e : t = 24 := by omega
    subst e
    refine z_iload_n Q_X8_init (k := 109) rfl rfl ?_
    refine y_bipush Q_X8_init (k := 110) rfl (by decide) ?_
    exact y_icmp_ge 230 Q_X8_init (k := 111) rfl (by decide) ⟨by decide, by decide⟩ ⟨by decide, by decide⟩ (fun _ => (kk S I J h I0).wid (by omega) (by omega)) (fun e => absurd (by decide) e)
  | succ g ih =>
    intro t s S I J ht hz I0 h kk
    refine z_iload_n Q_X8_init (k := 109) rfl rfl ?_
    refine y_bipush Q_X8_init (k := 110) rfl (by decide) ?_
    refine y_icmp_ge 230 Q_X8_init (k := 111) rfl (by decide) ⟨by omega, by omega⟩ ⟨by decide, by decide⟩ (fun e => absurd e (by omega)) (fun _ => ?_)
    have hI := I0
    have lt := I0.lt h
    refine z_aload_n Q_X8_init (k := 112) rfl rfl ?_
    refine b_getR (b := b + 7) h hI.1 (hI.2 (11, 7, 108, 24) (by decide)).1 Q_X8_init (k := 113) rfl F_X8_42 rfl ?_
    refine z_iload_n Q_X8_init (k := 114) rfl rfl ?_
    refine b_new h Q_X8_init (k := 115) rfl CK_0 (by decide) C_X8_40 N_X0 J_X0 (by simp [bls, zrb, lt.1, show b + 7 < s.1 by omega]) (show s.1 < zXB by omega) (by omega) (by omega) (fun S1 I1 J1 (h1 : bAt S0 (bnew 0 0 s) S1 I1 J1) => ?_)
    have m1 : bK (bnew 0 0 s) s.1 (0, 0) := bK.me
    have u1 := b_lt h1 m1
    have hI1 := hI.nw (c := 0) (n := 0) lt.1 lt.2
    have lt1 := hI1.lt h1
    refine z_dup Q_X8_init (k := 116) rfl rfl ?_
    refine b_call (s' := c_X0 s.1 (bnew 0 0 s)) h1 Q_X8_init (k := 117) rfl rfl K_X0_init rfl rfl I_X0_init L_X8_56 (Nat.le_of_ble_eq_true rfl) rfl (Nat.le_of_ble_eq_true rfl) (show 0 ≤ _ by omega) (show 0 ≤ _ by omega) (by simp [bls, zrb, lt1.1, u1, show b + 7 < (bnew 0 0 s).1 by omega]) (i_X0 _ h1 m1 (show s.1 + 1 + 0 ≤ zXB by omega)) (fun S2 I2 J2 h2 => ?_)
    have m2 := c_X0_K (o := s.1) m1 u1
    have hI2 : tI o b (c_X0 s.1 (bnew 0 0 s)) := hI1.c_X0 lt1.1 lt1.2 (show s.1 ≠ o by omega)
    refine b_aast (t := 8) (n := 24) (j := t) h2 (hI2.2 (11, 7, 108, 24) (by decide)).2 m2 (show s.1 + 1 + 0 ≤ zXB by omega) Q_X8_init (k := 118) rfl (by decide) rfl (iI_nat t) (by omega) (by decide) (by decide) rfl (fun S3 I3 J3 (h3 : bAt S0 (bref (b + 7) t s.1 (c_X0 s.1 (bnew 0 0 s))) S3 I3 J3) => ?_)
    have hI : tI o b (bref (b + 7) t s.1 (c_X0 s.1 (bnew 0 0 s))) := hI2.rf (hI2.ne (f := 11) (e := 7) (k := 108) (n := 24) (by decide) (by decide))
    refine y_iinc (L' := [some (.ref o), some (.int (iI ((t + 1 : Nat) : Int)))]) Q_X8_init (k := 119) rfl (by decide) rfl rfl ?_
    refine z_goto Q_X8_init (k := 120) (tgt := 205) rfl (by decide) ?_
    exact (ih (t + 1) (s := (bref (b + 7) t s.1 (c_X0 s.1 (bnew 0 0 s)))) (by omega) (show s.1 + 1 + g * 1 ≤ zXB by omega) hI h3 kk).wid (by omega) (by omega)
def f_6 (b t : Nat) (s : bS) : bS := (bref (b + 8) t s.1 (c_X4 s.1 (bnew 4 0 s)))
theorem l_X8_6 {S0 : zS} {d kc ks o b : Nat} {Q : zQ} : ∀ (g t : Nat) {s : bS} {S : zS} {I : zI} {J : zJ}, t + g = 40 → s.1 + g * 1 ≤ zXB → tI o b s → bAt S0 s S I J → (∀ S' I' J', bAt S0 (rp (f_6 b) t g s) S' I' J' → tI o b (rp (f_6 b) t g s) → Z M_X8_init (d + 1) kc ks 257 [some (.ref o), some (.int (iI 40))] [] S' I' J' Q) → Z M_X8_init (d + 1) (kc + g * 1) (ks + g * 4) 232 [some (.ref o), some (.int (iI (t : Int)))] [] S I J Q := by
  intro g
  induction g with
  | zero =>
    intro t s S I J ht hz I0 h kk
    have e : t = 40 := by omega
    subst e
    refine z_iload_n Q_X8_init (k := 123) rfl rfl ?_
    refine y_bipush Q_X8_init (k := 124) rfl (by decide) ?_
    exact y_icmp_ge 257 Q_X8_init (k := 125) rfl (by decide) ⟨by decide, by decide⟩ ⟨by decide, by decide⟩ (fun _ => (kk S I J h I0).wid (by omega) (by omega)) (fun e => absurd (by decide) e)
  | succ g ih =>
    intro t s S I J ht hz I0 h kk
    refine z_iload_n Q_X8_init (k := 123) rfl rfl ?_
    refine y_bipush Q_X8_init (k := 124) rfl (by decide) ?_
    refine y_icmp_ge 257 Q_X8_init (k := 125) rfl (by decide) ⟨by omega, by omega⟩ ⟨by decide, by decide⟩ (fun e => absurd e (by omega)) (fun _ => ?_)
    have hI := I0
    have lt := I0.lt h
    refine z_aload_n Q_X8_init (k := 126) rfl rfl ?_
    refine b_getR (b := b + 8) h hI.1 (hI.2 (13, 8, 109, 40) (by decide)).1 Q_X8_init (k := 127) rfl F_X8_48 rfl ?_
    refine z_iload_n Q_X8_init (k := 128) rfl rfl ?_
    refine b_new h Q_X8_init (k := 129) rfl CK_4 (by decide) C_X8_46 N_X4 J_X4 (by simp [bls, zrb, lt.1, show b + 8 < s.1 by omega]) (show s.1 < zXB by omega) (by omega) (by omega) (fun S1 I1 J1 (h1 : bAt S0 (bnew 4 0 s) S1 I1 J1) => ?_)
    have m1 : bK (bnew 4 0 s) s.1 (4, 0) := bK.me
    have u1 := b_lt h1 m1
    have hI1 := hI.nw (c := 4) (n := 0) lt.1 lt.2
    have lt1 := hI1.lt h1
    refine z_dup Q_X8_init (k := 130) rfl rfl ?_
    refine b_call (s' := c_X4 s.1 (bnew 4 0 s)) h1 Q_X8_init (k := 131) rfl rfl K_X4_init rfl rfl I_X4_init L_X8_57 (Nat.le_of_ble_eq_true rfl) rfl (Nat.le_of_ble_eq_true rfl) (show 0 ≤ _ by omega) (show 0 ≤ _ by omega) (by simp [bls, zrb, lt1.1, u1, show b + 8 < (bnew 4 0 s).1 by omega]) (i_X4 _ h1 m1 (show s.1 + 1 + 0 ≤ zXB by omega)) (fun S2 I2 J2 h2 => ?_)
    have m2 := c_X4_K (o := s.1) m1 u1
    have hI2 : tI o b (c_X4 s.1 (bnew 4 0 s)) := hI1.c_X4 lt1.1 lt1.2 (show s.1 ≠ o by omega)
    refine b_aast (t := 9) (n := 40) (j := t) h2 (hI2.2 (13, 8, 109, 40) (by decide)).2 m2 (show s.1 + 1 + 0 ≤ zXB by omega) Q_X8_init (k := 132) rfl (by decide) rfl (iI_nat t) (by omega) (by decide) (by decide) rfl (fun S3 I3 J3 (h3 : bAt S0 (bref (b + 8) t s.1 (c_X4 s.1 (bnew 4 0 s))) S3 I3 J3) => ?_)
    have hI : tI o b (bref (b + 8) t s.1 (c_X4 s.1 (bnew 4 0 s))) := hI2.rf (hI2.ne (f := 13) (e := 8) (k := 109) (n := 40) (by decide) (by decide))
    refine y_iinc (L' := [some (.ref o), some (.int (iI ((t + 1 : Nat) : Int)))]) Q_X8_init (k := 133) rfl (by decide) rfl rfl ?_
    refine z_goto Q_X8_init (k := 134) (tgt := 232) rfl (by decide) ?_
    exact (ih (t + 1) (s := (bref (b + 8) t s.1 (c_X4 s.1 (bnew 4 0 s)))) (by omega) (show s.1 + 1 + g * 1 ≤ zXB by omega) hI h3 kk).wid (by omega) (by omega)
def c_X8 (o : Nat) (s : bS) : bS := rp (f_6 s.1) 0 40 (rp (f_5 s.1) 0 24 (rp (f_4 s.1) 0 8 (rp (f_3 s.1) 0 16 (rp (f_2 s.1) 0 4 (rp (f_1 s.1) 0 10 (rp (f_0 s.1) 0 16 (c_X8a o s)))))))
theorem fc_0 (b : Nat) : ∀ (g t : Nat) (s : bS), (rp (f_0 b) t g s).1 = s.1 + g * 0
  | 0, _, s => by show s.1 = _; omega
  | g + 1, t, s => by
    show (rp (f_0 b) (t + 1) g (f_0 b t s)).1 = _
    rw [fc_0 b g (t + 1) _]
    show s.1 + 0 + g * 0 = _
    omega
theorem cn_1 (o : Nat) (s : bS) : (rp (f_0 s.1) 0 16 (c_X8a o s)).1 = s.1 + 9 := by
  rw [fc_0]
  show s.1 + 9 + 16 * 0 = _
  omega
theorem fc_1 (b : Nat) : ∀ (g t : Nat) (s : bS), (rp (f_1 b) t g s).1 = s.1 + g * 0
  | 0, _, s => by show s.1 = _; omega
  | g + 1, t, s => by
    show (rp (f_1 b) (t + 1) g (f_1 b t s)).1 = _
    rw [fc_1 b g (t + 1) _]
    show s.1 + 0 + g * 0 = _
    omega
theorem cn_2 (o : Nat) (s : bS) : (rp (f_1 s.1) 0 10 (rp (f_0 s.1) 0 16 (c_X8a o s))).1 = s.1 + 9 := by
  rw [fc_1, cn_1]
theorem fc_2 (b : Nat) : ∀ (g t : Nat) (s : bS), (rp (f_2 b) t g s).1 = s.1 + g * 0
  | 0, _, s => by show s.1 = _; omega
  | g + 1, t, s => by
    show (rp (f_2 b) (t + 1) g (f_2 b t s)).1 = _
    rw [fc_2 b g (t + 1) _]
    show s.1 + 0 + g * 0 = _
    omega
theorem cn_3 (o : Nat) (s : bS) : (rp (f_2 s.1) 0 4 (rp (f_1 s.1) 0 10 (rp (f_0 s.1) 0 16 (c_X8a o s)))).1 = s.1 + 9 := by
  rw [fc_2, cn_2]
theorem fc_3 (b : Nat) : ∀ (g t : Nat) (s : bS), (rp (f_3 b) t g s).1 = s.1 + g * 2
  | 0, _, s => by show s.1 = _; omega
  | g + 1, t, s => by
    show (rp (f_3 b) (t + 1) g (f_3 b t s)).1 = _
    rw [fc_3 b g (t + 1) _]
    show s.1 + 2 + g * 2 = _
    omega
theorem cn_4 (o : Nat) (s : bS) : (rp (f_3 s.1) 0 16 (rp (f_2 s.1) 0 4 (rp (f_1 s.1) 0 10 (rp (f_0 s.1) 0 16 (c_X8a o s))))).1 = s.1 + 41 := by
  rw [fc_3, cn_3]
theorem fc_4 (b : Nat) : ∀ (g t : Nat) (s : bS), (rp (f_4 b) t g s).1 = s.1 + g * 4
  | 0, _, s => by show s.1 = _; omega
  | g + 1, t, s => by
    show (rp (f_4 b) (t + 1) g (f_4 b t s)).1 = _
    rw [fc_4 b g (t + 1) _]
    show s.1 + 4 + g * 4 = _
    omega
theorem cn_5 (o : Nat) (s : bS) : (rp (f_4 s.1) 0 8 (rp (f_3 s.1) 0 16 (rp (f_2 s.1) 0 4 (rp (f_1 s.1) 0 10 (rp (f_0 s.1) 0 16 (c_X8a o s)))))).1 = s.1 + 73 := by
  rw [fc_4, cn_4]
theorem fc_5 (b : Nat) : ∀ (g t : Nat) (s : bS), (rp (f_5 b) t g s).1 = s.1 + g * 1
  | 0, _, s => by show s.1 = _; omega
  | g + 1, t, s => by
    show (rp (f_5 b) (t + 1) g (f_5 b t s)).1 = _
    rw [fc_5 b g (t + 1) _]
    show s.1 + 1 + g * 1 = _
    omega
theorem cn_6 (o : Nat) (s : bS) : (rp (f_5 s.1) 0 24 (rp (f_4 s.1) 0 8 (rp (f_3 s.1) 0 16 (rp (f_2 s.1) 0 4 (rp (f_1 s.1) 0 10 (rp (f_0 s.1) 0 16 (c_X8a o s))))))).1 = s.1 + 97 := by
  rw [fc_5, cn_5]
theorem fc_6 (b : Nat) : ∀ (g t : Nat) (s : bS), (rp (f_6 b) t g s).1 = s.1 + g * 1
  | 0, _, s => by show s.1 = _; omega
  | g + 1, t, s => by
    show (rp (f_6 b) (t + 1) g (f_6 b t s)).1 = _
    rw [fc_6 b g (t + 1) _]
    show s.1 + 1 + g * 1 = _
    omega
theorem c_X8_n (o : Nat) (s : bS) : (c_X8 o s).1 = s.1 + 137 := by
  rw [c_X8, fc_6, cn_6]
theorem i_X8 {S0 S : zS} {s : bS} {I : zI} {J : zJ} {o : Nat} (d : Nat) (h : bAt S0 s S I J) (k0 : bK s o (8, 0)) (hz : s.1 + 137 ≤ zXB) : Z M_X8_init (d + 1) 137 740 0 [some (.ref o), none] [] S I J (bQ S0 (c_X8 o s)) := by
  have o0 := b_lt h k0
  refine z_aload_n Q_X8_init (k := 0) rfl rfl ?_
  refine z_object Q_X8_init (k := 1) rfl L_X8_3 G_obj.1 G_obj.2 (by decide) ?_
  refine z_aload_n Q_X8_init (k := 2) rfl rfl ?_
  refine y_bipush Q_X8_init (k := 3) rfl (by decide) ?_
  refine b_newa (t := 1) (n := 16) h Q_X8_init (k := 4) rfl rfl rfl (by decide) A_long rfl (by decide) (by decide) (by decide) (by simp [bls, zrb, o0]) (show s.1 < zXB by omega) (by omega) (by omega) (fun S1 I1 J1 (h1 : bAt S0 (bnew 101 16 s) S1 I1 J1) => ?_)
  have k1 := k0.nw (c := 101) (n := 16) o0
  have m1 : bK (bnew 101 16 s) (s.1) (101, 16) := bK.me
  refine b_putR h1 k1 (b := s.1) (b_lt h1 m1) (show s.1 + 1 ≤ zXB by omega) Q_X8_init (k := 5) rfl F_X8_9 rfl (fun _ => rfl) (fun _ => rfl) (Or.inr ⟨rfl, rfl⟩) (fun S2 I2 J2 (h2 : bAt S0 (bref o 1 (s.1) (bnew 101 16 s)) S2 I2 J2) => ?_)
  have k2 : bK (bref o 1 (s.1) (bnew 101 16 s)) o (8, 0) := k1
  have o2 := b_lt h2 k2
  refine z_aload_n Q_X8_init (k := 6) rfl rfl ?_
  refine y_bipush Q_X8_init (k := 7) rfl (by decide) ?_
  refine b_newa (t := 0) (n := 10) h2 Q_X8_init (k := 8) rfl rfl rfl (by decide) A_int rfl (by decide) (by decide) (by decide) (by simp [bls, zrb, o2]) (show s.1 + 1 < zXB by omega) (by omega) (by omega) (fun S3 I3 J3 (h3 : bAt S0 (bnew 100 10 (bref o 1 (s.1) (bnew 101 16 s))) S3 I3 J3) => ?_)
  have k3 := k2.nw (c := 100) (n := 10) o2
  have m3 : bK (bnew 100 10 (bref o 1 (s.1) (bnew 101 16 s))) (s.1 + 1) (100, 10) := bK.me
  refine b_putR h3 k3 (b := s.1 + 1) (b_lt h3 m3) (show s.1 + 2 ≤ zXB by omega) Q_X8_init (k := 9) rfl F_X8_15 rfl (fun _ => rfl) (fun _ => rfl) (Or.inr ⟨rfl, rfl⟩) (fun S4 I4 J4 (h4 : bAt S0 (bref o 2 (s.1 + 1) (bnew 100 10 (bref o 1 (s.1) (bnew 101 16 s)))) S4 I4 J4) => ?_)
  have k4 : bK (bref o 2 (s.1 + 1) (bnew 100 10 (bref o 1 (s.1) (bnew 101 16 s)))) o (8, 0) := k3
  have o4 := b_lt h4 k4
  refine z_aload_n Q_X8_init (k := 10) rfl rfl ?_
  refine y_bipush Q_X8_init (k := 11) rfl (by decide) ?_
  refine b_newa (t := 0) (n := 10) h4 Q_X8_init (k := 12) rfl rfl rfl (by decide) A_int rfl (by decide) (by decide) (by decide) (by simp [bls, zrb, o4]) (show s.1 + 2 < zXB by omega) (by omega) (by omega) (fun S5 I5 J5 (h5 : bAt S0 (bnew 100 10 (bref o 2 (s.1 + 1) (bnew 100 10 (bref o 1 (s.1) (bnew 101 16 s))))) S5 I5 J5) => ?_)
  have k5 := k4.nw (c := 100) (n := 10) o4
  have m5 : bK (bnew 100 10 (bref o 2 (s.1 + 1) (bnew 100 10 (bref o 1 (s.1) (bnew 101 16 s))))) (s.1 + 2) (100, 10) := bK.me
  refine b_putR h5 k5 (b := s.1 + 2) (b_lt h5 m5) (show s.1 + 3 ≤ zXB by omega) Q_X8_init (k := 13) rfl F_X8_19 rfl (fun _ => rfl) (fun _ => rfl) (Or.inr ⟨rfl, rfl⟩) (fun S6 I6 J6 (h6 : bAt S0 (bref o 3 (s.1 + 2) (bnew 100 10 (bref o 2 (s.1 + 1) (bnew 100 10 (bref o 1 (s.1) (bnew 101 16 s)))))) S6 I6 J6) => ?_)
  have k6 : bK (bref o 3 (s.1 + 2) (bnew 100 10 (bref o 2 (s.1 + 1) (bnew 100 10 (bref o 1 (s.1) (bnew 101 16 s)))))) o (8, 0) := k5
  have o6 := b_lt h6 k6
  refine z_aload_n Q_X8_init (k := 14) rfl rfl ?_
  refine y_iconst Q_X8_init (k := 15) rfl ?_
  refine b_newa (t := 0) (n := 4) h6 Q_X8_init (k := 16) rfl rfl rfl (by decide) A_int rfl (by decide) (by decide) (by decide) (by simp [bls, zrb, o6]) (show s.1 + 3 < zXB by omega) (by omega) (by omega) (fun S7 I7 J7 (h7 : bAt S0 (bnew 100 4 (bref o 3 (s.1 + 2) (bnew 100 10 (bref o 2 (s.1 + 1) (bnew 100 10 (bref o 1 (s.1) (bnew 101 16 s))))))) S7 I7 J7) => ?_)
  have k7 := k6.nw (c := 100) (n := 4) o6
  have m7 : bK (bnew 100 4 (bref o 3 (s.1 + 2) (bnew 100 10 (bref o 2 (s.1 + 1) (bnew 100 10 (bref o 1 (s.1) (bnew 101 16 s))))))) (s.1 + 3) (100, 4) := bK.me
  refine b_putR h7 k7 (b := s.1 + 3) (b_lt h7 m7) (show s.1 + 4 ≤ zXB by omega) Q_X8_init (k := 17) rfl F_X8_22 rfl (fun _ => rfl) (fun _ => rfl) (Or.inr ⟨rfl, rfl⟩) (fun S8 I8 J8 (h8 : bAt S0 (bref o 5 (s.1 + 3) (bnew 100 4 (bref o 3 (s.1 + 2) (bnew 100 10 (bref o 2 (s.1 + 1) (bnew 100 10 (bref o 1 (s.1) (bnew 101 16 s)))))))) S8 I8 J8) => ?_)
  have k8 : bK (bref o 5 (s.1 + 3) (bnew 100 4 (bref o 3 (s.1 + 2) (bnew 100 10 (bref o 2 (s.1 + 1) (bnew 100 10 (bref o 1 (s.1) (bnew 101 16 s)))))))) o (8, 0) := k7
  have o8 := b_lt h8 k8
  refine z_aload_n Q_X8_init (k := 18) rfl rfl ?_
  refine y_iconst Q_X8_init (k := 19) rfl ?_
  refine b_newa (t := 0) (n := 4) h8 Q_X8_init (k := 20) rfl rfl rfl (by decide) A_int rfl (by decide) (by decide) (by decide) (by simp [bls, zrb, o8]) (show s.1 + 4 < zXB by omega) (by omega) (by omega) (fun S9 I9 J9 (h9 : bAt S0 (bnew 100 4 (bref o 5 (s.1 + 3) (bnew 100 4 (bref o 3 (s.1 + 2) (bnew 100 10 (bref o 2 (s.1 + 1) (bnew 100 10 (bref o 1 (s.1) (bnew 101 16 s))))))))) S9 I9 J9) => ?_)
  have k9 := k8.nw (c := 100) (n := 4) o8
  have m9 : bK (bnew 100 4 (bref o 5 (s.1 + 3) (bnew 100 4 (bref o 3 (s.1 + 2) (bnew 100 10 (bref o 2 (s.1 + 1) (bnew 100 10 (bref o 1 (s.1) (bnew 101 16 s))))))))) (s.1 + 4) (100, 4) := bK.me
  refine b_putR h9 k9 (b := s.1 + 4) (b_lt h9 m9) (show s.1 + 5 ≤ zXB by omega) Q_X8_init (k := 21) rfl F_X8_25 rfl (fun _ => rfl) (fun _ => rfl) (Or.inr ⟨rfl, rfl⟩) (fun S10 I10 J10 (h10 : bAt S0 (bref o 6 (s.1 + 4) (bnew 100 4 (bref o 5 (s.1 + 3) (bnew 100 4 (bref o 3 (s.1 + 2) (bnew 100 10 (bref o 2 (s.1 + 1) (bnew 100 10 (bref o 1 (s.1) (bnew 101 16 s)))))))))) S10 I10 J10) => ?_)
  have k10 : bK (bref o 6 (s.1 + 4) (bnew 100 4 (bref o 5 (s.1 + 3) (bnew 100 4 (bref o 3 (s.1 + 2) (bnew 100 10 (bref o 2 (s.1 + 1) (bnew 100 10 (bref o 1 (s.1) (bnew 101 16 s)))))))))) o (8, 0) := k9
  have o10 := b_lt h10 k10
  refine z_aload_n Q_X8_init (k := 22) rfl rfl ?_
  refine y_bipush Q_X8_init (k := 23) rfl (by decide) ?_
  refine b_newq (t := 6) (n := 16) h10 Q_X8_init (k := 24) rfl rfl (by decide) (by decide) C_X8_28 (by decide) (by decide) (by simp [bls, zrb, o10]) (show s.1 + 5 < zXB by omega) (by omega) (by omega) (fun S11 I11 J11 (h11 : bAt S0 (bnew 106 16 (bref o 6 (s.1 + 4) (bnew 100 4 (bref o 5 (s.1 + 3) (bnew 100 4 (bref o 3 (s.1 + 2) (bnew 100 10 (bref o 2 (s.1 + 1) (bnew 100 10 (bref o 1 (s.1) (bnew 101 16 s))))))))))) S11 I11 J11) => ?_)
  have k11 := k10.nw (c := 106) (n := 16) o10
  have m11 : bK (bnew 106 16 (bref o 6 (s.1 + 4) (bnew 100 4 (bref o 5 (s.1 + 3) (bnew 100 4 (bref o 3 (s.1 + 2) (bnew 100 10 (bref o 2 (s.1 + 1) (bnew 100 10 (bref o 1 (s.1) (bnew 101 16 s))))))))))) (s.1 + 5) (106, 16) := bK.me
  refine b_putR h11 k11 (b := s.1 + 5) (b_lt h11 m11) (show s.1 + 6 ≤ zXB by omega) Q_X8_init (k := 25) rfl F_X8_30 rfl (fun _ => rfl) (fun _ => rfl) (Or.inr ⟨rfl, rfl⟩) (fun S12 I12 J12 (h12 : bAt S0 (bref o 7 (s.1 + 5) (bnew 106 16 (bref o 6 (s.1 + 4) (bnew 100 4 (bref o 5 (s.1 + 3) (bnew 100 4 (bref o 3 (s.1 + 2) (bnew 100 10 (bref o 2 (s.1 + 1) (bnew 100 10 (bref o 1 (s.1) (bnew 101 16 s)))))))))))) S12 I12 J12) => ?_)
  have k12 : bK (bref o 7 (s.1 + 5) (bnew 106 16 (bref o 6 (s.1 + 4) (bnew 100 4 (bref o 5 (s.1 + 3) (bnew 100 4 (bref o 3 (s.1 + 2) (bnew 100 10 (bref o 2 (s.1 + 1) (bnew 100 10 (bref o 1 (s.1) (bnew 101 16 s)))))))))))) o (8, 0) := k11
  have o12 := b_lt h12 k12
  refine z_aload_n Q_X8_init (k := 26) rfl rfl ?_
  refine y_bipush Q_X8_init (k := 27) rfl (by decide) ?_
  refine b_newq (t := 7) (n := 8) h12 Q_X8_init (k := 28) rfl rfl (by decide) (by decide) C_X8_34 (by decide) (by decide) (by simp [bls, zrb, o12]) (show s.1 + 6 < zXB by omega) (by omega) (by omega) (fun S13 I13 J13 (h13 : bAt S0 (bnew 107 8 (bref o 7 (s.1 + 5) (bnew 106 16 (bref o 6 (s.1 + 4) (bnew 100 4 (bref o 5 (s.1 + 3) (bnew 100 4 (bref o 3 (s.1 + 2) (bnew 100 10 (bref o 2 (s.1 + 1) (bnew 100 10 (bref o 1 (s.1) (bnew 101 16 s))))))))))))) S13 I13 J13) => ?_)
  have k13 := k12.nw (c := 107) (n := 8) o12
  have m13 : bK (bnew 107 8 (bref o 7 (s.1 + 5) (bnew 106 16 (bref o 6 (s.1 + 4) (bnew 100 4 (bref o 5 (s.1 + 3) (bnew 100 4 (bref o 3 (s.1 + 2) (bnew 100 10 (bref o 2 (s.1 + 1) (bnew 100 10 (bref o 1 (s.1) (bnew 101 16 s))))))))))))) (s.1 + 6) (107, 8) := bK.me
  refine b_putR h13 k13 (b := s.1 + 6) (b_lt h13 m13) (show s.1 + 7 ≤ zXB by omega) Q_X8_init (k := 29) rfl F_X8_36 rfl (fun _ => rfl) (fun _ => rfl) (Or.inr ⟨rfl, rfl⟩) (fun S14 I14 J14 (h14 : bAt S0 (bref o 9 (s.1 + 6) (bnew 107 8 (bref o 7 (s.1 + 5) (bnew 106 16 (bref o 6 (s.1 + 4) (bnew 100 4 (bref o 5 (s.1 + 3) (bnew 100 4 (bref o 3 (s.1 + 2) (bnew 100 10 (bref o 2 (s.1 + 1) (bnew 100 10 (bref o 1 (s.1) (bnew 101 16 s)))))))))))))) S14 I14 J14) => ?_)
  have k14 : bK (bref o 9 (s.1 + 6) (bnew 107 8 (bref o 7 (s.1 + 5) (bnew 106 16 (bref o 6 (s.1 + 4) (bnew 100 4 (bref o 5 (s.1 + 3) (bnew 100 4 (bref o 3 (s.1 + 2) (bnew 100 10 (bref o 2 (s.1 + 1) (bnew 100 10 (bref o 1 (s.1) (bnew 101 16 s)))))))))))))) o (8, 0) := k13
  have o14 := b_lt h14 k14
  refine z_aload_n Q_X8_init (k := 30) rfl rfl ?_
  refine y_bipush Q_X8_init (k := 31) rfl (by decide) ?_
  refine b_newq (t := 8) (n := 24) h14 Q_X8_init (k := 32) rfl rfl (by decide) (by decide) C_X8_40 (by decide) (by decide) (by simp [bls, zrb, o14]) (show s.1 + 7 < zXB by omega) (by omega) (by omega) (fun S15 I15 J15 (h15 : bAt S0 (bnew 108 24 (bref o 9 (s.1 + 6) (bnew 107 8 (bref o 7 (s.1 + 5) (bnew 106 16 (bref o 6 (s.1 + 4) (bnew 100 4 (bref o 5 (s.1 + 3) (bnew 100 4 (bref o 3 (s.1 + 2) (bnew 100 10 (bref o 2 (s.1 + 1) (bnew 100 10 (bref o 1 (s.1) (bnew 101 16 s))))))))))))))) S15 I15 J15) => ?_)
  have k15 := k14.nw (c := 108) (n := 24) o14
  have m15 : bK (bnew 108 24 (bref o 9 (s.1 + 6) (bnew 107 8 (bref o 7 (s.1 + 5) (bnew 106 16 (bref o 6 (s.1 + 4) (bnew 100 4 (bref o 5 (s.1 + 3) (bnew 100 4 (bref o 3 (s.1 + 2) (bnew 100 10 (bref o 2 (s.1 + 1) (bnew 100 10 (bref o 1 (s.1) (bnew 101 16 s))))))))))))))) (s.1 + 7) (108, 24) := bK.me
  refine b_putR h15 k15 (b := s.1 + 7) (b_lt h15 m15) (show s.1 + 8 ≤ zXB by omega) Q_X8_init (k := 33) rfl F_X8_42 rfl (fun _ => rfl) (fun _ => rfl) (Or.inr ⟨rfl, rfl⟩) (fun S16 I16 J16 (h16 : bAt S0 (bref o 11 (s.1 + 7) (bnew 108 24 (bref o 9 (s.1 + 6) (bnew 107 8 (bref o 7 (s.1 + 5) (bnew 106 16 (bref o 6 (s.1 + 4) (bnew 100 4 (bref o 5 (s.1 + 3) (bnew 100 4 (bref o 3 (s.1 + 2) (bnew 100 10 (bref o 2 (s.1 + 1) (bnew 100 10 (bref o 1 (s.1) (bnew 101 16 s)))))))))))))))) S16 I16 J16) => ?_)
  have k16 : bK (bref o 11 (s.1 + 7) (bnew 108 24 (bref o 9 (s.1 + 6) (bnew 107 8 (bref o 7 (s.1 + 5) (bnew 106 16 (bref o 6 (s.1 + 4) (bnew 100 4 (bref o 5 (s.1 + 3) (bnew 100 4 (bref o 3 (s.1 + 2) (bnew 100 10 (bref o 2 (s.1 + 1) (bnew 100 10 (bref o 1 (s.1) (bnew 101 16 s)))))))))))))))) o (8, 0) := k15
  have o16 := b_lt h16 k16
  refine z_aload_n Q_X8_init (k := 34) rfl rfl ?_
  refine y_bipush Q_X8_init (k := 35) rfl (by decide) ?_
  refine b_newq (t := 9) (n := 40) h16 Q_X8_init (k := 36) rfl rfl (by decide) (by decide) C_X8_46 (by decide) (by decide) (by simp [bls, zrb, o16]) (show s.1 + 8 < zXB by omega) (by omega) (by omega) (fun S17 I17 J17 (h17 : bAt S0 (bnew 109 40 (bref o 11 (s.1 + 7) (bnew 108 24 (bref o 9 (s.1 + 6) (bnew 107 8 (bref o 7 (s.1 + 5) (bnew 106 16 (bref o 6 (s.1 + 4) (bnew 100 4 (bref o 5 (s.1 + 3) (bnew 100 4 (bref o 3 (s.1 + 2) (bnew 100 10 (bref o 2 (s.1 + 1) (bnew 100 10 (bref o 1 (s.1) (bnew 101 16 s))))))))))))))))) S17 I17 J17) => ?_)
  have k17 := k16.nw (c := 109) (n := 40) o16
  have m17 : bK (bnew 109 40 (bref o 11 (s.1 + 7) (bnew 108 24 (bref o 9 (s.1 + 6) (bnew 107 8 (bref o 7 (s.1 + 5) (bnew 106 16 (bref o 6 (s.1 + 4) (bnew 100 4 (bref o 5 (s.1 + 3) (bnew 100 4 (bref o 3 (s.1 + 2) (bnew 100 10 (bref o 2 (s.1 + 1) (bnew 100 10 (bref o 1 (s.1) (bnew 101 16 s))))))))))))))))) (s.1 + 8) (109, 40) := bK.me
  refine b_putR h17 k17 (b := s.1 + 8) (b_lt h17 m17) (show s.1 + 9 ≤ zXB by omega) Q_X8_init (k := 37) rfl F_X8_48 rfl (fun _ => rfl) (fun _ => rfl) (Or.inr ⟨rfl, rfl⟩) (fun S18 I18 J18 (h18 : bAt S0 (bref o 13 (s.1 + 8) (bnew 109 40 (bref o 11 (s.1 + 7) (bnew 108 24 (bref o 9 (s.1 + 6) (bnew 107 8 (bref o 7 (s.1 + 5) (bnew 106 16 (bref o 6 (s.1 + 4) (bnew 100 4 (bref o 5 (s.1 + 3) (bnew 100 4 (bref o 3 (s.1 + 2) (bnew 100 10 (bref o 2 (s.1 + 1) (bnew 100 10 (bref o 1 (s.1) (bnew 101 16 s)))))))))))))))))) S18 I18 J18) => ?_)
  have k18 : bK (bref o 13 (s.1 + 8) (bnew 109 40 (bref o 11 (s.1 + 7) (bnew 108 24 (bref o 9 (s.1 + 6) (bnew 107 8 (bref o 7 (s.1 + 5) (bnew 106 16 (bref o 6 (s.1 + 4) (bnew 100 4 (bref o 5 (s.1 + 3) (bnew 100 4 (bref o 3 (s.1 + 2) (bnew 100 10 (bref o 2 (s.1 + 1) (bnew 100 10 (bref o 1 (s.1) (bnew 101 16 s)))))))))))))))))) o (8, 0) := k17
  have o18 := b_lt h18 k18
  have hI := tI.a k0 o0
  have hh : bAt S0 (c_X8a o s) _ _ _ := h18
  refine y_iconst Q_X8_init (k := 38) rfl ?_
  refine y_istore_n (L' := [some (.ref o), some (.int (iI ((0 : Nat) : Int)))]) Q_X8_init (k := 39) rfl (by decide) rfl ?_
  refine Z.wid (kc' := 128 + 16 * 0) (ks' := 608 + 16 * 0) (l_X8_0 (kc := 128) (ks := 608) 16 0 (by decide) (show s.1 + 9 + 16 * 0 ≤ zXB by omega) hI hh (fun S0' I0' J0' h0' hI => ?_)) (by decide) (by decide)
  refine y_iconst Q_X8_init (k := 50) rfl ?_
  refine y_istore_n (L' := [some (.ref o), some (.int (iI ((0 : Nat) : Int)))]) Q_X8_init (k := 51) rfl (by decide) rfl ?_
  refine Z.wid (kc' := 128 + 10 * 0) (ks' := 608 + 10 * 0) (l_X8_1 (kc := 128) (ks := 608) 10 0 (by decide) (by rw [cn_1]; omega) hI h0' (fun S1' I1' J1' h1' hI => ?_)) (by decide) (by decide)
  refine y_iconst Q_X8_init (k := 67) rfl ?_
  refine y_istore_n (L' := [some (.ref o), some (.int (iI ((0 : Nat) : Int)))]) Q_X8_init (k := 68) rfl (by decide) rfl ?_
  refine Z.wid (kc' := 128 + 4 * 0) (ks' := 608 + 4 * 0) (l_X8_2 (kc := 128) (ks := 608) 4 0 (by decide) (by rw [cn_2]; omega) hI h1' (fun S2' I2' J2' h2' hI => ?_)) (by decide) (by decide)
  refine y_iconst Q_X8_init (k := 79) rfl ?_
  refine y_istore_n (L' := [some (.ref o), some (.int (iI ((0 : Nat) : Int)))]) Q_X8_init (k := 80) rfl (by decide) rfl ?_
  refine Z.wid (kc' := 96 + 16 * 2) (ks' := 480 + 16 * 8) (l_X8_3 (kc := 96) (ks := 480) 16 0 (by decide) (by rw [cn_3]; omega) hI h2' (fun S3' I3' J3' h3' hI => ?_)) (by decide) (by decide)
  refine y_iconst Q_X8_init (k := 93) rfl ?_
  refine y_istore_n (L' := [some (.ref o), some (.int (iI ((0 : Nat) : Int)))]) Q_X8_init (k := 94) rfl (by decide) rfl ?_
  refine Z.wid (kc' := 64 + 8 * 4) (ks' := 232 + 8 * 31) (l_X8_4 (kc := 64) (ks := 232) 8 0 (by decide) (by rw [cn_4]; omega) hI h3' (fun S4' I4' J4' h4' hI => ?_)) (by decide) (by decide)
  refine y_iconst Q_X8_init (k := 107) rfl ?_
  refine y_istore_n (L' := [some (.ref o), some (.int (iI ((0 : Nat) : Int)))]) Q_X8_init (k := 108) rfl (by decide) rfl ?_
  refine Z.wid (kc' := 40 + 24 * 1) (ks' := 160 + 24 * 3) (l_X8_5 (kc := 40) (ks := 160) 24 0 (by decide) (by rw [cn_5]; omega) hI h4' (fun S5' I5' J5' h5' hI => ?_)) (by decide) (by decide)
  refine y_iconst Q_X8_init (k := 121) rfl ?_
  refine y_istore_n (L' := [some (.ref o), some (.int (iI ((0 : Nat) : Int)))]) Q_X8_init (k := 122) rfl (by decide) rfl ?_
  refine Z.wid (kc' := 0 + 40 * 1) (ks' := 0 + 40 * 4) (l_X8_6 (kc := 0) (ks := 0) 40 0 (by decide) (by rw [cn_6]; omega) hI h5' (fun S6' I6' J6' h6' hI => ?_)) (by decide) (by decide)
  exact z_vret Q_X8_init (k := 135) rfl rfl ⟨rfl, h6'⟩
