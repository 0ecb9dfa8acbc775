/-! what stands when the loop begins -/
theorem bK_C : ∀ i, i < 625 → al1 bKL i = zat zKl i := by decide +kernel
theorem bR_C : ∀ q ∈ zRl, q.1 < 625 ∧ al2 bRL q.1 q.2.1 = some q.2.2 := by decide +kernel
theorem st_sh {S0 S : zS} {I : zI} {J : zJ} (h : bAt S0 bz5 S I J) : zSh S := by
  have n1 : S.2.2 = 625 := h.1.1.trans bf_n
  have k1 : ∀ i, i < 625 → al1 bKL i = some (S.2.1 i) := fun i hi => by
    have := h.2.1.1 i (by rw [bf_n]; exact hi)
    rwa [bf_K] at this
  have r1 : ∀ i, i < 625 → ∀ j, S.1 i j = al2 bRL i j := fun i hi j => by
    have := h.2.2.1.1 i (by rw [bf_n]; exact hi) j
    rwa [bf_R] at this
  refine ⟨by omega, by omega, fun i hi => ?_, fun q hq => ?_⟩
  · rw [← k1 i hi]; exact bK_C i hi
  · exact (r1 q.1 (bR_C q hq).1 q.2.1).trans (bR_C q hq).2
section
variable {x : Nat → Int} {n : Int}
theorem v_1_1 : V0 x n 1 1 = 0 := (V0_v (by decide) _).trans (by decide +kernel)
theorem v_602_12 : V0 x n 602 12 = 0 := (V0_v (by decide) _).trans (by decide +kernel)
theorem v_1_12 : V0 x n 1 12 = -1 := (V0_v (by decide) _).trans (by decide +kernel)
theorem v_602_20 : V0 x n 602 20 = -1 := (V0_v (by decide) _).trans (by decide +kernel)
theorem v_0_2 : V0 x n 0 2 = 0 := (V0_v (by decide) _).trans (by decide +kernel)
theorem v_602_11 : V0 x n 602 11 = 0 := (V0_v (by decide) _).trans (by decide +kernel)
theorem v_12_4 : V0 x n 12 4 = 0 := (V0_v (by decide) _).trans (by decide +kernel)
theorem v_603_20 : V0 x n 603 20 = 0 := (V0_v (by decide) _).trans (by decide +kernel)
theorem v_12_8 : V0 x n 12 8 = 0 := (V0_v (by decide) _).trans (by decide +kernel)
theorem v_603_21 : V0 x n 603 21 = 0 := (V0_v (by decide) _).trans (by decide +kernel)
theorem v_12_10 : V0 x n 12 10 = 0 := (V0_v (by decide) _).trans (by decide +kernel)
theorem v_603_142 : V0 x n 603 142 = 0 := (V0_v (by decide) _).trans (by decide +kernel)
theorem v_12_12 : V0 x n 12 12 = 0 := (V0_v (by decide) _).trans (by decide +kernel)
theorem v_603_359 : V0 x n 603 359 = 0 := (V0_v (by decide) _).trans (by decide +kernel)
theorem v_12_14 : V0 x n 12 14 = 0 := (V0_v (by decide) _).trans (by decide +kernel)
theorem v_603_432 : V0 x n 603 432 = 0 := (V0_v (by decide) _).trans (by decide +kernel)
theorem v_12_0 : V0 x n 12 0 = 0 := (V0_v (by decide) _).trans (by decide +kernel)
theorem v_603_593 : V0 x n 603 593 = 0 := (V0_v (by decide) _).trans (by decide +kernel)
theorem v_0_5 : V0 x n 0 5 = 0 := (V0_v (by decide) _).trans (by decide +kernel)
theorem v_602_33 : V0 x n 602 33 = 0 := (V0_v (by decide) _).trans (by decide +kernel)
theorem v_159_2 : V0 x n 159 2 = 0 := (V0_v (by decide) _).trans (by decide +kernel)
theorem v_159_100 : V0 x n 159 100 = 1 := (V0_v (by decide) _).trans (by decide +kernel)
theorem v_159_3 : V0 x n 159 3 = 0 := (V0_v (by decide) _).trans (by decide +kernel)
theorem v_159_4 : V0 x n 159 4 = 0 := (V0_v (by decide) _).trans (by decide +kernel)
theorem v_159_6 : V0 x n 159 6 = 0 := (V0_v (by decide) _).trans (by decide +kernel)
theorem v_159_7 : V0 x n 159 7 = 163 := (V0_v (by decide) _).trans (by decide +kernel)
theorem v_159_8 : V0 x n 159 8 = 0 := (V0_v (by decide) _).trans (by decide +kernel)
theorem v_151_3 : V0 x n 151 3 = 0 := (V0_v (by decide) _).trans (by decide +kernel)
theorem v_2 (k : Int) : V0 x n 2 k = 0 := (V0_v (by decide) _).trans (v1_0 (by decide +kernel) (by decide) _)
theorem v_613 (k : Int) : V0 x n 613 k = 0 := (V0_v (by decide) _).trans (v1_0 (by decide +kernel) (by decide) _)
theorem v_160 (k : Int) : V0 x n 160 k = 0 := (V0_v (by decide) _).trans (v1_0 (by decide +kernel) (by decide) _)
theorem v_161 (k : Int) : V0 x n 161 k = 0 := (V0_v (by decide) _).trans (v1_0 (by decide +kernel) (by decide) _)
theorem v_U : ∀ k : Int, 0 ≤ k → k < 10 → (v1 (12 + 2) k = v1 603 k ∧ 0 ≤ v1 603 k ∧ v1 603 k ≤ 2) ∧ (v1 (12 + 3) k = v1 603 (10 + k) ∧ 1 ≤ v1 603 (10 + k) ∧ v1 603 (10 + k) ≤ 9) := rng 10 (by decide +kernel)
theorem v_G : ∀ k : Int, 0 ≤ k → k < 4 → (v1 (12 + 4) k = v1 603 (134 + k) ∧ (v1 603 (134 + k) = 0 ∨ v1 603 (134 + k) = 1)) ∧ v1 (12 + 5) k = v1 603 (138 + k) := rng 4 (by decide +kernel)
theorem v_621 : ∀ k : Int, 0 ≤ k → k < 10 → v1 621 k = 3 ^ k.toNat := rng 10 (by decide +kernel)
theorem Rel0 : Rel 81920 (V0 x n) J0 := by
  refine ⟨⟨⟨?_, ?_, ?_⟩, fun k _ _ => ?_⟩, ?_, ⟨⟨?_, ?_, ?_⟩, fun l a b => ?_⟩, ⟨⟨⟨?_, ?_, ?_⟩, fun k a b => ?_⟩, ⟨⟨?_, ?_, ?_⟩, fun p a b => ?_⟩, fun k a b => ?_, ⟨⟨?_, ?_, ?_⟩, fun p a b => ?_⟩, ⟨⟨?_, ?_, ?_⟩, fun p a b => ?_⟩, ⟨⟨?_, ?_, ?_⟩, fun p a b => ?_⟩, ⟨?_, ?_, ?_⟩, fun v a b => ?_⟩, ⟨⟨?_, ?_, ?_⟩, fun i a b => ?_, fun i j a _ b => ?_⟩, fun c a b => ?_, ⟨⟨⟨?_, ?_⟩, fun k _ _ => ?_⟩, ⟨⟨?_, ?_⟩, ?_, ?_⟩, fun v _ _ => ?_, ⟨⟨?_, ?_⟩, fun i a b => ?_, fun i j a _ b => ?_, fun u _ _ e => ?_⟩, ⟨⟨?_, ?_⟩, ?_⟩, ?_⟩, ⟨⟨?_, ?_⟩, fun a => ?_⟩, fun k a b => ?_⟩
  · rw [v_1_1, v_602_12]
  · rw [v_602_12]; decide
  · rw [v_602_12]; decide
  · rw [v_2, v_613]; decide
  · rw [v_1_12, v_602_20]
  · rw [v_0_2, v_602_11]
  · rw [v_602_11]; decide
  · rw [v_602_11]; decide
  · rw [v_602_11] at b; omega
  · rw [v_12_4, v_603_20]
  · rw [v_603_20]; decide
  · rw [v_603_20]; decide
  · rw [V0_v (by decide), V0_v (by decide), V0_v (by decide), V0_v (by decide)]; exact v_U k a b
  · rw [v_12_8, v_603_21]
  · rw [v_603_21]; decide
  · rw [v_603_21]; decide
  · rw [v_603_21] at b; omega
  · rw [V0_v (by decide), V0_v (by decide), V0_v (by decide), V0_v (by decide)]; exact v_G k a b
  · rw [v_12_10, v_603_142]
  · rw [v_603_142]; decide
  · rw [v_603_142]; decide
  · rw [v_603_142] at b; omega
  · rw [v_12_12, v_603_359]
  · rw [v_603_359]; decide
  · rw [v_603_359]; decide
  · rw [v_603_359] at b; omega
  · rw [v_12_14, v_603_432]
  · rw [v_603_432]; decide
  · rw [v_603_432]; decide
  · rw [v_603_432] at b; omega
  · rw [v_12_0, v_603_593]
  · rw [v_603_593]; decide
  · rw [v_603_593]; decide
  · constructor
    · intro _ c a b
      rw [v_603_593] at b; omega
    · intro _
      rw [show (12 : Int) + 1 = 13 from rfl, J0_13 _ (by omega) (by omega)]
      exact hb_m1 (by omega)
  · rw [v_0_5, v_602_33]
  · rw [v_602_33]; decide
  · rw [v_602_33]; decide
  · rw [v_602_33] at b; omega
  · rw [v_602_33] at b; omega
  · rw [v_603_593] at b; omega
  · rw [v_159_2]; decide
  · rw [v_159_2, v_159_100]
    have := (gT_b 1 10).2
    have u : gN 1 ≤ 10 := this
    omega
  · rw [v_161, v_159_2]; decide
  · rw [v_159_3]; decide
  · rw [v_159_3]; decide
  · rw [v_159_4]; decide
  · rw [v_159_4]; decide
  · rw [v_160]; decide
  · rw [v_159_6]; decide
  · rw [v_159_6]; decide
  · rw [v_159_6] at b; omega
  · rw [v_159_6] at b; omega
  · rw [v_159_3, telB, tb_0] at e; cases e
  · rw [v_159_100]; decide
  · rw [v_159_100]; decide
  · left; exact v_159_7
  · left; exact v_159_8
  · rw [v_151_3]; decide
  · rw [v_151_3]; decide
  · rw [v_151_3] at a; omega
  · rw [V0_v (by decide)]; exact v_621 k a b
end
theorem qB0 {S0 S : zS} {I : zI} {J : zJ} {y : Nat → Nat} {n : Nat} (h : bAt S0 bz5 S I J) (hn : n ≤ 3072) (hs : ∀ j, S0.1 (zXB + 4) j = some (y j)) (hl : (S0.2.1 (zXB + 4)).2 = n) : qB S (V0 (fun j => (Int32.ofNat (y j)).toInt) n) := by
  have hsh := st_sh h
  have n1 : S.2.2 = 625 := h.1.1.trans bf_n
  have r1 : ∀ i, i < 625 → ∀ j, S.1 i j = al2 bRL i j := fun i hi j => by
    have := h.2.2.1.1 i (by rw [bf_n]; exact hi) j
    rwa [bf_R] at this
  refine ⟨hsh, fun a j => ?_, ⟨?_, ?_⟩, ⟨?_, ?_, ?_, ?_, ?_⟩, b_ri h, fun j => ?_, fun j => ?_, ?_, ?_, ?_⟩
  · unfold V0
    split; exact v1_r _ _
    split; exact zr_of _
    split; exact ⟨by omega, by omega⟩
    exact ⟨by decide, by decide⟩
  · rw [show V0 (fun j => (Int32.ofNat (y j)).toInt) n 1 14 = 6 from (V0_v (by decide) _).trans (by decide +kernel)]
    exact qLa_6 hsh
  · rw [show V0 (fun j => (Int32.ofNat (y j)).toInt) n 1 14 = 6 from (V0_v (by decide) _).trans (by decide +kernel)]
    exact (r1 1 (by decide) 14).trans (by decide +kernel)
  · rw [v_159_7, v_159_100]
    exact qAr_ (a := 163) hsh rfl (by decide +kernel)
  · rw [v_159_7]
    exact (r1 159 (by decide) 7).trans (by decide +kernel)
  · rw [v_159_100]; decide
  · rw [v_159_100]; decide
  · rw [v_159_100, n1]; decide
  · rfl
  · refine ⟨y j, ?_, ?_⟩
    · rw [(h.1.2 (zXB + 4) (Nat.le_add_right _ _)).1]; exact hs j
    · show iI ((Int32.ofNat (y (Int.toNat (j : Int)))).toInt) = _
      rw [Int.toNat_natCast]
      exact (iI_of _).symm
  · show (0 : Int) ≤ n; omega
  · show (n : Int) ≤ 3072; omega
  · rw [(h.1.2 (zXB + 4) (Nat.le_add_right _ _)).2, hl]
    show n = (n : Int).toNat
    omega
theorem v1_I {i j : Nat} (h : ¬ (i = 1 ∧ j = 14)) (h2 : ¬ (i = 159 ∧ (j = 7 ∨ j = 100))) : iI (v1 i j) = (al2 (bWL.map (fun q => (q.1, q.2.1, iI q.2.2))) i j).getD 0 := by
  unfold v1
  rw [if_neg (by omega), if_neg (by omega), if_neg (by omega), if_pos (by omega), al2_map, Int.toNat_natCast, Int.toNat_natCast]
  cases al2 bWL i j <;> rfl
theorem e_whole {S0 : zS} {I : zI} {J : zJ} {y : Nat → Nat} {n : Nat} (h0 : S0.2.2 = 0) (hn : n ≤ 3072) (hs : ∀ j, S0.1 (zXB + 4) j = some (y j)) (hl : (S0.2.1 (zXB + 4)).2 = n) : Z M_E 200 100000 1000000 0 [some (.ref (zXB + 4)), none, none, none, none, none, none, none] [] S0 I J QE := by
  refine e_start ⟨⟨h0, fun i _ => ⟨rfl, rfl⟩⟩, ⟨fun i hi => absurd hi (Nat.not_lt_zero i), fun q hq => nomatch hq⟩, ⟨fun i hi => absurd hi (Nat.not_lt_zero i), fun q hq => nomatch hq⟩, ⟨fun i hi => absurd hi (Nat.not_lt_zero i), fun q hq => nomatch hq⟩, fun i hi => absurd hi (Nat.not_lt_zero i), fun q hq => nomatch hq⟩ (fun S I J h => ?_)
  have hB := qB0 h hn hs hl
  have n1 : S.2.2 = 625 := h.1.1.trans bf_n
  have hI : ∀ i, i < 625 → ∀ j, ¬ (i = 1 ∧ j = 14) → ¬ (i = 159 ∧ (j = 7 ∨ j = 100)) → I i j = qi (V0 (fun j => (Int32.ofNat (y j)).toInt) n) i j := fun i hi j a b => by
    have e := h.2.2.2.1.1 i (by rw [bf_n]; exact hi) j
    rw [bf_W] at e
    rw [e]
    show _ = iI (V0 _ _ _ _)
    rw [V0_v (by omega), v1_I a b]
  have hJ : ∀ i, i < 625 → J i = qj J0 i := fun i hi => by
    funext j
    have e := h.2.2.2.2.1 i (by rw [bf_n]; exact hi) j
    rw [bf_J] at e
    rw [e]
    show _ = J0 i j
    unfold J0
    rw [if_pos (by omega), Int.toNat_natCast, Int.toNat_natCast]
  refine z_eq (I' := qi (V0 (fun j => (Int32.ofNat (y j)).toInt) n)) (J' := qj J0) (fun aC ad i hi => ?_) (e_loop 512 (e := 10) hB Rel0 (by decide) (by have := hB.2.2.2.2.2.2.2; omega) (by decide) (by decide) (by decide) (by decide))
  have hi' : i < 625 := by omega
  rw [show zE aC ad S I J i = zE aC ad S I (qj J0) i from zE_oth rfl (hJ i hi')]
  by_cases e1 : i = 1
  · subst e1
    exact zE_ref (c := 6) (k_1 hB.1) (by decide) (fun k hk => hI 1 (by decide) k (fun e => by have e2 := e.2; subst e2; simp [zsh] at hk) (by omega))
  · by_cases e2 : i = 159
    · subst e2
      exact zE_ref (c := 7) (k_159 hB.1) (by decide) (fun k hk => hI 159 (by decide) k (by omega) (fun e => by
        rcases e.2 with e3 | e3 <;> subst e3 <;> simp [zsh] at hk))
    · exact zE_oth (by funext j; exact hI i hi' j (by omega) (by omega)) rfl
