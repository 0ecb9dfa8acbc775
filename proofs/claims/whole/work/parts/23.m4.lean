/-! the reference: what may be asked; names, finders -/
theorem zr_zu {V : Nat → Nat → Int} {a k : Nat} {v : Int} (h : ∀ a j, zr (V a j)) (hv : zr v) : ∀ b j, zr (zu V a k v b j) := by
  intro b j
  simp only [zu]
  split
  · split
    · exact hv
    · exact h _ _
  · exact h _ _
theorem hvF_b (w : Nat → Int) (m : Int) : ∀ n, 0 ≤ hvF w m n ∧ hvF w m n ≤ n
  | 0 => by simp [hvF]
  | n + 1 => by
    have h := hvF_b w m n
    simp only [hvF]
    split <;> constructor <;> push_cast <;> omega
theorem zand1 (x : Int) : 0 ≤ zand x 1 ∧ zand x 1 ≤ 1 := by
  have h : ∀ y : Int32, 0 ≤ (y &&& 1).toInt ∧ (y &&& 1).toInt ≤ 1 := by
    intro y
    have e := pk_and y (m := 1) 1 (by decide)
    rw [e, nI_toInt (by omega)]
    omega
  exact h (iI x)
theorem bitsF_b (v : Int) : ∀ n, 0 ≤ bitsF v n ∧ bitsF v n ≤ n
  | 0 => by simp [bitsF]
  | n + 1 => by
    have h := bitsF_b v n
    have h2 := zand1 (zshr v (n : Int))
    simp only [bitsF]
    push_cast
    omega
theorem zr_bitsF (v : Int) : zr (bitsF v 12) := by have h := bitsF_b v 12; exact ⟨by omega, by omega⟩
theorem c_within1 {S : zS} {V : Nat → Nat → Int} {J : zJ} {v a b : Int} (d : Nat) (hv : zr v) (ha : zr a) (hb : zr b) (h : a ≤ v ∧ v ≤ b) : Z M_X11_within d 0 0 0 [some (.int (iI (v))), some (.int (iI (a))), some (.int (iI (b)))] [] S (zi V) J (zRt (some (.int (iI 1))) S (zi V) J) := by
  have h1 := c_within (S := S) (V := V) (J := J) d hv ha hb
  rw [if_pos h] at h1
  exact h1
theorem c_within0 {S : zS} {V : Nat → Nat → Int} {J : zJ} {v a b : Int} (d : Nat) (hv : zr v) (ha : zr a) (hb : zr b) (h : ¬ (a ≤ v ∧ v ≤ b)) : Z M_X11_within d 0 0 0 [some (.int (iI (v))), some (.int (iI (a))), some (.int (iI (b)))] [] S (zi V) J (zRt (some (.int (iI 0))) S (zi V) J) := by
  have h1 := c_within (S := S) (V := V) (J := J) d hv ha hb
  rw [if_neg h] at h1
  exact h1
set_option maxHeartbeats 4000000 in
set_option maxRecDepth 20000 in
theorem c_may1 {S : zS} {V : Nat → Nat → Int} {J : zJ} (d : Nat) (hS : zSh S) (h0 : V 602 0 = 0) {c : Int} : Z M_X11_may d 0 0 0 [some (.ref 602), some (.int (iI (1))), some (.int (iI (c)))] [] S (zi V) J (zRt (some (.int (iI 1))) S (zi V) J) := by
  refine z_iload_n Q_X11_may (k := 0) rfl rfl ?_
  refine y_if_ne 16 Q_X11_may (k := 1) rfl (by decide) ⟨by decide, by decide⟩ (fun _ => ?_) (fun q => absurd q (by decide))
  refine z_aload_n Q_X11_may (k := 8) rfl rfl ?_
  refine y_getI Q_X11_may (k := 9) rfl F_X11_1 rfl (n_ hS rfl) (k_602 hS) ?_
  refine y_as (y := 0) (h0) ?_
  refine y_if_ne 27 Q_X11_may (k := 10) rfl (by decide) ⟨by decide, by decide⟩ (fun q => absurd q (by decide)) (fun _ => ?_)
  refine y_iconst Q_X11_may (k := 11) rfl ?_
  refine z_goto (tgt := 28) Q_X11_may (k := 12) rfl (by decide) ?_
  exact y_zret Q_X11_may (k := 14) rfl rfl (by first | exact Or.inl rfl | exact Or.inr rfl | omega) (⟨rfl, rfl, rfl, rfl⟩)
set_option maxHeartbeats 4000000 in
set_option maxRecDepth 20000 in
theorem c_may0 {S : zS} {V : Nat → Nat → Int} {J : zJ} (d : Nat) (hS : zSh S) (h0 : V 602 0 = 0) {c : Int} (hc : zr c) (hc0 : ¬ c = 0) : Z M_X11_may d 0 0 0 [some (.ref 602), some (.int (iI (0))), some (.int (iI (c)))] [] S (zi V) J (zRt (some (.int (iI 0))) S (zi (zu V 602 0 c)) J) := by
  refine z_iload_n Q_X11_may (k := 0) rfl rfl ?_
  refine y_if_ne 16 Q_X11_may (k := 1) rfl (by decide) ⟨by decide, by decide⟩ (fun q => absurd q (by decide)) (fun _ => ?_)
  refine z_aload_n Q_X11_may (k := 2) rfl rfl ?_
  refine y_getI Q_X11_may (k := 3) rfl F_X11_1 rfl (n_ hS rfl) (k_602 hS) ?_
  refine y_as (y := 0) (h0) ?_
  refine y_if_ne 16 Q_X11_may (k := 4) rfl (by decide) ⟨by decide, by decide⟩ (fun q => absurd q (by decide)) (fun _ => ?_)
  refine z_aload_n Q_X11_may (k := 5) rfl rfl ?_
  refine z_iload_n Q_X11_may (k := 6) rfl rfl ?_
  refine y_putI Q_X11_may (k := 7) rfl F_X11_1 rfl (n_ hS rfl) (k_602 hS) ?_
  refine z_aload_n Q_X11_may (k := 8) rfl rfl ?_
  refine y_getI Q_X11_may (k := 9) rfl F_X11_1 rfl (n_ hS rfl) (k_602 hS) ?_
  refine y_as (y := c) (by simp [zu]) ?_
  refine y_if_ne 27 Q_X11_may (k := 10) rfl (by decide) hc (fun c20 => ?_) (fun c20 => ?_)
  · refine y_iconst Q_X11_may (k := 13) rfl ?_
    exact y_zret Q_X11_may (k := 14) rfl rfl (by first | exact Or.inl rfl | exact Or.inr rfl | omega) (⟨rfl, rfl, rfl, rfl⟩)
  · exact absurd c20 hc0
set_option maxHeartbeats 4000000 in
set_option maxRecDepth 20000 in
theorem c_isFind1 {S : zS} {V : Nat → Nat → Int} {J : zJ} (d : Nat) (hS : zSh S) (h0 : V 602 0 = 0) (hV : ∀ a j, zr (V a j)) {f : Int} (hf : zr f) (hn : 0 ≤ V 603 142 ∧ V 603 142 ≤ 8) (h : 0 ≤ f ∧ f ≤ V 603 142 - 1) : Z M_X11_isFind (d + 1) 0 0 0 [some (.ref 602), some (.int (iI (f)))] [] S (zi V) J (zRt (some (.int (iI 1))) S (zi V) J) := by
  refine z_aload_n Q_X11_isFind (k := 0) rfl rfl ?_
  refine z_iload_n Q_X11_isFind (k := 1) rfl rfl ?_
  refine y_iconst Q_X11_isFind (k := 2) rfl ?_
  refine z_aload_n Q_X11_isFind (k := 3) rfl rfl ?_
  refine z_getR Q_X11_isFind (k := 4) rfl F_X11_13 rfl (n_ hS rfl) (k_602 hS) (r_602_1 hS) ?_
  refine y_sipush Q_X11_isFind (k := 5) rfl (by decide) ?_
  refine y_ialdN Q_X11_isFind (k := 6) rfl (n_ hS rfl) (k_603 hS) (z := 142) (j := 142) rfl (by decide) (by decide) ?_
  refine y_iconst Q_X11_isFind (k := 7) rfl ?_
  refine y_isub Q_X11_isFind (k := 8) rfl ?_
  refine y_callS3 Q_X11_isFind (k := 9) rfl rfl K_X11_within S_X11_within L_X11_207 (by decide) (Nat.le_of_ble_eq_true rfl) rfl (Nat.zero_le _) (Nat.zero_le _) rfl (c_within1 _ hf ⟨by decide, by decide⟩ ⟨by omega, by omega⟩ h) ?_
  refine y_iconst Q_X11_isFind (k := 10) rfl ?_
  refine y_callV2 Q_X11_isFind (k := 11) rfl rfl K_X11_may V_X11_may L_X11_187 (n_ hS rfl) (k_602 hS) (by decide) (Nat.le_of_ble_eq_true rfl) rfl (Nat.zero_le _) (Nat.zero_le _) rfl (c_may1 _ hS h0) ?_
  exact y_zret Q_X11_isFind (k := 12) rfl rfl (by first | exact Or.inl rfl | exact Or.inr rfl | omega) (⟨rfl, rfl, rfl, rfl⟩)
set_option maxHeartbeats 4000000 in
set_option maxRecDepth 20000 in
theorem c_isFind0 {S : zS} {V : Nat → Nat → Int} {J : zJ} (d : Nat) (hS : zSh S) (h0 : V 602 0 = 0) (hV : ∀ a j, zr (V a j)) {f : Int} (hf : zr f) (hn : 0 ≤ V 603 142 ∧ V 603 142 ≤ 8) (h : ¬ (0 ≤ f ∧ f ≤ V 603 142 - 1)) : Z M_X11_isFind (d + 1) 0 0 0 [some (.ref 602), some (.int (iI (f)))] [] S (zi V) J (zRt (some (.int (iI 0))) S (zi (zu V 602 0 (1))) J) := by
  refine z_aload_n Q_X11_isFind (k := 0) rfl rfl ?_
  refine z_iload_n Q_X11_isFind (k := 1) rfl rfl ?_
  refine y_iconst Q_X11_isFind (k := 2) rfl ?_
  refine z_aload_n Q_X11_isFind (k := 3) rfl rfl ?_
  refine z_getR Q_X11_isFind (k := 4) rfl F_X11_13 rfl (n_ hS rfl) (k_602 hS) (r_602_1 hS) ?_
  refine y_sipush Q_X11_isFind (k := 5) rfl (by decide) ?_
  refine y_ialdN Q_X11_isFind (k := 6) rfl (n_ hS rfl) (k_603 hS) (z := 142) (j := 142) rfl (by decide) (by decide) ?_
  refine y_iconst Q_X11_isFind (k := 7) rfl ?_
  refine y_isub Q_X11_isFind (k := 8) rfl ?_
  refine y_callS3 Q_X11_isFind (k := 9) rfl rfl K_X11_within S_X11_within L_X11_207 (by decide) (Nat.le_of_ble_eq_true rfl) rfl (Nat.zero_le _) (Nat.zero_le _) rfl (c_within0 _ hf ⟨by decide, by decide⟩ ⟨by omega, by omega⟩ h) ?_
  refine y_iconst Q_X11_isFind (k := 10) rfl ?_
  refine y_callV2 Q_X11_isFind (k := 11) rfl rfl K_X11_may V_X11_may L_X11_187 (n_ hS rfl) (k_602 hS) (by decide) (Nat.le_of_ble_eq_true rfl) rfl (Nat.zero_le _) (Nat.zero_le _) rfl (c_may0 _ hS h0 ⟨by decide, by decide⟩ (by decide)) ?_
  exact y_zret Q_X11_isFind (k := 12) rfl rfl (by first | exact Or.inl rfl | exact Or.inr rfl | omega) (⟨rfl, rfl, rfl, rfl⟩)
set_option maxHeartbeats 4000000 in
set_option maxRecDepth 20000 in
theorem c_isPerson1 {S : zS} {V : Nat → Nat → Int} {J : zJ} (d : Nat) (hS : zSh S) (h0 : V 602 0 = 0) (hV : ∀ a j, zr (V a j)) {f c : Int} (hf : zr f) (hc : zr c) (hc0 : ¬ c = 0) (hn : 0 ≤ V 603 21 ∧ V 603 21 ≤ 16) (h : 0 ≤ f ∧ f ≤ V 603 21 - 1) : Z M_X11_isPerson (d + 1) 0 0 0 [some (.ref 602), some (.int (iI (f))), some (.int (iI (c)))] [] S (zi V) J (zRt (some (.int (iI 1))) S (zi V) J) := by
  refine z_aload_n Q_X11_isPerson (k := 0) rfl rfl ?_
  refine z_iload_n Q_X11_isPerson (k := 1) rfl rfl ?_
  refine y_iconst Q_X11_isPerson (k := 2) rfl ?_
  refine z_aload_n Q_X11_isPerson (k := 3) rfl rfl ?_
  refine z_getR Q_X11_isPerson (k := 4) rfl F_X11_13 rfl (n_ hS rfl) (k_602 hS) (r_602_1 hS) ?_
  refine y_bipush Q_X11_isPerson (k := 5) rfl (by decide) ?_
  refine y_ialdN Q_X11_isPerson (k := 6) rfl (n_ hS rfl) (k_603 hS) (z := 21) (j := 21) rfl (by decide) (by decide) ?_
  refine y_iconst Q_X11_isPerson (k := 7) rfl ?_
  refine y_isub Q_X11_isPerson (k := 8) rfl ?_
  refine y_callS3 Q_X11_isPerson (k := 9) rfl rfl K_X11_within S_X11_within L_X11_207 (by decide) (Nat.le_of_ble_eq_true rfl) rfl (Nat.zero_le _) (Nat.zero_le _) rfl (c_within1 _ hf ⟨by decide, by decide⟩ ⟨by omega, by omega⟩ h) ?_
  refine z_iload_n Q_X11_isPerson (k := 10) rfl rfl ?_
  refine y_callV2 Q_X11_isPerson (k := 11) rfl rfl K_X11_may V_X11_may L_X11_187 (n_ hS rfl) (k_602 hS) (by decide) (Nat.le_of_ble_eq_true rfl) rfl (Nat.zero_le _) (Nat.zero_le _) rfl (c_may1 _ hS h0) ?_
  exact y_zret Q_X11_isPerson (k := 12) rfl rfl (by first | exact Or.inl rfl | exact Or.inr rfl | omega) (⟨rfl, rfl, rfl, rfl⟩)
set_option maxHeartbeats 4000000 in
set_option maxRecDepth 20000 in
theorem c_isPerson0 {S : zS} {V : Nat → Nat → Int} {J : zJ} (d : Nat) (hS : zSh S) (h0 : V 602 0 = 0) (hV : ∀ a j, zr (V a j)) {f c : Int} (hf : zr f) (hc : zr c) (hc0 : ¬ c = 0) (hn : 0 ≤ V 603 21 ∧ V 603 21 ≤ 16) (h : ¬ (0 ≤ f ∧ f ≤ V 603 21 - 1)) : Z M_X11_isPerson (d + 1) 0 0 0 [some (.ref 602), some (.int (iI (f))), some (.int (iI (c)))] [] S (zi V) J (zRt (some (.int (iI 0))) S (zi (zu V 602 0 (c))) J) := by
  refine z_aload_n Q_X11_isPerson (k := 0) rfl rfl ?_
  refine z_iload_n Q_X11_isPerson (k := 1) rfl rfl ?_
  refine y_iconst Q_X11_isPerson (k := 2) rfl ?_
  refine z_aload_n Q_X11_isPerson (k := 3) rfl rfl ?_
  refine z_getR Q_X11_isPerson (k := 4) rfl F_X11_13 rfl (n_ hS rfl) (k_602 hS) (r_602_1 hS) ?_
  refine y_bipush Q_X11_isPerson (k := 5) rfl (by decide) ?_
  refine y_ialdN Q_X11_isPerson (k := 6) rfl (n_ hS rfl) (k_603 hS) (z := 21) (j := 21) rfl (by decide) (by decide) ?_
  refine y_iconst Q_X11_isPerson (k := 7) rfl ?_
  refine y_isub Q_X11_isPerson (k := 8) rfl ?_
  refine y_callS3 Q_X11_isPerson (k := 9) rfl rfl K_X11_within S_X11_within L_X11_207 (by decide) (Nat.le_of_ble_eq_true rfl) rfl (Nat.zero_le _) (Nat.zero_le _) rfl (c_within0 _ hf ⟨by decide, by decide⟩ ⟨by omega, by omega⟩ h) ?_
  refine z_iload_n Q_X11_isPerson (k := 10) rfl rfl ?_
  refine y_callV2 Q_X11_isPerson (k := 11) rfl rfl K_X11_may V_X11_may L_X11_187 (n_ hS rfl) (k_602 hS) (by decide) (Nat.le_of_ble_eq_true rfl) rfl (Nat.zero_le _) (Nat.zero_le _) rfl (c_may0 _ hS h0 hc hc0) ?_
  exact y_zret Q_X11_isPerson (k := 12) rfl rfl (by first | exact Or.inl rfl | exact Or.inr rfl | omega) (⟨rfl, rfl, rfl, rfl⟩)
set_option maxHeartbeats 4000000 in
set_option maxRecDepth 20000 in
theorem c_isLaw1 {S : zS} {V : Nat → Nat → Int} {J : zJ} (d : Nat) (hS : zSh S) (h0 : V 602 0 = 0) (hV : ∀ a j, zr (V a j)) {f c : Int} (hf : zr f) (hc : zr c) (hc0 : ¬ c = 0) (hn : 0 ≤ V 602 11 ∧ V 602 11 ≤ 3) (h : 0 ≤ f ∧ f ≤ V 602 11 - 1) : Z M_X11_isLaw (d + 1) 0 0 0 [some (.ref 602), some (.int (iI (f))), some (.int (iI (c)))] [] S (zi V) J (zRt (some (.int (iI 1))) S (zi V) J) := by
  refine z_aload_n Q_X11_isLaw (k := 0) rfl rfl ?_
  refine z_iload_n Q_X11_isLaw (k := 1) rfl rfl ?_
  refine y_iconst Q_X11_isLaw (k := 2) rfl ?_
  refine z_aload_n Q_X11_isLaw (k := 3) rfl rfl ?_
  refine y_getI Q_X11_isLaw (k := 4) rfl F_X11_184 rfl (n_ hS rfl) (k_602 hS) ?_
  refine y_iconst Q_X11_isLaw (k := 5) rfl ?_
  refine y_isub Q_X11_isLaw (k := 6) rfl ?_
  refine y_callS3 Q_X11_isLaw (k := 7) rfl rfl K_X11_within S_X11_within L_X11_207 (by decide) (Nat.le_of_ble_eq_true rfl) rfl (Nat.zero_le _) (Nat.zero_le _) rfl (c_within1 _ hf ⟨by decide, by decide⟩ ⟨by omega, by omega⟩ h) ?_
  refine z_iload_n Q_X11_isLaw (k := 8) rfl rfl ?_
  refine y_callV2 Q_X11_isLaw (k := 9) rfl rfl K_X11_may V_X11_may L_X11_187 (n_ hS rfl) (k_602 hS) (by decide) (Nat.le_of_ble_eq_true rfl) rfl (Nat.zero_le _) (Nat.zero_le _) rfl (c_may1 _ hS h0) ?_
  exact y_zret Q_X11_isLaw (k := 10) rfl rfl (by first | exact Or.inl rfl | exact Or.inr rfl | omega) (⟨rfl, rfl, rfl, rfl⟩)
set_option maxHeartbeats 4000000 in
set_option maxRecDepth 20000 in
theorem c_isLaw0 {S : zS} {V : Nat → Nat → Int} {J : zJ} (d : Nat) (hS : zSh S) (h0 : V 602 0 = 0) (hV : ∀ a j, zr (V a j)) {f c : Int} (hf : zr f) (hc : zr c) (hc0 : ¬ c = 0) (hn : 0 ≤ V 602 11 ∧ V 602 11 ≤ 3) (h : ¬ (0 ≤ f ∧ f ≤ V 602 11 - 1)) : Z M_X11_isLaw (d + 1) 0 0 0 [some (.ref 602), some (.int (iI (f))), some (.int (iI (c)))] [] S (zi V) J (zRt (some (.int (iI 0))) S (zi (zu V 602 0 (c))) J) := by
  refine z_aload_n Q_X11_isLaw (k := 0) rfl rfl ?_
  refine z_iload_n Q_X11_isLaw (k := 1) rfl rfl ?_
  refine y_iconst Q_X11_isLaw (k := 2) rfl ?_
  refine z_aload_n Q_X11_isLaw (k := 3) rfl rfl ?_
  refine y_getI Q_X11_isLaw (k := 4) rfl F_X11_184 rfl (n_ hS rfl) (k_602 hS) ?_
  refine y_iconst Q_X11_isLaw (k := 5) rfl ?_
  refine y_isub Q_X11_isLaw (k := 6) rfl ?_
  refine y_callS3 Q_X11_isLaw (k := 7) rfl rfl K_X11_within S_X11_within L_X11_207 (by decide) (Nat.le_of_ble_eq_true rfl) rfl (Nat.zero_le _) (Nat.zero_le _) rfl (c_within0 _ hf ⟨by decide, by decide⟩ ⟨by omega, by omega⟩ h) ?_
  refine z_iload_n Q_X11_isLaw (k := 8) rfl rfl ?_
  refine y_callV2 Q_X11_isLaw (k := 9) rfl rfl K_X11_may V_X11_may L_X11_187 (n_ hS rfl) (k_602 hS) (by decide) (Nat.le_of_ble_eq_true rfl) rfl (Nat.zero_le _) (Nat.zero_le _) rfl (c_may0 _ hS h0 hc hc0) ?_
  exact y_zret Q_X11_isLaw (k := 10) rfl rfl (by first | exact Or.inl rfl | exact Or.inr rfl | omega) (⟨rfl, rfl, rfl, rfl⟩)
set_option maxHeartbeats 4000000 in
set_option maxRecDepth 20000 in
theorem c_isUnknown1 {S : zS} {V : Nat → Nat → Int} {J : zJ} (d : Nat) (hS : zSh S) (h0 : V 602 0 = 0) (hV : ∀ a j, zr (V a j)) {f : Int} (hf : zr f) (h : 0 ≤ f ∧ f ≤ 9) : Z M_X11_isUnknown (d + 1) 0 0 0 [some (.ref 602), some (.int (iI (f)))] [] S (zi V) J (zRt (some (.int (iI 1))) S (zi V) J) := by
  refine z_aload_n Q_X11_isUnknown (k := 0) rfl rfl ?_
  refine z_iload_n Q_X11_isUnknown (k := 1) rfl rfl ?_
  refine y_iconst Q_X11_isUnknown (k := 2) rfl ?_
  refine y_bipush Q_X11_isUnknown (k := 3) rfl (by decide) ?_
  refine y_callS3 Q_X11_isUnknown (k := 4) rfl rfl K_X11_within S_X11_within L_X11_207 (by decide) (Nat.le_of_ble_eq_true rfl) rfl (Nat.zero_le _) (Nat.zero_le _) rfl (c_within1 _ hf ⟨by decide, by decide⟩ ⟨by decide, by decide⟩ h) ?_
  refine y_iconst Q_X11_isUnknown (k := 5) rfl ?_
  refine y_callV2 Q_X11_isUnknown (k := 6) rfl rfl K_X11_may V_X11_may L_X11_187 (n_ hS rfl) (k_602 hS) (by decide) (Nat.le_of_ble_eq_true rfl) rfl (Nat.zero_le _) (Nat.zero_le _) rfl (c_may1 _ hS h0) ?_
  exact y_zret Q_X11_isUnknown (k := 7) rfl rfl (by first | exact Or.inl rfl | exact Or.inr rfl | omega) (⟨rfl, rfl, rfl, rfl⟩)
set_option maxHeartbeats 4000000 in
set_option maxRecDepth 20000 in
theorem c_isUnknown0 {S : zS} {V : Nat → Nat → Int} {J : zJ} (d : Nat) (hS : zSh S) (h0 : V 602 0 = 0) (hV : ∀ a j, zr (V a j)) {f : Int} (hf : zr f) (h : ¬ (0 ≤ f ∧ f ≤ 9)) : Z M_X11_isUnknown (d + 1) 0 0 0 [some (.ref 602), some (.int (iI (f)))] [] S (zi V) J (zRt (some (.int (iI 0))) S (zi (zu V 602 0 (1))) J) := by
  refine z_aload_n Q_X11_isUnknown (k := 0) rfl rfl ?_
  refine z_iload_n Q_X11_isUnknown (k := 1) rfl rfl ?_
  refine y_iconst Q_X11_isUnknown (k := 2) rfl ?_
  refine y_bipush Q_X11_isUnknown (k := 3) rfl (by decide) ?_
  refine y_callS3 Q_X11_isUnknown (k := 4) rfl rfl K_X11_within S_X11_within L_X11_207 (by decide) (Nat.le_of_ble_eq_true rfl) rfl (Nat.zero_le _) (Nat.zero_le _) rfl (c_within0 _ hf ⟨by decide, by decide⟩ ⟨by decide, by decide⟩ h) ?_
  refine y_iconst Q_X11_isUnknown (k := 5) rfl ?_
  refine y_callV2 Q_X11_isUnknown (k := 6) rfl rfl K_X11_may V_X11_may L_X11_187 (n_ hS rfl) (k_602 hS) (by decide) (Nat.le_of_ble_eq_true rfl) rfl (Nat.zero_le _) (Nat.zero_le _) rfl (c_may0 _ hS h0 ⟨by decide, by decide⟩ (by decide)) ?_
  exact y_zret Q_X11_isUnknown (k := 7) rfl rfl (by first | exact Or.inl rfl | exact Or.inr rfl | omega) (⟨rfl, rfl, rfl, rfl⟩)
set_option maxHeartbeats 4000000 in
set_option maxRecDepth 20000 in
theorem c_isMarks1 {S : zS} {V : Nat → Nat → Int} {J : zJ} (d : Nat) {f : Int} (hf : zr f) (h : 0 ≤ f ∧ f ≤ 4095) : Z M_X11_isMarks (d + 1) 0 0 0 [some (.int (iI (f)))] [] S (zi V) J (zRt (some (.int (iI 1))) S (zi V) J) := by
  refine z_iload_n Q_X11_isMarks (k := 0) rfl rfl ?_
  refine y_iconst Q_X11_isMarks (k := 1) rfl ?_
  refine y_sipush Q_X11_isMarks (k := 2) rfl (by decide) ?_
  refine y_callS3 Q_X11_isMarks (k := 3) rfl rfl K_X11_within S_X11_within L_X11_207 (by decide) (Nat.le_of_ble_eq_true rfl) rfl (Nat.zero_le _) (Nat.zero_le _) rfl (c_within1 _ hf ⟨by decide, by decide⟩ ⟨by decide, by decide⟩ h) ?_
  exact y_zret Q_X11_isMarks (k := 4) rfl rfl (by first | exact Or.inl rfl | exact Or.inr rfl | omega) (⟨rfl, rfl, rfl, rfl⟩)
set_option maxHeartbeats 4000000 in
set_option maxRecDepth 20000 in
theorem c_isMarks0 {S : zS} {V : Nat → Nat → Int} {J : zJ} (d : Nat) {f : Int} (hf : zr f) (h : ¬ (0 ≤ f ∧ f ≤ 4095)) : Z M_X11_isMarks (d + 1) 0 0 0 [some (.int (iI (f)))] [] S (zi V) J (zRt (some (.int (iI 0))) S (zi V) J) := by
  refine z_iload_n Q_X11_isMarks (k := 0) rfl rfl ?_
  refine y_iconst Q_X11_isMarks (k := 1) rfl ?_
  refine y_sipush Q_X11_isMarks (k := 2) rfl (by decide) ?_
  refine y_callS3 Q_X11_isMarks (k := 3) rfl rfl K_X11_within S_X11_within L_X11_207 (by decide) (Nat.le_of_ble_eq_true rfl) rfl (Nat.zero_le _) (Nat.zero_le _) rfl (c_within0 _ hf ⟨by decide, by decide⟩ ⟨by decide, by decide⟩ h) ?_
  exact y_zret Q_X11_isMarks (k := 4) rfl rfl (by first | exact Or.inl rfl | exact Or.inr rfl | omega) (⟨rfl, rfl, rfl, rfl⟩)
set_option maxHeartbeats 4000000 in
set_option maxRecDepth 20000 in
theorem c_isPlace1 {S : zS} {V : Nat → Nat → Int} {J : zJ} (d : Nat) {f : Int} (hf : zr f) (h : 0 ≤ f ∧ f ≤ 3) : Z M_X11_isPlace (d + 1) 0 0 0 [some (.int (iI (f)))] [] S (zi V) J (zRt (some (.int (iI 1))) S (zi V) J) := by
  refine z_iload_n Q_X11_isPlace (k := 0) rfl rfl ?_
  refine y_iconst Q_X11_isPlace (k := 1) rfl ?_
  refine y_iconst Q_X11_isPlace (k := 2) rfl ?_
  refine y_callS3 Q_X11_isPlace (k := 3) rfl rfl K_X11_within S_X11_within L_X11_207 (by decide) (Nat.le_of_ble_eq_true rfl) rfl (Nat.zero_le _) (Nat.zero_le _) rfl (c_within1 _ hf ⟨by decide, by decide⟩ ⟨by decide, by decide⟩ h) ?_
  exact y_zret Q_X11_isPlace (k := 4) rfl rfl (by first | exact Or.inl rfl | exact Or.inr rfl | omega) (⟨rfl, rfl, rfl, rfl⟩)
set_option maxHeartbeats 4000000 in
set_option maxRecDepth 20000 in
theorem c_isPlace0 {S : zS} {V : Nat → Nat → Int} {J : zJ} (d : Nat) {f : Int} (hf : zr f) (h : ¬ (0 ≤ f ∧ f ≤ 3)) : Z M_X11_isPlace (d + 1) 0 0 0 [some (.int (iI (f)))] [] S (zi V) J (zRt (some (.int (iI 0))) S (zi V) J) := by
  refine z_iload_n Q_X11_isPlace (k := 0) rfl rfl ?_
  refine y_iconst Q_X11_isPlace (k := 1) rfl ?_
  refine y_iconst Q_X11_isPlace (k := 2) rfl ?_
  refine y_callS3 Q_X11_isPlace (k := 3) rfl rfl K_X11_within S_X11_within L_X11_207 (by decide) (Nat.le_of_ble_eq_true rfl) rfl (Nat.zero_le _) (Nat.zero_le _) rfl (c_within0 _ hf ⟨by decide, by decide⟩ ⟨by decide, by decide⟩ h) ?_
  exact y_zret Q_X11_isPlace (k := 4) rfl rfl (by first | exact Or.inl rfl | exact Or.inr rfl | omega) (⟨rfl, rfl, rfl, rfl⟩)
def rrF (w : Nat → Int) (its : Int) (n : Nat) : Nat → Int
  | 0 => 0
  | k + 1 => if zand (zshr its (11 - (k : Int))) 1 = 1 ∧ (zshr its (11 - (k : Int)) = 1 ∨ hvF w (zshl 1 (11 - (k : Int))) n < rrF w its n k) then hvF w (zshl 1 (11 - (k : Int))) n else rrF w its n k
def clF (w : Nat → Int) (f : Nat) : Nat → Int
  | 0 => 0
  | k + 1 => clF w f k + if w (360 + 3 * k) = (f : Int) then 1 else 0
theorem rrF_b (w : Nat → Int) (its : Int) (n : Nat) : ∀ k, 0 ≤ rrF w its n k ∧ rrF w its n k ≤ n
  | 0 => by simp [rrF]
  | k + 1 => by
    have h := rrF_b w its n k
    have h2 := hvF_b w (zshl 1 (11 - (k : Int))) n
    simp only [rrF]
    split <;> assumption
theorem clF_b (w : Nat → Int) (f : Nat) : ∀ n, 0 ≤ clF w f n ∧ clF w f n ≤ n
  | 0 => by simp [clF]
  | n + 1 => by
    have h := clF_b w f n
    simp only [clF]
    split <;> constructor <;> push_cast <;> omega
def nmF (w : Nat → Int) (f pl n c : Nat) : Nat → Int := fun j => match j with
  | 0 => w (143 + 27 * f)
  | 1 => (pl : Int)
  | 2 => w (143 + 27 * f + 2)
  | 3 => w (134 + pl)
  | 4 => bitsF (w (143 + 27 * f + 3)) 12
  | 5 => rrF w (w (143 + 27 * f + 3)) n 12
  | 6 => ownR w pl n
  | 7 => w 20 - w (143 + 27 * f + 5)
  | 8 => w (143 + 27 * f + 6)
  | _ => clF w f c
theorem ownR_b {w : Nat → Int} {pl n : Nat} (h : ∀ p, p < 16 → 0 ≤ w (70 + 4 * p + pl) ∧ w (70 + 4 * p + pl) ≤ 99) (hn : n ≤ 16) : 0 ≤ ownR w pl n ∧ ownR w pl n ≤ 158400 := by
  have hb := alF_b h n hn
  rw [ownR]
  split
  · omega
  · have h1 := Int.tdiv_nonneg (a := 100 * owF w pl n) (b := alF w pl n) (by omega) (by omega)
    have h2 := Int.tdiv_le_self (a := 100 * owF w pl n) (alF w pl n) (by omega)
    omega
set_option maxHeartbeats 4000000 in
set_option maxRecDepth 20000 in
theorem lp_nameFind2 {S : zS} {V0 : Nat → Nat → Int} {J : zJ} {w : Nat → Int} (d : Nat) (hS : zSh S) {n pl c ff : Nat} (hf8 : ff < 8) (hn : w 21 = (n : Int)) (hn2 : n ≤ 16) (hpl : pl < 4) (hp : ∀ q, q < 4 → ∀ p, p < 16 → 0 ≤ w (70 + 4 * p + q) ∧ w (70 + 4 * p + q) ≤ 99) (hpw : w (143 + 27 * ff + 1) = (pl : Int)) (hcw : w 359 = (c : Int)) (hc24 : c ≤ 24) (hday : 0 ≤ w 20 ∧ w 20 ≤ 9999) (hday2 : 0 ≤ w (143 + 27 * ff + 5) ∧ w (143 + 27 * ff + 5) ≤ 9999) : ∀ (f : Nat) (k : Nat) (V : Nat → Nat → Int), V 603 = w → (∀ a j, zr (V a j)) → (∀ a j, a ≠ 614 → V a j = V0 a j) → (∀ j, j < 9 → V 614 j = nmF w ff pl n c j) → V 614 9 = clF w ff k → k ≤ c → c - k < f → Z M_X11_nameFind d 0 0 235 [some (.ref 602), some (.int (iI ((ff : Int)))), some (.int (iI (143 + 27 * (ff : Int)))), some (.int (iI ((k : Int))))] [] S (zi V) J (zPq S J (fun v V' => v = none ∧ (∀ j, j < 10 → V' 614 j = nmF w ff pl n c j) ∧ (∀ a j, a ≠ 614 → V' a j = V0 a j) ∧ ∀ a j, zr (V' a j))) := by
  intro f
  induction f with
  | zero => intro k V hw hV hE hnm h9 hk hf; omega
  | succ f ih =>
    intro k V hw hV hE hnm h9 hk hf
    have hb := clF_b w ff k
    refine z_iload_n Q_X11_nameFind (k := 154) rfl rfl ?_
    refine z_aload_n Q_X11_nameFind (k := 155) rfl rfl ?_
    refine z_getR Q_X11_nameFind (k := 156) rfl F_X11_13 rfl (n_ hS rfl) (k_602 hS) (r_602_1 hS) ?_
    refine y_sipush Q_X11_nameFind (k := 157) rfl (by decide) ?_
    refine y_ialdN Q_X11_nameFind (k := 158) rfl (n_ hS rfl) (k_603 hS) (z := 359) (j := 359) rfl (by decide) (by decide) ?_
    refine y_as (y := (c : Int)) (by rw [hw]; exact hcw) ?_
    refine y_icmp_ge 284 Q_X11_nameFind (k := 159) rfl (by decide) ⟨by omega, by omega⟩ ⟨by omega, by omega⟩ (fun c244 => ?_) (fun c244 => ?_)
    · exact z_vret Q_X11_nameFind (k := 182) rfl rfl (zPq_i ⟨rfl, fun j hj => by rcases Nat.lt_or_ge j 9 with q | q; exact hnm j q; rw [show j = 9 by omega, h9, show k = c by omega]; rfl, hE, hV⟩)
    · refine z_aload_n Q_X11_nameFind (k := 160) rfl rfl ?_
      refine z_getR Q_X11_nameFind (k := 161) rfl F_X11_50 rfl (n_ hS rfl) (k_602 hS) (r_602_22 hS) ?_
      refine y_bipush Q_X11_nameFind (k := 162) rfl (by decide) ?_
      refine z_dup2 Q_X11_nameFind (k := 163) rfl rfl rfl ?_
      refine y_ialdN Q_X11_nameFind (k := 164) rfl (n_ hS rfl) (k_614 hS) (z := 9) (j := 9) rfl (by decide) (by decide) ?_
      refine z_aload_n Q_X11_nameFind (k := 165) rfl rfl ?_
      refine z_getR Q_X11_nameFind (k := 166) rfl F_X11_13 rfl (n_ hS rfl) (k_602 hS) (r_602_1 hS) ?_
      refine y_sipush Q_X11_nameFind (k := 167) rfl (by decide) ?_
      refine y_iconst Q_X11_nameFind (k := 168) rfl ?_
      refine z_iload_n Q_X11_nameFind (k := 169) rfl rfl ?_
      refine y_imul Q_X11_nameFind (k := 170) rfl ?_
      refine y_iadd Q_X11_nameFind (k := 171) rfl ?_
      refine y_ialdN Q_X11_nameFind (k := 172) rfl (n_ hS rfl) (k_603 hS) (z := (360 + (3 * (k : Int)))) (j := (360 + (3 * k))) (by omega) (by omega) (by decide) ?_
      refine z_iload_n Q_X11_nameFind (k := 173) rfl rfl ?_
      refine y_icmp_ne 275 Q_X11_nameFind (k := 174) rfl (by decide) (hV _ _) ⟨by omega, by omega⟩ (fun c268 => ?_) (fun c268 => ?_)
      · refine y_iconst Q_X11_nameFind (k := 177) rfl ?_
        refine y_iadd Q_X11_nameFind (k := 178) rfl ?_
        refine y_iastN Q_X11_nameFind (k := 179) rfl (n_ hS rfl) (k_614 hS) (z := 9) (j := 9) rfl (by decide) (by decide) ?_
        refine y_iinc (L' := [some (.ref 602), some (.int (iI ((ff : Int)))), some (.int (iI (143 + 27 * (ff : Int)))), some (.int (iI ((k : Int) + 1)))]) Q_X11_nameFind (k := 180) rfl (by decide) rfl rfl ?_
        refine z_goto (tgt := 235) Q_X11_nameFind (k := 181) rfl (by decide) ?_
        exact y_loc (by simp) (ih (k + 1) (zu V 614 9 ((V 614 9 + 0))) (by rw [zu_o _ _ (by decide)]; exact hw) (zr_zu hV ⟨by omega, by omega⟩) (fun a j h => by rw [zu_o _ _ h]; exact hE a j h) (fun j hj => by rw [zu_j _ _ (by omega)]; exact hnm j hj) (by rw [zu_s, h9, clF, ← hw]; simp [c268]) (by omega) (by omega))
      · refine y_iconst Q_X11_nameFind (k := 175) rfl ?_
        refine z_goto (tgt := 276) Q_X11_nameFind (k := 176) rfl (by decide) ?_
        refine y_iadd Q_X11_nameFind (k := 178) rfl ?_
        refine y_iastN Q_X11_nameFind (k := 179) rfl (n_ hS rfl) (k_614 hS) (z := 9) (j := 9) rfl (by decide) (by decide) ?_
        refine y_iinc (L' := [some (.ref 602), some (.int (iI ((ff : Int)))), some (.int (iI (143 + 27 * (ff : Int)))), some (.int (iI ((k : Int) + 1)))]) Q_X11_nameFind (k := 180) rfl (by decide) rfl rfl ?_
        refine z_goto (tgt := 235) Q_X11_nameFind (k := 181) rfl (by decide) ?_
        exact y_loc (by simp) (ih (k + 1) (zu V 614 9 ((V 614 9 + 1))) (by rw [zu_o _ _ (by decide)]; exact hw) (zr_zu hV ⟨by omega, by omega⟩) (fun a j h => by rw [zu_o _ _ h]; exact hE a j h) (fun j hj => by rw [zu_j _ _ (by omega)]; exact hnm j hj) (by rw [zu_s, h9, clF, ← hw]; simp [c268]) (by omega) (by omega))
set_option maxHeartbeats 4000000 in
set_option maxRecDepth 20000 in
theorem lp_nameFind1 {S : zS} {V0 : Nat → Nat → Int} {J : zJ} {w : Nat → Int} (d : Nat) (hS : zSh S) {n pl c ff : Nat} (hf8 : ff < 8) (hn : w 21 = (n : Int)) (hn2 : n ≤ 16) (hpl : pl < 4) (hp : ∀ q, q < 4 → ∀ p, p < 16 → 0 ≤ w (70 + 4 * p + q) ∧ w (70 + 4 * p + q) ≤ 99) (hpw : w (143 + 27 * ff + 1) = (pl : Int)) (hcw : w 359 = (c : Int)) (hc24 : c ≤ 24) (hday : 0 ≤ w 20 ∧ w 20 ≤ 9999) (hday2 : 0 ≤ w (143 + 27 * ff + 5) ∧ w (143 + 27 * ff + 5) ≤ 9999) : ∀ (f : Nat) (k : Nat) (V : Nat → Nat → Int), V 603 = w → (∀ a j, zr (V a j)) → (∀ a j, a ≠ 614 → V a j = V0 a j) → (∀ j, j < 5 → V 614 j = nmF w ff pl n c j) → V 614 5 = rrF w (w (143 + 27 * ff + 3)) n k → k ≤ 12 → 12 - k < f → Z M_X11_nameFind (d + 1) 0 0 97 [some (.ref 602), some (.int (iI ((ff : Int)))), some (.int (iI (143 + 27 * (ff : Int)))), some (.int (iI (11 - (k : Int))))] [] S (zi V) J (zPq S J (fun v V' => v = none ∧ (∀ j, j < 10 → V' 614 j = nmF w ff pl n c j) ∧ (∀ a j, a ≠ 614 → V' a j = V0 a j) ∧ ∀ a j, zr (V' a j))) := by
  intro f
  induction f with
  | zero => intro k V hw hV hE hnm h5 hk hf; omega
  | succ f ih =>
    intro k V hw hV hE hnm h5 hk hf
    have hb := rrF_b w (w (143 + 27 * ff + 3)) n k
    refine z_iload_n Q_X11_nameFind (k := 66) rfl rfl ?_
    refine y_if_lt 167 Q_X11_nameFind (k := 67) rfl (by decide) ⟨by omega, by omega⟩ (fun c98 => ?_) (fun c98 => ?_)
    · have hk12 : k = 12 := by omega
      subst hk12
      have hob := ownR_b (w := w) (pl := pl) (n := n) (hp pl hpl) hn2
      refine z_aload_n Q_X11_nameFind (k := 110) rfl rfl ?_
      refine z_getR Q_X11_nameFind (k := 111) rfl F_X11_50 rfl (n_ hS rfl) (k_602 hS) (r_602_22 hS) ?_
      refine y_bipush Q_X11_nameFind (k := 112) rfl (by decide) ?_
      refine z_aload_n Q_X11_nameFind (k := 113) rfl rfl ?_
      refine z_aload_n Q_X11_nameFind (k := 114) rfl rfl ?_
      refine z_getR Q_X11_nameFind (k := 115) rfl F_X11_13 rfl (n_ hS rfl) (k_602 hS) (r_602_1 hS) ?_
      refine z_iload_n Q_X11_nameFind (k := 116) rfl rfl ?_
      refine y_iconst Q_X11_nameFind (k := 117) rfl ?_
      refine y_iadd Q_X11_nameFind (k := 118) rfl ?_
      refine y_ialdN Q_X11_nameFind (k := 119) rfl (n_ hS rfl) (k_603 hS) (z := (143 + 27 * (ff : Int) + 1)) (j := ((143 + 27 * ff) + 1)) (by omega) (by omega) (by decide) ?_
      refine y_as (y := (pl : Int)) (by rw [hw]; exact hpw) ?_
      refine y_callV1 Q_X11_nameFind (k := 120) rfl rfl K_X11_ownOf V_X11_ownOf L_X11_242 (n_ hS rfl) (k_602 hS) (by decide) (Nat.le_of_ble_eq_true rfl) rfl (Nat.zero_le _) (Nat.zero_le _) rfl (c_ownOf (n := n) (pl := pl) d hS hV (by rw [hw]; exact hn) hn2 hpl (by rw [hw]; exact hp pl hpl)) ?_
      refine y_iastN Q_X11_nameFind (k := 121) rfl (n_ hS rfl) (k_614 hS) (z := 6) (j := 6) rfl (by decide) (by decide) ?_
      refine z_aload_n Q_X11_nameFind (k := 122) rfl rfl ?_
      refine z_getR Q_X11_nameFind (k := 123) rfl F_X11_50 rfl (n_ hS rfl) (k_602 hS) (r_602_22 hS) ?_
      refine y_bipush Q_X11_nameFind (k := 124) rfl (by decide) ?_
      refine z_aload_n Q_X11_nameFind (k := 125) rfl rfl ?_
      refine z_getR Q_X11_nameFind (k := 126) rfl F_X11_13 rfl (n_ hS rfl) (k_602 hS) (r_602_1 hS) ?_
      refine y_bipush Q_X11_nameFind (k := 127) rfl (by decide) ?_
      refine y_ialdN Q_X11_nameFind (k := 128) rfl (n_ hS rfl) (k_603 hS) (z := 20) (j := 20) rfl (by decide) (by decide) ?_
      refine z_aload_n Q_X11_nameFind (k := 129) rfl rfl ?_
      refine z_getR Q_X11_nameFind (k := 130) rfl F_X11_13 rfl (n_ hS rfl) (k_602 hS) (r_602_1 hS) ?_
      refine z_iload_n Q_X11_nameFind (k := 131) rfl rfl ?_
      refine y_iconst Q_X11_nameFind (k := 132) rfl ?_
      refine y_iadd Q_X11_nameFind (k := 133) rfl ?_
      refine y_ialdN Q_X11_nameFind (k := 134) rfl (n_ hS rfl) (k_603 hS) (z := (143 + 27 * (ff : Int) + 5)) (j := ((143 + 27 * ff) + 5)) (by omega) (by omega) (by decide) ?_
      refine y_isub Q_X11_nameFind (k := 135) rfl ?_
      refine y_iastN Q_X11_nameFind (k := 136) rfl (n_ hS rfl) (k_614 hS) (z := 7) (j := 7) rfl (by decide) (by decide) ?_
      refine z_aload_n Q_X11_nameFind (k := 137) rfl rfl ?_
      refine z_getR Q_X11_nameFind (k := 138) rfl F_X11_50 rfl (n_ hS rfl) (k_602 hS) (r_602_22 hS) ?_
      refine y_bipush Q_X11_nameFind (k := 139) rfl (by decide) ?_
      refine z_aload_n Q_X11_nameFind (k := 140) rfl rfl ?_
      refine z_getR Q_X11_nameFind (k := 141) rfl F_X11_13 rfl (n_ hS rfl) (k_602 hS) (r_602_1 hS) ?_
      refine z_iload_n Q_X11_nameFind (k := 142) rfl rfl ?_
      refine y_bipush Q_X11_nameFind (k := 143) rfl (by decide) ?_
      refine y_iadd Q_X11_nameFind (k := 144) rfl ?_
      refine y_ialdN Q_X11_nameFind (k := 145) rfl (n_ hS rfl) (k_603 hS) (z := (143 + 27 * (ff : Int) + 6)) (j := ((143 + 27 * ff) + 6)) (by omega) (by omega) (by decide) ?_
      refine y_iastN Q_X11_nameFind (k := 146) rfl (n_ hS rfl) (k_614 hS) (z := 8) (j := 8) rfl (by decide) (by decide) ?_
      refine z_aload_n Q_X11_nameFind (k := 147) rfl rfl ?_
      refine z_getR Q_X11_nameFind (k := 148) rfl F_X11_50 rfl (n_ hS rfl) (k_602 hS) (r_602_22 hS) ?_
      refine y_bipush Q_X11_nameFind (k := 149) rfl (by decide) ?_
      refine y_iconst Q_X11_nameFind (k := 150) rfl ?_
      refine y_iastN Q_X11_nameFind (k := 151) rfl (n_ hS rfl) (k_614 hS) (z := 9) (j := 9) rfl (by decide) (by decide) ?_
      refine y_iconst Q_X11_nameFind (k := 152) rfl ?_
      refine y_istore_n (L' := [some (.ref 602), some (.int (iI ((ff : Int)))), some (.int (iI (143 + 27 * (ff : Int)))), some (.int (iI (0)))]) Q_X11_nameFind (k := 153) rfl (by decide) rfl ?_
      have e1 : ∀ a, a ≠ 614 → (zu (zu (zu (zu V 614 6 (ownR (V 603) pl n)) 614 7 (((zu V 614 6 (ownR (V 603) pl n)) 603 20 - (zu V 614 6 (ownR (V 603) pl n)) 603 (((143 + 27 * ff) + 5))))) 614 8 ((zu (zu V 614 6 (ownR (V 603) pl n)) 614 7 (((zu V 614 6 (ownR (V 603) pl n)) 603 20 - (zu V 614 6 (ownR (V 603) pl n)) 603 (((143 + 27 * ff) + 5))))) 603 (((143 + 27 * ff) + 6)))) 614 9 (0)) a = V a := fun a h => by rw [zu_o _ _ h, zu_o _ _ h, zu_o _ _ h, zu_o _ _ h]
      have e2 : (zu V 614 6 (ownR (V 603) pl n)) 603 = w := by rw [zu_o _ _ (by decide)]; exact hw
      have e3 : (zu (zu V 614 6 (ownR (V 603) pl n)) 614 7 (((zu V 614 6 (ownR (V 603) pl n)) 603 20 - (zu V 614 6 (ownR (V 603) pl n)) 603 ((143 + 27 * ff) + 5)))) 603 = w := by rw [zu_o _ _ (by decide)]; exact e2
      refine lp_nameFind2 (d + 1) hS hf8 hn hn2 hpl hp hpw hcw hc24 hday hday2 (c + 1) 0 (zu (zu (zu (zu V 614 6 (ownR (V 603) pl n)) 614 7 (((zu V 614 6 (ownR (V 603) pl n)) 603 20 - (zu V 614 6 (ownR (V 603) pl n)) 603 (((143 + 27 * ff) + 5))))) 614 8 ((zu (zu V 614 6 (ownR (V 603) pl n)) 614 7 (((zu V 614 6 (ownR (V 603) pl n)) 603 20 - (zu V 614 6 (ownR (V 603) pl n)) 603 (((143 + 27 * ff) + 5))))) 603 (((143 + 27 * ff) + 6)))) 614 9 (0)) (by rw [e1 603 (by decide)]; exact hw) (zr_zu (zr_zu (zr_zu (zr_zu hV (by rw [hw]; exact ⟨by omega, by omega⟩)) (by rw [e2]; exact ⟨by omega, by omega⟩)) (by rw [e3, ← hw]; exact hV _ _)) ⟨by decide, by decide⟩) (fun a j h => by rw [e1 a h]; exact hE a j h) (fun j hj => ?_) (by simp [zu, clF]) (by omega) (by omega)
      rw [e3, e2, hw]
      rcases (show j < 5 ∨ j = 5 ∨ j = 6 ∨ j = 7 ∨ j = 8 by omega) with q | rfl | rfl | rfl | rfl
      · rw [zu_j _ _ (by omega), zu_j _ _ (by omega), zu_j _ _ (by omega), zu_j _ _ (by omega)]; exact hnm j q
      · rw [zu_j _ _ (by omega), zu_j _ _ (by omega), zu_j _ _ (by omega), zu_j _ _ (by omega), h5]; rfl
      · rw [zu_j _ _ (by omega), zu_j _ _ (by omega), zu_j _ _ (by omega), zu_s]; rfl
      · rw [zu_j _ _ (by omega), zu_j _ _ (by omega), zu_s]; rfl
      · rw [zu_j _ _ (by omega), zu_s]; rfl
    · refine z_aload_n Q_X11_nameFind (k := 68) rfl rfl ?_
      refine z_getR Q_X11_nameFind (k := 69) rfl F_X11_13 rfl (n_ hS rfl) (k_602 hS) (r_602_1 hS) ?_
      refine z_iload_n Q_X11_nameFind (k := 70) rfl rfl ?_
      refine y_iconst Q_X11_nameFind (k := 71) rfl ?_
      refine y_iadd Q_X11_nameFind (k := 72) rfl ?_
      refine y_ialdN Q_X11_nameFind (k := 73) rfl (n_ hS rfl) (k_603 hS) (z := (143 + 27 * (ff : Int) + 3)) (j := ((143 + 27 * ff) + 3)) (by omega) (by omega) (by decide) ?_
      refine z_iload_n Q_X11_nameFind (k := 74) rfl rfl ?_
      refine y_ishr Q_X11_nameFind (k := 75) rfl ?_
      refine y_iconst Q_X11_nameFind (k := 76) rfl ?_
      refine y_iand Q_X11_nameFind (k := 77) rfl ?_
      refine y_iconst Q_X11_nameFind (k := 78) rfl ?_
      refine y_icmp_ne 161 Q_X11_nameFind (k := 79) rfl (by decide) (zand_r _ _) ⟨by decide, by decide⟩ (fun c114 => ?_) (fun c114 => ?_)
      · refine y_iinc (L' := [some (.ref 602), some (.int (iI ((ff : Int)))), some (.int (iI (143 + 27 * (ff : Int)))), some (.int (iI (11 - (k : Int) + (-1))))]) Q_X11_nameFind (k := 108) rfl (by decide) rfl rfl ?_
        refine z_goto (tgt := 97) Q_X11_nameFind (k := 109) rfl (by decide) ?_
        exact y_loc (by rw [show (11 - (k : Int)) + (-1) = 11 - ((k + 1 : Nat) : Int) by omega]) (ih (k + 1) V hw hV hE hnm (by rw [h5, rrF]; simp only [hw] at *; rw [if_neg]; first | (intro q; exact c114 q.1) | (rintro ⟨_, q | q⟩; exact h126 q; rw [h5] at c145; omega)) (by omega) (by omega))
      · refine z_aload_n Q_X11_nameFind (k := 80) rfl rfl ?_
        refine z_getR Q_X11_nameFind (k := 81) rfl F_X11_13 rfl (n_ hS rfl) (k_602 hS) (r_602_1 hS) ?_
        refine z_iload_n Q_X11_nameFind (k := 82) rfl rfl ?_
        refine y_iconst Q_X11_nameFind (k := 83) rfl ?_
        refine y_iadd Q_X11_nameFind (k := 84) rfl ?_
        refine y_ialdN Q_X11_nameFind (k := 85) rfl (n_ hS rfl) (k_603 hS) (z := (143 + 27 * (ff : Int) + 3)) (j := ((143 + 27 * ff) + 3)) (by omega) (by omega) (by decide) ?_
        refine z_iload_n Q_X11_nameFind (k := 86) rfl rfl ?_
        by_cases h126 : zshr (V 603 (((143 + 27 * ff) + 3))) (11 - (k : Int)) = 1
        · refine y_callS2 Q_X11_nameFind (k := 87) rfl rfl K_X11_isFirstMark S_X11_isFirstMark L_X11_236 (by decide) (Nat.le_of_ble_eq_true rfl) rfl (Nat.zero_le _) (Nat.zero_le _) rfl (by have h := c_isFirstMark (S := S) (V := V) (J := J) (v := V 603 (((143 + 27 * ff) + 3))) (m := 11 - (k : Int)) d; rw [if_pos h126] at h; exact h) ?_
          refine y_if_ne 148 Q_X11_nameFind (k := 88) rfl (by decide) ⟨by decide, by decide⟩ (fun _ => ?_) (fun q => absurd q (by decide))
          refine z_aload_n Q_X11_nameFind (k := 99) rfl rfl ?_
          refine z_getR Q_X11_nameFind (k := 100) rfl F_X11_50 rfl (n_ hS rfl) (k_602 hS) (r_602_22 hS) ?_
          refine y_iconst Q_X11_nameFind (k := 101) rfl ?_
          refine z_aload_n Q_X11_nameFind (k := 102) rfl rfl ?_
          refine y_iconst Q_X11_nameFind (k := 103) rfl ?_
          refine z_iload_n Q_X11_nameFind (k := 104) rfl rfl ?_
          refine y_ishl Q_X11_nameFind (k := 105) rfl ?_
          have hb157 := hvF_b (V 603) (zshl (1) (11 - (k : Int))) n
          refine y_callV1 Q_X11_nameFind (k := 106) rfl rfl K_X11_have V_X11_have L_X11_239 (n_ hS rfl) (k_602 hS) (by decide) (Nat.le_of_ble_eq_true rfl) rfl (Nat.zero_le _) (Nat.zero_le _) rfl (c_have (n := n) d hS hV (zshl_r _ _) (by rw [hw]; exact hn) hn2) ?_
          refine y_iastN Q_X11_nameFind (k := 107) rfl (n_ hS rfl) (k_614 hS) (z := 5) (j := 5) rfl (by decide) (by decide) ?_
          refine y_iinc (L' := [some (.ref 602), some (.int (iI ((ff : Int)))), some (.int (iI (143 + 27 * (ff : Int)))), some (.int (iI (11 - (k : Int) + (-1))))]) Q_X11_nameFind (k := 108) rfl (by decide) rfl rfl ?_
          refine z_goto (tgt := 97) Q_X11_nameFind (k := 109) rfl (by decide) ?_
          exact y_loc (by rw [show (11 - (k : Int)) + (-1) = 11 - ((k + 1 : Nat) : Int) by omega]) (ih (k + 1) (zu V 614 5 (hvF (V 603) (zshl (1) (11 - (k : Int))) n)) (by rw [zu_o _ _ (by decide)]; exact hw) (zr_zu hV ⟨by omega, by omega⟩) (fun a j h => by rw [zu_o _ _ h]; exact hE a j h) (fun j hj => by rw [zu_j _ _ (by omega)]; exact hnm j hj) (by rw [zu_s, rrF]; simp only [hw] at *; rw [if_pos]; refine ⟨by omega, ?_⟩; first | exact Or.inl h126 | (refine Or.inr ?_; rw [h5] at c145; omega)) (by omega) (by omega))
        · refine y_callS2 Q_X11_nameFind (k := 87) rfl rfl K_X11_isFirstMark S_X11_isFirstMark L_X11_236 (by decide) (Nat.le_of_ble_eq_true rfl) rfl (Nat.zero_le _) (Nat.zero_le _) rfl (by have h := c_isFirstMark (S := S) (V := V) (J := J) (v := V 603 (((143 + 27 * ff) + 3))) (m := 11 - (k : Int)) d; rw [if_neg h126] at h; exact h) ?_
          refine y_if_ne 148 Q_X11_nameFind (k := 88) rfl (by decide) ⟨by decide, by decide⟩ (fun q => absurd q (by decide)) (fun _ => ?_)
          refine z_aload_n Q_X11_nameFind (k := 89) rfl rfl ?_
          refine y_iconst Q_X11_nameFind (k := 90) rfl ?_
          refine z_iload_n Q_X11_nameFind (k := 91) rfl rfl ?_
          refine y_ishl Q_X11_nameFind (k := 92) rfl ?_
          have hb136 := hvF_b (V 603) (zshl (1) (11 - (k : Int))) n
          refine y_callV1 Q_X11_nameFind (k := 93) rfl rfl K_X11_have V_X11_have L_X11_239 (n_ hS rfl) (k_602 hS) (by decide) (Nat.le_of_ble_eq_true rfl) rfl (Nat.zero_le _) (Nat.zero_le _) rfl (c_have (n := n) d hS hV (zshl_r _ _) (by rw [hw]; exact hn) hn2) ?_
          refine z_aload_n Q_X11_nameFind (k := 94) rfl rfl ?_
          refine z_getR Q_X11_nameFind (k := 95) rfl F_X11_50 rfl (n_ hS rfl) (k_602 hS) (r_602_22 hS) ?_
          refine y_iconst Q_X11_nameFind (k := 96) rfl ?_
          refine y_ialdN Q_X11_nameFind (k := 97) rfl (n_ hS rfl) (k_614 hS) (z := 5) (j := 5) rfl (by decide) (by decide) ?_
          refine y_as (y := V 614 5) (rfl) ?_
          refine y_icmp_ge 161 Q_X11_nameFind (k := 98) rfl (by decide) ⟨by omega, by omega⟩ (hV _ _) (fun c145 => ?_) (fun c145 => ?_)
          · refine y_iinc (L' := [some (.ref 602), some (.int (iI ((ff : Int)))), some (.int (iI (143 + 27 * (ff : Int)))), some (.int (iI (11 - (k : Int) + (-1))))]) Q_X11_nameFind (k := 108) rfl (by decide) rfl rfl ?_
            refine z_goto (tgt := 97) Q_X11_nameFind (k := 109) rfl (by decide) ?_
            exact y_loc (by rw [show (11 - (k : Int)) + (-1) = 11 - ((k + 1 : Nat) : Int) by omega]) (ih (k + 1) V hw hV hE hnm (by rw [h5, rrF]; simp only [hw] at *; rw [if_neg]; first | (intro q; exact c114 q.1) | (rintro ⟨_, q | q⟩; exact h126 q; rw [h5] at c145; omega)) (by omega) (by omega))
          · refine z_aload_n Q_X11_nameFind (k := 99) rfl rfl ?_
            refine z_getR Q_X11_nameFind (k := 100) rfl F_X11_50 rfl (n_ hS rfl) (k_602 hS) (r_602_22 hS) ?_
            refine y_iconst Q_X11_nameFind (k := 101) rfl ?_
            refine z_aload_n Q_X11_nameFind (k := 102) rfl rfl ?_
            refine y_iconst Q_X11_nameFind (k := 103) rfl ?_
            refine z_iload_n Q_X11_nameFind (k := 104) rfl rfl ?_
            refine y_ishl Q_X11_nameFind (k := 105) rfl ?_
            have hb157 := hvF_b (V 603) (zshl (1) (11 - (k : Int))) n
            refine y_callV1 Q_X11_nameFind (k := 106) rfl rfl K_X11_have V_X11_have L_X11_239 (n_ hS rfl) (k_602 hS) (by decide) (Nat.le_of_ble_eq_true rfl) rfl (Nat.zero_le _) (Nat.zero_le _) rfl (c_have (n := n) d hS hV (zshl_r _ _) (by rw [hw]; exact hn) hn2) ?_
            refine y_iastN Q_X11_nameFind (k := 107) rfl (n_ hS rfl) (k_614 hS) (z := 5) (j := 5) rfl (by decide) (by decide) ?_
            refine y_iinc (L' := [some (.ref 602), some (.int (iI ((ff : Int)))), some (.int (iI (143 + 27 * (ff : Int)))), some (.int (iI (11 - (k : Int) + (-1))))]) Q_X11_nameFind (k := 108) rfl (by decide) rfl rfl ?_
            refine z_goto (tgt := 97) Q_X11_nameFind (k := 109) rfl (by decide) ?_
            exact y_loc (by rw [show (11 - (k : Int)) + (-1) = 11 - ((k + 1 : Nat) : Int) by omega]) (ih (k + 1) (zu V 614 5 (hvF (V 603) (zshl (1) (11 - (k : Int))) n)) (by rw [zu_o _ _ (by decide)]; exact hw) (zr_zu hV ⟨by omega, by omega⟩) (fun a j h => by rw [zu_o _ _ h]; exact hE a j h) (fun j hj => by rw [zu_j _ _ (by omega)]; exact hnm j hj) (by rw [zu_s, rrF]; simp only [hw] at *; rw [if_pos]; refine ⟨by omega, ?_⟩; first | exact Or.inl h126 | (refine Or.inr ?_; rw [h5] at c145; omega)) (by omega) (by omega))
set_option maxHeartbeats 4000000 in
set_option maxRecDepth 20000 in
theorem c_nameFind {S : zS} {V0 : Nat → Nat → Int} {J : zJ} {w : Nat → Int} (d : Nat) (hS : zSh S) {n pl c ff : Nat} (hf8 : ff < 8) (hn : w 21 = (n : Int)) (hn2 : n ≤ 16) (hpl : pl < 4) (hp : ∀ q, q < 4 → ∀ p, p < 16 → 0 ≤ w (70 + 4 * p + q) ∧ w (70 + 4 * p + q) ≤ 99) (hpw : w (143 + 27 * ff + 1) = (pl : Int)) (hcw : w 359 = (c : Int)) (hc24 : c ≤ 24) (hday : 0 ≤ w 20 ∧ w 20 ≤ 9999) (hday2 : 0 ≤ w (143 + 27 * ff + 5) ∧ w (143 + 27 * ff + 5) ≤ 9999) (hw : V0 603 = w) (hV0 : ∀ a j, zr (V0 a j)) : Z M_X11_nameFind (d + 1) 0 0 0 [some (.ref 602), some (.int (iI ((ff : Int)))), none, none] [] S (zi V0) J (zPq S J (fun v V' => v = none ∧ (∀ j, j < 10 → V' 614 j = nmF w ff pl n c j) ∧ (∀ a j, a ≠ 614 → V' a j = V0 a j) ∧ ∀ a j, zr (V' a j))) := by
  refine z_iload_n Q_X11_nameFind (k := 0) rfl rfl ?_
  refine y_callS1 Q_X11_nameFind (k := 1) rfl rfl K_X11_find_ S_X11_find_ L_X11_230 (by decide) (Nat.le_of_ble_eq_true rfl) rfl (Nat.zero_le _) (Nat.zero_le _) rfl (c_find_ d ff) ?_
  refine y_istore_n (L' := [some (.ref 602), some (.int (iI ((ff : Int)))), some (.int (iI (143 + 27 * (ff : Int)))), none]) Q_X11_nameFind (k := 2) rfl (by decide) rfl ?_
  refine z_aload_n Q_X11_nameFind (k := 3) rfl rfl ?_
  refine z_getR Q_X11_nameFind (k := 4) rfl F_X11_50 rfl (n_ hS rfl) (k_602 hS) (r_602_22 hS) ?_
  refine y_iconst Q_X11_nameFind (k := 5) rfl ?_
  refine z_aload_n Q_X11_nameFind (k := 6) rfl rfl ?_
  refine z_getR Q_X11_nameFind (k := 7) rfl F_X11_13 rfl (n_ hS rfl) (k_602 hS) (r_602_1 hS) ?_
  refine z_iload_n Q_X11_nameFind (k := 8) rfl rfl ?_
  refine y_iconst Q_X11_nameFind (k := 9) rfl ?_
  refine y_iadd Q_X11_nameFind (k := 10) rfl ?_
  refine y_ialdN Q_X11_nameFind (k := 11) rfl (n_ hS rfl) (k_603 hS) (z := (143 + 27 * (ff : Int) + 0)) (j := ((143 + 27 * ff) + 0)) (by omega) (by omega) (by decide) ?_
  refine y_iastN Q_X11_nameFind (k := 12) rfl (n_ hS rfl) (k_614 hS) (z := 0) (j := 0) rfl (by decide) (by decide) ?_
  refine z_aload_n Q_X11_nameFind (k := 13) rfl rfl ?_
  refine z_getR Q_X11_nameFind (k := 14) rfl F_X11_50 rfl (n_ hS rfl) (k_602 hS) (r_602_22 hS) ?_
  refine y_iconst Q_X11_nameFind (k := 15) rfl ?_
  refine z_aload_n Q_X11_nameFind (k := 16) rfl rfl ?_
  refine z_getR Q_X11_nameFind (k := 17) rfl F_X11_13 rfl (n_ hS rfl) (k_602 hS) (r_602_1 hS) ?_
  refine z_iload_n Q_X11_nameFind (k := 18) rfl rfl ?_
  refine y_iconst Q_X11_nameFind (k := 19) rfl ?_
  refine y_iadd Q_X11_nameFind (k := 20) rfl ?_
  refine y_ialdN Q_X11_nameFind (k := 21) rfl (n_ hS rfl) (k_603 hS) (z := (143 + 27 * (ff : Int) + 1)) (j := ((143 + 27 * ff) + 1)) (by omega) (by omega) (by decide) ?_
  refine y_iastN Q_X11_nameFind (k := 22) rfl (n_ hS rfl) (k_614 hS) (z := 1) (j := 1) rfl (by decide) (by decide) ?_
  refine z_aload_n Q_X11_nameFind (k := 23) rfl rfl ?_
  refine z_getR Q_X11_nameFind (k := 24) rfl F_X11_50 rfl (n_ hS rfl) (k_602 hS) (r_602_22 hS) ?_
  refine y_iconst Q_X11_nameFind (k := 25) rfl ?_
  refine z_aload_n Q_X11_nameFind (k := 26) rfl rfl ?_
  refine z_getR Q_X11_nameFind (k := 27) rfl F_X11_13 rfl (n_ hS rfl) (k_602 hS) (r_602_1 hS) ?_
  refine z_iload_n Q_X11_nameFind (k := 28) rfl rfl ?_
  refine y_iconst Q_X11_nameFind (k := 29) rfl ?_
  refine y_iadd Q_X11_nameFind (k := 30) rfl ?_
  refine y_ialdN Q_X11_nameFind (k := 31) rfl (n_ hS rfl) (k_603 hS) (z := (143 + 27 * (ff : Int) + 2)) (j := ((143 + 27 * ff) + 2)) (by omega) (by omega) (by decide) ?_
  refine y_iastN Q_X11_nameFind (k := 32) rfl (n_ hS rfl) (k_614 hS) (z := 2) (j := 2) rfl (by decide) (by decide) ?_
  refine z_aload_n Q_X11_nameFind (k := 33) rfl rfl ?_
  refine z_getR Q_X11_nameFind (k := 34) rfl F_X11_50 rfl (n_ hS rfl) (k_602 hS) (r_602_22 hS) ?_
  refine y_iconst Q_X11_nameFind (k := 35) rfl ?_
  refine z_aload_n Q_X11_nameFind (k := 36) rfl rfl ?_
  refine z_getR Q_X11_nameFind (k := 37) rfl F_X11_13 rfl (n_ hS rfl) (k_602 hS) (r_602_1 hS) ?_
  refine y_sipush Q_X11_nameFind (k := 38) rfl (by decide) ?_
  refine z_aload_n Q_X11_nameFind (k := 39) rfl rfl ?_
  refine z_getR Q_X11_nameFind (k := 40) rfl F_X11_13 rfl (n_ hS rfl) (k_602 hS) (r_602_1 hS) ?_
  refine z_iload_n Q_X11_nameFind (k := 41) rfl rfl ?_
  refine y_iconst Q_X11_nameFind (k := 42) rfl ?_
  refine y_iadd Q_X11_nameFind (k := 43) rfl ?_
  refine y_ialdN Q_X11_nameFind (k := 44) rfl (n_ hS rfl) (k_603 hS) (z := (143 + 27 * (ff : Int) + 1)) (j := ((143 + 27 * ff) + 1)) (by omega) (by omega) (by decide) ?_
  refine y_as (y := (pl : Int)) (by simp [zu, hw, hpw]) ?_
  refine y_iadd Q_X11_nameFind (k := 45) rfl ?_
  refine y_ialdN Q_X11_nameFind (k := 46) rfl (n_ hS rfl) (k_603 hS) (z := (134 + (pl : Int))) (j := (134 + pl)) (by omega) (by omega) (by decide) ?_
  refine y_iastN Q_X11_nameFind (k := 47) rfl (n_ hS rfl) (k_614 hS) (z := 3) (j := 3) rfl (by decide) (by decide) ?_
  refine z_aload_n Q_X11_nameFind (k := 48) rfl rfl ?_
  refine z_getR Q_X11_nameFind (k := 49) rfl F_X11_50 rfl (n_ hS rfl) (k_602 hS) (r_602_22 hS) ?_
  refine y_iconst Q_X11_nameFind (k := 50) rfl ?_
  refine z_aload_n Q_X11_nameFind (k := 51) rfl rfl ?_
  refine z_getR Q_X11_nameFind (k := 52) rfl F_X11_13 rfl (n_ hS rfl) (k_602 hS) (r_602_1 hS) ?_
  refine z_iload_n Q_X11_nameFind (k := 53) rfl rfl ?_
  refine y_iconst Q_X11_nameFind (k := 54) rfl ?_
  refine y_iadd Q_X11_nameFind (k := 55) rfl ?_
  refine y_ialdN Q_X11_nameFind (k := 56) rfl (n_ hS rfl) (k_603 hS) (z := (143 + 27 * (ff : Int) + 3)) (j := ((143 + 27 * ff) + 3)) (by omega) (by omega) (by decide) ?_
  refine y_callS1 Q_X11_nameFind (k := 57) rfl rfl K_X11_bitsOf S_X11_bitsOf L_X11_233 (by decide) (Nat.le_of_ble_eq_true rfl) rfl (Nat.zero_le _) (Nat.zero_le _) rfl (c_bitsOf d (by simp [zu]; exact hV0 _ _)) ?_
  refine y_iastN Q_X11_nameFind (k := 58) rfl (n_ hS rfl) (k_614 hS) (z := 4) (j := 4) rfl (by decide) (by decide) ?_
  refine z_aload_n Q_X11_nameFind (k := 59) rfl rfl ?_
  refine z_getR Q_X11_nameFind (k := 60) rfl F_X11_50 rfl (n_ hS rfl) (k_602 hS) (r_602_22 hS) ?_
  refine y_iconst Q_X11_nameFind (k := 61) rfl ?_
  refine y_iconst Q_X11_nameFind (k := 62) rfl ?_
  refine y_iastN Q_X11_nameFind (k := 63) rfl (n_ hS rfl) (k_614 hS) (z := 5) (j := 5) rfl (by decide) (by decide) ?_
  refine y_bipush Q_X11_nameFind (k := 64) rfl (by decide) ?_
  refine y_istore_n (L' := [some (.ref 602), some (.int (iI ((ff : Int)))), some (.int (iI (143 + 27 * (ff : Int)))), some (.int (iI (11)))]) Q_X11_nameFind (k := 65) rfl (by decide) rfl ?_
  obtain ⟨U, hU⟩ : ∃ U, U = (zu (zu (zu (zu (zu (zu V0 614 0 (V0 603 (((143 + 27 * ff) + 0)))) 614 1 ((zu V0 614 0 (V0 603 (((143 + 27 * ff) + 0)))) 603 (((143 + 27 * ff) + 1)))) 614 2 ((zu (zu V0 614 0 (V0 603 (((143 + 27 * ff) + 0)))) 614 1 ((zu V0 614 0 (V0 603 (((143 + 27 * ff) + 0)))) 603 (((143 + 27 * ff) + 1)))) 603 (((143 + 27 * ff) + 2)))) 614 3 ((zu (zu (zu V0 614 0 (V0 603 (((143 + 27 * ff) + 0)))) 614 1 ((zu V0 614 0 (V0 603 (((143 + 27 * ff) + 0)))) 603 (((143 + 27 * ff) + 1)))) 614 2 ((zu (zu V0 614 0 (V0 603 (((143 + 27 * ff) + 0)))) 614 1 ((zu V0 614 0 (V0 603 (((143 + 27 * ff) + 0)))) 603 (((143 + 27 * ff) + 1)))) 603 (((143 + 27 * ff) + 2)))) 603 ((134 + pl)))) 614 4 (bitsF ((zu (zu (zu (zu V0 614 0 (V0 603 (((143 + 27 * ff) + 0)))) 614 1 ((zu V0 614 0 (V0 603 (((143 + 27 * ff) + 0)))) 603 (((143 + 27 * ff) + 1)))) 614 2 ((zu (zu V0 614 0 (V0 603 (((143 + 27 * ff) + 0)))) 614 1 ((zu V0 614 0 (V0 603 (((143 + 27 * ff) + 0)))) 603 (((143 + 27 * ff) + 1)))) 603 (((143 + 27 * ff) + 2)))) 614 3 ((zu (zu (zu V0 614 0 (V0 603 (((143 + 27 * ff) + 0)))) 614 1 ((zu V0 614 0 (V0 603 (((143 + 27 * ff) + 0)))) 603 (((143 + 27 * ff) + 1)))) 614 2 ((zu (zu V0 614 0 (V0 603 (((143 + 27 * ff) + 0)))) 614 1 ((zu V0 614 0 (V0 603 (((143 + 27 * ff) + 0)))) 603 (((143 + 27 * ff) + 1)))) 603 (((143 + 27 * ff) + 2)))) 603 ((134 + pl)))) 603 (((143 + 27 * ff) + 3))) 12)) 614 5 (0)) := ⟨_, rfl⟩
  have e1 : ∀ a, a ≠ 614 → U a = V0 a := fun a h => by subst hU; simp only [zu_o _ _ h]
  have hwr : ∀ a j, zr (U a j) := by subst hU; repeat' first | exact hV0 | exact hV0 _ _ | exact zr_bitsF _ | refine zr_zu ?_ ?_ | refine zr_zu ?_ ?_ _ _ | exact ⟨by decide, by decide⟩
  rw [← hU]
  refine lp_nameFind1 d hS hf8 hn hn2 hpl hp hpw hcw hc24 hday hday2 13 0 U (by rw [e1 603 (by decide)]; exact hw) hwr (fun a j h => by rw [e1 a h]) (fun j hj => ?_) (by subst hU; rw [zu_s]; rfl) (by omega) (by omega)
  subst hU
  rcases (show j = 0 ∨ j = 1 ∨ j = 2 ∨ j = 3 ∨ j = 4 by omega) with rfl | rfl | rfl | rfl | rfl <;> simp [zu, nmF, hw, hpw]
