/-! the law's calls of the class: what is thrown is caught -/
theorem lwA {L : zL} (h : (L.all fun o => match o with | some v => v.category == 1 | none => true) = true) : ∀ (j : Nat) (v : Value), L[j]? = some (some v) → v.category = 1 := by
  intro j v hj
  have := List.all_eq_true.mp h _ (List.mem_of_getElem? hj)
  simpa using this
def qP_L (S : zS) (Q : Int → qV → qJ → Prop) : zQ := fun o S' I' J' => ∃ (r : Int) (V2 : qV) (J2 : qJ), o = .inl (some (.int (iI r))) ∧ S.2.2 ≤ S'.2.2 ∧ I' = qi V2 ∧ J' = qj J2 ∧ qB S' V2 ∧ zr r ∧ Q r V2 J2
theorem qI_L {S S' : zS} {Q : Int → qV → qJ → Prop} {V2 : qV} {J2 : qJ} {r : Int} (hn : S.2.2 ≤ S'.2.2) (hB : qB S' V2) (hz : zr r) (h : Q r V2 J2) : qP_L S Q (.inl (some (.int (iI r)))) S' (qi V2) (qj J2) := ⟨r, V2, J2, rfl, hn, rfl, rfl, hB, hz, h⟩
theorem w_L_law {S : zS} {V : qV} {J : qJ} {Q : Int → qV → qJ → Prop} {Q1 : Int → qV → Prop} {X1 : String → qV → Prop} (d : Nat) (hB : qB S V) {a1 : Int} (z1 : zr a1) (h : W_X10_law a1 V Q1 X1) (hQ : ∀ r V1, zr r → Q1 r V1 → Q 0 V1 (qu J 624 0 (iI r).toInt64)) (hX : ∀ E V1, X1 E V1 → (E = "java/lang/IllegalArgumentException" ∧ Q 1 V1 J)) : Z M_L_law (d + 128) 1 6 0 [some (.ref 0), some (.int (iI a1)), some (.ref 624), none] [] S (qi V) (qj J) (qP_L S Q) := by
  refine z_aload_n Q_L_law (k := 0) rfl rfl ?_
  refine y_iconst Q_L_law (k := 1) rfl ?_
  refine z_aload_n Q_L_law (k := 2) rfl rfl ?_
  refine z_iload_n Q_L_law (k := 3) rfl rfl ?_
  refine z_callVC (o := 0) (as := [.int (iI a1)]) Q_L_law (k := 4) rfl K_X10_law V_X10_law L_L_7 (n_ hB.1 rfl) (k_0 hB.1) rfl rfl (Nat.le_of_ble_eq_true rfl) rfl (by decide) (Nat.le_refl _) (Nat.le_refl _) (Or.inl (fun o S' I' J' hq => by rcases hq with ⟨_, _, _, e, _⟩ | ⟨_, _, _, e, _⟩ <;> exact e)) (lwA rfl) (w_X10_law d hB z1 h) (fun E S' I' J' hq => ?_) (fun v S' I' J' hq => ?_)
  · rcases hq with ⟨_, _, ho, _⟩ | ⟨E2, V2, ho, hS, hI, hJ, hB2, hq⟩
    · cases ho
    · cases ho; subst hI; subst hJ
      rcases hX _ _ hq with ⟨rfl, hw⟩
      · refine ⟨3, 13, ⟨[], ⟨0, 9, 12, 13⟩, [], rfl, (fun z hz => nomatch hz), by decide, by decide, C_L_13, by decide +kernel, by decide, Or.inl ⟨3, by decide +kernel, rfl, rfl⟩⟩, ?_⟩
        exact y_iconst Q_L_law (k := 9) rfl (y_iret Q_L_law (k := 10) rfl rfl (qI_L (by rw [hS]; exact Nat.le_refl _) hB2 ⟨by decide, by decide⟩ hw))
  · rcases hq with ⟨r, V2, ho, hS, hI, hJ, hB2, hz, hq⟩ | ⟨_, _, ho, _⟩
    · cases ho; subst hI; subst hJ
      exact z_i2l Q_L_law (k := 5) rfl (q_last (z := 0) (N := 1) (o := 624) Q_L_law (k := 6) rfl rfl (n_ hB2.1 rfl) (k_624 hB2.1) rfl ⟨by decide, by decide⟩ (by decide) (z_goto Q_L_law (k := 7) (tgt := 15) rfl (by decide) (y_iconst Q_L_law (k := 11) rfl (y_iret Q_L_law (k := 12) rfl rfl (qI_L (by rw [hS]; exact Nat.le_refl _) hB2 ⟨by decide, by decide⟩ (hQ _ _ hz hq))))))
    · cases ho
theorem w_L_holds {S : zS} {V : qV} {J : qJ} {Q : Int → qV → qJ → Prop} {Q1 : Int → qV → qJ → Prop} {X1 : String → qV → qJ → Prop} (d : Nat) (hB : qB S V) {a1 : Int} (z1 : zr a1) (h : W_X10_holds a1 V J Q1 X1) (hQ : ∀ r V1 J1, zr r → Q1 r V1 J1 → Q 0 V1 (qu J1 624 0 (iI r).toInt64)) (hX : ∀ E V1 J1, X1 E V1 J1 → (E = "java/lang/IllegalArgumentException" ∧ Q 1 V1 J1)) : Z M_L_holds (d + 127) 1 6 0 [some (.ref 0), some (.int (iI a1)), some (.ref 624), none] [] S (qi V) (qj J) (qP_L S Q) := by
  refine z_aload_n Q_L_holds (k := 0) rfl rfl ?_
  refine y_iconst Q_L_holds (k := 1) rfl ?_
  refine z_aload_n Q_L_holds (k := 2) rfl rfl ?_
  refine z_iload_n Q_L_holds (k := 3) rfl rfl ?_
  refine z_callVC (o := 0) (as := [.int (iI a1)]) Q_L_holds (k := 4) rfl K_X10_holds V_X10_holds L_L_15 (n_ hB.1 rfl) (k_0 hB.1) rfl rfl (Nat.le_of_ble_eq_true rfl) rfl (by decide) (Nat.le_refl _) (Nat.le_refl _) (Or.inl (fun o S' I' J' hq => by rcases hq with ⟨_, _, _, _, e, _⟩ | ⟨_, _, _, _, e, _⟩ <;> exact e)) (lwA rfl) (w_X10_holds d hB z1 h) (fun E S' I' J' hq => ?_) (fun v S' I' J' hq => ?_)
  · rcases hq with ⟨_, _, _, ho, _⟩ | ⟨E2, V2, J2, ho, hS, hI, hJ, hB2, hq⟩
    · cases ho
    · cases ho; subst hI; subst hJ
      rcases hX _ _ _ hq with ⟨rfl, hw⟩
      · refine ⟨3, 13, ⟨[], ⟨0, 9, 12, 13⟩, [], rfl, (fun z hz => nomatch hz), by decide, by decide, C_L_13, by decide +kernel, by decide, Or.inl ⟨3, by decide +kernel, rfl, rfl⟩⟩, ?_⟩
        exact y_iconst Q_L_holds (k := 9) rfl (y_iret Q_L_holds (k := 10) rfl rfl (qI_L (by rw [hS]; exact Nat.le_refl _) hB2 ⟨by decide, by decide⟩ hw))
  · rcases hq with ⟨r, V2, J2, ho, hS, hI, hJ, hB2, hz, hq⟩ | ⟨_, _, _, ho, _⟩
    · cases ho; subst hI; subst hJ
      exact z_i2l Q_L_holds (k := 5) rfl (q_last (z := 0) (N := 1) (o := 624) Q_L_holds (k := 6) rfl rfl (n_ hB2.1 rfl) (k_624 hB2.1) rfl ⟨by decide, by decide⟩ (by decide) (z_goto Q_L_holds (k := 7) (tgt := 15) rfl (by decide) (y_iconst Q_L_holds (k := 11) rfl (y_iret Q_L_holds (k := 12) rfl rfl (qI_L (by rw [hS]; exact Nat.le_refl _) hB2 ⟨by decide, by decide⟩ (hQ _ _ _ hz hq))))))
    · cases ho
theorem w_L_know {S : zS} {V : qV} {J : qJ} {Q : Int → qV → qJ → Prop} {Q1 : Int → qV → Prop} {X1 : String → qV → Prop} (d : Nat) (hB : qB S V) {a1 : Int} (z1 : zr a1) {a2 : Int} (z2 : zr a2) (h : W_X10_know a1 a2 V Q1 X1) (hQ : ∀ r V1, zr r → Q1 r V1 → Q 0 V1 (qu J 624 0 (iI r).toInt64)) (hX : ∀ E V1, X1 E V1 → (E = "java/lang/IndexOutOfBoundsException" ∧ Q 1 V1 J) ∨ (E = "java/lang/IllegalArgumentException" ∧ Q 2 V1 J)) : Z M_L_know (d + 2) 2 12 0 [some (.ref 0), some (.int (iI a1)), some (.int (iI a2)), some (.ref 624), none] [] S (qi V) (qj J) (qP_L S Q) := by
  refine z_aload_n Q_L_know (k := 0) rfl rfl ?_
  refine y_iconst Q_L_know (k := 1) rfl ?_
  refine z_aload_n Q_L_know (k := 2) rfl rfl ?_
  refine z_iload_n Q_L_know (k := 3) rfl rfl ?_
  refine z_iload_n Q_L_know (k := 4) rfl rfl ?_
  refine z_callVC (o := 0) (as := [.int (iI a1), .int (iI a2)]) Q_L_know (k := 5) rfl K_X10_know V_X10_know L_L_18 (n_ hB.1 rfl) (k_0 hB.1) rfl rfl (Nat.le_of_ble_eq_true rfl) rfl (by decide) (Nat.le_refl _) (Nat.le_refl _) (Or.inl (fun o S' I' J' hq => by rcases hq with ⟨_, _, _, e, _⟩ | ⟨_, _, _, e, _⟩ <;> rw [e])) (lwA rfl) (w_X10_know d hB z1 z2 h) (fun E S' I' J' hq => ?_) (fun v S' I' J' hq => ?_)
  · rcases hq with ⟨_, _, ho, _⟩ | ⟨E2, V2, ho, hS, hI, hJ, hB2, hq⟩
    · cases ho
    · cases ho; subst hI; subst hJ; subst hS
      rcases hX _ _ hq with ⟨rfl, hw⟩ | ⟨rfl, hw⟩
      · refine ⟨4, 15, ⟨[], ⟨0, 10, 13, 22⟩, tableOf [(0, 10, 17, 13)], rfl, (fun z hz => nomatch hz), by decide, by decide, C_L_22, by decide +kernel, by decide, Or.inr ⟨by decide +kernel, rfl⟩⟩, ?_⟩
        exact y_iconst Q_L_know (k := 10) rfl (y_iret Q_L_know (k := 11) rfl rfl (qI_L (Nat.le_refl _) hB2 ⟨by decide, by decide⟩ hw))
      · refine ⟨4, 19, ⟨tableOf [(0, 10, 13, 22)], ⟨0, 10, 17, 13⟩, [], rfl, (fun z hz => by
          rcases List.mem_cons.mp hz with rfl | hz
          · exact Or.inr ⟨by decide, _, C_L_22, by decide +kernel⟩
          · cases hz), by decide, by decide, C_L_13, by decide +kernel, by decide, Or.inr ⟨by decide +kernel, rfl⟩⟩, ?_⟩
        exact y_iconst Q_L_know (k := 13) rfl (y_iret Q_L_know (k := 14) rfl rfl (qI_L (Nat.le_refl _) hB2 ⟨by decide, by decide⟩ hw))
  · rcases hq with ⟨r, V2, ho, hS, hI, hJ, hB2, hz, hq⟩ | ⟨_, _, ho, _⟩
    · cases ho; subst hI; subst hJ; subst hS
      exact z_i2l Q_L_know (k := 6) rfl (q_last (z := 0) (N := 1) (o := 624) Q_L_know (k := 7) rfl rfl (n_ hB2.1 rfl) (k_624 hB2.1) rfl ⟨by decide, by decide⟩ (by decide) (z_goto Q_L_know (k := 8) (tgt := 21) rfl (by decide) (y_iconst Q_L_know (k := 15) rfl (y_iret Q_L_know (k := 16) rfl rfl (qI_L (Nat.le_refl _) hB2 ⟨by decide, by decide⟩ (hQ _ _ hz hq))))))
    · cases ho
theorem w_L_weigh {S : zS} {V : qV} {J : qJ} {Q : Int → qV → qJ → Prop} {Q1 : Int → qV → Prop} {X1 : String → qV → Prop} (d : Nat) (hB : qB S V) {a1 : Int} (z1 : zr a1) {a2 : Int} (z2 : zr a2) (h : W_X10_weigh a1 a2 V Q1 X1) (hQ : ∀ r V1, zr r → Q1 r V1 → Q 0 V1 (qu J 624 0 (iI r).toInt64)) (hX : ∀ E V1, X1 E V1 → (E = "java/lang/IndexOutOfBoundsException" ∧ Q 1 V1 J) ∨ (E = "java/lang/IllegalArgumentException" ∧ Q 2 V1 J)) : Z M_L_weigh (d + 2) 2 12 0 [some (.ref 0), some (.int (iI a1)), some (.int (iI a2)), some (.ref 624), none] [] S (qi V) (qj J) (qP_L S Q) := by
  refine z_aload_n Q_L_weigh (k := 0) rfl rfl ?_
  refine y_iconst Q_L_weigh (k := 1) rfl ?_
  refine z_aload_n Q_L_weigh (k := 2) rfl rfl ?_
  refine z_iload_n Q_L_weigh (k := 3) rfl rfl ?_
  refine z_iload_n Q_L_weigh (k := 4) rfl rfl ?_
  refine z_callVC (o := 0) (as := [.int (iI a1), .int (iI a2)]) Q_L_weigh (k := 5) rfl K_X10_weigh V_X10_weigh L_L_24 (n_ hB.1 rfl) (k_0 hB.1) rfl rfl (Nat.le_of_ble_eq_true rfl) rfl (by decide) (Nat.le_refl _) (Nat.le_refl _) (Or.inl (fun o S' I' J' hq => by rcases hq with ⟨_, _, _, e, _⟩ | ⟨_, _, _, e, _⟩ <;> rw [e])) (lwA rfl) (w_X10_weigh d hB z1 z2 h) (fun E S' I' J' hq => ?_) (fun v S' I' J' hq => ?_)
  · rcases hq with ⟨_, _, ho, _⟩ | ⟨E2, V2, ho, hS, hI, hJ, hB2, hq⟩
    · cases ho
    · cases ho; subst hI; subst hJ; subst hS
      rcases hX _ _ hq with ⟨rfl, hw⟩ | ⟨rfl, hw⟩
      · refine ⟨4, 15, ⟨[], ⟨0, 10, 13, 22⟩, tableOf [(0, 10, 17, 13)], rfl, (fun z hz => nomatch hz), by decide, by decide, C_L_22, by decide +kernel, by decide, Or.inr ⟨by decide +kernel, rfl⟩⟩, ?_⟩
        exact y_iconst Q_L_weigh (k := 10) rfl (y_iret Q_L_weigh (k := 11) rfl rfl (qI_L (Nat.le_refl _) hB2 ⟨by decide, by decide⟩ hw))
      · refine ⟨4, 19, ⟨tableOf [(0, 10, 13, 22)], ⟨0, 10, 17, 13⟩, [], rfl, (fun z hz => by
          rcases List.mem_cons.mp hz with rfl | hz
          · exact Or.inr ⟨by decide, _, C_L_22, by decide +kernel⟩
          · cases hz), by decide, by decide, C_L_13, by decide +kernel, by decide, Or.inr ⟨by decide +kernel, rfl⟩⟩, ?_⟩
        exact y_iconst Q_L_weigh (k := 13) rfl (y_iret Q_L_weigh (k := 14) rfl rfl (qI_L (Nat.le_refl _) hB2 ⟨by decide, by decide⟩ hw))
  · rcases hq with ⟨r, V2, ho, hS, hI, hJ, hB2, hz, hq⟩ | ⟨_, _, ho, _⟩
    · cases ho; subst hI; subst hJ; subst hS
      exact z_i2l Q_L_weigh (k := 6) rfl (q_last (z := 0) (N := 1) (o := 624) Q_L_weigh (k := 7) rfl rfl (n_ hB2.1 rfl) (k_624 hB2.1) rfl ⟨by decide, by decide⟩ (by decide) (z_goto Q_L_weigh (k := 8) (tgt := 21) rfl (by decide) (y_iconst Q_L_weigh (k := 15) rfl (y_iret Q_L_weigh (k := 16) rfl rfl (qI_L (Nat.le_refl _) hB2 ⟨by decide, by decide⟩ (hQ _ _ hz hq))))))
    · cases ho
theorem w_L_person {S : zS} {V : qV} {J : qJ} {Q : Int → qV → qJ → Prop} {Q1 : Int → qV → Prop} {X1 : String → qV → Prop} (d : Nat) (hB : qB S V) {a1 : Int} (z1 : zr a1) {a2 : Int} (z2 : zr a2) (h : W_X10_person a1 a2 V Q1 X1) (hQ : ∀ r V1, zr r → Q1 r V1 → Q 0 V1 (qu J 624 0 (iI r).toInt64)) (hX : ∀ E V1, X1 E V1 → (E = "java/lang/IllegalArgumentException" ∧ Q 1 V1 J)) : Z M_L_person (d + 2) 2 12 0 [some (.ref 0), some (.int (iI a1)), some (.int (iI a2)), some (.ref 624), none] [] S (qi V) (qj J) (qP_L S Q) := by
  refine z_aload_n Q_L_person (k := 0) rfl rfl ?_
  refine y_iconst Q_L_person (k := 1) rfl ?_
  refine z_aload_n Q_L_person (k := 2) rfl rfl ?_
  refine z_iload_n Q_L_person (k := 3) rfl rfl ?_
  refine z_iload_n Q_L_person (k := 4) rfl rfl ?_
  refine z_callVC (o := 0) (as := [.int (iI a1), .int (iI a2)]) Q_L_person (k := 5) rfl K_X10_person V_X10_person L_L_27 (n_ hB.1 rfl) (k_0 hB.1) rfl rfl (Nat.le_of_ble_eq_true rfl) rfl (by decide) (Nat.le_refl _) (Nat.le_refl _) (Or.inl (fun o S' I' J' hq => by rcases hq with ⟨_, _, _, e, _⟩ | ⟨_, _, _, e, _⟩ <;> rw [e])) (lwA rfl) (w_X10_person d hB z1 z2 h) (fun E S' I' J' hq => ?_) (fun v S' I' J' hq => ?_)
  · rcases hq with ⟨_, _, ho, _⟩ | ⟨E2, V2, ho, hS, hI, hJ, hB2, hq⟩
    · cases ho
    · cases ho; subst hI; subst hJ; subst hS
      rcases hX _ _ hq with ⟨rfl, hw⟩
      · refine ⟨4, 15, ⟨[], ⟨0, 10, 13, 13⟩, [], rfl, (fun z hz => nomatch hz), by decide, by decide, C_L_13, by decide +kernel, by decide, Or.inr ⟨by decide +kernel, rfl⟩⟩, ?_⟩
        exact y_iconst Q_L_person (k := 10) rfl (y_iret Q_L_person (k := 11) rfl rfl (qI_L (Nat.le_refl _) hB2 ⟨by decide, by decide⟩ hw))
  · rcases hq with ⟨r, V2, ho, hS, hI, hJ, hB2, hz, hq⟩ | ⟨_, _, ho, _⟩
    · cases ho; subst hI; subst hJ; subst hS
      exact z_i2l Q_L_person (k := 6) rfl (q_last (z := 0) (N := 1) (o := 624) Q_L_person (k := 7) rfl rfl (n_ hB2.1 rfl) (k_624 hB2.1) rfl ⟨by decide, by decide⟩ (by decide) (z_goto Q_L_person (k := 8) (tgt := 17) rfl (by decide) (y_iconst Q_L_person (k := 12) rfl (y_iret Q_L_person (k := 13) rfl rfl (qI_L (Nat.le_refl _) hB2 ⟨by decide, by decide⟩ (hQ _ _ hz hq))))))
    · cases ho
theorem w_L_passes {S : zS} {V : qV} {J : qJ} {Q : Int → qV → qJ → Prop} {Q1 : Int → qV → Prop} {X1 : String → qV → Prop} (d : Nat) (hB : qB S V) {a1 : Int} (z1 : zr a1) {a2 : Int} (z2 : zr a2) {a3 : Int} (z3 : zr a3) (h : W_X10_passes a1 a2 a3 V Q1 X1) (hQ : ∀ r V1, zr r → Q1 r V1 → Q 0 V1 (qu J 624 0 (iI r).toInt64)) (hX : ∀ E V1, X1 E V1 → (E = "java/util/NoSuchElementException" ∧ Q 1 V1 J) ∨ (E = "java/lang/IllegalArgumentException" ∧ Q 2 V1 J)) : Z M_L_passes (d + 2) 3 18 0 [some (.ref 0), some (.int (iI a1)), some (.int (iI a2)), some (.int (iI a3)), some (.ref 624), none] [] S (qi V) (qj J) (qP_L S Q) := by
  refine z_aload Q_L_passes (k := 0) rfl rfl ?_
  refine y_iconst Q_L_passes (k := 1) rfl ?_
  refine z_aload_n Q_L_passes (k := 2) rfl rfl ?_
  refine z_iload_n Q_L_passes (k := 3) rfl rfl ?_
  refine z_iload_n Q_L_passes (k := 4) rfl rfl ?_
  refine z_iload_n Q_L_passes (k := 5) rfl rfl ?_
  refine z_callVC (o := 0) (as := [.int (iI a1), .int (iI a2), .int (iI a3)]) Q_L_passes (k := 6) rfl K_X10_passes V_X10_passes L_L_30 (n_ hB.1 rfl) (k_0 hB.1) rfl rfl (Nat.le_of_ble_eq_true rfl) rfl (by decide) (Nat.le_refl _) (Nat.le_refl _) (Or.inl (fun o S' I' J' hq => by rcases hq with ⟨_, _, _, e, _⟩ | ⟨_, _, _, e, _⟩ <;> rw [e])) (lwA rfl) (w_X10_passes d hB z1 z2 z3 h) (fun E S' I' J' hq => ?_) (fun v S' I' J' hq => ?_)
  · rcases hq with ⟨_, _, ho, _⟩ | ⟨E2, V2, ho, hS, hI, hJ, hB2, hq⟩
    · cases ho
    · cases ho; subst hI; subst hJ; subst hS
      rcases hX _ _ hq with ⟨rfl, hw⟩ | ⟨rfl, hw⟩
      · refine ⟨5, 17, ⟨[], ⟨0, 12, 15, 34⟩, tableOf [(0, 12, 19, 13)], rfl, (fun z hz => nomatch hz), by decide, by decide, C_L_34, by decide +kernel, by decide, Or.inr ⟨by decide +kernel, rfl⟩⟩, ?_⟩
        exact y_iconst Q_L_passes (k := 11) rfl (y_iret Q_L_passes (k := 12) rfl rfl (qI_L (Nat.le_refl _) hB2 ⟨by decide, by decide⟩ hw))
      · refine ⟨5, 21, ⟨tableOf [(0, 12, 15, 34)], ⟨0, 12, 19, 13⟩, [], rfl, (fun z hz => by
          rcases List.mem_cons.mp hz with rfl | hz
          · exact Or.inr ⟨by decide, _, C_L_34, by decide +kernel⟩
          · cases hz), by decide, by decide, C_L_13, by decide +kernel, by decide, Or.inr ⟨by decide +kernel, rfl⟩⟩, ?_⟩
        exact y_iconst Q_L_passes (k := 14) rfl (y_iret Q_L_passes (k := 15) rfl rfl (qI_L (Nat.le_refl _) hB2 ⟨by decide, by decide⟩ hw))
  · rcases hq with ⟨r, V2, ho, hS, hI, hJ, hB2, hz, hq⟩ | ⟨_, _, ho, _⟩
    · cases ho; subst hI; subst hJ; subst hS
      exact z_i2l Q_L_passes (k := 7) rfl (q_last (z := 0) (N := 1) (o := 624) Q_L_passes (k := 8) rfl rfl (n_ hB2.1 rfl) (k_624 hB2.1) rfl ⟨by decide, by decide⟩ (by decide) (z_goto Q_L_passes (k := 9) (tgt := 23) rfl (by decide) (y_iconst Q_L_passes (k := 16) rfl (y_iret Q_L_passes (k := 17) rfl rfl (qI_L (Nat.le_refl _) hB2 ⟨by decide, by decide⟩ (hQ _ _ hz hq))))))
    · cases ho
theorem w_L_ground {S : zS} {V : qV} {J : qJ} {Q : Int → qV → qJ → Prop} {Q1 : Int → qV → Prop} {X1 : String → qV → Prop} (d : Nat) (hB : qB S V) {a1 : Int} (z1 : zr a1) {a2 : Int} (z2 : zr a2) (b2 : a2 = 0 ∨ a2 = 1) {a3 : Int} (z3 : zr a3) (h : W_X10_ground a1 a2 a3 V Q1 X1) (hQ : ∀ r V1, zr r → Q1 r V1 → Q 0 V1 (qu J 624 0 (iI r).toInt64)) (hX : ∀ E V1, X1 E V1 → (E = "java/lang/IllegalArgumentException" ∧ Q 1 V1 J) ∨ (E = "java/util/NoSuchElementException" ∧ Q 2 V1 J)) : Z M_L_ground (d + 2) 2 12 0 [some (.ref 0), some (.int (iI a1)), some (.int (iI a2)), some (.int (iI a3)), some (.ref 624), none] [] S (qi V) (qj J) (qP_L S Q) := by
  refine z_aload Q_L_ground (k := 0) rfl rfl ?_
  refine y_iconst Q_L_ground (k := 1) rfl ?_
  refine z_aload_n Q_L_ground (k := 2) rfl rfl ?_
  refine z_iload_n Q_L_ground (k := 3) rfl rfl ?_
  refine z_iload_n Q_L_ground (k := 4) rfl rfl ?_
  refine z_iload_n Q_L_ground (k := 5) rfl rfl ?_
  refine z_callVC (o := 0) (as := [.int (iI a1), .int (iI a2), .int (iI a3)]) Q_L_ground (k := 6) rfl K_X10_ground V_X10_ground L_L_36 (n_ hB.1 rfl) (k_0 hB.1) rfl rfl (Nat.le_of_ble_eq_true rfl) rfl (by decide) (Nat.le_refl _) (Nat.le_refl _) (Or.inl (fun o S' I' J' hq => by rcases hq with ⟨_, _, _, e, _⟩ | ⟨_, _, _, e, _⟩ <;> rw [e])) (lwA rfl) (w_X10_ground d hB z1 z2 b2 z3 h) (fun E S' I' J' hq => ?_) (fun v S' I' J' hq => ?_)
  · rcases hq with ⟨_, _, ho, _⟩ | ⟨E2, V2, ho, hS, hI, hJ, hB2, hq⟩
    · cases ho
    · cases ho; subst hI; subst hJ; subst hS
      rcases hX _ _ hq with ⟨rfl, hw⟩ | ⟨rfl, hw⟩
      · refine ⟨5, 17, ⟨[], ⟨0, 12, 15, 13⟩, tableOf [(0, 12, 19, 34)], rfl, (fun z hz => nomatch hz), by decide, by decide, C_L_13, by decide +kernel, by decide, Or.inr ⟨by decide +kernel, rfl⟩⟩, ?_⟩
        exact y_iconst Q_L_ground (k := 11) rfl (y_iret Q_L_ground (k := 12) rfl rfl (qI_L (Nat.le_refl _) hB2 ⟨by decide, by decide⟩ hw))
      · refine ⟨5, 21, ⟨tableOf [(0, 12, 15, 13)], ⟨0, 12, 19, 34⟩, [], rfl, (fun z hz => by
          rcases List.mem_cons.mp hz with rfl | hz
          · exact Or.inr ⟨by decide, _, C_L_13, by decide +kernel⟩
          · cases hz), by decide, by decide, C_L_34, by decide +kernel, by decide, Or.inr ⟨by decide +kernel, rfl⟩⟩, ?_⟩
        exact y_iconst Q_L_ground (k := 14) rfl (y_iret Q_L_ground (k := 15) rfl rfl (qI_L (Nat.le_refl _) hB2 ⟨by decide, by decide⟩ hw))
  · rcases hq with ⟨r, V2, ho, hS, hI, hJ, hB2, hz, hq⟩ | ⟨_, _, ho, _⟩
    · cases ho; subst hI; subst hJ; subst hS
      exact z_i2l Q_L_ground (k := 7) rfl (q_last (z := 0) (N := 1) (o := 624) Q_L_ground (k := 8) rfl rfl (n_ hB2.1 rfl) (k_624 hB2.1) rfl ⟨by decide, by decide⟩ (by decide) (z_goto Q_L_ground (k := 9) (tgt := 23) rfl (by decide) (y_iconst Q_L_ground (k := 16) rfl (y_iret Q_L_ground (k := 17) rfl rfl (qI_L (Nat.le_refl _) hB2 ⟨by decide, by decide⟩ (hQ _ _ hz hq))))))
    · cases ho
theorem w_L_days {S : zS} {V : qV} {J : qJ} {Q : Int → qV → qJ → Prop} {Q1 : Int → qV → Prop} {X1 : String → qV → Prop} (d : Nat) (hB : qB S V) {a1 : Int} (z1 : zr a1) (h : W_X10_days a1 V Q1 X1) (hQ : ∀ r V1, zr r → Q1 r V1 → Q 0 V1 (qu J 624 0 (iI r).toInt64)) (hX : ∀ E V1, X1 E V1 → (E = "java/lang/IllegalArgumentException" ∧ Q 1 V1 J) ∨ (E = "java/lang/IllegalStateException" ∧ Q 2 V1 J)) : Z M_L_days (d + 2) 2 12 0 [some (.ref 0), some (.int (iI a1)), some (.ref 624), none] [] S (qi V) (qj J) (qP_L S Q) := by
  refine z_aload_n Q_L_days (k := 0) rfl rfl ?_
  refine y_iconst Q_L_days (k := 1) rfl ?_
  refine z_aload_n Q_L_days (k := 2) rfl rfl ?_
  refine z_iload_n Q_L_days (k := 3) rfl rfl ?_
  refine z_callVC (o := 0) (as := [.int (iI a1)]) Q_L_days (k := 4) rfl K_X10_days V_X10_days L_L_40 (n_ hB.1 rfl) (k_0 hB.1) rfl rfl (Nat.le_of_ble_eq_true rfl) rfl (by decide) (Nat.le_refl _) (Nat.le_refl _) (Or.inl (fun o S' I' J' hq => by rcases hq with ⟨_, _, _, e, _⟩ | ⟨_, _, _, e, _⟩ <;> rw [e])) (lwA rfl) (w_X10_days d hB z1 h) (fun E S' I' J' hq => ?_) (fun v S' I' J' hq => ?_)
  · rcases hq with ⟨_, _, ho, _⟩ | ⟨E2, V2, ho, hS, hI, hJ, hB2, hq⟩
    · cases ho
    · cases ho; subst hI; subst hJ; subst hS
      rcases hX _ _ hq with ⟨rfl, hw⟩ | ⟨rfl, hw⟩
      · refine ⟨3, 13, ⟨[], ⟨0, 9, 12, 13⟩, tableOf [(0, 9, 15, 43)], rfl, (fun z hz => nomatch hz), by decide, by decide, C_L_13, by decide +kernel, by decide, Or.inl ⟨3, by decide +kernel, rfl, rfl⟩⟩, ?_⟩
        exact y_iconst Q_L_days (k := 9) rfl (y_iret Q_L_days (k := 10) rfl rfl (qI_L (Nat.le_refl _) hB2 ⟨by decide, by decide⟩ hw))
      · refine ⟨3, 16, ⟨tableOf [(0, 9, 12, 13)], ⟨0, 9, 15, 43⟩, [], rfl, (fun z hz => by
          rcases List.mem_cons.mp hz with rfl | hz
          · exact Or.inr ⟨by decide, _, C_L_13, by decide +kernel⟩
          · cases hz), by decide, by decide, C_L_43, by decide +kernel, by decide, Or.inl ⟨3, by decide +kernel, rfl, rfl⟩⟩, ?_⟩
        exact y_iconst Q_L_days (k := 12) rfl (y_iret Q_L_days (k := 13) rfl rfl (qI_L (Nat.le_refl _) hB2 ⟨by decide, by decide⟩ hw))
  · rcases hq with ⟨r, V2, ho, hS, hI, hJ, hB2, hz, hq⟩ | ⟨_, _, ho, _⟩
    · cases ho; subst hI; subst hJ; subst hS
      exact z_i2l Q_L_days (k := 5) rfl (q_last (z := 0) (N := 1) (o := 624) Q_L_days (k := 6) rfl rfl (n_ hB2.1 rfl) (k_624 hB2.1) rfl ⟨by decide, by decide⟩ (by decide) (z_goto Q_L_days (k := 7) (tgt := 18) rfl (by decide) (y_iconst Q_L_days (k := 14) rfl (y_iret Q_L_days (k := 15) rfl rfl (qI_L (Nat.le_refl _) hB2 ⟨by decide, by decide⟩ (hQ _ _ hz hq))))))
    · cases ho
theorem w_L_find {S : zS} {V : qV} {J : qJ} {Q : Int → qV → qJ → Prop} {Q1 : Int → qV → Prop} {X1 : String → qV → Prop} (d : Nat) (hB : qB S V) {a1 : Int} (z1 : zr a1) {a2 : Int} (z2 : zr a2) {a3 : Int} (z3 : zr a3) {a4 : Int} (z4 : zr a4) {a5 : Int} (z5 : zr a5) (h : W_X10_find a1 a2 a3 a4 a5 V Q1 X1) (hQ : ∀ r V1, zr r → Q1 r V1 → Q 0 V1 (qu J 624 0 (iI r).toInt64)) (hX : ∀ E V1, X1 E V1 → (E = "java/lang/IllegalArgumentException" ∧ Q 1 V1 J)) : Z M_L_find (d + 2) 5 30 0 [some (.ref 0), some (.int (iI a1)), some (.int (iI a2)), some (.int (iI a3)), some (.int (iI a4)), some (.int (iI a5)), some (.ref 624), none] [] S (qi V) (qj J) (qP_L S Q) := by
  refine z_aload Q_L_find (k := 0) rfl rfl ?_
  refine y_iconst Q_L_find (k := 1) rfl ?_
  refine z_aload_n Q_L_find (k := 2) rfl rfl ?_
  refine z_iload_n Q_L_find (k := 3) rfl rfl ?_
  refine z_iload_n Q_L_find (k := 4) rfl rfl ?_
  refine z_iload_n Q_L_find (k := 5) rfl rfl ?_
  refine z_iload Q_L_find (k := 6) rfl rfl ?_
  refine z_iload Q_L_find (k := 7) rfl rfl ?_
  refine z_callVC (o := 0) (as := [.int (iI a1), .int (iI a2), .int (iI a3), .int (iI a4), .int (iI a5)]) Q_L_find (k := 8) rfl K_X10_find V_X10_find L_L_45 (n_ hB.1 rfl) (k_0 hB.1) rfl rfl (Nat.le_of_ble_eq_true rfl) rfl (by decide) (Nat.le_refl _) (Nat.le_refl _) (Or.inl (fun o S' I' J' hq => by rcases hq with ⟨_, _, _, e, _⟩ | ⟨_, _, _, e, _⟩ <;> rw [e])) (lwA rfl) (w_X10_find d hB z1 z2 z3 z4 z5 h) (fun E S' I' J' hq => ?_) (fun v S' I' J' hq => ?_)
  · rcases hq with ⟨_, _, ho, _⟩ | ⟨E2, V2, ho, hS, hI, hJ, hB2, hq⟩
    · cases ho
    · cases ho; subst hI; subst hJ; subst hS
      rcases hX _ _ hq with ⟨rfl, hw⟩
      · refine ⟨7, 21, ⟨[], ⟨0, 16, 19, 13⟩, [], rfl, (fun z hz => nomatch hz), by decide, by decide, C_L_13, by decide +kernel, by decide, Or.inr ⟨by decide +kernel, rfl⟩⟩, ?_⟩
        exact y_iconst Q_L_find (k := 13) rfl (y_iret Q_L_find (k := 14) rfl rfl (qI_L (Nat.le_refl _) hB2 ⟨by decide, by decide⟩ hw))
  · rcases hq with ⟨r, V2, ho, hS, hI, hJ, hB2, hz, hq⟩ | ⟨_, _, ho, _⟩
    · cases ho; subst hI; subst hJ; subst hS
      exact z_i2l Q_L_find (k := 9) rfl (q_last (z := 0) (N := 1) (o := 624) Q_L_find (k := 10) rfl rfl (n_ hB2.1 rfl) (k_624 hB2.1) rfl ⟨by decide, by decide⟩ (by decide) (z_goto Q_L_find (k := 11) (tgt := 23) rfl (by decide) (y_iconst Q_L_find (k := 15) rfl (y_iret Q_L_find (k := 16) rfl rfl (qI_L (Nat.le_refl _) hB2 ⟨by decide, by decide⟩ (hQ _ _ hz hq))))))
    · cases ho
theorem w_L_name {S : zS} {V : qV} {J : qJ} {Q : Int → qV → qJ → Prop} {Q1 : Int → Prop} {X1 : String → Prop} (d : Nat) (hB : qB S V) {a1 : Int} (z1 : zr a1) {a2 : Int} (z2 : zr a2) (h : W_X10_name a1 a2 V Q1 X1) (hQ : ∀ r, zr r → Q1 r → Q 0 V (qu J 624 0 (iI r).toInt64)) (hX : ∀ E, X1 E → (E = "java/lang/IndexOutOfBoundsException" ∧ Q 1 V J) ∨ (E = "java/lang/IllegalArgumentException" ∧ Q 2 V J)) : Z M_L_name (d + 4) 2 12 0 [some (.ref 0), some (.int (iI a1)), some (.int (iI a2)), some (.ref 624), none] [] S (qi V) (qj J) (qP_L S Q) := by
  refine z_aload_n Q_L_name (k := 0) rfl rfl ?_
  refine y_iconst Q_L_name (k := 1) rfl ?_
  refine z_aload_n Q_L_name (k := 2) rfl rfl ?_
  refine z_iload_n Q_L_name (k := 3) rfl rfl ?_
  refine z_iload_n Q_L_name (k := 4) rfl rfl ?_
  refine z_callVC (o := 0) (as := [.int (iI a1), .int (iI a2)]) Q_L_name (k := 5) rfl K_X10_name V_X10_name L_L_49 (n_ hB.1 rfl) (k_0 hB.1) rfl rfl (Nat.le_of_ble_eq_true rfl) rfl (by decide) (Nat.le_refl _) (Nat.le_refl _) (Or.inl (fun o S' I' J' hq => by rcases hq with ⟨_, _, e, _⟩ | ⟨_, _, e, _⟩ <;> rw [e])) (lwA rfl) (w_X10_name d hB z1 z2 h) (fun E S' I' J' hq => ?_) (fun v S' I' J' hq => ?_)
  · rcases hq with ⟨_, ho, _⟩ | ⟨E2, ho, hS, hI, hJ, hq⟩
    · cases ho
    · cases ho; subst hI; subst hJ; subst hS
      rcases hX _  hq with ⟨rfl, hw⟩ | ⟨rfl, hw⟩
      · refine ⟨4, 15, ⟨[], ⟨0, 10, 13, 22⟩, tableOf [(0, 10, 17, 13)], rfl, (fun z hz => nomatch hz), by decide, by decide, C_L_22, by decide +kernel, by decide, Or.inr ⟨by decide +kernel, rfl⟩⟩, ?_⟩
        exact y_iconst Q_L_name (k := 10) rfl (y_iret Q_L_name (k := 11) rfl rfl (qI_L (Nat.le_refl _) hB ⟨by decide, by decide⟩ hw))
      · refine ⟨4, 19, ⟨tableOf [(0, 10, 13, 22)], ⟨0, 10, 17, 13⟩, [], rfl, (fun z hz => by
          rcases List.mem_cons.mp hz with rfl | hz
          · exact Or.inr ⟨by decide, _, C_L_22, by decide +kernel⟩
          · cases hz), by decide, by decide, C_L_13, by decide +kernel, by decide, Or.inr ⟨by decide +kernel, rfl⟩⟩, ?_⟩
        exact y_iconst Q_L_name (k := 13) rfl (y_iret Q_L_name (k := 14) rfl rfl (qI_L (Nat.le_refl _) hB ⟨by decide, by decide⟩ hw))
  · rcases hq with ⟨r, ho, hS, hI, hJ, hz, hq⟩ | ⟨_, ho, _⟩
    · cases ho; subst hI; subst hJ; subst hS
      exact z_i2l Q_L_name (k := 6) rfl (q_last (z := 0) (N := 1) (o := 624) Q_L_name (k := 7) rfl rfl (n_ hB.1 rfl) (k_624 hB.1) rfl ⟨by decide, by decide⟩ (by decide) (z_goto Q_L_name (k := 8) (tgt := 21) rfl (by decide) (y_iconst Q_L_name (k := 15) rfl (y_iret Q_L_name (k := 16) rfl rfl (qI_L (Nat.le_refl _) hB ⟨by decide, by decide⟩ (hQ _  hz hq))))))
    · cases ho
theorem w_L_hold {S : zS} {V : qV} {J : qJ} {Q : Int → qV → qJ → Prop} {Q1 : Int → qV → Prop} {X1 : String → qV → Prop} (d : Nat) (hB : qB S V) {a1 : Int} (z1 : zr a1) {a2 : Int} (z2 : zr a2) {a3 : Int} (z3 : zr a3) {a4 : Int} (z4 : zr a4) (h : W_X10_hold a1 a2 a3 a4 V Q1 X1) (hQ : ∀ r V1, zr r → Q1 r V1 → Q 0 V1 (qu J 624 0 (iI r).toInt64)) (hX : ∀ E V1, X1 E V1 → (E = "java/lang/IndexOutOfBoundsException" ∧ Q 1 V1 J) ∨ (E = "java/util/NoSuchElementException" ∧ Q 2 V1 J) ∨ (E = "java/lang/IllegalArgumentException" ∧ Q 3 V1 J)) : Z M_L_hold (d + 2) 4 24 0 [some (.ref 0), some (.int (iI a1)), some (.int (iI a2)), some (.int (iI a3)), some (.int (iI a4)), some (.ref 624), none] [] S (qi V) (qj J) (qP_L S Q) := by
  refine z_aload Q_L_hold (k := 0) rfl rfl ?_
  refine y_iconst Q_L_hold (k := 1) rfl ?_
  refine z_aload_n Q_L_hold (k := 2) rfl rfl ?_
  refine z_iload_n Q_L_hold (k := 3) rfl rfl ?_
  refine z_iload_n Q_L_hold (k := 4) rfl rfl ?_
  refine z_iload_n Q_L_hold (k := 5) rfl rfl ?_
  refine z_iload Q_L_hold (k := 6) rfl rfl ?_
  refine z_callVC (o := 0) (as := [.int (iI a1), .int (iI a2), .int (iI a3), .int (iI a4)]) Q_L_hold (k := 7) rfl K_X10_hold V_X10_hold L_L_52 (n_ hB.1 rfl) (k_0 hB.1) rfl rfl (Nat.le_of_ble_eq_true rfl) rfl (by decide) (Nat.le_refl _) (Nat.le_refl _) (Or.inl (fun o S' I' J' hq => by rcases hq with ⟨_, _, _, e, _⟩ | ⟨_, _, _, e, _⟩ <;> rw [e])) (lwA rfl) (w_X10_hold d hB z1 z2 z3 z4 h) (fun E S' I' J' hq => ?_) (fun v S' I' J' hq => ?_)
  · rcases hq with ⟨_, _, ho, _⟩ | ⟨E2, V2, ho, hS, hI, hJ, hB2, hq⟩
    · cases ho
    · cases ho; subst hI; subst hJ; subst hS
      rcases hX _ _ hq with ⟨rfl, hw⟩ | ⟨rfl, hw⟩ | ⟨rfl, hw⟩
      · refine ⟨6, 19, ⟨[], ⟨0, 14, 17, 22⟩, tableOf [(0, 14, 21, 34), (0, 14, 25, 13)], rfl, (fun z hz => nomatch hz), by decide, by decide, C_L_22, by decide +kernel, by decide, Or.inr ⟨by decide +kernel, rfl⟩⟩, ?_⟩
        exact y_iconst Q_L_hold (k := 12) rfl (y_iret Q_L_hold (k := 13) rfl rfl (qI_L (Nat.le_refl _) hB2 ⟨by decide, by decide⟩ hw))
      · refine ⟨6, 23, ⟨tableOf [(0, 14, 17, 22)], ⟨0, 14, 21, 34⟩, tableOf [(0, 14, 25, 13)], rfl, (fun z hz => by
          rcases List.mem_cons.mp hz with rfl | hz
          · exact Or.inr ⟨by decide, _, C_L_22, by decide +kernel⟩
          · cases hz), by decide, by decide, C_L_34, by decide +kernel, by decide, Or.inr ⟨by decide +kernel, rfl⟩⟩, ?_⟩
        exact y_iconst Q_L_hold (k := 15) rfl (y_iret Q_L_hold (k := 16) rfl rfl (qI_L (Nat.le_refl _) hB2 ⟨by decide, by decide⟩ hw))
      · refine ⟨6, 27, ⟨tableOf [(0, 14, 17, 22), (0, 14, 21, 34)], ⟨0, 14, 25, 13⟩, [], rfl, (fun z hz => by
          rcases List.mem_cons.mp hz with rfl | hz
          · exact Or.inr ⟨by decide, _, C_L_22, by decide +kernel⟩
          · rcases List.mem_cons.mp hz with rfl | hz
            · exact Or.inr ⟨by decide, _, C_L_34, by decide +kernel⟩
            · cases hz), by decide, by decide, C_L_13, by decide +kernel, by decide, Or.inr ⟨by decide +kernel, rfl⟩⟩, ?_⟩
        exact y_iconst Q_L_hold (k := 18) rfl (y_iret Q_L_hold (k := 19) rfl rfl (qI_L (Nat.le_refl _) hB2 ⟨by decide, by decide⟩ hw))
  · rcases hq with ⟨r, V2, ho, hS, hI, hJ, hB2, hz, hq⟩ | ⟨_, _, ho, _⟩
    · cases ho; subst hI; subst hJ; subst hS
      exact z_i2l Q_L_hold (k := 8) rfl (q_last (z := 0) (N := 1) (o := 624) Q_L_hold (k := 9) rfl rfl (n_ hB2.1 rfl) (k_624 hB2.1) rfl ⟨by decide, by decide⟩ (by decide) (z_goto Q_L_hold (k := 10) (tgt := 29) rfl (by decide) (y_iconst Q_L_hold (k := 20) rfl (y_iret Q_L_hold (k := 21) rfl rfl (qI_L (Nat.le_refl _) hB2 ⟨by decide, by decide⟩ (hQ _ _ hz hq))))))
    · cases ho
theorem w_L_finders {S : zS} {V : qV} {J : qJ} {Q : Int → qV → qJ → Prop} {Q1 : Int → Prop} {X1 : String → Prop} (d : Nat) (hB : qB S V) {a1 : Int} (z1 : zr a1) (h : W_X10_finders a1 V Q1 X1) (hQ : ∀ r, zr r → Q1 r → Q 0 V (qu J 624 0 (iI r).toInt64)) (hX : ∀ E, X1 E → (E = "java/lang/IndexOutOfBoundsException" ∧ Q 1 V J)) : Z M_L_finders (d + 2) 1 6 0 [some (.ref 0), some (.int (iI a1)), some (.ref 624), none] [] S (qi V) (qj J) (qP_L S Q) := by
  refine z_aload_n Q_L_finders (k := 0) rfl rfl ?_
  refine y_iconst Q_L_finders (k := 1) rfl ?_
  refine z_aload_n Q_L_finders (k := 2) rfl rfl ?_
  refine z_iload_n Q_L_finders (k := 3) rfl rfl ?_
  refine z_callVC (o := 0) (as := [.int (iI a1)]) Q_L_finders (k := 4) rfl K_X10_finders V_X10_finders L_L_56 (n_ hB.1 rfl) (k_0 hB.1) rfl rfl (Nat.le_of_ble_eq_true rfl) rfl (by decide) (Nat.le_refl _) (Nat.le_refl _) (Or.inl (fun o S' I' J' hq => by rcases hq with ⟨_, _, e, _⟩ | ⟨_, _, e, _⟩ <;> rw [e])) (lwA rfl) (w_X10_finders d hB z1 h) (fun E S' I' J' hq => ?_) (fun v S' I' J' hq => ?_)
  · rcases hq with ⟨_, ho, _⟩ | ⟨E2, ho, hS, hI, hJ, hq⟩
    · cases ho
    · cases ho; subst hI; subst hJ; subst hS
      rcases hX _  hq with ⟨rfl, hw⟩
      · refine ⟨3, 13, ⟨[], ⟨0, 9, 12, 22⟩, [], rfl, (fun z hz => nomatch hz), by decide, by decide, C_L_22, by decide +kernel, by decide, Or.inl ⟨3, by decide +kernel, rfl, rfl⟩⟩, ?_⟩
        exact y_iconst Q_L_finders (k := 9) rfl (y_iret Q_L_finders (k := 10) rfl rfl (qI_L (Nat.le_refl _) hB ⟨by decide, by decide⟩ hw))
  · rcases hq with ⟨r, ho, hS, hI, hJ, hz, hq⟩ | ⟨_, ho, _⟩
    · cases ho; subst hI; subst hJ; subst hS
      exact z_i2l Q_L_finders (k := 5) rfl (q_last (z := 0) (N := 1) (o := 624) Q_L_finders (k := 6) rfl rfl (n_ hB.1 rfl) (k_624 hB.1) rfl ⟨by decide, by decide⟩ (by decide) (z_goto Q_L_finders (k := 7) (tgt := 15) rfl (by decide) (y_iconst Q_L_finders (k := 11) rfl (y_iret Q_L_finders (k := 12) rfl rfl (qI_L (Nat.le_refl _) hB ⟨by decide, by decide⟩ (hQ _  hz hq))))))
    · cases ho
theorem w_L_whose {S : zS} {V : qV} {J : qJ} {Q : Int → qV → qJ → Prop} {Q1 : Int → qV → qJ → Prop} {X1 : String → qV → qJ → Prop} (d : Nat) (hB : qB S V) {a1 : Int} (z1 : zr a1) {a2 : Int} (z2 : zr a2) {a3 : Int} (z3 : zr a3) {a4 : Int} (z4 : zr a4) (h : W_X10_whose a1 a2 a3 a4 V J Q1 X1) (hQ : ∀ r V1 J1, zr r → Q1 r V1 J1 → Q 0 V1 (qu J1 624 0 (iI r).toInt64)) (hX : ∀ E V1 J1, X1 E V1 J1 → (E = "java/lang/IndexOutOfBoundsException" ∧ Q 1 V1 J1) ∨ (E = "java/lang/IllegalArgumentException" ∧ Q 2 V1 J1)) : Z M_L_whose (d + 6) 4 24 0 [some (.ref 0), some (.int (iI a1)), some (.int (iI a2)), some (.int (iI a3)), some (.int (iI a4)), some (.ref 624), none] [] S (qi V) (qj J) (qP_L S Q) := by
  refine z_aload Q_L_whose (k := 0) rfl rfl ?_
  refine y_iconst Q_L_whose (k := 1) rfl ?_
  refine z_aload_n Q_L_whose (k := 2) rfl rfl ?_
  refine z_iload_n Q_L_whose (k := 3) rfl rfl ?_
  refine z_iload_n Q_L_whose (k := 4) rfl rfl ?_
  refine z_iload_n Q_L_whose (k := 5) rfl rfl ?_
  refine z_iload Q_L_whose (k := 6) rfl rfl ?_
  refine z_callVC (o := 0) (as := [.int (iI a1), .int (iI a2), .int (iI a3), .int (iI a4)]) Q_L_whose (k := 7) rfl K_X10_whose V_X10_whose L_L_59 (n_ hB.1 rfl) (k_0 hB.1) rfl rfl (Nat.le_of_ble_eq_true rfl) rfl (by decide) (Nat.le_refl _) (Nat.le_refl _) (Or.inl (fun o S' I' J' hq => by rcases hq with ⟨_, _, _, _, e, _⟩ | ⟨_, _, _, _, e, _⟩ <;> rw [e])) (lwA rfl) (w_X10_whose d hB z1 z2 z3 z4 h) (fun E S' I' J' hq => ?_) (fun v S' I' J' hq => ?_)
  · rcases hq with ⟨_, _, _, ho, _⟩ | ⟨E2, V2, J2, ho, hS, hI, hJ, hB2, hq⟩
    · cases ho
    · cases ho; subst hI; subst hJ; subst hS
      rcases hX _ _ _ hq with ⟨rfl, hw⟩ | ⟨rfl, hw⟩
      · refine ⟨6, 19, ⟨[], ⟨0, 14, 17, 22⟩, tableOf [(0, 14, 21, 13)], rfl, (fun z hz => nomatch hz), by decide, by decide, C_L_22, by decide +kernel, by decide, Or.inr ⟨by decide +kernel, rfl⟩⟩, ?_⟩
        exact y_iconst Q_L_whose (k := 12) rfl (y_iret Q_L_whose (k := 13) rfl rfl (qI_L (Nat.le_refl _) hB2 ⟨by decide, by decide⟩ hw))
      · refine ⟨6, 23, ⟨tableOf [(0, 14, 17, 22)], ⟨0, 14, 21, 13⟩, [], rfl, (fun z hz => by
          rcases List.mem_cons.mp hz with rfl | hz
          · exact Or.inr ⟨by decide, _, C_L_22, by decide +kernel⟩
          · cases hz), by decide, by decide, C_L_13, by decide +kernel, by decide, Or.inr ⟨by decide +kernel, rfl⟩⟩, ?_⟩
        exact y_iconst Q_L_whose (k := 15) rfl (y_iret Q_L_whose (k := 16) rfl rfl (qI_L (Nat.le_refl _) hB2 ⟨by decide, by decide⟩ hw))
  · rcases hq with ⟨r, V2, J2, ho, hS, hI, hJ, hB2, hz, hq⟩ | ⟨_, _, _, ho, _⟩
    · cases ho; subst hI; subst hJ; subst hS
      exact z_i2l Q_L_whose (k := 8) rfl (q_last (z := 0) (N := 1) (o := 624) Q_L_whose (k := 9) rfl rfl (n_ hB2.1 rfl) (k_624 hB2.1) rfl ⟨by decide, by decide⟩ (by decide) (z_goto Q_L_whose (k := 10) (tgt := 25) rfl (by decide) (y_iconst Q_L_whose (k := 17) rfl (y_iret Q_L_whose (k := 18) rfl rfl (qI_L (Nat.le_refl _) hB2 ⟨by decide, by decide⟩ (hQ _ _ _ hz hq))))))
    · cases ho
theorem w_L_sure {S : zS} {V : qV} {J : qJ} {Q : Int → qV → qJ → Prop} {Q1 : Int → qV → qJ → Prop} {X1 : String → qV → qJ → Prop} (d : Nat) (hB : qB S V) {a1 : Int} (z1 : zr a1) {a2 : Int} (z2 : zr a2) (h : W_X10_sure a1 a2 V J Q1 X1) (hQ : ∀ r V1 J1, zr r → Q1 r V1 J1 → Q 0 V1 (qu J1 624 0 (iI r).toInt64)) (hX : ∀ E V1 J1, X1 E V1 J1 → (E = "java/lang/IndexOutOfBoundsException" ∧ Q 1 V1 J1) ∨ (E = "java/lang/IllegalArgumentException" ∧ Q 2 V1 J1)) : Z M_L_sure (d + 7) 2 12 0 [some (.ref 0), some (.int (iI a1)), some (.int (iI a2)), some (.ref 624), none] [] S (qi V) (qj J) (qP_L S Q) := by
  refine z_aload_n Q_L_sure (k := 0) rfl rfl ?_
  refine y_iconst Q_L_sure (k := 1) rfl ?_
  refine z_aload_n Q_L_sure (k := 2) rfl rfl ?_
  refine z_iload_n Q_L_sure (k := 3) rfl rfl ?_
  refine z_iload_n Q_L_sure (k := 4) rfl rfl ?_
  refine z_callVC (o := 0) (as := [.int (iI a1), .int (iI a2)]) Q_L_sure (k := 5) rfl K_X10_sure V_X10_sure L_L_62 (n_ hB.1 rfl) (k_0 hB.1) rfl rfl (Nat.le_of_ble_eq_true rfl) rfl (by decide) (Nat.le_refl _) (Nat.le_refl _) (Or.inl (fun o S' I' J' hq => by rcases hq with ⟨_, _, _, _, e, _⟩ | ⟨_, _, _, _, e, _⟩ <;> rw [e])) (lwA rfl) (w_X10_sure d hB z1 z2 h) (fun E S' I' J' hq => ?_) (fun v S' I' J' hq => ?_)
  · rcases hq with ⟨_, _, _, ho, _⟩ | ⟨E2, V2, J2, ho, hS, hI, hJ, hB2, hq⟩
    · cases ho
    · cases ho; subst hI; subst hJ; subst hS
      rcases hX _ _ _ hq with ⟨rfl, hw⟩ | ⟨rfl, hw⟩
      · refine ⟨4, 15, ⟨[], ⟨0, 10, 13, 22⟩, tableOf [(0, 10, 17, 13)], rfl, (fun z hz => nomatch hz), by decide, by decide, C_L_22, by decide +kernel, by decide, Or.inr ⟨by decide +kernel, rfl⟩⟩, ?_⟩
        exact y_iconst Q_L_sure (k := 10) rfl (y_iret Q_L_sure (k := 11) rfl rfl (qI_L (Nat.le_refl _) hB2 ⟨by decide, by decide⟩ hw))
      · refine ⟨4, 19, ⟨tableOf [(0, 10, 13, 22)], ⟨0, 10, 17, 13⟩, [], rfl, (fun z hz => by
          rcases List.mem_cons.mp hz with rfl | hz
          · exact Or.inr ⟨by decide, _, C_L_22, by decide +kernel⟩
          · cases hz), by decide, by decide, C_L_13, by decide +kernel, by decide, Or.inr ⟨by decide +kernel, rfl⟩⟩, ?_⟩
        exact y_iconst Q_L_sure (k := 13) rfl (y_iret Q_L_sure (k := 14) rfl rfl (qI_L (Nat.le_refl _) hB2 ⟨by decide, by decide⟩ hw))
  · rcases hq with ⟨r, V2, J2, ho, hS, hI, hJ, hB2, hz, hq⟩ | ⟨_, _, _, ho, _⟩
    · cases ho; subst hI; subst hJ; subst hS
      exact z_i2l Q_L_sure (k := 6) rfl (q_last (z := 0) (N := 1) (o := 624) Q_L_sure (k := 7) rfl rfl (n_ hB2.1 rfl) (k_624 hB2.1) rfl ⟨by decide, by decide⟩ (by decide) (z_goto Q_L_sure (k := 8) (tgt := 21) rfl (by decide) (y_iconst Q_L_sure (k := 15) rfl (y_iret Q_L_sure (k := 16) rfl rfl (qI_L (Nat.le_refl _) hB2 ⟨by decide, by decide⟩ (hQ _ _ _ hz hq))))))
    · cases ho
theorem w_L_may {S : zS} {V : qV} {J : qJ} {Q : Int → qV → qJ → Prop} {Q1 : Int → qV → qJ → Prop} {X1 : String → qV → qJ → Prop} (d : Nat) (hB : qB S V) {a1 : Int} (z1 : zr a1) {a2 : Int} (z2 : zr a2) (h : W_X10_may a1 a2 V J Q1 X1) (hQ : ∀ r V1 J1, zr r → Q1 r V1 J1 → Q 0 V1 (qu J1 624 0 (iI r).toInt64)) (hX : ∀ E V1 J1, X1 E V1 J1 → (E = "java/lang/IndexOutOfBoundsException" ∧ Q 1 V1 J1) ∨ (E = "java/lang/IllegalArgumentException" ∧ Q 2 V1 J1)) : Z M_L_may (d + 7) 2 12 0 [some (.ref 0), some (.int (iI a1)), some (.int (iI a2)), some (.ref 624), none] [] S (qi V) (qj J) (qP_L S Q) := by
  refine z_aload_n Q_L_may (k := 0) rfl rfl ?_
  refine y_iconst Q_L_may (k := 1) rfl ?_
  refine z_aload_n Q_L_may (k := 2) rfl rfl ?_
  refine z_iload_n Q_L_may (k := 3) rfl rfl ?_
  refine z_iload_n Q_L_may (k := 4) rfl rfl ?_
  refine z_callVC (o := 0) (as := [.int (iI a1), .int (iI a2)]) Q_L_may (k := 5) rfl K_X10_may V_X10_may L_L_65 (n_ hB.1 rfl) (k_0 hB.1) rfl rfl (Nat.le_of_ble_eq_true rfl) rfl (by decide) (Nat.le_refl _) (Nat.le_refl _) (Or.inl (fun o S' I' J' hq => by rcases hq with ⟨_, _, _, _, e, _⟩ | ⟨_, _, _, _, e, _⟩ <;> rw [e])) (lwA rfl) (w_X10_may d hB z1 z2 h) (fun E S' I' J' hq => ?_) (fun v S' I' J' hq => ?_)
  · rcases hq with ⟨_, _, _, ho, _⟩ | ⟨E2, V2, J2, ho, hS, hI, hJ, hB2, hq⟩
    · cases ho
    · cases ho; subst hI; subst hJ; subst hS
      rcases hX _ _ _ hq with ⟨rfl, hw⟩ | ⟨rfl, hw⟩
      · refine ⟨4, 15, ⟨[], ⟨0, 10, 13, 22⟩, tableOf [(0, 10, 17, 13)], rfl, (fun z hz => nomatch hz), by decide, by decide, C_L_22, by decide +kernel, by decide, Or.inr ⟨by decide +kernel, rfl⟩⟩, ?_⟩
        exact y_iconst Q_L_may (k := 10) rfl (y_iret Q_L_may (k := 11) rfl rfl (qI_L (Nat.le_refl _) hB2 ⟨by decide, by decide⟩ hw))
      · refine ⟨4, 19, ⟨tableOf [(0, 10, 13, 22)], ⟨0, 10, 17, 13⟩, [], rfl, (fun z hz => by
          rcases List.mem_cons.mp hz with rfl | hz
          · exact Or.inr ⟨by decide, _, C_L_22, by decide +kernel⟩
          · cases hz), by decide, by decide, C_L_13, by decide +kernel, by decide, Or.inr ⟨by decide +kernel, rfl⟩⟩, ?_⟩
        exact y_iconst Q_L_may (k := 13) rfl (y_iret Q_L_may (k := 14) rfl rfl (qI_L (Nat.le_refl _) hB2 ⟨by decide, by decide⟩ hw))
  · rcases hq with ⟨r, V2, J2, ho, hS, hI, hJ, hB2, hz, hq⟩ | ⟨_, _, _, ho, _⟩
    · cases ho; subst hI; subst hJ; subst hS
      exact z_i2l Q_L_may (k := 6) rfl (q_last (z := 0) (N := 1) (o := 624) Q_L_may (k := 7) rfl rfl (n_ hB2.1 rfl) (k_624 hB2.1) rfl ⟨by decide, by decide⟩ (by decide) (z_goto Q_L_may (k := 8) (tgt := 21) rfl (by decide) (y_iconst Q_L_may (k := 15) rfl (y_iret Q_L_may (k := 16) rfl rfl (qI_L (Nat.le_refl _) hB2 ⟨by decide, by decide⟩ (hQ _ _ _ hz hq))))))
    · cases ho
theorem w_L_part {S : zS} {V : qV} {J : qJ} {Q : Int → qV → qJ → Prop} {Q1 : Int64 → qV → qJ → Prop} {X1 : String → qV → qJ → Prop} (d : Nat) (hB : qB S V) {a1 : Int} (z1 : zr a1) {a2 : Int} (z2 : zr a2) {a3 : Int} (z3 : zr a3) (h : W_X10_part a1 a2 a3 V J Q1 X1) (hQ : ∀ r V1 J1, Q1 r V1 J1 → Q 0 V1 (qu J1 624 0 r)) (hX : ∀ E V1 J1, X1 E V1 J1 → (E = "java/lang/IndexOutOfBoundsException" ∧ Q 1 V1 J1) ∨ (E = "java/lang/IllegalArgumentException" ∧ Q 2 V1 J1)) : Z M_L_part (d + 7) 3 18 0 [some (.ref 0), some (.int (iI a1)), some (.int (iI a2)), some (.int (iI a3)), some (.ref 624), none] [] S (qi V) (qj J) (qP_L S Q) := by
  refine z_aload Q_L_part (k := 0) rfl rfl ?_
  refine y_iconst Q_L_part (k := 1) rfl ?_
  refine z_aload_n Q_L_part (k := 2) rfl rfl ?_
  refine z_iload_n Q_L_part (k := 3) rfl rfl ?_
  refine z_iload_n Q_L_part (k := 4) rfl rfl ?_
  refine z_iload_n Q_L_part (k := 5) rfl rfl ?_
  refine z_callVC (o := 0) (as := [.int (iI a1), .int (iI a2), .int (iI a3)]) Q_L_part (k := 6) rfl K_X10_part V_X10_part L_L_68 (n_ hB.1 rfl) (k_0 hB.1) rfl rfl (Nat.le_of_ble_eq_true rfl) rfl (by decide) (Nat.le_refl _) (Nat.le_refl _) (Or.inl (fun o S' I' J' hq => by rcases hq with ⟨_, _, _, _, e, _⟩ | ⟨_, _, _, _, e, _⟩ <;> rw [e])) (lwA rfl) (w_X10_part d hB z1 z2 z3 h) (fun E S' I' J' hq => ?_) (fun v S' I' J' hq => ?_)
  · rcases hq with ⟨_, _, _, ho, _⟩ | ⟨E2, V2, J2, ho, hS, hI, hJ, hB2, hq⟩
    · cases ho
    · cases ho; subst hI; subst hJ; subst hS
      rcases hX _ _ _ hq with ⟨rfl, hw⟩ | ⟨rfl, hw⟩
      · refine ⟨5, 16, ⟨[], ⟨0, 11, 14, 22⟩, tableOf [(0, 11, 18, 13)], rfl, (fun z hz => nomatch hz), by decide, by decide, C_L_22, by decide +kernel, by decide, Or.inr ⟨by decide +kernel, rfl⟩⟩, ?_⟩
        exact y_iconst Q_L_part (k := 10) rfl (y_iret Q_L_part (k := 11) rfl rfl (qI_L (Nat.le_refl _) hB2 ⟨by decide, by decide⟩ hw))
      · refine ⟨5, 20, ⟨tableOf [(0, 11, 14, 22)], ⟨0, 11, 18, 13⟩, [], rfl, (fun z hz => by
          rcases List.mem_cons.mp hz with rfl | hz
          · exact Or.inr ⟨by decide, _, C_L_22, by decide +kernel⟩
          · cases hz), by decide, by decide, C_L_13, by decide +kernel, by decide, Or.inr ⟨by decide +kernel, rfl⟩⟩, ?_⟩
        exact y_iconst Q_L_part (k := 13) rfl (y_iret Q_L_part (k := 14) rfl rfl (qI_L (Nat.le_refl _) hB2 ⟨by decide, by decide⟩ hw))
  · rcases hq with ⟨r, V2, J2, ho, hS, hI, hJ, hB2, hq⟩ | ⟨_, _, _, ho, _⟩
    · cases ho; subst hI; subst hJ; subst hS
      exact q_last (z := 0) (N := 1) (o := 624) Q_L_part (k := 7) rfl rfl (n_ hB2.1 rfl) (k_624 hB2.1) rfl ⟨by decide, by decide⟩ (by decide) (z_goto Q_L_part (k := 8) (tgt := 22) rfl (by decide) (y_iconst Q_L_part (k := 15) rfl (y_iret Q_L_part (k := 16) rfl rfl (qI_L (Nat.le_refl _) hB2 ⟨by decide, by decide⟩ (hQ _ _ _ hq)))))
    · cases ho
theorem w_L_hangs {S : zS} {V : qV} {J : qJ} {Q : Int → qV → qJ → Prop} {Q1 : Int → qV → qJ → Prop} {X1 : String → qV → qJ → Prop} (d : Nat) (hB : qB S V) {a1 : Int} (z1 : zr a1) {a2 : Int} (z2 : zr a2) (h : W_X10_hangs a1 a2 V J Q1 X1) (hQ : ∀ r V1 J1, zr r → Q1 r V1 J1 → Q 0 V1 (qu J1 624 0 (iI r).toInt64)) (hX : ∀ E V1 J1, X1 E V1 J1 → (E = "java/lang/IndexOutOfBoundsException" ∧ Q 1 V1 J1) ∨ (E = "java/lang/IllegalArgumentException" ∧ Q 2 V1 J1)) : Z M_L_hangs (d + 8) 2 12 0 [some (.ref 0), some (.int (iI a1)), some (.int (iI a2)), some (.ref 624), none] [] S (qi V) (qj J) (qP_L S Q) := by
  refine z_aload_n Q_L_hangs (k := 0) rfl rfl ?_
  refine y_iconst Q_L_hangs (k := 1) rfl ?_
  refine z_aload_n Q_L_hangs (k := 2) rfl rfl ?_
  refine z_iload_n Q_L_hangs (k := 3) rfl rfl ?_
  refine z_iload_n Q_L_hangs (k := 4) rfl rfl ?_
  refine z_callVC (o := 0) (as := [.int (iI a1), .int (iI a2)]) Q_L_hangs (k := 5) rfl K_X10_hangs V_X10_hangs L_L_72 (n_ hB.1 rfl) (k_0 hB.1) rfl rfl (Nat.le_of_ble_eq_true rfl) rfl (by decide) (Nat.le_refl _) (Nat.le_refl _) (Or.inl (fun o S' I' J' hq => by rcases hq with ⟨_, _, _, _, e, _⟩ | ⟨_, _, _, _, e, _⟩ <;> rw [e])) (lwA rfl) (w_X10_hangs d hB z1 z2 h) (fun E S' I' J' hq => ?_) (fun v S' I' J' hq => ?_)
  · rcases hq with ⟨_, _, _, ho, _⟩ | ⟨E2, V2, J2, ho, hS, hI, hJ, hB2, hq⟩
    · cases ho
    · cases ho; subst hI; subst hJ; subst hS
      rcases hX _ _ _ hq with ⟨rfl, hw⟩ | ⟨rfl, hw⟩
      · refine ⟨4, 15, ⟨[], ⟨0, 10, 13, 22⟩, tableOf [(0, 10, 17, 13)], rfl, (fun z hz => nomatch hz), by decide, by decide, C_L_22, by decide +kernel, by decide, Or.inr ⟨by decide +kernel, rfl⟩⟩, ?_⟩
        exact y_iconst Q_L_hangs (k := 10) rfl (y_iret Q_L_hangs (k := 11) rfl rfl (qI_L (Nat.le_refl _) hB2 ⟨by decide, by decide⟩ hw))
      · refine ⟨4, 19, ⟨tableOf [(0, 10, 13, 22)], ⟨0, 10, 17, 13⟩, [], rfl, (fun z hz => by
          rcases List.mem_cons.mp hz with rfl | hz
          · exact Or.inr ⟨by decide, _, C_L_22, by decide +kernel⟩
          · cases hz), by decide, by decide, C_L_13, by decide +kernel, by decide, Or.inr ⟨by decide +kernel, rfl⟩⟩, ?_⟩
        exact y_iconst Q_L_hangs (k := 13) rfl (y_iret Q_L_hangs (k := 14) rfl rfl (qI_L (Nat.le_refl _) hB2 ⟨by decide, by decide⟩ hw))
  · rcases hq with ⟨r, V2, J2, ho, hS, hI, hJ, hB2, hz, hq⟩ | ⟨_, _, _, ho, _⟩
    · cases ho; subst hI; subst hJ; subst hS
      exact z_i2l Q_L_hangs (k := 6) rfl (q_last (z := 0) (N := 1) (o := 624) Q_L_hangs (k := 7) rfl rfl (n_ hB2.1 rfl) (k_624 hB2.1) rfl ⟨by decide, by decide⟩ (by decide) (z_goto Q_L_hangs (k := 8) (tgt := 21) rfl (by decide) (y_iconst Q_L_hangs (k := 15) rfl (y_iret Q_L_hangs (k := 16) rfl rfl (qI_L (Nat.le_refl _) hB2 ⟨by decide, by decide⟩ (hQ _ _ _ hz hq))))))
    · cases ho
theorem w_L_settles {S : zS} {V : qV} {J : qJ} {Q : Int → qV → qJ → Prop} {Q1 : Int → qV → qJ → Prop} {X1 : String → qV → qJ → Prop} (d : Nat) (hB : qB S V) {a1 : Int} (z1 : zr a1) {a2 : Int} (z2 : zr a2) (h : W_X10_settles a1 a2 V J Q1 X1) (hQ : ∀ r V1 J1, zr r → Q1 r V1 J1 → Q 0 V1 (qu J1 624 0 (iI r).toInt64)) (hX : ∀ E V1 J1, X1 E V1 J1 → (E = "java/lang/IndexOutOfBoundsException" ∧ Q 1 V1 J1) ∨ (E = "java/lang/IllegalArgumentException" ∧ Q 2 V1 J1)) : Z M_L_settles (d + 8) 2 12 0 [some (.ref 0), some (.int (iI a1)), some (.int (iI a2)), some (.ref 624), none] [] S (qi V) (qj J) (qP_L S Q) := by
  refine z_aload_n Q_L_settles (k := 0) rfl rfl ?_
  refine y_iconst Q_L_settles (k := 1) rfl ?_
  refine z_aload_n Q_L_settles (k := 2) rfl rfl ?_
  refine z_iload_n Q_L_settles (k := 3) rfl rfl ?_
  refine z_iload_n Q_L_settles (k := 4) rfl rfl ?_
  refine z_callVC (o := 0) (as := [.int (iI a1), .int (iI a2)]) Q_L_settles (k := 5) rfl K_X10_settles V_X10_settles L_L_75 (n_ hB.1 rfl) (k_0 hB.1) rfl rfl (Nat.le_of_ble_eq_true rfl) rfl (by decide) (Nat.le_refl _) (Nat.le_refl _) (Or.inl (fun o S' I' J' hq => by rcases hq with ⟨_, _, _, _, e, _⟩ | ⟨_, _, _, _, e, _⟩ <;> rw [e])) (lwA rfl) (w_X10_settles d hB z1 z2 h) (fun E S' I' J' hq => ?_) (fun v S' I' J' hq => ?_)
  · rcases hq with ⟨_, _, _, ho, _⟩ | ⟨E2, V2, J2, ho, hS, hI, hJ, hB2, hq⟩
    · cases ho
    · cases ho; subst hI; subst hJ; subst hS
      rcases hX _ _ _ hq with ⟨rfl, hw⟩ | ⟨rfl, hw⟩
      · refine ⟨4, 15, ⟨[], ⟨0, 10, 13, 22⟩, tableOf [(0, 10, 17, 13)], rfl, (fun z hz => nomatch hz), by decide, by decide, C_L_22, by decide +kernel, by decide, Or.inr ⟨by decide +kernel, rfl⟩⟩, ?_⟩
        exact y_iconst Q_L_settles (k := 10) rfl (y_iret Q_L_settles (k := 11) rfl rfl (qI_L (Nat.le_refl _) hB2 ⟨by decide, by decide⟩ hw))
      · refine ⟨4, 19, ⟨tableOf [(0, 10, 13, 22)], ⟨0, 10, 17, 13⟩, [], rfl, (fun z hz => by
          rcases List.mem_cons.mp hz with rfl | hz
          · exact Or.inr ⟨by decide, _, C_L_22, by decide +kernel⟩
          · cases hz), by decide, by decide, C_L_13, by decide +kernel, by decide, Or.inr ⟨by decide +kernel, rfl⟩⟩, ?_⟩
        exact y_iconst Q_L_settles (k := 13) rfl (y_iret Q_L_settles (k := 14) rfl rfl (qI_L (Nat.le_refl _) hB2 ⟨by decide, by decide⟩ hw))
  · rcases hq with ⟨r, V2, J2, ho, hS, hI, hJ, hB2, hz, hq⟩ | ⟨_, _, _, ho, _⟩
    · cases ho; subst hI; subst hJ; subst hS
      exact z_i2l Q_L_settles (k := 6) rfl (q_last (z := 0) (N := 1) (o := 624) Q_L_settles (k := 7) rfl rfl (n_ hB2.1 rfl) (k_624 hB2.1) rfl ⟨by decide, by decide⟩ (by decide) (z_goto Q_L_settles (k := 8) (tgt := 21) rfl (by decide) (y_iconst Q_L_settles (k := 15) rfl (y_iret Q_L_settles (k := 16) rfl rfl (qI_L (Nat.le_refl _) hB2 ⟨by decide, by decide⟩ (hQ _ _ _ hz hq))))))
    · cases ho
theorem w_L_questions {S : zS} {V : qV} {J : qJ} {Q : Int → qV → qJ → Prop} {Q1 : Int → qV → qJ → Prop} {X1 : String → qV → qJ → Prop} {kz : Nat} (d : Nat) (hB : qB S V) {a1 : Int} (z1 : zr a1) {a2 : Int} (z2 : zr a2) (h : W_X10_questions a1 a2 V J kz Q1 X1) (hQ : ∀ r V1 J1, zr r → Q1 r V1 J1 → Q 0 V1 (qu J1 624 0 (iI r).toInt64)) (hX : ∀ E V1 J1, X1 E V1 J1 → (E = "java/lang/IndexOutOfBoundsException" ∧ Q 1 V1 J1) ∨ (E = "java/lang/IllegalArgumentException" ∧ Q 2 V1 J1)) : Z M_L_questions (d + 8) 3 (12 + kz) 0 [some (.ref 0), some (.int (iI a1)), some (.int (iI a2)), some (.ref 624), none] [] S (qi V) (qj J) (qP_L S Q) := by
  refine z_aload_n Q_L_questions (k := 0) rfl rfl ?_
  refine y_iconst Q_L_questions (k := 1) rfl ?_
  refine z_aload_n Q_L_questions (k := 2) rfl rfl ?_
  refine z_iload_n Q_L_questions (k := 3) rfl rfl ?_
  refine z_iload_n Q_L_questions (k := 4) rfl rfl ?_
  refine z_callVC (o := 0) (as := [.int (iI a1), .int (iI a2)]) Q_L_questions (k := 5) rfl K_X10_questions V_X10_questions L_L_78 (n_ hB.1 rfl) (k_0 hB.1) rfl rfl (Nat.le_of_ble_eq_true rfl) rfl (by decide) (Nat.le_refl _) (Nat.le_refl _) (Or.inr (zRbc rfl rfl hB.1.1)) (lwA rfl) (w_X10_questions d hB z1 z2 h) (fun E S' I' J' hq => ?_) (fun v S' I' J' hq => ?_)
  · rcases hq with ⟨_, _, _, ho, _⟩ | ⟨E2, V2, J2, ho, hS, hI, hJ, hB2, hq⟩
    · cases ho
    · cases ho; subst hI; subst hJ
      rcases hX _ _ _ hq with ⟨rfl, hw⟩ | ⟨rfl, hw⟩
      · refine ⟨4, 15, ⟨[], ⟨0, 10, 13, 22⟩, tableOf [(0, 10, 17, 13)], rfl, (fun z hz => nomatch hz), by decide, by decide, C_L_22, by decide +kernel, by decide, Or.inr ⟨by decide +kernel, rfl⟩⟩, ?_⟩
        exact y_iconst Q_L_questions (k := 10) rfl (y_iret Q_L_questions (k := 11) rfl rfl (qI_L hS hB2 ⟨by decide, by decide⟩ hw))
      · refine ⟨4, 19, ⟨tableOf [(0, 10, 13, 22)], ⟨0, 10, 17, 13⟩, [], rfl, (fun z hz => by
          rcases List.mem_cons.mp hz with rfl | hz
          · exact Or.inr ⟨by decide, _, C_L_22, by decide +kernel⟩
          · cases hz), by decide, by decide, C_L_13, by decide +kernel, by decide, Or.inr ⟨by decide +kernel, rfl⟩⟩, ?_⟩
        exact y_iconst Q_L_questions (k := 13) rfl (y_iret Q_L_questions (k := 14) rfl rfl (qI_L hS hB2 ⟨by decide, by decide⟩ hw))
  · rcases hq with ⟨r, V2, J2, ho, hS, hI, hJ, hB2, hz, hq⟩ | ⟨_, _, _, ho, _⟩
    · cases ho; subst hI; subst hJ
      exact z_i2l Q_L_questions (k := 6) rfl (q_last (z := 0) (N := 1) (o := 624) Q_L_questions (k := 7) rfl rfl (n_ hB2.1 rfl) (k_624 hB2.1) rfl ⟨by decide, by decide⟩ (by decide) (z_goto Q_L_questions (k := 8) (tgt := 21) rfl (by decide) (y_iconst Q_L_questions (k := 15) rfl (y_iret Q_L_questions (k := 16) rfl rfl (qI_L hS hB2 ⟨by decide, by decide⟩ (hQ _ _ _ hz hq))))))
    · cases ho
theorem w_L_ask {S : zS} {V : qV} {J : qJ} {Q : Int → qV → qJ → Prop} {Q1 : Int → qV → qJ → Prop} {X1 : String → qV → qJ → Prop} {kz : Nat} (d : Nat) (hB : qB S V) {a1 : Int} (z1 : zr a1) {a2 : Int} (z2 : zr a2) (h : W_X10_ask a1 a2 V J kz Q1 X1) (hQ : ∀ r V1 J1, zr r → Q1 r V1 J1 → Q 0 V1 (qu J1 624 0 (iI r).toInt64)) (hX : ∀ E V1 J1, X1 E V1 J1 → (E = "java/lang/IndexOutOfBoundsException" ∧ Q 1 V1 J1) ∨ (E = "java/lang/IllegalArgumentException" ∧ Q 2 V1 J1)) : Z M_L_ask (d + 8) 3 (12 + kz) 0 [some (.ref 0), some (.int (iI a1)), some (.int (iI a2)), some (.ref 624), none] [] S (qi V) (qj J) (qP_L S Q) := by
  refine z_aload_n Q_L_ask (k := 0) rfl rfl ?_
  refine y_iconst Q_L_ask (k := 1) rfl ?_
  refine z_aload_n Q_L_ask (k := 2) rfl rfl ?_
  refine z_iload_n Q_L_ask (k := 3) rfl rfl ?_
  refine z_iload_n Q_L_ask (k := 4) rfl rfl ?_
  refine z_callVC (o := 0) (as := [.int (iI a1), .int (iI a2)]) Q_L_ask (k := 5) rfl K_X10_ask V_X10_ask L_L_81 (n_ hB.1 rfl) (k_0 hB.1) rfl rfl (Nat.le_of_ble_eq_true rfl) rfl (by decide) (Nat.le_refl _) (Nat.le_refl _) (Or.inr (zRbc rfl rfl hB.1.1)) (lwA rfl) (w_X10_ask d hB z1 z2 h) (fun E S' I' J' hq => ?_) (fun v S' I' J' hq => ?_)
  · rcases hq with ⟨_, _, _, ho, _⟩ | ⟨E2, V2, J2, ho, hS, hI, hJ, hB2, hq⟩
    · cases ho
    · cases ho; subst hI; subst hJ
      rcases hX _ _ _ hq with ⟨rfl, hw⟩ | ⟨rfl, hw⟩
      · refine ⟨4, 15, ⟨[], ⟨0, 10, 13, 22⟩, tableOf [(0, 10, 17, 13)], rfl, (fun z hz => nomatch hz), by decide, by decide, C_L_22, by decide +kernel, by decide, Or.inr ⟨by decide +kernel, rfl⟩⟩, ?_⟩
        exact y_iconst Q_L_ask (k := 10) rfl (y_iret Q_L_ask (k := 11) rfl rfl (qI_L hS hB2 ⟨by decide, by decide⟩ hw))
      · refine ⟨4, 19, ⟨tableOf [(0, 10, 13, 22)], ⟨0, 10, 17, 13⟩, [], rfl, (fun z hz => by
          rcases List.mem_cons.mp hz with rfl | hz
          · exact Or.inr ⟨by decide, _, C_L_22, by decide +kernel⟩
          · cases hz), by decide, by decide, C_L_13, by decide +kernel, by decide, Or.inr ⟨by decide +kernel, rfl⟩⟩, ?_⟩
        exact y_iconst Q_L_ask (k := 13) rfl (y_iret Q_L_ask (k := 14) rfl rfl (qI_L hS hB2 ⟨by decide, by decide⟩ hw))
  · rcases hq with ⟨r, V2, J2, ho, hS, hI, hJ, hB2, hz, hq⟩ | ⟨_, _, _, ho, _⟩
    · cases ho; subst hI; subst hJ
      exact z_i2l Q_L_ask (k := 6) rfl (q_last (z := 0) (N := 1) (o := 624) Q_L_ask (k := 7) rfl rfl (n_ hB2.1 rfl) (k_624 hB2.1) rfl ⟨by decide, by decide⟩ (by decide) (z_goto Q_L_ask (k := 8) (tgt := 21) rfl (by decide) (y_iconst Q_L_ask (k := 15) rfl (y_iret Q_L_ask (k := 16) rfl rfl (qI_L hS hB2 ⟨by decide, by decide⟩ (hQ _ _ _ hz hq))))))
    · cases ho
theorem w_L_claim {S : zS} {V : qV} {J : qJ} {Q : Int → qV → qJ → Prop} {Q1 : Int → qV → Prop} {X1 : String → qV → Prop} (d : Nat) (hB : qB S V) {a1 : Int} (z1 : zr a1) {a2 : Int} (z2 : zr a2) {a3 : Int} (z3 : zr a3) (h : W_X10_claim a1 a2 a3 V Q1 X1) (hQ : ∀ r V1, zr r → Q1 r V1 → Q 0 V1 (qu J 624 0 (iI r).toInt64)) (hX : ∀ E V1, X1 E V1 → (E = "java/lang/IndexOutOfBoundsException" ∧ Q 1 V1 J) ∨ (E = "java/util/NoSuchElementException" ∧ Q 2 V1 J) ∨ (E = "java/lang/IllegalArgumentException" ∧ Q 3 V1 J)) : Z M_L_claim (d + 2) 3 18 0 [some (.ref 0), some (.int (iI a1)), some (.int (iI a2)), some (.int (iI a3)), some (.ref 624), none] [] S (qi V) (qj J) (qP_L S Q) := by
  refine z_aload Q_L_claim (k := 0) rfl rfl ?_
  refine y_iconst Q_L_claim (k := 1) rfl ?_
  refine z_aload_n Q_L_claim (k := 2) rfl rfl ?_
  refine z_iload_n Q_L_claim (k := 3) rfl rfl ?_
  refine z_iload_n Q_L_claim (k := 4) rfl rfl ?_
  refine z_iload_n Q_L_claim (k := 5) rfl rfl ?_
  refine z_callVC (o := 0) (as := [.int (iI a1), .int (iI a2), .int (iI a3)]) Q_L_claim (k := 6) rfl K_X10_claim V_X10_claim L_L_84 (n_ hB.1 rfl) (k_0 hB.1) rfl rfl (Nat.le_of_ble_eq_true rfl) rfl (by decide) (Nat.le_refl _) (Nat.le_refl _) (Or.inl (fun o S' I' J' hq => by rcases hq with ⟨_, _, _, e, _⟩ | ⟨_, _, _, e, _⟩ <;> rw [e])) (lwA rfl) (w_X10_claim d hB z1 z2 z3 h) (fun E S' I' J' hq => ?_) (fun v S' I' J' hq => ?_)
  · rcases hq with ⟨_, _, ho, _⟩ | ⟨E2, V2, ho, hS, hI, hJ, hB2, hq⟩
    · cases ho
    · cases ho; subst hI; subst hJ; subst hS
      rcases hX _ _ hq with ⟨rfl, hw⟩ | ⟨rfl, hw⟩ | ⟨rfl, hw⟩
      · refine ⟨5, 17, ⟨[], ⟨0, 12, 15, 22⟩, tableOf [(0, 12, 19, 34), (0, 12, 23, 13)], rfl, (fun z hz => nomatch hz), by decide, by decide, C_L_22, by decide +kernel, by decide, Or.inr ⟨by decide +kernel, rfl⟩⟩, ?_⟩
        exact y_iconst Q_L_claim (k := 11) rfl (y_iret Q_L_claim (k := 12) rfl rfl (qI_L (Nat.le_refl _) hB2 ⟨by decide, by decide⟩ hw))
      · refine ⟨5, 21, ⟨tableOf [(0, 12, 15, 22)], ⟨0, 12, 19, 34⟩, tableOf [(0, 12, 23, 13)], rfl, (fun z hz => by
          rcases List.mem_cons.mp hz with rfl | hz
          · exact Or.inr ⟨by decide, _, C_L_22, by decide +kernel⟩
          · cases hz), by decide, by decide, C_L_34, by decide +kernel, by decide, Or.inr ⟨by decide +kernel, rfl⟩⟩, ?_⟩
        exact y_iconst Q_L_claim (k := 14) rfl (y_iret Q_L_claim (k := 15) rfl rfl (qI_L (Nat.le_refl _) hB2 ⟨by decide, by decide⟩ hw))
      · refine ⟨5, 25, ⟨tableOf [(0, 12, 15, 22), (0, 12, 19, 34)], ⟨0, 12, 23, 13⟩, [], rfl, (fun z hz => by
          rcases List.mem_cons.mp hz with rfl | hz
          · exact Or.inr ⟨by decide, _, C_L_22, by decide +kernel⟩
          · rcases List.mem_cons.mp hz with rfl | hz
            · exact Or.inr ⟨by decide, _, C_L_34, by decide +kernel⟩
            · cases hz), by decide, by decide, C_L_13, by decide +kernel, by decide, Or.inr ⟨by decide +kernel, rfl⟩⟩, ?_⟩
        exact y_iconst Q_L_claim (k := 17) rfl (y_iret Q_L_claim (k := 18) rfl rfl (qI_L (Nat.le_refl _) hB2 ⟨by decide, by decide⟩ hw))
  · rcases hq with ⟨r, V2, ho, hS, hI, hJ, hB2, hz, hq⟩ | ⟨_, _, ho, _⟩
    · cases ho; subst hI; subst hJ; subst hS
      exact z_i2l Q_L_claim (k := 7) rfl (q_last (z := 0) (N := 1) (o := 624) Q_L_claim (k := 8) rfl rfl (n_ hB2.1 rfl) (k_624 hB2.1) rfl ⟨by decide, by decide⟩ (by decide) (z_goto Q_L_claim (k := 9) (tgt := 27) rfl (by decide) (y_iconst Q_L_claim (k := 19) rfl (y_iret Q_L_claim (k := 20) rfl rfl (qI_L (Nat.le_refl _) hB2 ⟨by decide, by decide⟩ (hQ _ _ hz hq))))))
    · cases ho
theorem w_L_claimed {S : zS} {V : qV} {J : qJ} {Q : Int → qV → qJ → Prop} {Q1 : Int → Prop} {X1 : String → Prop} (d : Nat) (hB : qB S V) {a1 : Int} (z1 : zr a1) {a2 : Int} (z2 : zr a2) (h : W_X10_claimed a1 a2 V Q1 X1) (hQ : ∀ r, zr r → Q1 r → Q 0 V (qu J 624 0 (iI r).toInt64)) (hX : ∀ E, X1 E → (E = "java/lang/IndexOutOfBoundsException" ∧ Q 1 V J) ∨ (E = "java/lang/IllegalArgumentException" ∧ Q 2 V J)) : Z M_L_claimed (d + 2) 1 6 0 [some (.ref 0), some (.int (iI a1)), some (.int (iI a2)), some (.ref 624), none] [] S (qi V) (qj J) (qP_L S Q) := by
  refine z_aload_n Q_L_claimed (k := 0) rfl rfl ?_
  refine y_iconst Q_L_claimed (k := 1) rfl ?_
  refine z_aload_n Q_L_claimed (k := 2) rfl rfl ?_
  refine z_iload_n Q_L_claimed (k := 3) rfl rfl ?_
  refine z_iload_n Q_L_claimed (k := 4) rfl rfl ?_
  refine z_callVC (o := 0) (as := [.int (iI a1), .int (iI a2)]) Q_L_claimed (k := 5) rfl K_X10_claimed V_X10_claimed L_L_87 (n_ hB.1 rfl) (k_0 hB.1) rfl rfl (Nat.le_of_ble_eq_true rfl) rfl (by decide) (Nat.le_refl _) (Nat.le_refl _) (Or.inl (fun o S' I' J' hq => by rcases hq with ⟨_, _, e, _⟩ | ⟨_, _, e, _⟩ <;> rw [e])) (lwA rfl) (w_X10_claimed d hB z1 z2 h) (fun E S' I' J' hq => ?_) (fun v S' I' J' hq => ?_)
  · rcases hq with ⟨_, ho, _⟩ | ⟨E2, ho, hS, hI, hJ, hq⟩
    · cases ho
    · cases ho; subst hI; subst hJ; subst hS
      rcases hX _  hq with ⟨rfl, hw⟩ | ⟨rfl, hw⟩
      · refine ⟨4, 15, ⟨[], ⟨0, 10, 13, 22⟩, tableOf [(0, 10, 17, 13)], rfl, (fun z hz => nomatch hz), by decide, by decide, C_L_22, by decide +kernel, by decide, Or.inr ⟨by decide +kernel, rfl⟩⟩, ?_⟩
        exact y_iconst Q_L_claimed (k := 10) rfl (y_iret Q_L_claimed (k := 11) rfl rfl (qI_L (Nat.le_refl _) hB ⟨by decide, by decide⟩ hw))
      · refine ⟨4, 19, ⟨tableOf [(0, 10, 13, 22)], ⟨0, 10, 17, 13⟩, [], rfl, (fun z hz => by
          rcases List.mem_cons.mp hz with rfl | hz
          · exact Or.inr ⟨by decide, _, C_L_22, by decide +kernel⟩
          · cases hz), by decide, by decide, C_L_13, by decide +kernel, by decide, Or.inr ⟨by decide +kernel, rfl⟩⟩, ?_⟩
        exact y_iconst Q_L_claimed (k := 13) rfl (y_iret Q_L_claimed (k := 14) rfl rfl (qI_L (Nat.le_refl _) hB ⟨by decide, by decide⟩ hw))
  · rcases hq with ⟨r, ho, hS, hI, hJ, hz, hq⟩ | ⟨_, ho, _⟩
    · cases ho; subst hI; subst hJ; subst hS
      exact z_i2l Q_L_claimed (k := 6) rfl (q_last (z := 0) (N := 1) (o := 624) Q_L_claimed (k := 7) rfl rfl (n_ hB.1 rfl) (k_624 hB.1) rfl ⟨by decide, by decide⟩ (by decide) (z_goto Q_L_claimed (k := 8) (tgt := 21) rfl (by decide) (y_iconst Q_L_claimed (k := 15) rfl (y_iret Q_L_claimed (k := 16) rfl rfl (qI_L (Nat.le_refl _) hB ⟨by decide, by decide⟩ (hQ _  hz hq))))))
    · cases ho
theorem w_L_best {S : zS} {V : qV} {J : qJ} {Q : Int → qV → qJ → Prop} {Q1 : Int → Prop} {X1 : String → Prop} (d : Nat) (hB : qB S V) {a1 : Int} (z1 : zr a1) (h : W_X10_best a1 V Q1 X1) (hQ : ∀ r, zr r → Q1 r → Q 0 V (qu J 624 0 (iI r).toInt64)) (hX : ∀ E, X1 E → (E = "java/lang/IndexOutOfBoundsException" ∧ Q 1 V J)) : Z M_L_best (d + 2) 1 6 0 [some (.ref 0), some (.int (iI a1)), some (.ref 624), none] [] S (qi V) (qj J) (qP_L S Q) := by
  refine z_aload_n Q_L_best (k := 0) rfl rfl ?_
  refine y_iconst Q_L_best (k := 1) rfl ?_
  refine z_aload_n Q_L_best (k := 2) rfl rfl ?_
  refine z_iload_n Q_L_best (k := 3) rfl rfl ?_
  refine z_callVC (o := 0) (as := [.int (iI a1)]) Q_L_best (k := 4) rfl K_X10_best V_X10_best L_L_90 (n_ hB.1 rfl) (k_0 hB.1) rfl rfl (Nat.le_of_ble_eq_true rfl) rfl (by decide) (Nat.le_refl _) (Nat.le_refl _) (Or.inl (fun o S' I' J' hq => by rcases hq with ⟨_, _, e, _⟩ | ⟨_, _, e, _⟩ <;> rw [e])) (lwA rfl) (w_X10_best d hB z1 h) (fun E S' I' J' hq => ?_) (fun v S' I' J' hq => ?_)
  · rcases hq with ⟨_, ho, _⟩ | ⟨E2, ho, hS, hI, hJ, hq⟩
    · cases ho
    · cases ho; subst hI; subst hJ; subst hS
      rcases hX _  hq with ⟨rfl, hw⟩
      · refine ⟨3, 13, ⟨[], ⟨0, 9, 12, 22⟩, [], rfl, (fun z hz => nomatch hz), by decide, by decide, C_L_22, by decide +kernel, by decide, Or.inl ⟨3, by decide +kernel, rfl, rfl⟩⟩, ?_⟩
        exact y_iconst Q_L_best (k := 9) rfl (y_iret Q_L_best (k := 10) rfl rfl (qI_L (Nat.le_refl _) hB ⟨by decide, by decide⟩ hw))
  · rcases hq with ⟨r, ho, hS, hI, hJ, hz, hq⟩ | ⟨_, ho, _⟩
    · cases ho; subst hI; subst hJ; subst hS
      exact z_i2l Q_L_best (k := 5) rfl (q_last (z := 0) (N := 1) (o := 624) Q_L_best (k := 6) rfl rfl (n_ hB.1 rfl) (k_624 hB.1) rfl ⟨by decide, by decide⟩ (by decide) (z_goto Q_L_best (k := 7) (tgt := 15) rfl (by decide) (y_iconst Q_L_best (k := 11) rfl (y_iret Q_L_best (k := 12) rfl rfl (qI_L (Nat.le_refl _) hB ⟨by decide, by decide⟩ (hQ _  hz hq))))))
    · cases ho
theorem w_L_added {S : zS} {V : qV} {J : qJ} {Q : Int → qV → qJ → Prop} {Q1 : Int → Prop} {X1 : String → Prop} (d : Nat) (hB : qB S V) {a1 : Int} (z1 : zr a1) {a2 : Int} (z2 : zr a2) (h : W_X10_added a1 a2 V Q1 X1) (hQ : ∀ r, zr r → Q1 r → Q 0 V (qu J 624 0 (iI r).toInt64)) (hX : ∀ E, X1 E → (E = "java/lang/IndexOutOfBoundsException" ∧ Q 1 V J) ∨ (E = "java/lang/IllegalArgumentException" ∧ Q 2 V J)) : Z M_L_added (d + 2) 2 12 0 [some (.ref 0), some (.int (iI a1)), some (.int (iI a2)), some (.ref 624), none] [] S (qi V) (qj J) (qP_L S Q) := by
  refine z_aload_n Q_L_added (k := 0) rfl rfl ?_
  refine y_iconst Q_L_added (k := 1) rfl ?_
  refine z_aload_n Q_L_added (k := 2) rfl rfl ?_
  refine z_iload_n Q_L_added (k := 3) rfl rfl ?_
  refine z_iload_n Q_L_added (k := 4) rfl rfl ?_
  refine z_callVC (o := 0) (as := [.int (iI a1), .int (iI a2)]) Q_L_added (k := 5) rfl K_X10_added V_X10_added L_L_93 (n_ hB.1 rfl) (k_0 hB.1) rfl rfl (Nat.le_of_ble_eq_true rfl) rfl (by decide) (Nat.le_refl _) (Nat.le_refl _) (Or.inl (fun o S' I' J' hq => by rcases hq with ⟨_, _, e, _⟩ | ⟨_, _, e, _⟩ <;> rw [e])) (lwA rfl) (w_X10_added d hB z1 z2 h) (fun E S' I' J' hq => ?_) (fun v S' I' J' hq => ?_)
  · rcases hq with ⟨_, ho, _⟩ | ⟨E2, ho, hS, hI, hJ, hq⟩
    · cases ho
    · cases ho; subst hI; subst hJ; subst hS
      rcases hX _  hq with ⟨rfl, hw⟩ | ⟨rfl, hw⟩
      · refine ⟨4, 15, ⟨[], ⟨0, 10, 13, 22⟩, tableOf [(0, 10, 17, 13)], rfl, (fun z hz => nomatch hz), by decide, by decide, C_L_22, by decide +kernel, by decide, Or.inr ⟨by decide +kernel, rfl⟩⟩, ?_⟩
        exact y_iconst Q_L_added (k := 10) rfl (y_iret Q_L_added (k := 11) rfl rfl (qI_L (Nat.le_refl _) hB ⟨by decide, by decide⟩ hw))
      · refine ⟨4, 19, ⟨tableOf [(0, 10, 13, 22)], ⟨0, 10, 17, 13⟩, [], rfl, (fun z hz => by
          rcases List.mem_cons.mp hz with rfl | hz
          · exact Or.inr ⟨by decide, _, C_L_22, by decide +kernel⟩
          · cases hz), by decide, by decide, C_L_13, by decide +kernel, by decide, Or.inr ⟨by decide +kernel, rfl⟩⟩, ?_⟩
        exact y_iconst Q_L_added (k := 13) rfl (y_iret Q_L_added (k := 14) rfl rfl (qI_L (Nat.le_refl _) hB ⟨by decide, by decide⟩ hw))
  · rcases hq with ⟨r, ho, hS, hI, hJ, hz, hq⟩ | ⟨_, ho, _⟩
    · cases ho; subst hI; subst hJ; subst hS
      exact z_i2l Q_L_added (k := 6) rfl (q_last (z := 0) (N := 1) (o := 624) Q_L_added (k := 7) rfl rfl (n_ hB.1 rfl) (k_624 hB.1) rfl ⟨by decide, by decide⟩ (by decide) (z_goto Q_L_added (k := 8) (tgt := 21) rfl (by decide) (y_iconst Q_L_added (k := 15) rfl (y_iret Q_L_added (k := 16) rfl rfl (qI_L (Nat.le_refl _) hB ⟨by decide, by decide⟩ (hQ _  hz hq))))))
    · cases ho
theorem w_L_cry {S : zS} {V : qV} {J : qJ} {Q : Int → qV → qJ → Prop} {Q1 : Int → qV → Prop} {X1 : String → qV → Prop} (d : Nat) (hB : qB S V) {a1 : Int} (z1 : zr a1) (h : W_X10_cry a1 V Q1 X1) (hQ : ∀ r V1, zr r → Q1 r V1 → Q 0 V1 (qu J 624 0 (iI r).toInt64)) (hX : ∀ E V1, X1 E V1 → (E = "java/lang/IndexOutOfBoundsException" ∧ Q 1 V1 J)) : Z M_L_cry (d + 2) 1 6 0 [some (.ref 0), some (.int (iI a1)), some (.ref 624), none] [] S (qi V) (qj J) (qP_L S Q) := by
  refine z_aload_n Q_L_cry (k := 0) rfl rfl ?_
  refine y_iconst Q_L_cry (k := 1) rfl ?_
  refine z_aload_n Q_L_cry (k := 2) rfl rfl ?_
  refine z_iload_n Q_L_cry (k := 3) rfl rfl ?_
  refine z_callVC (o := 0) (as := [.int (iI a1)]) Q_L_cry (k := 4) rfl K_X10_cry V_X10_cry L_L_96 (n_ hB.1 rfl) (k_0 hB.1) rfl rfl (Nat.le_of_ble_eq_true rfl) rfl (by decide) (Nat.le_refl _) (Nat.le_refl _) (Or.inl (fun o S' I' J' hq => by rcases hq with ⟨_, _, _, e, _⟩ | ⟨_, _, _, e, _⟩ <;> rw [e])) (lwA rfl) (w_X10_cry d hB z1 h) (fun E S' I' J' hq => ?_) (fun v S' I' J' hq => ?_)
  · rcases hq with ⟨_, _, ho, _⟩ | ⟨E2, V2, ho, hS, hI, hJ, hB2, hq⟩
    · cases ho
    · cases ho; subst hI; subst hJ; subst hS
      rcases hX _ _ hq with ⟨rfl, hw⟩
      · refine ⟨3, 13, ⟨[], ⟨0, 9, 12, 22⟩, [], rfl, (fun z hz => nomatch hz), by decide, by decide, C_L_22, by decide +kernel, by decide, Or.inl ⟨3, by decide +kernel, rfl, rfl⟩⟩, ?_⟩
        exact y_iconst Q_L_cry (k := 9) rfl (y_iret Q_L_cry (k := 10) rfl rfl (qI_L (Nat.le_refl _) hB2 ⟨by decide, by decide⟩ hw))
  · rcases hq with ⟨r, V2, ho, hS, hI, hJ, hB2, hz, hq⟩ | ⟨_, _, ho, _⟩
    · cases ho; subst hI; subst hJ; subst hS
      exact z_i2l Q_L_cry (k := 5) rfl (q_last (z := 0) (N := 1) (o := 624) Q_L_cry (k := 6) rfl rfl (n_ hB2.1 rfl) (k_624 hB2.1) rfl ⟨by decide, by decide⟩ (by decide) (z_goto Q_L_cry (k := 7) (tgt := 15) rfl (by decide) (y_iconst Q_L_cry (k := 11) rfl (y_iret Q_L_cry (k := 12) rfl rfl (qI_L (Nat.le_refl _) hB2 ⟨by decide, by decide⟩ (hQ _ _ hz hq))))))
    · cases ho
theorem w_L_due {S : zS} {V : qV} {J : qJ} {Q : Int → qV → qJ → Prop} {Q1 : Int → qV → qJ → Prop} {X1 : String → qV → qJ → Prop} (d : Nat) (hB : qB S V) {a1 : Int} (z1 : zr a1) {a2 : Int} (z2 : zr a2) (h : W_X10_due a1 a2 V J Q1 X1) (hQ : ∀ r V1 J1, zr r → Q1 r V1 J1 → Q 0 V1 (qu J1 624 0 (iI r).toInt64)) (hX : ∀ E V1 J1, X1 E V1 J1 → (E = "java/lang/IndexOutOfBoundsException" ∧ Q 1 V1 J1) ∨ (E = "java/lang/IllegalArgumentException" ∧ Q 2 V1 J1)) : Z M_L_due (d + 7) 3 18 0 [some (.ref 0), some (.int (iI a1)), some (.int (iI a2)), some (.ref 624), none] [] S (qi V) (qj J) (qP_L S Q) := by
  refine z_aload_n Q_L_due (k := 0) rfl rfl ?_
  refine y_iconst Q_L_due (k := 1) rfl ?_
  refine z_aload_n Q_L_due (k := 2) rfl rfl ?_
  refine z_iload_n Q_L_due (k := 3) rfl rfl ?_
  refine z_iload_n Q_L_due (k := 4) rfl rfl ?_
  refine z_callVC (o := 0) (as := [.int (iI a1), .int (iI a2)]) Q_L_due (k := 5) rfl K_X10_due V_X10_due L_L_99 (n_ hB.1 rfl) (k_0 hB.1) rfl rfl (Nat.le_of_ble_eq_true rfl) rfl (by decide) (Nat.le_refl _) (Nat.le_refl _) (Or.inl (fun o S' I' J' hq => by rcases hq with ⟨_, _, _, _, e, _⟩ | ⟨_, _, _, _, e, _⟩ <;> rw [e])) (lwA rfl) (w_X10_due d hB z1 z2 h) (fun E S' I' J' hq => ?_) (fun v S' I' J' hq => ?_)
  · rcases hq with ⟨_, _, _, ho, _⟩ | ⟨E2, V2, J2, ho, hS, hI, hJ, hB2, hq⟩
    · cases ho
    · cases ho; subst hI; subst hJ; subst hS
      rcases hX _ _ _ hq with ⟨rfl, hw⟩ | ⟨rfl, hw⟩
      · refine ⟨4, 15, ⟨[], ⟨0, 10, 13, 22⟩, tableOf [(0, 10, 17, 13)], rfl, (fun z hz => nomatch hz), by decide, by decide, C_L_22, by decide +kernel, by decide, Or.inr ⟨by decide +kernel, rfl⟩⟩, ?_⟩
        exact y_iconst Q_L_due (k := 10) rfl (y_iret Q_L_due (k := 11) rfl rfl (qI_L (Nat.le_refl _) hB2 ⟨by decide, by decide⟩ hw))
      · refine ⟨4, 19, ⟨tableOf [(0, 10, 13, 22)], ⟨0, 10, 17, 13⟩, [], rfl, (fun z hz => by
          rcases List.mem_cons.mp hz with rfl | hz
          · exact Or.inr ⟨by decide, _, C_L_22, by decide +kernel⟩
          · cases hz), by decide, by decide, C_L_13, by decide +kernel, by decide, Or.inr ⟨by decide +kernel, rfl⟩⟩, ?_⟩
        exact y_iconst Q_L_due (k := 13) rfl (y_iret Q_L_due (k := 14) rfl rfl (qI_L (Nat.le_refl _) hB2 ⟨by decide, by decide⟩ hw))
  · rcases hq with ⟨r, V2, J2, ho, hS, hI, hJ, hB2, hz, hq⟩ | ⟨_, _, _, ho, _⟩
    · cases ho; subst hI; subst hJ; subst hS
      exact z_i2l Q_L_due (k := 6) rfl (q_last (z := 0) (N := 1) (o := 624) Q_L_due (k := 7) rfl rfl (n_ hB2.1 rfl) (k_624 hB2.1) rfl ⟨by decide, by decide⟩ (by decide) (z_goto Q_L_due (k := 8) (tgt := 21) rfl (by decide) (y_iconst Q_L_due (k := 15) rfl (y_iret Q_L_due (k := 16) rfl rfl (qI_L (Nat.le_refl _) hB2 ⟨by decide, by decide⟩ (hQ _ _ _ hz hq))))))
    · cases ho
theorem w_L_left {S : zS} {V : qV} {J : qJ} {Q : Int → qV → qJ → Prop} {Q1 : Int → Prop} {X1 : String → Prop} (d : Nat) (hB : qB S V) {a1 : Int} (z1 : zr a1) {a2 : Int} (z2 : zr a2) (h : W_X10_left a1 a2 V Q1 X1) (hQ : ∀ r, zr r → Q1 r → Q 0 V (qu J 624 0 (iI r).toInt64)) (hX : ∀ E, X1 E → (E = "java/lang/IndexOutOfBoundsException" ∧ Q 1 V J) ∨ (E = "java/lang/IllegalArgumentException" ∧ Q 2 V J)) : Z M_L_left (d + 2) 2 12 0 [some (.ref 0), some (.int (iI a1)), some (.int (iI a2)), some (.ref 624), none] [] S (qi V) (qj J) (qP_L S Q) := by
  refine z_aload_n Q_L_left (k := 0) rfl rfl ?_
  refine y_iconst Q_L_left (k := 1) rfl ?_
  refine z_aload_n Q_L_left (k := 2) rfl rfl ?_
  refine z_iload_n Q_L_left (k := 3) rfl rfl ?_
  refine z_iload_n Q_L_left (k := 4) rfl rfl ?_
  refine z_callVC (o := 0) (as := [.int (iI a1), .int (iI a2)]) Q_L_left (k := 5) rfl K_X10_left V_X10_left L_L_102 (n_ hB.1 rfl) (k_0 hB.1) rfl rfl (Nat.le_of_ble_eq_true rfl) rfl (by decide) (Nat.le_refl _) (Nat.le_refl _) (Or.inl (fun o S' I' J' hq => by rcases hq with ⟨_, _, e, _⟩ | ⟨_, _, e, _⟩ <;> rw [e])) (lwA rfl) (w_X10_left d hB z1 z2 h) (fun E S' I' J' hq => ?_) (fun v S' I' J' hq => ?_)
  · rcases hq with ⟨_, ho, _⟩ | ⟨E2, ho, hS, hI, hJ, hq⟩
    · cases ho
    · cases ho; subst hI; subst hJ; subst hS
      rcases hX _  hq with ⟨rfl, hw⟩ | ⟨rfl, hw⟩
      · refine ⟨4, 15, ⟨[], ⟨0, 10, 13, 22⟩, tableOf [(0, 10, 17, 13)], rfl, (fun z hz => nomatch hz), by decide, by decide, C_L_22, by decide +kernel, by decide, Or.inr ⟨by decide +kernel, rfl⟩⟩, ?_⟩
        exact y_iconst Q_L_left (k := 10) rfl (y_iret Q_L_left (k := 11) rfl rfl (qI_L (Nat.le_refl _) hB ⟨by decide, by decide⟩ hw))
      · refine ⟨4, 19, ⟨tableOf [(0, 10, 13, 22)], ⟨0, 10, 17, 13⟩, [], rfl, (fun z hz => by
          rcases List.mem_cons.mp hz with rfl | hz
          · exact Or.inr ⟨by decide, _, C_L_22, by decide +kernel⟩
          · cases hz), by decide, by decide, C_L_13, by decide +kernel, by decide, Or.inr ⟨by decide +kernel, rfl⟩⟩, ?_⟩
        exact y_iconst Q_L_left (k := 13) rfl (y_iret Q_L_left (k := 14) rfl rfl (qI_L (Nat.le_refl _) hB ⟨by decide, by decide⟩ hw))
  · rcases hq with ⟨r, ho, hS, hI, hJ, hz, hq⟩ | ⟨_, ho, _⟩
    · cases ho; subst hI; subst hJ; subst hS
      exact z_i2l Q_L_left (k := 6) rfl (q_last (z := 0) (N := 1) (o := 624) Q_L_left (k := 7) rfl rfl (n_ hB.1 rfl) (k_624 hB.1) rfl ⟨by decide, by decide⟩ (by decide) (z_goto Q_L_left (k := 8) (tgt := 21) rfl (by decide) (y_iconst Q_L_left (k := 15) rfl (y_iret Q_L_left (k := 16) rfl rfl (qI_L (Nat.le_refl _) hB ⟨by decide, by decide⟩ (hQ _  hz hq))))))
    · cases ho
theorem w_L_gone {S : zS} {V : qV} {J : qJ} {Q : Int → qV → qJ → Prop} {Q1 : Int → Prop} {X1 : String → Prop} (d : Nat) (hB : qB S V) {a1 : Int} (z1 : zr a1) (h : W_X10_gone a1 V Q1 X1) (hQ : ∀ r, zr r → Q1 r → Q 0 V (qu J 624 0 (iI r).toInt64)) (hX : ∀ E, X1 E → (E = "java/lang/IndexOutOfBoundsException" ∧ Q 1 V J)) : Z M_L_gone (d + 2) 1 6 0 [some (.ref 0), some (.int (iI a1)), some (.ref 624), none] [] S (qi V) (qj J) (qP_L S Q) := by
  refine z_aload_n Q_L_gone (k := 0) rfl rfl ?_
  refine y_iconst Q_L_gone (k := 1) rfl ?_
  refine z_aload_n Q_L_gone (k := 2) rfl rfl ?_
  refine z_iload_n Q_L_gone (k := 3) rfl rfl ?_
  refine z_callVC (o := 0) (as := [.int (iI a1)]) Q_L_gone (k := 4) rfl K_X10_gone V_X10_gone L_L_105 (n_ hB.1 rfl) (k_0 hB.1) rfl rfl (Nat.le_of_ble_eq_true rfl) rfl (by decide) (Nat.le_refl _) (Nat.le_refl _) (Or.inl (fun o S' I' J' hq => by rcases hq with ⟨_, _, e, _⟩ | ⟨_, _, e, _⟩ <;> rw [e])) (lwA rfl) (w_X10_gone d hB z1 h) (fun E S' I' J' hq => ?_) (fun v S' I' J' hq => ?_)
  · rcases hq with ⟨_, ho, _⟩ | ⟨E2, ho, hS, hI, hJ, hq⟩
    · cases ho
    · cases ho; subst hI; subst hJ; subst hS
      rcases hX _  hq with ⟨rfl, hw⟩
      · refine ⟨3, 13, ⟨[], ⟨0, 9, 12, 22⟩, [], rfl, (fun z hz => nomatch hz), by decide, by decide, C_L_22, by decide +kernel, by decide, Or.inl ⟨3, by decide +kernel, rfl, rfl⟩⟩, ?_⟩
        exact y_iconst Q_L_gone (k := 9) rfl (y_iret Q_L_gone (k := 10) rfl rfl (qI_L (Nat.le_refl _) hB ⟨by decide, by decide⟩ hw))
  · rcases hq with ⟨r, ho, hS, hI, hJ, hz, hq⟩ | ⟨_, ho, _⟩
    · cases ho; subst hI; subst hJ; subst hS
      exact z_i2l Q_L_gone (k := 5) rfl (q_last (z := 0) (N := 1) (o := 624) Q_L_gone (k := 6) rfl rfl (n_ hB.1 rfl) (k_624 hB.1) rfl ⟨by decide, by decide⟩ (by decide) (z_goto Q_L_gone (k := 7) (tgt := 15) rfl (by decide) (y_iconst Q_L_gone (k := 11) rfl (y_iret Q_L_gone (k := 12) rfl rfl (qI_L (Nat.le_refl _) hB ⟨by decide, by decide⟩ (hQ _  hz hq))))))
    · cases ho
theorem w_L_late {S : zS} {V : qV} {J : qJ} {Q : Int → qV → qJ → Prop} {Q1 : Int → qV → qJ → Prop} {X1 : String → qV → qJ → Prop} (d : Nat) (hB : qB S V) {a1 : Int} (z1 : zr a1) {a2 : Int} (z2 : zr a2) (h : W_X10_late a1 a2 V J Q1 X1) (hQ : ∀ r V1 J1, zr r → Q1 r V1 J1 → Q 0 V1 (qu J1 624 0 (iI r).toInt64)) (hX : ∀ E V1 J1, X1 E V1 J1 → (E = "java/lang/IndexOutOfBoundsException" ∧ Q 1 V1 J1) ∨ (E = "java/lang/IllegalArgumentException" ∧ Q 2 V1 J1)) : Z M_L_late (d + 7) 4 24 0 [some (.ref 0), some (.int (iI a1)), some (.int (iI a2)), some (.ref 624), none] [] S (qi V) (qj J) (qP_L S Q) := by
  refine z_aload_n Q_L_late (k := 0) rfl rfl ?_
  refine y_iconst Q_L_late (k := 1) rfl ?_
  refine z_aload_n Q_L_late (k := 2) rfl rfl ?_
  refine z_iload_n Q_L_late (k := 3) rfl rfl ?_
  refine z_iload_n Q_L_late (k := 4) rfl rfl ?_
  refine z_callVC (o := 0) (as := [.int (iI a1), .int (iI a2)]) Q_L_late (k := 5) rfl K_X10_late V_X10_late L_L_108 (n_ hB.1 rfl) (k_0 hB.1) rfl rfl (Nat.le_of_ble_eq_true rfl) rfl (by decide) (Nat.le_refl _) (Nat.le_refl _) (Or.inl (fun o S' I' J' hq => by rcases hq with ⟨_, _, _, _, e, _⟩ | ⟨_, _, _, _, e, _⟩ <;> rw [e])) (lwA rfl) (w_X10_late d hB z1 z2 h) (fun E S' I' J' hq => ?_) (fun v S' I' J' hq => ?_)
  · rcases hq with ⟨_, _, _, ho, _⟩ | ⟨E2, V2, J2, ho, hS, hI, hJ, hB2, hq⟩
    · cases ho
    · cases ho; subst hI; subst hJ; subst hS
      rcases hX _ _ _ hq with ⟨rfl, hw⟩ | ⟨rfl, hw⟩
      · refine ⟨4, 15, ⟨[], ⟨0, 10, 13, 22⟩, tableOf [(0, 10, 17, 13)], rfl, (fun z hz => nomatch hz), by decide, by decide, C_L_22, by decide +kernel, by decide, Or.inr ⟨by decide +kernel, rfl⟩⟩, ?_⟩
        exact y_iconst Q_L_late (k := 10) rfl (y_iret Q_L_late (k := 11) rfl rfl (qI_L (Nat.le_refl _) hB2 ⟨by decide, by decide⟩ hw))
      · refine ⟨4, 19, ⟨tableOf [(0, 10, 13, 22)], ⟨0, 10, 17, 13⟩, [], rfl, (fun z hz => by
          rcases List.mem_cons.mp hz with rfl | hz
          · exact Or.inr ⟨by decide, _, C_L_22, by decide +kernel⟩
          · cases hz), by decide, by decide, C_L_13, by decide +kernel, by decide, Or.inr ⟨by decide +kernel, rfl⟩⟩, ?_⟩
        exact y_iconst Q_L_late (k := 13) rfl (y_iret Q_L_late (k := 14) rfl rfl (qI_L (Nat.le_refl _) hB2 ⟨by decide, by decide⟩ hw))
  · rcases hq with ⟨r, V2, J2, ho, hS, hI, hJ, hB2, hz, hq⟩ | ⟨_, _, _, ho, _⟩
    · cases ho; subst hI; subst hJ; subst hS
      exact z_i2l Q_L_late (k := 6) rfl (q_last (z := 0) (N := 1) (o := 624) Q_L_late (k := 7) rfl rfl (n_ hB2.1 rfl) (k_624 hB2.1) rfl ⟨by decide, by decide⟩ (by decide) (z_goto Q_L_late (k := 8) (tgt := 21) rfl (by decide) (y_iconst Q_L_late (k := 15) rfl (y_iret Q_L_late (k := 16) rfl rfl (qI_L (Nat.le_refl _) hB2 ⟨by decide, by decide⟩ (hQ _ _ _ hz hq))))))
    · cases ho
theorem w_L_pass {S : zS} {V : qV} {J : qJ} {Q : Int → qV → qJ → Prop} {Q1 : Int → qV → Prop} {X1 : String → qV → Prop} (d : Nat) (hB : qB S V) {a1 : Int} (z1 : zr a1) {a2 : Int} (z2 : zr a2) {a3 : Int} (z3 : zr a3) {a4 : Int} (z4 : zr a4) (h : W_X10_pass a1 a2 a3 a4 V Q1 X1) (hQ : ∀ r V1, zr r → Q1 r V1 → Q 0 V1 (qu J 624 0 (iI r).toInt64)) (hX : ∀ E V1, X1 E V1 → (E = "java/lang/IndexOutOfBoundsException" ∧ Q 1 V1 J) ∨ (E = "java/util/NoSuchElementException" ∧ Q 2 V1 J) ∨ (E = "java/lang/IllegalArgumentException" ∧ Q 3 V1 J)) : Z M_L_pass (d + 3) 4 24 0 [some (.ref 0), some (.int (iI a1)), some (.int (iI a2)), some (.int (iI a3)), some (.int (iI a4)), some (.ref 624), none] [] S (qi V) (qj J) (qP_L S Q) := by
  refine z_aload Q_L_pass (k := 0) rfl rfl ?_
  refine y_iconst Q_L_pass (k := 1) rfl ?_
  refine z_aload_n Q_L_pass (k := 2) rfl rfl ?_
  refine z_iload_n Q_L_pass (k := 3) rfl rfl ?_
  refine z_iload_n Q_L_pass (k := 4) rfl rfl ?_
  refine z_iload_n Q_L_pass (k := 5) rfl rfl ?_
  refine z_iload Q_L_pass (k := 6) rfl rfl ?_
  refine z_callVC (o := 0) (as := [.int (iI a1), .int (iI a2), .int (iI a3), .int (iI a4)]) Q_L_pass (k := 7) rfl K_X10_pass V_X10_pass L_L_111 (n_ hB.1 rfl) (k_0 hB.1) rfl rfl (Nat.le_of_ble_eq_true rfl) rfl (by decide) (Nat.le_refl _) (Nat.le_refl _) (Or.inl (fun o S' I' J' hq => by rcases hq with ⟨_, _, _, e, _⟩ | ⟨_, _, _, e, _⟩ <;> rw [e])) (lwA rfl) (w_X10_pass d hB z1 z2 z3 z4 h) (fun E S' I' J' hq => ?_) (fun v S' I' J' hq => ?_)
  · rcases hq with ⟨_, _, ho, _⟩ | ⟨E2, V2, ho, hS, hI, hJ, hB2, hq⟩
    · cases ho
    · cases ho; subst hI; subst hJ; subst hS
      rcases hX _ _ hq with ⟨rfl, hw⟩ | ⟨rfl, hw⟩ | ⟨rfl, hw⟩
      · refine ⟨6, 19, ⟨[], ⟨0, 14, 17, 22⟩, tableOf [(0, 14, 21, 34), (0, 14, 25, 13)], rfl, (fun z hz => nomatch hz), by decide, by decide, C_L_22, by decide +kernel, by decide, Or.inr ⟨by decide +kernel, rfl⟩⟩, ?_⟩
        exact y_iconst Q_L_pass (k := 12) rfl (y_iret Q_L_pass (k := 13) rfl rfl (qI_L (Nat.le_refl _) hB2 ⟨by decide, by decide⟩ hw))
      · refine ⟨6, 23, ⟨tableOf [(0, 14, 17, 22)], ⟨0, 14, 21, 34⟩, tableOf [(0, 14, 25, 13)], rfl, (fun z hz => by
          rcases List.mem_cons.mp hz with rfl | hz
          · exact Or.inr ⟨by decide, _, C_L_22, by decide +kernel⟩
          · cases hz), by decide, by decide, C_L_34, by decide +kernel, by decide, Or.inr ⟨by decide +kernel, rfl⟩⟩, ?_⟩
        exact y_iconst Q_L_pass (k := 15) rfl (y_iret Q_L_pass (k := 16) rfl rfl (qI_L (Nat.le_refl _) hB2 ⟨by decide, by decide⟩ hw))
      · refine ⟨6, 27, ⟨tableOf [(0, 14, 17, 22), (0, 14, 21, 34)], ⟨0, 14, 25, 13⟩, [], rfl, (fun z hz => by
          rcases List.mem_cons.mp hz with rfl | hz
          · exact Or.inr ⟨by decide, _, C_L_22, by decide +kernel⟩
          · rcases List.mem_cons.mp hz with rfl | hz
            · exact Or.inr ⟨by decide, _, C_L_34, by decide +kernel⟩
            · cases hz), by decide, by decide, C_L_13, by decide +kernel, by decide, Or.inr ⟨by decide +kernel, rfl⟩⟩, ?_⟩
        exact y_iconst Q_L_pass (k := 18) rfl (y_iret Q_L_pass (k := 19) rfl rfl (qI_L (Nat.le_refl _) hB2 ⟨by decide, by decide⟩ hw))
  · rcases hq with ⟨r, V2, ho, hS, hI, hJ, hB2, hz, hq⟩ | ⟨_, _, ho, _⟩
    · cases ho; subst hI; subst hJ; subst hS
      exact z_i2l Q_L_pass (k := 8) rfl (q_last (z := 0) (N := 1) (o := 624) Q_L_pass (k := 9) rfl rfl (n_ hB2.1 rfl) (k_624 hB2.1) rfl ⟨by decide, by decide⟩ (by decide) (z_goto Q_L_pass (k := 10) (tgt := 29) rfl (by decide) (y_iconst Q_L_pass (k := 20) rfl (y_iret Q_L_pass (k := 21) rfl rfl (qI_L (Nat.le_refl _) hB2 ⟨by decide, by decide⟩ (hQ _ _ hz hq))))))
    · cases ho
theorem w_L_has {S : zS} {V : qV} {J : qJ} {Q : Int → qV → qJ → Prop} {Q1 : Int → Prop} {X1 : String → Prop} (d : Nat) (hB : qB S V) {a1 : Int} (z1 : zr a1) (h : W_X10_has a1 V Q1 X1) (hQ : ∀ r, zr r → Q1 r → Q 0 V (qu J 624 0 (iI r).toInt64)) (hX : ∀ E, X1 E → (E = "java/lang/IndexOutOfBoundsException" ∧ Q 1 V J)) : Z M_L_has (d + 3) 1 6 0 [some (.ref 0), some (.int (iI a1)), some (.ref 624), none] [] S (qi V) (qj J) (qP_L S Q) := by
  refine z_aload_n Q_L_has (k := 0) rfl rfl ?_
  refine y_iconst Q_L_has (k := 1) rfl ?_
  refine z_aload_n Q_L_has (k := 2) rfl rfl ?_
  refine z_iload_n Q_L_has (k := 3) rfl rfl ?_
  refine z_callVC (o := 0) (as := [.int (iI a1)]) Q_L_has (k := 4) rfl K_X10_has V_X10_has L_L_114 (n_ hB.1 rfl) (k_0 hB.1) rfl rfl (Nat.le_of_ble_eq_true rfl) rfl (by decide) (Nat.le_refl _) (Nat.le_refl _) (Or.inl (fun o S' I' J' hq => by rcases hq with ⟨_, _, e, _⟩ | ⟨_, _, e, _⟩ <;> rw [e])) (lwA rfl) (w_X10_has d hB z1 h) (fun E S' I' J' hq => ?_) (fun v S' I' J' hq => ?_)
  · rcases hq with ⟨_, ho, _⟩ | ⟨E2, ho, hS, hI, hJ, hq⟩
    · cases ho
    · cases ho; subst hI; subst hJ; subst hS
      rcases hX _  hq with ⟨rfl, hw⟩
      · refine ⟨3, 13, ⟨[], ⟨0, 9, 12, 22⟩, [], rfl, (fun z hz => nomatch hz), by decide, by decide, C_L_22, by decide +kernel, by decide, Or.inl ⟨3, by decide +kernel, rfl, rfl⟩⟩, ?_⟩
        exact y_iconst Q_L_has (k := 9) rfl (y_iret Q_L_has (k := 10) rfl rfl (qI_L (Nat.le_refl _) hB ⟨by decide, by decide⟩ hw))
  · rcases hq with ⟨r, ho, hS, hI, hJ, hz, hq⟩ | ⟨_, ho, _⟩
    · cases ho; subst hI; subst hJ; subst hS
      exact z_i2l Q_L_has (k := 5) rfl (q_last (z := 0) (N := 1) (o := 624) Q_L_has (k := 6) rfl rfl (n_ hB.1 rfl) (k_624 hB.1) rfl ⟨by decide, by decide⟩ (by decide) (z_goto Q_L_has (k := 7) (tgt := 15) rfl (by decide) (y_iconst Q_L_has (k := 11) rfl (y_iret Q_L_has (k := 12) rfl rfl (qI_L (Nat.le_refl _) hB ⟨by decide, by decide⟩ (hQ _  hz hq))))))
    · cases ho
theorem w_L_away {S : zS} {V : qV} {J : qJ} {Q : Int → qV → qJ → Prop} {Q1 : Int → qV → Prop} {X1 : String → qV → Prop} (d : Nat) (hB : qB S V) {a1 : Int} (z1 : zr a1) {a2 : Int} (z2 : zr a2) (b2 : a2 = 0 ∨ a2 = 1) (h : W_X10_away a1 a2 V Q1 X1) (hQ : ∀ r V1, zr r → Q1 r V1 → Q 0 V1 (qu J 624 0 (iI r).toInt64)) (hX : ∀ E V1, X1 E V1 → (E = "java/util/NoSuchElementException" ∧ Q 1 V1 J)) : Z M_L_away (d + 2) 1 6 0 [some (.ref 0), some (.int (iI a1)), some (.int (iI a2)), some (.ref 624), none] [] S (qi V) (qj J) (qP_L S Q) := by
  refine z_aload_n Q_L_away (k := 0) rfl rfl ?_
  refine y_iconst Q_L_away (k := 1) rfl ?_
  refine z_aload_n Q_L_away (k := 2) rfl rfl ?_
  refine z_iload_n Q_L_away (k := 3) rfl rfl ?_
  refine z_iload_n Q_L_away (k := 4) rfl rfl ?_
  refine z_callVC (o := 0) (as := [.int (iI a1), .int (iI a2)]) Q_L_away (k := 5) rfl K_X10_away V_X10_away L_L_117 (n_ hB.1 rfl) (k_0 hB.1) rfl rfl (Nat.le_of_ble_eq_true rfl) rfl (by decide) (Nat.le_refl _) (Nat.le_refl _) (Or.inl (fun o S' I' J' hq => by rcases hq with ⟨_, _, _, e, _⟩ | ⟨_, _, _, e, _⟩ <;> rw [e])) (lwA rfl) (w_X10_away d hB z1 z2 b2 h) (fun E S' I' J' hq => ?_) (fun v S' I' J' hq => ?_)
  · rcases hq with ⟨_, _, ho, _⟩ | ⟨E2, V2, ho, hS, hI, hJ, hB2, hq⟩
    · cases ho
    · cases ho; subst hI; subst hJ; subst hS
      rcases hX _ _ hq with ⟨rfl, hw⟩
      · refine ⟨4, 22, ⟨[], ⟨0, 17, 20, 34⟩, [], rfl, (fun z hz => nomatch hz), by decide, by decide, C_L_34, by decide +kernel, by decide, Or.inr ⟨by decide +kernel, rfl⟩⟩, ?_⟩
        exact y_iconst Q_L_away (k := 13) rfl (y_iret Q_L_away (k := 14) rfl rfl (qI_L (Nat.le_refl _) hB2 ⟨by decide, by decide⟩ hw))
  · rcases hq with ⟨r, V2, ho, hS, hI, hJ, hB2, hz, h01, hq⟩ | ⟨_, _, ho, _⟩
    · cases ho; subst hI; subst hJ; subst hS
      refine y_if_eq 15 Q_L_away (k := 6) rfl (by decide) hz (fun c => ?_) (fun c => ?_)
      · refine z_lconst_ (v := (iI r).toInt64) Q_L_away (k := 9) rfl (by subst c; decide) ?_
        exact q_last (z := 0) (N := 1) (o := 624) Q_L_away (k := 10) rfl rfl (n_ hB2.1 rfl) (k_624 hB2.1) rfl ⟨by decide, by decide⟩ (by decide) (z_goto Q_L_away (k := 11) (tgt := 24) rfl (by decide) (y_iconst Q_L_away (k := 15) rfl (y_iret Q_L_away (k := 16) rfl rfl (qI_L (Nat.le_refl _) hB2 ⟨by decide, by decide⟩ (hQ _ _ hz hq)))))
      · have r1 : r = 1 := h01.resolve_left c
        refine z_lconst_ (v := (iI r).toInt64) Q_L_away (k := 7) rfl (by subst r1; decide) (z_goto Q_L_away (k := 8) (tgt := 16) rfl (by decide) ?_)
        exact q_last (z := 0) (N := 1) (o := 624) Q_L_away (k := 10) rfl rfl (n_ hB2.1 rfl) (k_624 hB2.1) rfl ⟨by decide, by decide⟩ (by decide) (z_goto Q_L_away (k := 11) (tgt := 24) rfl (by decide) (y_iconst Q_L_away (k := 15) rfl (y_iret Q_L_away (k := 16) rfl rfl (qI_L (Nat.le_refl _) hB2 ⟨by decide, by decide⟩ (hQ _ _ hz hq)))))
    · cases ho
theorem w_L_loss {S : zS} {V : qV} {J : qJ} {Q : Int → qV → qJ → Prop} {Q1 : Int → Prop} {X1 : String → Prop} (d : Nat) (hB : qB S V) {a1 : Int} (z1 : zr a1) {a2 : Int} (z2 : zr a2) (h : W_X10_loss a1 a2 V Q1 X1) (hQ : ∀ r, zr r → Q1 r → Q 0 V (qu J 624 0 (iI r).toInt64)) (hX : ∀ E, X1 E → (E = "java/lang/IndexOutOfBoundsException" ∧ Q 1 V J) ∨ (E = "java/util/NoSuchElementException" ∧ Q 2 V J)) : Z M_L_loss (d + 2) 67 402 0 [some (.ref 0), some (.int (iI a1)), some (.int (iI a2)), some (.ref 624), none] [] S (qi V) (qj J) (qP_L S Q) := by
  refine z_aload_n Q_L_loss (k := 0) rfl rfl ?_
  refine y_iconst Q_L_loss (k := 1) rfl ?_
  refine z_aload_n Q_L_loss (k := 2) rfl rfl ?_
  refine z_iload_n Q_L_loss (k := 3) rfl rfl ?_
  refine z_iload_n Q_L_loss (k := 4) rfl rfl ?_
  refine z_callVC (o := 0) (as := [.int (iI a1), .int (iI a2)]) Q_L_loss (k := 5) rfl K_X10_loss V_X10_loss L_L_121 (n_ hB.1 rfl) (k_0 hB.1) rfl rfl (Nat.le_of_ble_eq_true rfl) rfl (by decide) (Nat.le_refl _) (Nat.le_refl _) (Or.inl (fun o S' I' J' hq => by rcases hq with ⟨_, _, e, _⟩ | ⟨_, _, e, _⟩ <;> rw [e])) (lwA rfl) (w_X10_loss d hB z1 z2 h) (fun E S' I' J' hq => ?_) (fun v S' I' J' hq => ?_)
  · rcases hq with ⟨_, ho, _⟩ | ⟨E2, ho, hS, hI, hJ, hq⟩
    · cases ho
    · cases ho; subst hI; subst hJ; subst hS
      rcases hX _  hq with ⟨rfl, hw⟩ | ⟨rfl, hw⟩
      · refine ⟨4, 15, ⟨[], ⟨0, 10, 13, 22⟩, tableOf [(0, 10, 17, 34)], rfl, (fun z hz => nomatch hz), by decide, by decide, C_L_22, by decide +kernel, by decide, Or.inr ⟨by decide +kernel, rfl⟩⟩, ?_⟩
        exact y_iconst Q_L_loss (k := 10) rfl (y_iret Q_L_loss (k := 11) rfl rfl (qI_L (Nat.le_refl _) hB ⟨by decide, by decide⟩ hw))
      · refine ⟨4, 19, ⟨tableOf [(0, 10, 13, 22)], ⟨0, 10, 17, 34⟩, [], rfl, (fun z hz => by
          rcases List.mem_cons.mp hz with rfl | hz
          · exact Or.inr ⟨by decide, _, C_L_22, by decide +kernel⟩
          · cases hz), by decide, by decide, C_L_34, by decide +kernel, by decide, Or.inr ⟨by decide +kernel, rfl⟩⟩, ?_⟩
        exact y_iconst Q_L_loss (k := 13) rfl (y_iret Q_L_loss (k := 14) rfl rfl (qI_L (Nat.le_refl _) hB ⟨by decide, by decide⟩ hw))
  · rcases hq with ⟨r, ho, hS, hI, hJ, hz, hq⟩ | ⟨_, ho, _⟩
    · cases ho; subst hI; subst hJ; subst hS
      exact z_i2l Q_L_loss (k := 6) rfl (q_last (z := 0) (N := 1) (o := 624) Q_L_loss (k := 7) rfl rfl (n_ hB.1 rfl) (k_624 hB.1) rfl ⟨by decide, by decide⟩ (by decide) (z_goto Q_L_loss (k := 8) (tgt := 21) rfl (by decide) (y_iconst Q_L_loss (k := 15) rfl (y_iret Q_L_loss (k := 16) rfl rfl (qI_L (Nat.le_refl _) hB ⟨by decide, by decide⟩ (hQ _  hz hq))))))
    · cases ho
theorem w_L_beside {S : zS} {V : qV} {J : qJ} {Q : Int → qV → qJ → Prop} {Q1 : Int → qV → qJ → Prop} {X1 : String → qV → qJ → Prop} (d : Nat) (hB : qB S V) {a1 : Int} (z1 : zr a1) {a2 : Int} (z2 : zr a2) (h : W_X10_beside a1 a2 V J Q1 X1) (hQ : ∀ r V1 J1, zr r → Q1 r V1 J1 → Q 0 V1 (qu J1 624 0 (iI r).toInt64)) (hX : ∀ E V1 J1, X1 E V1 J1 → (E = "java/lang/IllegalArgumentException" ∧ Q 1 V1 J1)) : Z M_L_beside (d + 7) 2 12 0 [some (.ref 0), some (.int (iI a1)), some (.int (iI a2)), some (.ref 624), none] [] S (qi V) (qj J) (qP_L S Q) := by
  refine z_aload_n Q_L_beside (k := 0) rfl rfl ?_
  refine y_iconst Q_L_beside (k := 1) rfl ?_
  refine z_aload_n Q_L_beside (k := 2) rfl rfl ?_
  refine z_iload_n Q_L_beside (k := 3) rfl rfl ?_
  refine z_iload_n Q_L_beside (k := 4) rfl rfl ?_
  refine z_callVC (o := 0) (as := [.int (iI a1), .int (iI a2)]) Q_L_beside (k := 5) rfl K_X10_beside V_X10_beside L_L_124 (n_ hB.1 rfl) (k_0 hB.1) rfl rfl (Nat.le_of_ble_eq_true rfl) rfl (by decide) (Nat.le_refl _) (Nat.le_refl _) (Or.inl (fun o S' I' J' hq => by rcases hq with ⟨_, _, _, _, e, _⟩ | ⟨_, _, _, _, e, _⟩ <;> rw [e])) (lwA rfl) (w_X10_beside d hB z1 z2 h) (fun E S' I' J' hq => ?_) (fun v S' I' J' hq => ?_)
  · rcases hq with ⟨_, _, _, ho, _⟩ | ⟨E2, V2, J2, ho, hS, hI, hJ, hB2, hq⟩
    · cases ho
    · cases ho; subst hI; subst hJ; subst hS
      rcases hX _ _ _ hq with ⟨rfl, hw⟩
      · refine ⟨4, 15, ⟨[], ⟨0, 10, 13, 13⟩, [], rfl, (fun z hz => nomatch hz), by decide, by decide, C_L_13, by decide +kernel, by decide, Or.inr ⟨by decide +kernel, rfl⟩⟩, ?_⟩
        exact y_iconst Q_L_beside (k := 10) rfl (y_iret Q_L_beside (k := 11) rfl rfl (qI_L (Nat.le_refl _) hB2 ⟨by decide, by decide⟩ hw))
  · rcases hq with ⟨r, V2, J2, ho, hS, hI, hJ, hB2, hz, hq⟩ | ⟨_, _, _, ho, _⟩
    · cases ho; subst hI; subst hJ; subst hS
      exact z_i2l Q_L_beside (k := 6) rfl (q_last (z := 0) (N := 1) (o := 624) Q_L_beside (k := 7) rfl rfl (n_ hB2.1 rfl) (k_624 hB2.1) rfl ⟨by decide, by decide⟩ (by decide) (z_goto Q_L_beside (k := 8) (tgt := 17) rfl (by decide) (y_iconst Q_L_beside (k := 12) rfl (y_iret Q_L_beside (k := 13) rfl rfl (qI_L (Nat.le_refl _) hB2 ⟨by decide, by decide⟩ (hQ _ _ _ hz hq))))))
    · cases ho
theorem w_L_least {S : zS} {V : qV} {J : qJ} {Q : Int → qV → qJ → Prop} {Q1 : Int → qV → qJ → Prop} {X1 : String → qV → qJ → Prop} (d : Nat) (hB : qB S V) {a1 : Int} (z1 : zr a1) {a2 : Int} (z2 : zr a2) {a3 : Int} (z3 : zr a3) (h : W_X10_least a1 a2 a3 V J Q1 X1) (hQ : ∀ r V1 J1, zr r → Q1 r V1 J1 → Q 0 V1 (qu J1 624 0 (iI r).toInt64)) (hX : ∀ E V1 J1, X1 E V1 J1 → (E = "java/lang/IllegalArgumentException" ∧ Q 1 V1 J1)) : Z M_L_least (d + 7) 3 18 0 [some (.ref 0), some (.int (iI a1)), some (.int (iI a2)), some (.int (iI a3)), some (.ref 624), none] [] S (qi V) (qj J) (qP_L S Q) := by
  refine z_aload Q_L_least (k := 0) rfl rfl ?_
  refine y_iconst Q_L_least (k := 1) rfl ?_
  refine z_aload_n Q_L_least (k := 2) rfl rfl ?_
  refine z_iload_n Q_L_least (k := 3) rfl rfl ?_
  refine z_iload_n Q_L_least (k := 4) rfl rfl ?_
  refine z_iload_n Q_L_least (k := 5) rfl rfl ?_
  refine z_callVC (o := 0) (as := [.int (iI a1), .int (iI a2), .int (iI a3)]) Q_L_least (k := 6) rfl K_X10_least V_X10_least L_L_127 (n_ hB.1 rfl) (k_0 hB.1) rfl rfl (Nat.le_of_ble_eq_true rfl) rfl (by decide) (Nat.le_refl _) (Nat.le_refl _) (Or.inl (fun o S' I' J' hq => by rcases hq with ⟨_, _, _, _, e, _⟩ | ⟨_, _, _, _, e, _⟩ <;> rw [e])) (lwA rfl) (w_X10_least d hB z1 z2 z3 h) (fun E S' I' J' hq => ?_) (fun v S' I' J' hq => ?_)
  · rcases hq with ⟨_, _, _, ho, _⟩ | ⟨E2, V2, J2, ho, hS, hI, hJ, hB2, hq⟩
    · cases ho
    · cases ho; subst hI; subst hJ; subst hS
      rcases hX _ _ _ hq with ⟨rfl, hw⟩
      · refine ⟨5, 17, ⟨[], ⟨0, 12, 15, 13⟩, [], rfl, (fun z hz => nomatch hz), by decide, by decide, C_L_13, by decide +kernel, by decide, Or.inr ⟨by decide +kernel, rfl⟩⟩, ?_⟩
        exact y_iconst Q_L_least (k := 11) rfl (y_iret Q_L_least (k := 12) rfl rfl (qI_L (Nat.le_refl _) hB2 ⟨by decide, by decide⟩ hw))
  · rcases hq with ⟨r, V2, J2, ho, hS, hI, hJ, hB2, hz, hq⟩ | ⟨_, _, _, ho, _⟩
    · cases ho; subst hI; subst hJ; subst hS
      exact z_i2l Q_L_least (k := 7) rfl (q_last (z := 0) (N := 1) (o := 624) Q_L_least (k := 8) rfl rfl (n_ hB2.1 rfl) (k_624 hB2.1) rfl ⟨by decide, by decide⟩ (by decide) (z_goto Q_L_least (k := 9) (tgt := 19) rfl (by decide) (y_iconst Q_L_least (k := 13) rfl (y_iret Q_L_least (k := 14) rfl rfl (qI_L (Nat.le_refl _) hB2 ⟨by decide, by decide⟩ (hQ _ _ _ hz hq))))))
    · cases ho
