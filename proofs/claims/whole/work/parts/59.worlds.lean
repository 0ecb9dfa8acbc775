/-! how many worlds -/
theorem cntB_add {p : Int → Bool} (a : Nat) : ∀ n : Nat, cntB p (a + n) = cntB p a + cntB (fun k => p (a + k)) n
  | 0 => by show cntB p a = cntB p a + 0; omega
  | n + 1 => by
    show cntB p (a + n) + bit01 (p ((a + n : Nat) : Int)) = cntB p a + (cntB (fun k => p (a + k)) n + bit01 (p (a + n)))
    rw [cntB_add a n, show ((a + n : Nat) : Int) = (a : Int) + n by omega]
    omega
theorem cntB_cg {p q : Int → Bool} : ∀ n : Nat, (∀ k : Int, 0 ≤ k → k < n → p k = q k) → cntB p n = cntB q n
  | 0, _ => rfl
  | n + 1, h => by
    show cntB p n + bit01 (p n) = cntB q n + bit01 (q n)
    rw [cntB_cg n (fun k a b => h k a (by omega)), h n (by omega) (by omega)]
theorem t_worlds {n : Int} {V : qV} {J : qJ} {P : qV → qJ → Prop} (h : Rel n V J) (hP0 : ∀ V2 J2, Rel (n + 1) V2 J2 → P V2 J2) : W_X10_worlds V J (fun r J1 => W_X11_worlds V (fun s V2 => V2 602 0 = 0 ∧ r = s ∧ P V2 J1)) := by
  refine pI_0 h (fun J1 hp => ?_)
  have hr : Rel n V J1 := by
    obtain ⟨p1, p2, p3, p4⟩ := hp
    have h7 := h.2.2.2.2.2.2.1
    exact h.sc (by omega) (fun _ _ _ _ _ _ => rfl) (fun o j x => p2 o j (by omega) (by omega) (by omega) (by omega) (by omega)) h7 p3
  have main : ∀ (g : Nat) (i c : Int), 0 ≤ i → i ≤ 16 → 16 < i + g → c = cntB (wB V) (64 * i).toNat → lp_X10_worlds_8 V J1 (fun l1x6 l2x6 => W_X11_worlds V (fun s V2 => V2 602 0 = 0 ∧ l1x6 = s ∧ P V2 J1)) g c i := by
    intro g
    induction g with
    | zero => intro i c p q r; omega
    | succ g ih =>
      intro i c p q r hc
      rw [lp_X10_worlds_8]
      refine br_c (fun y => ?_) (fun y => ⟨by omega, s_bc64 ?_⟩)
      · have : i = 16 := by omega
        subst this
        exact m_fWo hr (fun V' x1 x2 x3 x4 x5 => ⟨x2, by rw [hc, x5]; rfl, hP0 _ _ x1⟩)
      · have e : cntB (fun k => hb (J1 166 i) k) 64 = cntB (fun k => wB V ((64 * i).toNat + k)) 64 := cntB_cg 64 (fun k a b => by
          have b' : k < 64 := by omega
          have := hp.2.2.2 (((64 * i).toNat : Int) + k) (by omega) (by omega)
          rw [← this]
          unfold s0
          rw [show (((64 * i).toNat : Int) + k) / 64 = i by omega, show (((64 * i).toNat : Int) + k) % 64 = k by omega])
        have es := cntB_add (p := wB V) (64 * i).toNat 64
        rw [← e] at es
        have b1 := cntB_b (p := wB V) (64 * i).toNat
        have b2 := cntB_b (p := fun k => hb (J1 166 i) k) 64
        refine ⟨zr_i (by omega) (by omega), zr_i (by omega) (by omega), ih _ _ (by omega) (by omega) (by omega) ?_⟩
        rw [show (64 * (i + 1)).toNat = (64 * i).toNat + 64 by omega, es, hc]
  exact main 100000 0 0 (by decide) (by decide) (by decide) rfl
