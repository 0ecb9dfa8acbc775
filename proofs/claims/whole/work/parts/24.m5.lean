/-! the reference: conditions worked out in a world -/
def zsb : zL → zL → Prop
  | [], _ => True
  | none :: a, _ :: b => zsb a b
  | none :: a, [] => zsb a []
  | some v :: a, o :: b => o = some v ∧ zsb a b
  | some _ :: _, [] => False
theorem zsb_at : ∀ {a b : zL} {j : Nat} {v : Value}, zsb a b → a[j]? = some (some v) → b[j]? = some (some v)
  | [], _, j, v, _, h => by simp at h
  | none :: a, [], 0, v, _, h => by simp at h
  | none :: a, [], j + 1, v, hs, h => by
    have := zsb_at (a := a) (b := []) (j := j) (v := v) hs (by simpa using h)
    simp at this
  | none :: a, o :: b, 0, v, _, h => by simp at h
  | none :: a, o :: b, j + 1, v, hs, h => by
    have := zsb_at (a := a) (b := b) (j := j) (v := v) hs (by simpa using h)
    simpa using this
  | some w :: a, [], _, v, hs, _ => hs.elim
  | some w :: a, o :: b, 0, v, hs, h => by
    simp only [List.getElem?_cons_zero, Option.some.injEq] at h ⊢
    rw [hs.1, h]
  | some w :: a, o :: b, j + 1, v, hs, h => by
    have := zsb_at (a := a) (b := b) (j := j) (v := v) hs.2 (by simpa using h)
    simpa using this
theorem zsb_c {v : Value} {o : Option Value} {a b : zL} (h : o = some v) (h2 : zsb a b) : zsb (some v :: a) (o :: b) := ⟨h, h2⟩
theorem zsb_n {o : Option Value} {a b : zL} (h2 : zsb a b) : zsb (none :: a) (o :: b) := h2
theorem zsb_e {b : zL} : zsb [] b := trivial
theorem zie {x y : Int} (h : x = y) : some (Value.int (iI x)) = some (Value.int (iI y)) := by rw [h]
theorem y_fg {μ : zM} {d kc ks pc : Nat} {L L' : zL} {st : List Value} {S : zS} {I : zI} {J : zJ} {Q : zQ} (h : zsb L' L) (kk : Z μ d kc ks pc L' st S I J Q) : Z μ d kc ks pc L st S I J Q := by
  intro p l e R s m args below meth c X D aC ad ad0 n0 ls H locs cells slots mc ms hF hB hH hG hS hL hc hs
  exact kk p l e R s m args below meth c X D aC ad ad0 n0 ls H locs cells slots mc ms hF hB hH hG hS ⟨hL.1, hL.2.1, fun j v hj => hL.2.2 j v (zsb_at h hj)⟩ hc hs
def fu (s : Nat → Int) (j : Nat) (v : Int) : Nat → Int := fun i => if i = j then v else s i
theorem zu_fu (V : Nat → Nat → Int) (a j : Nat) (v : Int) : zu V a j v a = fu (V a) j v := by funext i; simp [zu, fu]
def bop (c a b : Int) : Int := if c = 3 then a + b else if c = 4 then a - b else if c = 5 then (if a < b then 1 else 0) else if c = 6 then (if b < a then 1 else 0) else if c = 7 then (if a = b then 1 else 0) else if c = 8 then zor a b else zand a b
def zsm (a : Int) : Prop := -100000000 ≤ a ∧ a ≤ 100000000
def zsmB (a : Int) : Bool := decide (-100000000 ≤ a) && decide (a ≤ 100000000)
theorem zsmB_i {a : Int} (h : zsmB a = true) : zsm a := by simp only [zsmB, Bool.and_eq_true, decide_eq_true_eq] at h; exact h
/-- one step of a condition's code: none where it would go astray -/
def iso1 (code cn nm : Nat → Int) (world : Int) (k : Nat) (s : Nat → Int) (n : Nat) : Option ((Nat → Int) × Nat) :=
  if code k ≤ 2 then
    (if code k = 0 then (if decide (n < 210) && zsmB (cn k) then some (fu s n (cn k), n + 1) else none)
    else if code k = 1 then (if decide (n < 210) && (decide (0 ≤ cn k) && (decide (cn k < 10) && zsmB (nm (cn k).toNat))) then some (fu s n (nm (cn k).toNat), n + 1) else none)
    else (if decide (n < 210) then some (fu s n (zand (zshr world (cn k)) 1), n + 1) else none))
  else if code k = 10 then (if decide (1 ≤ n) && (decide (n ≤ 210) && zsmB (s (n - 1))) then some (fu s (n - 1) (1 - s (n - 1)), n) else none)
  else (if decide (2 ≤ n) && (decide (n ≤ 210) && (zsmB (s (n - 2)) && zsmB (s (n - 1)))) then some (fu s (n - 2) (bop (code k) (s (n - 2)) (s (n - 1))), n - 1) else none)
def isoN (code cn nm : Nat → Int) (world : Int) : Nat → Nat → (Nat → Int) → Nat → Option ((Nat → Int) × Nat)
  | 0, _, s, n => some (s, n)
  | m + 1, k, s, n => match iso1 code cn nm world k s n with
    | none => none
    | some (s1, n1) => isoN code cn nm world m (k + 1) s1 n1
theorem isoN_s {code cn nm : Nat → Int} {world : Int} {m k n : Nat} {s : Nat → Int} {r : (Nat → Int) × Nat} (h : isoN code cn nm world (m + 1) k s n = some r) : ∃ s1 n1, iso1 code cn nm world k s n = some (s1, n1) ∧ isoN code cn nm world m (k + 1) s1 n1 = some r := by
  rw [isoN] at h
  cases h1 : iso1 code cn nm world k s n with
  | none => rw [h1] at h; cases h
  | some q => rw [h1] at h; exact ⟨q.1, q.2, rfl, h⟩
theorem zsm_zr {a : Int} (h : zsm a) : zr a := ⟨by have := h.1; omega, by have := h.2; omega⟩
set_option maxHeartbeats 4000000 in
set_option maxRecDepth 20000 in
theorem lp_isSo {S : zS} {V0 : Nat → Nat → Int} {J : zJ} (d : Nat) (hS : zSh S) {a0 e world : Nat} {r : (Nat → Int) × Nat} (he : e ≤ 4620) (hw : world < 1024) (hcz : ∀ j, zr (V0 604 j) ∧ zr (V0 605 j) ∧ zr (V0 614 j)) (hz0 : zr (r.1 0)) : ∀ (f : Nat) (m k n : Nat) (V : Nat → Nat → Int), (∀ a j, a ≠ 615 → V a j = V0 a j) → isoN (V0 604) (V0 605) (V0 614) (world : Int) m k (V 615) n = some r → k + m = e → m < f → Z M_X11_isSo d 0 0 6 [some (.ref 602), some (.int (iI ((a0 : Int)))), some (.int (iI ((e : Int)))), some (.int (iI ((world : Int)))), some (.int (iI ((n : Int)))), some (.int (iI ((k : Int)))), none, none, none] [] S (zi V) J (zPq S J (fun v V' => v = some (.int (iI (if r.1 0 = 1 then 1 else 0))) ∧ V' 615 = r.1 ∧ (∀ a j, a ≠ 615 → V' a j = V0 a j))) := by
  intro f
  induction f with
  | zero => intro m k n V hE hr hk hf; omega
  | succ f ih =>
    intro m k n V hE hr hk hf
    refine z_iload Q_X11_isSo (k := 4) rfl rfl ?_
    refine z_iload_n Q_X11_isSo (k := 5) rfl rfl ?_
    refine y_icmp_ge 268 Q_X11_isSo (k := 6) rfl (by decide) ⟨by omega, by omega⟩ ⟨by omega, by omega⟩ (fun c9 => ?_) (fun c9 => ?_)
    · obtain rfl : m = 0 := by omega
      have hr0 : (V 615, n) = r := Option.some.inj hr
      refine z_aload_n Q_X11_isSo (k := 140) rfl rfl ?_
      refine z_getR Q_X11_isSo (k := 141) rfl F_X11_53 rfl (n_ hS rfl) (k_602 hS) (r_602_23 hS) ?_
      refine y_iconst Q_X11_isSo (k := 142) rfl ?_
      refine y_ialdN Q_X11_isSo (k := 143) rfl (n_ hS rfl) (k_615 hS) (z := 0) (j := 0) rfl (by decide) (by decide) ?_
      refine y_iconst Q_X11_isSo (k := 144) rfl ?_
      refine y_icmp_ne 282 Q_X11_isSo (k := 145) rfl (by decide) (by rw [← hr0] at hz0; exact hz0) ⟨by decide, by decide⟩ (fun c275 => ?_) (fun c275 => ?_)
      · refine y_iconst Q_X11_isSo (k := 148) rfl ?_
        exact y_zret Q_X11_isSo (k := 149) rfl rfl (by first | exact Or.inl rfl | exact Or.inr rfl | omega) (zPq_i ⟨by rw [← hr0]; simp only [if_neg c275], by rw [← hr0], hE⟩)
      · refine y_iconst Q_X11_isSo (k := 146) rfl ?_
        refine z_goto (tgt := 283) Q_X11_isSo (k := 147) rfl (by decide) ?_
        exact y_zret Q_X11_isSo (k := 149) rfl rfl (by first | exact Or.inl rfl | exact Or.inr rfl | omega) (zPq_i ⟨by rw [← hr0]; simp only [if_pos c275], by rw [← hr0], hE⟩)
    · obtain ⟨m, rfl⟩ : ∃ m2, m = m2 + 1 := ⟨m - 1, by omega⟩
      obtain ⟨s1, n1, hi, hr2⟩ := isoN_s hr
      refine z_aload_n Q_X11_isSo (k := 7) rfl rfl ?_
      refine z_getR Q_X11_isSo (k := 8) rfl F_X11_17 rfl (n_ hS rfl) (k_602 hS) (r_602_2 hS) ?_
      refine z_iload Q_X11_isSo (k := 9) rfl rfl ?_
      refine y_ialdN Q_X11_isSo (k := 10) rfl (n_ hS rfl) (k_604 hS) (z := (k : Int)) (j := k) (by omega) (by omega) (by decide) ?_
      refine y_istore (L' := [some (.ref 602), some (.int (iI ((a0 : Int)))), some (.int (iI ((e : Int)))), some (.int (iI ((world : Int)))), some (.int (iI ((n : Int)))), some (.int (iI ((k : Int)))), some (.int (iI (V 604 (k)))), none, none]) Q_X11_isSo (k := 11) rfl (by decide) rfl ?_
      refine z_iload Q_X11_isSo (k := 12) rfl rfl ?_
      refine y_iconst Q_X11_isSo (k := 13) rfl ?_
      refine y_icmp_gt 87 Q_X11_isSo (k := 14) rfl (by decide) (by rw [hE _ _ (by decide)]; exact (hcz _).1) ⟨by decide, by decide⟩ (fun c24 => ?_) (fun c24 => ?_)
      · refine z_iload Q_X11_isSo (k := 47) rfl rfl ?_
        refine y_bipush Q_X11_isSo (k := 48) rfl (by decide) ?_
        refine y_icmp_ne 117 Q_X11_isSo (k := 49) rfl (by decide) (by rw [hE _ _ (by decide)]; exact (hcz _).1) ⟨by decide, by decide⟩ (fun c91 => ?_) (fun c91 => ?_)
        · rw [hE 604 k (by decide)] at c24 c91
          rw [iso1, if_neg (by omega), if_neg (by omega)] at hi
          obtain ⟨hcd, hi⟩ := Option.ite_none_right_eq_some.mp hi
          simp only [Bool.and_eq_true, decide_eq_true_eq] at hcd
          obtain ⟨rfl, rfl⟩ := Prod.mk.inj (Option.some.inj hi)
          have hz1 := zsm_zr (zsmB_i hcd.2.2.1)
          have hz2 := zsm_zr (zsmB_i hcd.2.2.2)
          refine y_iinc (L' := [some (.ref 602), some (.int (iI ((a0 : Int)))), some (.int (iI ((e : Int)))), some (.int (iI ((world : Int)))), some (.int (iI ((n : Int) + (-1)))), some (.int (iI ((k : Int)))), some (.int (iI (V 604 (k)))), none, none]) Q_X11_isSo (k := 65) rfl (by decide) rfl rfl ?_
          refine z_aload_n Q_X11_isSo (k := 66) rfl rfl ?_
          refine z_getR Q_X11_isSo (k := 67) rfl F_X11_53 rfl (n_ hS rfl) (k_602 hS) (r_602_23 hS) ?_
          refine z_iload Q_X11_isSo (k := 68) rfl rfl ?_
          refine y_iconst Q_X11_isSo (k := 69) rfl ?_
          refine y_isub Q_X11_isSo (k := 70) rfl ?_
          refine y_ialdN Q_X11_isSo (k := 71) rfl (n_ hS rfl) (k_615 hS) (z := ((n : Int) + (-1) - 1)) (j := ((n - 1) - 1)) (by omega) (by omega) (by decide) ?_
          refine y_as (y := V 615 (n - 2)) (by rw [show n - 1 - 1 = n - 2 by omega]) ?_
          refine y_istore (L' := [some (.ref 602), some (.int (iI ((a0 : Int)))), some (.int (iI ((e : Int)))), some (.int (iI ((world : Int)))), some (.int (iI ((n : Int) + (-1)))), some (.int (iI ((k : Int)))), some (.int (iI (V 604 (k)))), some (.int (iI (V 615 (n - 2)))), none]) Q_X11_isSo (k := 72) rfl (by decide) rfl ?_
          refine z_aload_n Q_X11_isSo (k := 73) rfl rfl ?_
          refine z_getR Q_X11_isSo (k := 74) rfl F_X11_53 rfl (n_ hS rfl) (k_602 hS) (r_602_23 hS) ?_
          refine z_iload Q_X11_isSo (k := 75) rfl rfl ?_
          refine y_ialdN Q_X11_isSo (k := 76) rfl (n_ hS rfl) (k_615 hS) (z := (n : Int) + (-1)) (j := (n - 1)) (by omega) (by omega) (by decide) ?_
          refine y_as (y := V 615 (n - 1)) (rfl) ?_
          refine y_istore (L' := [some (.ref 602), some (.int (iI ((a0 : Int)))), some (.int (iI ((e : Int)))), some (.int (iI ((world : Int)))), some (.int (iI ((n : Int) + (-1)))), some (.int (iI ((k : Int)))), some (.int (iI (V 604 (k)))), some (.int (iI (V 615 (n - 2)))), some (.int (iI (V 615 (n - 1))))]) Q_X11_isSo (k := 77) rfl (by decide) rfl ?_
          refine z_aload_n Q_X11_isSo (k := 78) rfl rfl ?_
          refine z_getR Q_X11_isSo (k := 79) rfl F_X11_53 rfl (n_ hS rfl) (k_602 hS) (r_602_23 hS) ?_
          refine z_iload Q_X11_isSo (k := 80) rfl rfl ?_
          refine y_iconst Q_X11_isSo (k := 81) rfl ?_
          refine y_isub Q_X11_isSo (k := 82) rfl ?_
          refine z_iload Q_X11_isSo (k := 83) rfl rfl ?_
          refine y_iconst Q_X11_isSo (k := 84) rfl ?_
          refine y_icmp_ne 162 Q_X11_isSo (k := 85) rfl (by decide) (by rw [hE _ _ (by decide)]; exact (hcz _).1) ⟨by decide, by decide⟩ (fun c151 => ?_) (fun c151 => ?_)
          · refine z_iload Q_X11_isSo (k := 90) rfl rfl ?_
            refine y_iconst Q_X11_isSo (k := 91) rfl ?_
            refine y_icmp_ne 176 Q_X11_isSo (k := 92) rfl (by decide) (by rw [hE _ _ (by decide)]; exact (hcz _).1) ⟨by decide, by decide⟩ (fun c165 => ?_) (fun c165 => ?_)
            · refine z_iload Q_X11_isSo (k := 97) rfl rfl ?_
              refine y_iconst Q_X11_isSo (k := 98) rfl ?_
              refine y_icmp_ne 197 Q_X11_isSo (k := 99) rfl (by decide) (by rw [hE _ _ (by decide)]; exact (hcz _).1) ⟨by decide, by decide⟩ (fun c179 => ?_) (fun c179 => ?_)
              · refine z_iload Q_X11_isSo (k := 107) rfl rfl ?_
                refine y_bipush Q_X11_isSo (k := 108) rfl (by decide) ?_
                refine y_icmp_ne 219 Q_X11_isSo (k := 109) rfl (by decide) (by rw [hE _ _ (by decide)]; exact (hcz _).1) ⟨by decide, by decide⟩ (fun c201 => ?_) (fun c201 => ?_)
                · refine z_iload Q_X11_isSo (k := 117) rfl rfl ?_
                  refine y_bipush Q_X11_isSo (k := 118) rfl (by decide) ?_
                  refine y_icmp_ne 241 Q_X11_isSo (k := 119) rfl (by decide) (by rw [hE _ _ (by decide)]; exact (hcz _).1) ⟨by decide, by decide⟩ (fun c223 => ?_) (fun c223 => ?_)
                  · refine z_iload Q_X11_isSo (k := 127) rfl rfl ?_
                    refine y_bipush Q_X11_isSo (k := 128) rfl (by decide) ?_
                    refine y_icmp_ne 256 Q_X11_isSo (k := 129) rfl (by decide) (by rw [hE _ _ (by decide)]; exact (hcz _).1) ⟨by decide, by decide⟩ (fun c245 => ?_) (fun c245 => ?_)
                    · refine z_iload Q_X11_isSo (k := 134) rfl rfl ?_
                      refine z_iload Q_X11_isSo (k := 135) rfl rfl ?_
                      refine y_iand Q_X11_isSo (k := 136) rfl ?_
                      refine y_iastN Q_X11_isSo (k := 137) rfl (n_ hS rfl) (k_615 hS) (z := ((n : Int) + (-1) - 1)) (j := ((n - 1) - 1)) (by omega) (by omega) (by decide) ?_
                      refine y_iinc (L' := [some (.ref 602), some (.int (iI ((a0 : Int)))), some (.int (iI ((e : Int)))), some (.int (iI ((world : Int)))), some (.int (iI ((n : Int) + (-1)))), some (.int (iI ((k : Int) + 1))), some (.int (iI (V 604 (k)))), some (.int (iI (V 615 (n - 2)))), some (.int (iI (V 615 (n - 1))))]) Q_X11_isSo (k := 138) rfl (by decide) rfl rfl ?_
                      refine z_goto (tgt := 6) Q_X11_isSo (k := 139) rfl (by decide) ?_
                      refine y_fg ?_ (ih m (k + 1) (n - 1) (zu V 615 (((n - 1) - 1)) (zand (V 615 (n - 2)) (V 615 (n - 1)))) (fun a j h => by rw [zu_o _ _ h]; exact hE a j h) ?_ (by omega) (by omega))
                      · rw [show ((n : Int) + (-1)) = ((n - 1 : Nat) : Int) by omega]; simp [zsb]
                      · have hb : bop (V0 604 k) (V 615 (n - 2)) (V 615 (n - 1)) = zand (V 615 (n - 2)) (V 615 (n - 1)) := by have hk4 := hE 604 k (by decide); simp only [bop]; repeat' split; all_goals first | rfl | omega
                        rw [zu_fu, show n - 1 - 1 = n - 2 by omega, ← hb]; exact hr2
                    · refine z_iload Q_X11_isSo (k := 130) rfl rfl ?_
                      refine z_iload Q_X11_isSo (k := 131) rfl rfl ?_
                      refine y_ior Q_X11_isSo (k := 132) rfl ?_
                      refine z_goto (tgt := 261) Q_X11_isSo (k := 133) rfl (by decide) ?_
                      refine y_iastN Q_X11_isSo (k := 137) rfl (n_ hS rfl) (k_615 hS) (z := ((n : Int) + (-1) - 1)) (j := ((n - 1) - 1)) (by omega) (by omega) (by decide) ?_
                      refine y_iinc (L' := [some (.ref 602), some (.int (iI ((a0 : Int)))), some (.int (iI ((e : Int)))), some (.int (iI ((world : Int)))), some (.int (iI ((n : Int) + (-1)))), some (.int (iI ((k : Int) + 1))), some (.int (iI (V 604 (k)))), some (.int (iI (V 615 (n - 2)))), some (.int (iI (V 615 (n - 1))))]) Q_X11_isSo (k := 138) rfl (by decide) rfl rfl ?_
                      refine z_goto (tgt := 6) Q_X11_isSo (k := 139) rfl (by decide) ?_
                      refine y_fg ?_ (ih m (k + 1) (n - 1) (zu V 615 (((n - 1) - 1)) (zor (V 615 (n - 2)) (V 615 (n - 1)))) (fun a j h => by rw [zu_o _ _ h]; exact hE a j h) ?_ (by omega) (by omega))
                      · rw [show ((n : Int) + (-1)) = ((n - 1 : Nat) : Int) by omega]; simp [zsb]
                      · have hb : bop (V0 604 k) (V 615 (n - 2)) (V 615 (n - 1)) = zor (V 615 (n - 2)) (V 615 (n - 1)) := by have hk4 := hE 604 k (by decide); simp only [bop]; repeat' split; all_goals first | rfl | omega
                        rw [zu_fu, show n - 1 - 1 = n - 2 by omega, ← hb]; exact hr2
                  · refine z_iload Q_X11_isSo (k := 120) rfl rfl ?_
                    refine z_iload Q_X11_isSo (k := 121) rfl rfl ?_
                    refine y_icmp_ne 237 Q_X11_isSo (k := 122) rfl (by decide) hz1 hz2 (fun c230 => ?_) (fun c230 => ?_)
                    · refine y_iconst Q_X11_isSo (k := 125) rfl ?_
                      refine z_goto (tgt := 261) Q_X11_isSo (k := 126) rfl (by decide) ?_
                      refine y_iastN Q_X11_isSo (k := 137) rfl (n_ hS rfl) (k_615 hS) (z := ((n : Int) + (-1) - 1)) (j := ((n - 1) - 1)) (by omega) (by omega) (by decide) ?_
                      refine y_iinc (L' := [some (.ref 602), some (.int (iI ((a0 : Int)))), some (.int (iI ((e : Int)))), some (.int (iI ((world : Int)))), some (.int (iI ((n : Int) + (-1)))), some (.int (iI ((k : Int) + 1))), some (.int (iI (V 604 (k)))), some (.int (iI (V 615 (n - 2)))), some (.int (iI (V 615 (n - 1))))]) Q_X11_isSo (k := 138) rfl (by decide) rfl rfl ?_
                      refine z_goto (tgt := 6) Q_X11_isSo (k := 139) rfl (by decide) ?_
                      refine y_fg ?_ (ih m (k + 1) (n - 1) (zu V 615 (((n - 1) - 1)) (0)) (fun a j h => by rw [zu_o _ _ h]; exact hE a j h) ?_ (by omega) (by omega))
                      · rw [show ((n : Int) + (-1)) = ((n - 1 : Nat) : Int) by omega]; simp [zsb]
                      · have hb : bop (V0 604 k) (V 615 (n - 2)) (V 615 (n - 1)) = 0 := by have hk4 := hE 604 k (by decide); simp only [bop]; repeat' split; all_goals first | rfl | omega
                        rw [zu_fu, show n - 1 - 1 = n - 2 by omega, ← hb]; exact hr2
                    · refine y_iconst Q_X11_isSo (k := 123) rfl ?_
                      refine z_goto (tgt := 261) Q_X11_isSo (k := 124) rfl (by decide) ?_
                      refine y_iastN Q_X11_isSo (k := 137) rfl (n_ hS rfl) (k_615 hS) (z := ((n : Int) + (-1) - 1)) (j := ((n - 1) - 1)) (by omega) (by omega) (by decide) ?_
                      refine y_iinc (L' := [some (.ref 602), some (.int (iI ((a0 : Int)))), some (.int (iI ((e : Int)))), some (.int (iI ((world : Int)))), some (.int (iI ((n : Int) + (-1)))), some (.int (iI ((k : Int) + 1))), some (.int (iI (V 604 (k)))), some (.int (iI (V 615 (n - 2)))), some (.int (iI (V 615 (n - 1))))]) Q_X11_isSo (k := 138) rfl (by decide) rfl rfl ?_
                      refine z_goto (tgt := 6) Q_X11_isSo (k := 139) rfl (by decide) ?_
                      refine y_fg ?_ (ih m (k + 1) (n - 1) (zu V 615 (((n - 1) - 1)) (1)) (fun a j h => by rw [zu_o _ _ h]; exact hE a j h) ?_ (by omega) (by omega))
                      · rw [show ((n : Int) + (-1)) = ((n - 1 : Nat) : Int) by omega]; simp [zsb]
                      · have hb : bop (V0 604 k) (V 615 (n - 2)) (V 615 (n - 1)) = 1 := by have hk4 := hE 604 k (by decide); simp only [bop]; repeat' split; all_goals first | rfl | omega
                        rw [zu_fu, show n - 1 - 1 = n - 2 by omega, ← hb]; exact hr2
                · refine z_iload Q_X11_isSo (k := 110) rfl rfl ?_
                  refine z_iload Q_X11_isSo (k := 111) rfl rfl ?_
                  refine y_icmp_le 215 Q_X11_isSo (k := 112) rfl (by decide) hz1 hz2 (fun c208 => ?_) (fun c208 => ?_)
                  · refine y_iconst Q_X11_isSo (k := 115) rfl ?_
                    refine z_goto (tgt := 261) Q_X11_isSo (k := 116) rfl (by decide) ?_
                    refine y_iastN Q_X11_isSo (k := 137) rfl (n_ hS rfl) (k_615 hS) (z := ((n : Int) + (-1) - 1)) (j := ((n - 1) - 1)) (by omega) (by omega) (by decide) ?_
                    refine y_iinc (L' := [some (.ref 602), some (.int (iI ((a0 : Int)))), some (.int (iI ((e : Int)))), some (.int (iI ((world : Int)))), some (.int (iI ((n : Int) + (-1)))), some (.int (iI ((k : Int) + 1))), some (.int (iI (V 604 (k)))), some (.int (iI (V 615 (n - 2)))), some (.int (iI (V 615 (n - 1))))]) Q_X11_isSo (k := 138) rfl (by decide) rfl rfl ?_
                    refine z_goto (tgt := 6) Q_X11_isSo (k := 139) rfl (by decide) ?_
                    refine y_fg ?_ (ih m (k + 1) (n - 1) (zu V 615 (((n - 1) - 1)) (0)) (fun a j h => by rw [zu_o _ _ h]; exact hE a j h) ?_ (by omega) (by omega))
                    · rw [show ((n : Int) + (-1)) = ((n - 1 : Nat) : Int) by omega]; simp [zsb]
                    · have hb : bop (V0 604 k) (V 615 (n - 2)) (V 615 (n - 1)) = 0 := by have hk4 := hE 604 k (by decide); simp only [bop]; repeat' split; all_goals first | rfl | omega
                      rw [zu_fu, show n - 1 - 1 = n - 2 by omega, ← hb]; exact hr2
                  · refine y_iconst Q_X11_isSo (k := 113) rfl ?_
                    refine z_goto (tgt := 261) Q_X11_isSo (k := 114) rfl (by decide) ?_
                    refine y_iastN Q_X11_isSo (k := 137) rfl (n_ hS rfl) (k_615 hS) (z := ((n : Int) + (-1) - 1)) (j := ((n - 1) - 1)) (by omega) (by omega) (by decide) ?_
                    refine y_iinc (L' := [some (.ref 602), some (.int (iI ((a0 : Int)))), some (.int (iI ((e : Int)))), some (.int (iI ((world : Int)))), some (.int (iI ((n : Int) + (-1)))), some (.int (iI ((k : Int) + 1))), some (.int (iI (V 604 (k)))), some (.int (iI (V 615 (n - 2)))), some (.int (iI (V 615 (n - 1))))]) Q_X11_isSo (k := 138) rfl (by decide) rfl rfl ?_
                    refine z_goto (tgt := 6) Q_X11_isSo (k := 139) rfl (by decide) ?_
                    refine y_fg ?_ (ih m (k + 1) (n - 1) (zu V 615 (((n - 1) - 1)) (1)) (fun a j h => by rw [zu_o _ _ h]; exact hE a j h) ?_ (by omega) (by omega))
                    · rw [show ((n : Int) + (-1)) = ((n - 1 : Nat) : Int) by omega]; simp [zsb]
                    · have hb : bop (V0 604 k) (V 615 (n - 2)) (V 615 (n - 1)) = 1 := by have hk4 := hE 604 k (by decide); simp only [bop]; repeat' split; all_goals first | rfl | omega
                      rw [zu_fu, show n - 1 - 1 = n - 2 by omega, ← hb]; exact hr2
              · refine z_iload Q_X11_isSo (k := 100) rfl rfl ?_
                refine z_iload Q_X11_isSo (k := 101) rfl rfl ?_
                refine y_icmp_ge 193 Q_X11_isSo (k := 102) rfl (by decide) hz1 hz2 (fun c186 => ?_) (fun c186 => ?_)
                · refine y_iconst Q_X11_isSo (k := 105) rfl ?_
                  refine z_goto (tgt := 261) Q_X11_isSo (k := 106) rfl (by decide) ?_
                  refine y_iastN Q_X11_isSo (k := 137) rfl (n_ hS rfl) (k_615 hS) (z := ((n : Int) + (-1) - 1)) (j := ((n - 1) - 1)) (by omega) (by omega) (by decide) ?_
                  refine y_iinc (L' := [some (.ref 602), some (.int (iI ((a0 : Int)))), some (.int (iI ((e : Int)))), some (.int (iI ((world : Int)))), some (.int (iI ((n : Int) + (-1)))), some (.int (iI ((k : Int) + 1))), some (.int (iI (V 604 (k)))), some (.int (iI (V 615 (n - 2)))), some (.int (iI (V 615 (n - 1))))]) Q_X11_isSo (k := 138) rfl (by decide) rfl rfl ?_
                  refine z_goto (tgt := 6) Q_X11_isSo (k := 139) rfl (by decide) ?_
                  refine y_fg ?_ (ih m (k + 1) (n - 1) (zu V 615 (((n - 1) - 1)) (0)) (fun a j h => by rw [zu_o _ _ h]; exact hE a j h) ?_ (by omega) (by omega))
                  · rw [show ((n : Int) + (-1)) = ((n - 1 : Nat) : Int) by omega]; simp [zsb]
                  · have hb : bop (V0 604 k) (V 615 (n - 2)) (V 615 (n - 1)) = 0 := by have hk4 := hE 604 k (by decide); simp only [bop]; repeat' split; all_goals first | rfl | omega
                    rw [zu_fu, show n - 1 - 1 = n - 2 by omega, ← hb]; exact hr2
                · refine y_iconst Q_X11_isSo (k := 103) rfl ?_
                  refine z_goto (tgt := 261) Q_X11_isSo (k := 104) rfl (by decide) ?_
                  refine y_iastN Q_X11_isSo (k := 137) rfl (n_ hS rfl) (k_615 hS) (z := ((n : Int) + (-1) - 1)) (j := ((n - 1) - 1)) (by omega) (by omega) (by decide) ?_
                  refine y_iinc (L' := [some (.ref 602), some (.int (iI ((a0 : Int)))), some (.int (iI ((e : Int)))), some (.int (iI ((world : Int)))), some (.int (iI ((n : Int) + (-1)))), some (.int (iI ((k : Int) + 1))), some (.int (iI (V 604 (k)))), some (.int (iI (V 615 (n - 2)))), some (.int (iI (V 615 (n - 1))))]) Q_X11_isSo (k := 138) rfl (by decide) rfl rfl ?_
                  refine z_goto (tgt := 6) Q_X11_isSo (k := 139) rfl (by decide) ?_
                  refine y_fg ?_ (ih m (k + 1) (n - 1) (zu V 615 (((n - 1) - 1)) (1)) (fun a j h => by rw [zu_o _ _ h]; exact hE a j h) ?_ (by omega) (by omega))
                  · rw [show ((n : Int) + (-1)) = ((n - 1 : Nat) : Int) by omega]; simp [zsb]
                  · have hb : bop (V0 604 k) (V 615 (n - 2)) (V 615 (n - 1)) = 1 := by have hk4 := hE 604 k (by decide); simp only [bop]; repeat' split; all_goals first | rfl | omega
                    rw [zu_fu, show n - 1 - 1 = n - 2 by omega, ← hb]; exact hr2
            · refine z_iload Q_X11_isSo (k := 93) rfl rfl ?_
              refine z_iload Q_X11_isSo (k := 94) rfl rfl ?_
              refine y_isub Q_X11_isSo (k := 95) rfl ?_
              refine z_goto (tgt := 261) Q_X11_isSo (k := 96) rfl (by decide) ?_
              refine y_iastN Q_X11_isSo (k := 137) rfl (n_ hS rfl) (k_615 hS) (z := ((n : Int) + (-1) - 1)) (j := ((n - 1) - 1)) (by omega) (by omega) (by decide) ?_
              refine y_iinc (L' := [some (.ref 602), some (.int (iI ((a0 : Int)))), some (.int (iI ((e : Int)))), some (.int (iI ((world : Int)))), some (.int (iI ((n : Int) + (-1)))), some (.int (iI ((k : Int) + 1))), some (.int (iI (V 604 (k)))), some (.int (iI (V 615 (n - 2)))), some (.int (iI (V 615 (n - 1))))]) Q_X11_isSo (k := 138) rfl (by decide) rfl rfl ?_
              refine z_goto (tgt := 6) Q_X11_isSo (k := 139) rfl (by decide) ?_
              refine y_fg ?_ (ih m (k + 1) (n - 1) (zu V 615 (((n - 1) - 1)) ((V 615 (n - 2) - V 615 (n - 1)))) (fun a j h => by rw [zu_o _ _ h]; exact hE a j h) ?_ (by omega) (by omega))
              · rw [show ((n : Int) + (-1)) = ((n - 1 : Nat) : Int) by omega]; simp [zsb]
              · have hb : bop (V0 604 k) (V 615 (n - 2)) (V 615 (n - 1)) = (V 615 (n - 2) - V 615 (n - 1)) := by have hk4 := hE 604 k (by decide); simp only [bop]; repeat' split; all_goals first | rfl | omega
                rw [zu_fu, show n - 1 - 1 = n - 2 by omega, ← hb]; exact hr2
          · refine z_iload Q_X11_isSo (k := 86) rfl rfl ?_
            refine z_iload Q_X11_isSo (k := 87) rfl rfl ?_
            refine y_iadd Q_X11_isSo (k := 88) rfl ?_
            refine z_goto (tgt := 261) Q_X11_isSo (k := 89) rfl (by decide) ?_
            refine y_iastN Q_X11_isSo (k := 137) rfl (n_ hS rfl) (k_615 hS) (z := ((n : Int) + (-1) - 1)) (j := ((n - 1) - 1)) (by omega) (by omega) (by decide) ?_
            refine y_iinc (L' := [some (.ref 602), some (.int (iI ((a0 : Int)))), some (.int (iI ((e : Int)))), some (.int (iI ((world : Int)))), some (.int (iI ((n : Int) + (-1)))), some (.int (iI ((k : Int) + 1))), some (.int (iI (V 604 (k)))), some (.int (iI (V 615 (n - 2)))), some (.int (iI (V 615 (n - 1))))]) Q_X11_isSo (k := 138) rfl (by decide) rfl rfl ?_
            refine z_goto (tgt := 6) Q_X11_isSo (k := 139) rfl (by decide) ?_
            refine y_fg ?_ (ih m (k + 1) (n - 1) (zu V 615 (((n - 1) - 1)) ((V 615 (n - 2) + V 615 (n - 1)))) (fun a j h => by rw [zu_o _ _ h]; exact hE a j h) ?_ (by omega) (by omega))
            · rw [show ((n : Int) + (-1)) = ((n - 1 : Nat) : Int) by omega]; simp [zsb]
            · have hb : bop (V0 604 k) (V 615 (n - 2)) (V 615 (n - 1)) = (V 615 (n - 2) + V 615 (n - 1)) := by have hk4 := hE 604 k (by decide); simp only [bop]; repeat' split; all_goals first | rfl | omega
              rw [zu_fu, show n - 1 - 1 = n - 2 by omega, ← hb]; exact hr2
        · rw [hE 604 k (by decide)] at c24 c91
          rw [iso1, if_neg (by omega), if_pos (by omega)] at hi
          obtain ⟨hcd, hi⟩ := Option.ite_none_right_eq_some.mp hi
          simp only [Bool.and_eq_true, decide_eq_true_eq] at hcd
          obtain ⟨rfl, rfl⟩ := Prod.mk.inj (Option.some.inj hi)
          refine z_aload_n Q_X11_isSo (k := 50) rfl rfl ?_
          refine z_getR Q_X11_isSo (k := 51) rfl F_X11_53 rfl (n_ hS rfl) (k_602 hS) (r_602_23 hS) ?_
          refine z_iload Q_X11_isSo (k := 52) rfl rfl ?_
          refine y_iconst Q_X11_isSo (k := 53) rfl ?_
          refine y_isub Q_X11_isSo (k := 54) rfl ?_
          refine y_iconst Q_X11_isSo (k := 55) rfl ?_
          refine z_aload_n Q_X11_isSo (k := 56) rfl rfl ?_
          refine z_getR Q_X11_isSo (k := 57) rfl F_X11_53 rfl (n_ hS rfl) (k_602 hS) (r_602_23 hS) ?_
          refine z_iload Q_X11_isSo (k := 58) rfl rfl ?_
          refine y_iconst Q_X11_isSo (k := 59) rfl ?_
          refine y_isub Q_X11_isSo (k := 60) rfl ?_
          refine y_ialdN Q_X11_isSo (k := 61) rfl (n_ hS rfl) (k_615 hS) (z := ((n : Int) - 1)) (j := (n - 1)) (by omega) (by omega) (by decide) ?_
          refine y_as (y := V 615 (n - 1)) (rfl) ?_
          refine y_isub Q_X11_isSo (k := 62) rfl ?_
          refine y_iastN Q_X11_isSo (k := 63) rfl (n_ hS rfl) (k_615 hS) (z := ((n : Int) - 1)) (j := (n - 1)) (by omega) (by omega) (by decide) ?_
          refine z_goto (tgt := 262) Q_X11_isSo (k := 64) rfl (by decide) ?_
          refine y_iinc (L' := [some (.ref 602), some (.int (iI ((a0 : Int)))), some (.int (iI ((e : Int)))), some (.int (iI ((world : Int)))), some (.int (iI ((n : Int)))), some (.int (iI ((k : Int) + 1))), some (.int (iI (V 604 (k)))), none, none]) Q_X11_isSo (k := 138) rfl (by decide) rfl rfl ?_
          refine z_goto (tgt := 6) Q_X11_isSo (k := 139) rfl (by decide) ?_
          refine y_fg ?_ (ih m (k + 1) n (zu V 615 ((n - 1)) ((1 - V 615 (n - 1)))) (fun a j h => by rw [zu_o _ _ h]; exact hE a j h) ?_ (by omega) (by omega))
          · simp [zsb]
          · rw [zu_fu]; exact hr2
      · refine z_aload_n Q_X11_isSo (k := 15) rfl rfl ?_
        refine z_getR Q_X11_isSo (k := 16) rfl F_X11_53 rfl (n_ hS rfl) (k_602 hS) (r_602_23 hS) ?_
        refine z_iload Q_X11_isSo (k := 17) rfl rfl ?_
        refine z_iload Q_X11_isSo (k := 18) rfl rfl ?_
        refine y_if_ne 48 Q_X11_isSo (k := 19) rfl (by decide) (by rw [hE _ _ (by decide)]; exact (hcz _).1) (fun c35 => ?_) (fun c35 => ?_)
        · refine z_iload Q_X11_isSo (k := 25) rfl rfl ?_
          refine y_iconst Q_X11_isSo (k := 26) rfl ?_
          refine y_icmp_ne 69 Q_X11_isSo (k := 27) rfl (by decide) (by rw [hE _ _ (by decide)]; exact (hcz _).1) ⟨by decide, by decide⟩ (fun c51 => ?_) (fun c51 => ?_)
          · rw [hE 604 k (by decide)] at c24 c35 c51
            rw [iso1, if_pos (by omega), if_neg c35, if_neg c51] at hi
            obtain ⟨hcd, hi⟩ := Option.ite_none_right_eq_some.mp hi
            simp only [decide_eq_true_eq] at hcd
            obtain ⟨rfl, rfl⟩ := Prod.mk.inj (Option.some.inj hi)
            refine z_iload_n Q_X11_isSo (k := 36) rfl rfl ?_
            refine z_aload_n Q_X11_isSo (k := 37) rfl rfl ?_
            refine z_getR Q_X11_isSo (k := 38) rfl F_X11_20 rfl (n_ hS rfl) (k_602 hS) (r_602_3 hS) ?_
            refine z_iload Q_X11_isSo (k := 39) rfl rfl ?_
            refine y_ialdN Q_X11_isSo (k := 40) rfl (n_ hS rfl) (k_605 hS) (z := (k : Int)) (j := k) (by omega) (by omega) (by decide) ?_
            refine y_as (y := V0 605 k) (hE 605 k (by decide)) ?_
            refine y_ishr Q_X11_isSo (k := 41) rfl ?_
            refine y_iconst Q_X11_isSo (k := 42) rfl ?_
            refine y_iand Q_X11_isSo (k := 43) rfl ?_
            refine y_iastN Q_X11_isSo (k := 44) rfl (n_ hS rfl) (k_615 hS) (z := (n : Int)) (j := n) (by omega) (by omega) (by decide) ?_
            refine y_iinc (L' := [some (.ref 602), some (.int (iI ((a0 : Int)))), some (.int (iI ((e : Int)))), some (.int (iI ((world : Int)))), some (.int (iI ((n : Int) + 1))), some (.int (iI ((k : Int)))), some (.int (iI (V 604 (k)))), none, none]) Q_X11_isSo (k := 45) rfl (by decide) rfl rfl ?_
            refine z_goto (tgt := 262) Q_X11_isSo (k := 46) rfl (by decide) ?_
            refine y_iinc (L' := [some (.ref 602), some (.int (iI ((a0 : Int)))), some (.int (iI ((e : Int)))), some (.int (iI ((world : Int)))), some (.int (iI ((n : Int) + 1))), some (.int (iI ((k : Int) + 1))), some (.int (iI (V 604 (k)))), none, none]) Q_X11_isSo (k := 138) rfl (by decide) rfl rfl ?_
            refine z_goto (tgt := 6) Q_X11_isSo (k := 139) rfl (by decide) ?_
            refine y_fg ?_ (ih m (k + 1) (n + 1) (zu V 615 (n) (zand (zshr ((world : Int)) (V0 605 k)) (1))) (fun a j h => by rw [zu_o _ _ h]; exact hE a j h) ?_ (by omega) (by omega))
            · simp [zsb]
            · rw [zu_fu]; exact hr2
          · rw [hE 604 k (by decide)] at c24 c35 c51
            rw [iso1, if_pos (by omega), if_neg c35, if_pos (by omega)] at hi
            obtain ⟨hcd, hi⟩ := Option.ite_none_right_eq_some.mp hi
            simp only [Bool.and_eq_true, decide_eq_true_eq] at hcd
            obtain ⟨rfl, rfl⟩ := Prod.mk.inj (Option.some.inj hi)
            refine z_aload_n Q_X11_isSo (k := 28) rfl rfl ?_
            refine z_getR Q_X11_isSo (k := 29) rfl F_X11_50 rfl (n_ hS rfl) (k_602 hS) (r_602_22 hS) ?_
            refine z_aload_n Q_X11_isSo (k := 30) rfl rfl ?_
            refine z_getR Q_X11_isSo (k := 31) rfl F_X11_20 rfl (n_ hS rfl) (k_602 hS) (r_602_3 hS) ?_
            refine z_iload Q_X11_isSo (k := 32) rfl rfl ?_
            refine y_ialdN Q_X11_isSo (k := 33) rfl (n_ hS rfl) (k_605 hS) (z := (k : Int)) (j := k) (by omega) (by omega) (by decide) ?_
            refine y_as (y := ((V0 605 k).toNat : Int)) (by rw [hE 605 k (by decide)]; omega) ?_
            refine y_ialdN Q_X11_isSo (k := 34) rfl (n_ hS rfl) (k_614 hS) (z := ((V0 605 k).toNat : Int)) (j := (V0 605 k).toNat) (by omega) (by omega) (by decide) ?_
            refine y_as (y := V0 614 (V0 605 k).toNat) (hE 614 _ (by decide)) ?_
            refine z_goto (tgt := 80) Q_X11_isSo (k := 35) rfl (by decide) ?_
            refine y_iastN Q_X11_isSo (k := 44) rfl (n_ hS rfl) (k_615 hS) (z := (n : Int)) (j := n) (by omega) (by omega) (by decide) ?_
            refine y_iinc (L' := [some (.ref 602), some (.int (iI ((a0 : Int)))), some (.int (iI ((e : Int)))), some (.int (iI ((world : Int)))), some (.int (iI ((n : Int) + 1))), some (.int (iI ((k : Int)))), some (.int (iI (V 604 (k)))), none, none]) Q_X11_isSo (k := 45) rfl (by decide) rfl rfl ?_
            refine z_goto (tgt := 262) Q_X11_isSo (k := 46) rfl (by decide) ?_
            refine y_iinc (L' := [some (.ref 602), some (.int (iI ((a0 : Int)))), some (.int (iI ((e : Int)))), some (.int (iI ((world : Int)))), some (.int (iI ((n : Int) + 1))), some (.int (iI ((k : Int) + 1))), some (.int (iI (V 604 (k)))), none, none]) Q_X11_isSo (k := 138) rfl (by decide) rfl rfl ?_
            refine z_goto (tgt := 6) Q_X11_isSo (k := 139) rfl (by decide) ?_
            refine y_fg ?_ (ih m (k + 1) (n + 1) (zu V 615 (n) (V0 614 (V0 605 k).toNat)) (fun a j h => by rw [zu_o _ _ h]; exact hE a j h) ?_ (by omega) (by omega))
            · simp [zsb]
            · rw [zu_fu]; exact hr2
        · rw [hE 604 k (by decide)] at c24 c35
          rw [iso1, if_pos (by omega), if_pos c35] at hi
          obtain ⟨hcd, hi⟩ := Option.ite_none_right_eq_some.mp hi
          simp only [Bool.and_eq_true, decide_eq_true_eq] at hcd
          obtain ⟨rfl, rfl⟩ := Prod.mk.inj (Option.some.inj hi)
          refine z_aload_n Q_X11_isSo (k := 20) rfl rfl ?_
          refine z_getR Q_X11_isSo (k := 21) rfl F_X11_20 rfl (n_ hS rfl) (k_602 hS) (r_602_3 hS) ?_
          refine z_iload Q_X11_isSo (k := 22) rfl rfl ?_
          refine y_ialdN Q_X11_isSo (k := 23) rfl (n_ hS rfl) (k_605 hS) (z := (k : Int)) (j := k) (by omega) (by omega) (by decide) ?_
          refine y_as (y := V0 605 k) (hE 605 k (by decide)) ?_
          refine z_goto (tgt := 80) Q_X11_isSo (k := 24) rfl (by decide) ?_
          refine y_iastN Q_X11_isSo (k := 44) rfl (n_ hS rfl) (k_615 hS) (z := (n : Int)) (j := n) (by omega) (by omega) (by decide) ?_
          refine y_iinc (L' := [some (.ref 602), some (.int (iI ((a0 : Int)))), some (.int (iI ((e : Int)))), some (.int (iI ((world : Int)))), some (.int (iI ((n : Int) + 1))), some (.int (iI ((k : Int)))), some (.int (iI (V 604 (k)))), none, none]) Q_X11_isSo (k := 45) rfl (by decide) rfl rfl ?_
          refine z_goto (tgt := 262) Q_X11_isSo (k := 46) rfl (by decide) ?_
          refine y_iinc (L' := [some (.ref 602), some (.int (iI ((a0 : Int)))), some (.int (iI ((e : Int)))), some (.int (iI ((world : Int)))), some (.int (iI ((n : Int) + 1))), some (.int (iI ((k : Int) + 1))), some (.int (iI (V 604 (k)))), none, none]) Q_X11_isSo (k := 138) rfl (by decide) rfl rfl ?_
          refine z_goto (tgt := 6) Q_X11_isSo (k := 139) rfl (by decide) ?_
          refine y_fg ?_ (ih m (k + 1) (n + 1) (zu V 615 (n) (V0 605 k)) (fun a j h => by rw [zu_o _ _ h]; exact hE a j h) ?_ (by omega) (by omega))
          · simp [zsb]
          · rw [zu_fu]; exact hr2
set_option maxHeartbeats 4000000 in
set_option maxRecDepth 20000 in
theorem c_isSo {S : zS} {V0 : Nat → Nat → Int} {J : zJ} (d : Nat) (hS : zSh S) {a0 m world : Nat} {r : (Nat → Int) × Nat} (he : a0 + m ≤ 4620) (hw : world < 1024) (hcz : ∀ j, zr (V0 604 j) ∧ zr (V0 605 j) ∧ zr (V0 614 j)) (hz0 : zr (r.1 0)) (hr : isoN (V0 604) (V0 605) (V0 614) (world : Int) m a0 (V0 615) 0 = some r) : Z M_X11_isSo d 0 0 0 [some (.ref 602), some (.int (iI ((a0 : Int)))), some (.int (iI (((a0 + m : Nat) : Int)))), some (.int (iI ((world : Int)))), none, none, none, none, none] [] S (zi V0) J (zPq S J (fun v V' => v = some (.int (iI (if r.1 0 = 1 then 1 else 0))) ∧ V' 615 = r.1 ∧ (∀ a j, a ≠ 615 → V' a j = V0 a j))) := by
  refine y_iconst Q_X11_isSo (k := 0) rfl ?_
  refine y_istore (L' := [some (.ref 602), some (.int (iI ((a0 : Int)))), some (.int (iI (((a0 + m : Nat) : Int)))), some (.int (iI ((world : Int)))), some (.int (iI (0))), none, none, none, none]) Q_X11_isSo (k := 1) rfl (by decide) rfl ?_
  refine z_iload_n Q_X11_isSo (k := 2) rfl rfl ?_
  refine y_istore (L' := [some (.ref 602), some (.int (iI ((a0 : Int)))), some (.int (iI (((a0 + m : Nat) : Int)))), some (.int (iI ((world : Int)))), some (.int (iI (0))), some (.int (iI ((a0 : Int)))), none, none, none]) Q_X11_isSo (k := 3) rfl (by decide) rfl ?_
  exact lp_isSo d hS he hw hcz hz0 (m + 1) m a0 0 V0 (fun _ _ _ => rfl) hr rfl (by omega)
def fsF (ev : Nat → Bool) : Nat → Nat → Int
  | _, 0 => -1
  | i, m + 1 => if ev i = true then (i : Int) else fsF ev (i + 1) m
/-- a rule's condition, from fr to t of the code: whether it is met, told by b -/
def evOk (code cn nm : Nat → Int) (world : Nat) (fr t : Int) (b : Bool) : Prop := 0 ≤ fr ∧ fr ≤ t ∧ t ≤ 4620 ∧ (fr = t → b = true) ∧ (fr ≠ t → ∀ s, ∃ r, isoN code cn nm (world : Int) (t - fr).toNat fr.toNat s 0 = some r ∧ zr (r.1 0) ∧ (r.1 0 = 1 ↔ b = true))
set_option maxHeartbeats 4000000 in
set_option maxRecDepth 20000 in
theorem lp_ruleOf {S : zS} {V0 : Nat → Nat → Int} {J : zJ} (d : Nat) (hS : zSh S) {l q world : Nat} (hl : l < 3) (hq : q ≤ 12) (hw : world < 1024) (hcz : ∀ j, zr (V0 604 j) ∧ zr (V0 605 j) ∧ zr (V0 614 j)) (hrl : V0 610 l = (q : Int)) {ev : Nat → Bool} (hev : ∀ i, i < q → evOk (V0 604) (V0 605) (V0 614) world (V0 608 (12 * l + i)) (V0 609 (12 * l + i)) (ev i)) : ∀ (f : Nat) (m i : Nat) (V : Nat → Nat → Int), (∀ a j, a ≠ 615 → V a j = V0 a j) → i + m = q → fsF ev i m = fsF ev 0 q → m < f → Z M_X11_ruleOf (d + 1) 0 0 5 [some (.ref 602), some (.int (iI ((l : Int)))), some (.int (iI ((world : Int)))), some (.int (iI (((12 * l + i : Nat) : Int))))] [] S (zi V) J (zPq S J (fun v V' => v = some (.int (iI (fsF ev 0 q))) ∧ (∀ a j, a ≠ 615 → V' a j = V0 a j))) := by
  intro f
  induction f with
  | zero => intro m i V hE him hfs hf; omega
  | succ f ih =>
    intro m i V hE him hfs hf
    refine z_iload_n Q_X11_ruleOf (k := 4) rfl rfl ?_
    refine y_bipush Q_X11_ruleOf (k := 5) rfl (by decide) ?_
    refine z_iload_n Q_X11_ruleOf (k := 6) rfl rfl ?_
    refine y_imul Q_X11_ruleOf (k := 7) rfl ?_
    refine z_aload_n Q_X11_ruleOf (k := 8) rfl rfl ?_
    refine z_getR Q_X11_ruleOf (k := 9) rfl F_X11_35 rfl (n_ hS rfl) (k_602 hS) (r_602_8 hS) ?_
    refine z_iload_n Q_X11_ruleOf (k := 10) rfl rfl ?_
    refine y_ialdN Q_X11_ruleOf (k := 11) rfl (n_ hS rfl) (k_610 hS) (z := (l : Int)) (j := l) (by omega) (by omega) (by decide) ?_
    refine y_as (y := (q : Int)) (by rw [hE 610 l (by decide)]; exact hrl) ?_
    refine y_iadd Q_X11_ruleOf (k := 12) rfl ?_
    refine y_icmp_ge 68 Q_X11_ruleOf (k := 13) rfl (by decide) ⟨by omega, by omega⟩ ⟨by omega, by omega⟩ (fun c17 => ?_) (fun c17 => ?_)
    · refine y_iconst Q_X11_ruleOf (k := 43) rfl ?_
      exact y_iret Q_X11_ruleOf (k := 44) rfl rfl (zPq_i ⟨by rw [← hfs, show m = 0 by omega]; rfl, hE⟩)
    · obtain ⟨m, rfl⟩ : ∃ m2, m = m2 + 1 := ⟨m - 1, by omega⟩
      obtain ⟨he1, he2, he3, he4, he5⟩ := hev i (by omega)
      have hf1 := hE 608 (12 * l + i) (by decide)
      have hf2 := hE 609 (12 * l + i) (by decide)
      refine z_aload_n Q_X11_ruleOf (k := 14) rfl rfl ?_
      refine z_getR Q_X11_ruleOf (k := 15) rfl F_X11_29 rfl (n_ hS rfl) (k_602 hS) (r_602_6 hS) ?_
      refine z_iload_n Q_X11_ruleOf (k := 16) rfl rfl ?_
      refine y_ialdN Q_X11_ruleOf (k := 17) rfl (n_ hS rfl) (k_608 hS) (z := ((12 * l + i : Nat) : Int)) (j := (12 * l + i)) (by omega) (by omega) (by decide) ?_
      refine z_aload_n Q_X11_ruleOf (k := 18) rfl rfl ?_
      refine z_getR Q_X11_ruleOf (k := 19) rfl F_X11_32 rfl (n_ hS rfl) (k_602 hS) (r_602_7 hS) ?_
      refine z_iload_n Q_X11_ruleOf (k := 20) rfl rfl ?_
      refine y_ialdN Q_X11_ruleOf (k := 21) rfl (n_ hS rfl) (k_609 hS) (z := ((12 * l + i : Nat) : Int)) (j := (12 * l + i)) (by omega) (by omega) (by decide) ?_
      refine y_icmp_eq 55 Q_X11_ruleOf (k := 22) rfl (by decide) ⟨by omega, by omega⟩ ⟨by omega, by omega⟩ (fun c32 => ?_) (fun c32 => ?_)
      · refine z_iload_n Q_X11_ruleOf (k := 35) rfl rfl ?_
        refine y_bipush Q_X11_ruleOf (k := 36) rfl (by decide) ?_
        refine z_iload_n Q_X11_ruleOf (k := 37) rfl rfl ?_
        refine y_imul Q_X11_ruleOf (k := 38) rfl ?_
        refine y_isub Q_X11_ruleOf (k := 39) rfl ?_
        exact y_iret Q_X11_ruleOf (k := 40) rfl rfl (zPq_i ⟨by rw [← hfs, fsF, if_pos (he4 (by omega))]; congr 4; omega, hE⟩)
      · refine z_aload_n Q_X11_ruleOf (k := 23) rfl rfl ?_
        refine z_aload_n Q_X11_ruleOf (k := 24) rfl rfl ?_
        refine z_getR Q_X11_ruleOf (k := 25) rfl F_X11_29 rfl (n_ hS rfl) (k_602 hS) (r_602_6 hS) ?_
        refine z_iload_n Q_X11_ruleOf (k := 26) rfl rfl ?_
        refine y_ialdN Q_X11_ruleOf (k := 27) rfl (n_ hS rfl) (k_608 hS) (z := ((12 * l + i : Nat) : Int)) (j := (12 * l + i)) (by omega) (by omega) (by decide) ?_
        refine y_as (y := ((V0 608 (12 * l + i)).toNat : Int)) (by omega) ?_
        refine z_aload_n Q_X11_ruleOf (k := 28) rfl rfl ?_
        refine z_getR Q_X11_ruleOf (k := 29) rfl F_X11_32 rfl (n_ hS rfl) (k_602 hS) (r_602_7 hS) ?_
        refine z_iload_n Q_X11_ruleOf (k := 30) rfl rfl ?_
        refine y_ialdN Q_X11_ruleOf (k := 31) rfl (n_ hS rfl) (k_609 hS) (z := ((12 * l + i : Nat) : Int)) (j := (12 * l + i)) (by omega) (by omega) (by decide) ?_
        refine y_as (y := (((V0 608 (12 * l + i)).toNat + (V0 609 (12 * l + i) - V0 608 (12 * l + i)).toNat : Nat) : Int)) (by omega) ?_
        refine z_iload_n Q_X11_ruleOf (k := 32) rfl rfl ?_
        obtain ⟨r, hr1, hr2, hr3⟩ := he5 (by rw [← hE 608 _ (by decide), ← hE 609 _ (by decide)]; exact c32) (V 615)
        rw [show V0 604 = V 604 from funext fun j => (hE 604 j (by decide)).symm, show V0 605 = V 605 from funext fun j => (hE 605 j (by decide)).symm, show V0 614 = V 614 from funext fun j => (hE 614 j (by decide)).symm] at hr1
        have hz4 : ∀ j, zr (V 604 j) ∧ zr (V 605 j) ∧ zr (V 614 j) := fun j => by rw [hE 604 j (by decide), hE 605 j (by decide), hE 614 j (by decide)]; exact hcz j
        refine v_callV3 Q_X11_ruleOf (k := 33) rfl rfl K_X11_isSo V_X11_isSo L_X11_203 (n_ hS rfl) (k_602 hS) (by decide) (Nat.le_of_ble_eq_true rfl) rfl (Nat.zero_le _) (Nat.zero_le _) (c_isSo (a0 := (V0 608 (12 * l + i)).toNat) (m := (V0 609 (12 * l + i) - V0 608 (12 * l + i)).toNat) d hS (by omega) hw hz4 hr2 hr1) (fun v49 V49 p49 => ?_)
        obtain ⟨rfl, -, hE49⟩ := p49
        refine y_if_eq 62 Q_X11_ruleOf (k := 34) rfl (by decide) (by split <;> exact ⟨by decide, by decide⟩) (fun c52 => ?_) (fun c52 => ?_)
        · refine y_iinc (L' := [some (.ref 602), some (.int (iI ((l : Int)))), some (.int (iI ((world : Int)))), some (.int (iI (((12 * l + i : Nat) : Int) + 1)))]) Q_X11_ruleOf (k := 41) rfl (by decide) rfl rfl ?_
          refine z_goto (tgt := 5) Q_X11_ruleOf (k := 42) rfl (by decide) ?_
          have hnb : ¬ ev i = true := fun hb => by rw [if_pos (hr3.mpr hb)] at c52; exact absurd c52 (by decide)
          refine y_fg ?_ (ih m (i + 1) V49 (fun a j h => by rw [hE49 a j h]; exact hE a j h) (by omega) (by rw [← hfs, fsF, if_neg hnb]) (by omega))
          rw [show (((12 * l + i : Nat) : Int) + 1) = ((12 * l + (i + 1) : Nat) : Int) by omega]; simp [zsb]
        · refine z_iload_n Q_X11_ruleOf (k := 35) rfl rfl ?_
          refine y_bipush Q_X11_ruleOf (k := 36) rfl (by decide) ?_
          refine z_iload_n Q_X11_ruleOf (k := 37) rfl rfl ?_
          refine y_imul Q_X11_ruleOf (k := 38) rfl ?_
          refine y_isub Q_X11_ruleOf (k := 39) rfl ?_
          exact y_iret Q_X11_ruleOf (k := 40) rfl rfl (zPq_i ⟨by rw [← hfs, fsF, if_pos (hr3.mp (by by_cases hx : r.1 0 = 1; exact hx; rw [if_neg hx] at c52; exact absurd rfl c52))]; congr 4; omega, (fun a j h => by rw [hE49 a j h]; exact hE a j h)⟩)
set_option maxHeartbeats 4000000 in
set_option maxRecDepth 20000 in
theorem c_ruleOf {S : zS} {V0 : Nat → Nat → Int} {J : zJ} (d : Nat) (hS : zSh S) {l q world : Nat} (hl : l < 3) (hq : q ≤ 12) (hw : world < 1024) (hcz : ∀ j, zr (V0 604 j) ∧ zr (V0 605 j) ∧ zr (V0 614 j)) (hrl : V0 610 l = (q : Int)) {ev : Nat → Bool} (hev : ∀ i, i < q → evOk (V0 604) (V0 605) (V0 614) world (V0 608 (12 * l + i)) (V0 609 (12 * l + i)) (ev i)) : Z M_X11_ruleOf (d + 1) 0 0 0 [some (.ref 602), some (.int (iI ((l : Int)))), some (.int (iI ((world : Int)))), none] [] S (zi V0) J (zPq S J (fun v V' => v = some (.int (iI (fsF ev 0 q))) ∧ (∀ a j, a ≠ 615 → V' a j = V0 a j))) := by
  refine y_bipush Q_X11_ruleOf (k := 0) rfl (by decide) ?_
  refine z_iload_n Q_X11_ruleOf (k := 1) rfl rfl ?_
  refine y_imul Q_X11_ruleOf (k := 2) rfl ?_
  refine y_istore_n (L' := [some (.ref 602), some (.int (iI ((l : Int)))), some (.int (iI ((world : Int)))), some (.int (iI ((12 * (l : Int)))))]) Q_X11_ruleOf (k := 3) rfl (by decide) rfl ?_
  refine y_loc ?_ (lp_ruleOf d hS hl hq hw hcz hrl hev (q + 1) q 0 V0 (fun _ _ _ => rfl) (by omega) rfl (by omega))
  simp
