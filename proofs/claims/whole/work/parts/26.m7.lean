/-! the reference: whose it is in each world -/
def whR (wh : Nat → Int) (l : Nat) (r : Int) : Int := if r = -1 then 1 else wh (12 * l + r.toNat)
def crR (cr : Nat → Int) (l : Nat) (r : Int) : Int := if r = -1 then 0 else cr (12 * l + r.toNat)
/-- the rules of a law, by names nm: what each says in each world -/
def rlOk (V : Nat → Nat → Int) (nm : Nat → Int) (l q : Nat) (ev : Nat → Nat → Bool) : Prop := ∀ v : Nat, v < 1024 → ∀ i : Nat, i < q → evOk (V 604) (V 605) nm v (V 608 (12 * l + i)) (V 609 (12 * l + i)) (ev v i)
theorem evOk_nm {code cn nm nm' : Nat → Int} (h : ∀ j, j < 10 → nm j = nm' j) {v : Nat} {a b : Int} {x : Bool} (k : evOk code cn nm v a b x) : evOk code cn nm' v a b x := by
  obtain ⟨k1, k2, k3, k4, k5⟩ := k
  refine ⟨k1, k2, k3, k4, fun hne s => ?_⟩
  obtain ⟨r, h1, h2⟩ := k5 hne s
  exact ⟨r, by rw [isoN_nm (nm' := nm) (fun j hj => (h j hj).symm)]; exact h1, h2⟩
set_option maxHeartbeats 4000000 in
set_option maxRecDepth 20000 in
theorem c_whoIn {S : zS} {V0 : Nat → Nat → Int} {J : zJ} (d : Nat) (hS : zSh S) {l q world : Nat} (hl : l < 3) (hq : q ≤ 12) (hw : world < 1024) (hV : ∀ a j, zr (V0 a j)) (hrl : V0 610 l = (q : Int)) {ev : Nat → Bool} (hev : ∀ i, i < q → evOk (V0 604) (V0 605) (V0 614) world (V0 608 (12 * l + i)) (V0 609 (12 * l + i)) (ev i)) : Z M_X11_whoIn (d + 2) 0 0 0 [some (.ref 602), some (.int (iI ((l : Int)))), some (.int (iI ((world : Int)))), none] [] S (zi V0) J (zPq S J (fun v V' => v = some (.int (iI (whR (V0 606) l (fsF ev 0 q)))) ∧ (∀ a j, a ≠ 615 → V' a j = V0 a j))) := by
  refine z_aload_n Q_X11_whoIn (k := 0) rfl rfl ?_
  refine z_iload_n Q_X11_whoIn (k := 1) rfl rfl ?_
  refine z_iload_n Q_X11_whoIn (k := 2) rfl rfl ?_
  refine v_callV2 Q_X11_whoIn (k := 3) rfl rfl K_X11_ruleOf V_X11_ruleOf L_X11_254 (n_ hS rfl) (k_602 hS) (by decide) (Nat.le_of_ble_eq_true rfl) rfl (Nat.zero_le _) (Nat.zero_le _) (c_ruleOf d hS hl hq hw (fun j => ⟨hV _ _, hV _ _, hV _ _⟩) hrl hev) (fun v3 V3 p3 => ?_)
  obtain ⟨rfl, hE3⟩ := p3
  have hb := fsF_b ev q 0
  refine y_istore_n (L' := [some (.ref 602), some (.int (iI ((l : Int)))), some (.int (iI ((world : Int)))), some (.int (iI (fsF ev 0 q)))]) Q_X11_whoIn (k := 4) rfl (by decide) rfl ?_
  refine z_iload_n Q_X11_whoIn (k := 5) rfl rfl ?_
  refine y_iconst Q_X11_whoIn (k := 6) rfl ?_
  refine y_icmp_ne 16 Q_X11_whoIn (k := 7) rfl (by decide) ⟨by omega, by omega⟩ ⟨by decide, by decide⟩ (fun c9 => ?_) (fun c9 => ?_)
  · refine z_aload_n Q_X11_whoIn (k := 10) rfl rfl ?_
    refine z_getR Q_X11_whoIn (k := 11) rfl F_X11_23 rfl (n_ hS rfl) (k_602 hS) (r_602_4 hS) ?_
    refine y_bipush Q_X11_whoIn (k := 12) rfl (by decide) ?_
    refine z_iload_n Q_X11_whoIn (k := 13) rfl rfl ?_
    refine y_imul Q_X11_whoIn (k := 14) rfl ?_
    refine z_iload_n Q_X11_whoIn (k := 15) rfl rfl ?_
    refine y_iadd Q_X11_whoIn (k := 16) rfl ?_
    refine y_iald Q_X11_whoIn (k := 17) rfl (n_ hS rfl) (k_606 hS) (by omega) (by omega) (by decide) ?_
    exact y_iret Q_X11_whoIn (k := 18) rfl rfl (zPq_i ⟨by rw [whR, if_neg c9, hE3 606 _ (by decide), show (((12 * (l : Int)) + fsF ev 0 q)).toNat = 12 * l + (fsF ev 0 q).toNat by omega], hE3⟩)
  · refine y_iconst Q_X11_whoIn (k := 8) rfl ?_
    refine z_goto (tgt := 27) Q_X11_whoIn (k := 9) rfl (by decide) ?_
    exact y_iret Q_X11_whoIn (k := 18) rfl rfl (zPq_i ⟨by rw [whR, if_pos (by omega)], hE3⟩)
def obF (w : Nat → Int) : Nat → Int
  | 0 => 0
  | k + 1 => zor (obF w k) (if w k = 2 then zshl 1 (k : Int) else 0)
set_option maxHeartbeats 4000000 in
set_option maxRecDepth 20000 in
theorem lp_openBits {S : zS} {V : Nat → Nat → Int} {J : zJ} (d : Nat) (hS : zSh S) (hV : ∀ a j, zr (V a j)) : ∀ (f : Nat) (k : Nat), k ≤ 10 → 10 - k < f → Z M_X11_openBits d 0 0 4 [some (.ref 602), some (.int (iI (obF (V 603) k))), some (.int (iI ((k : Int))))] [] S (zi V) J (zRt (some (.int (iI (obF (V 603) 10)))) S (zi V) J) := by
  intro f
  induction f with
  | zero => intro k hk hf; omega
  | succ f ih =>
    intro k hk hf
    refine z_iload_n Q_X11_openBits (k := 4) rfl rfl ?_
    refine y_bipush Q_X11_openBits (k := 5) rfl (by decide) ?_
    refine y_icmp_ge 38 Q_X11_openBits (k := 6) rfl (by decide) ⟨by omega, by omega⟩ ⟨by decide, by decide⟩ (fun c7 => ?_) (fun c7 => ?_)
    · refine z_iload_n Q_X11_openBits (k := 25) rfl rfl ?_
      exact y_iret Q_X11_openBits (k := 26) rfl rfl (by rw [show k = 10 by omega]; exact zRt_i _ _ _ _)
    · refine z_iload_n Q_X11_openBits (k := 7) rfl rfl ?_
      refine z_aload_n Q_X11_openBits (k := 8) rfl rfl ?_
      refine z_getR Q_X11_openBits (k := 9) rfl F_X11_13 rfl (n_ hS rfl) (k_602 hS) (r_602_1 hS) ?_
      refine y_iconst Q_X11_openBits (k := 10) rfl ?_
      refine z_iload_n Q_X11_openBits (k := 11) rfl rfl ?_
      refine y_iadd Q_X11_openBits (k := 12) rfl ?_
      refine y_ialdN Q_X11_openBits (k := 13) rfl (n_ hS rfl) (k_603 hS) (z := (0 + (k : Int))) (j := (0 + k)) (by omega) (by omega) (by decide) ?_
      refine y_iconst Q_X11_openBits (k := 14) rfl ?_
      refine y_icmp_ne 29 Q_X11_openBits (k := 15) rfl (by decide) (hV _ _) ⟨by decide, by decide⟩ (fun c20 => ?_) (fun c20 => ?_)
      · refine y_iconst Q_X11_openBits (k := 20) rfl ?_
        refine y_ior Q_X11_openBits (k := 21) rfl ?_
        refine y_istore_n (L' := [some (.ref 602), some (.int (iI (zor (obF (V 603) k) (0)))), some (.int (iI ((k : Int))))]) Q_X11_openBits (k := 22) rfl (by decide) rfl ?_
        refine y_iinc (L' := [some (.ref 602), some (.int (iI (zor (obF (V 603) k) (0)))), some (.int (iI ((k : Int) + 1)))]) Q_X11_openBits (k := 23) rfl (by decide) rfl rfl ?_
        refine z_goto (tgt := 4) Q_X11_openBits (k := 24) rfl (by decide) ?_
        refine y_fg ?_ (ih (k + 1) (by omega) (by omega))
        exact zsb_c rfl (zsb_c (zie (by rw [obF]; rw [Nat.zero_add] at c20; first | rw [if_pos c20] | rw [if_neg c20])) (zsb_c (zie (by omega)) zsb_e))
      · refine y_iconst Q_X11_openBits (k := 16) rfl ?_
        refine z_iload_n Q_X11_openBits (k := 17) rfl rfl ?_
        refine y_ishl Q_X11_openBits (k := 18) rfl ?_
        refine z_goto (tgt := 30) Q_X11_openBits (k := 19) rfl (by decide) ?_
        refine y_ior Q_X11_openBits (k := 21) rfl ?_
        refine y_istore_n (L' := [some (.ref 602), some (.int (iI (zor (obF (V 603) k) (zshl (1) ((k : Int)))))), some (.int (iI ((k : Int))))]) Q_X11_openBits (k := 22) rfl (by decide) rfl ?_
        refine y_iinc (L' := [some (.ref 602), some (.int (iI (zor (obF (V 603) k) (zshl (1) ((k : Int)))))), some (.int (iI ((k : Int) + 1)))]) Q_X11_openBits (k := 23) rfl (by decide) rfl rfl ?_
        refine z_goto (tgt := 4) Q_X11_openBits (k := 24) rfl (by decide) ?_
        refine y_fg ?_ (ih (k + 1) (by omega) (by omega))
        exact zsb_c rfl (zsb_c (zie (by rw [obF]; rw [Nat.zero_add] at c20; first | rw [if_pos c20] | rw [if_neg c20])) (zsb_c (zie (by omega)) zsb_e))
set_option maxHeartbeats 4000000 in
set_option maxRecDepth 20000 in
theorem c_openBits {S : zS} {V : Nat → Nat → Int} {J : zJ} (d : Nat) (hS : zSh S) (hV : ∀ a j, zr (V a j)) : Z M_X11_openBits d 0 0 0 [some (.ref 602), none, none] [] S (zi V) J (zRt (some (.int (iI (obF (V 603) 10)))) S (zi V) J) := by
  refine y_iconst Q_X11_openBits (k := 0) rfl ?_
  refine y_istore_n (L' := [some (.ref 602), some (.int (iI (0))), none]) Q_X11_openBits (k := 1) rfl (by decide) rfl ?_
  refine y_iconst Q_X11_openBits (k := 2) rfl ?_
  refine y_istore_n (L' := [some (.ref 602), some (.int (iI (0))), some (.int (iI (0)))]) Q_X11_openBits (k := 3) rfl (by decide) rfl ?_
  exact lp_openBits d hS hV 11 0 (by omega) (by omega)
def lwF (b : Int) : Nat → Nat → Int
  | k, 0 => (k : Int)
  | k, m + 1 => if zand (zshr b (k : Int)) 1 = 0 then lwF b (k + 1) m else (k : Int)
set_option maxHeartbeats 4000000 in
set_option maxRecDepth 20000 in
theorem lp_lowest {S : zS} {V : Nat → Nat → Int} {J : zJ} {b : Int} (d : Nat) (n : Nat) (hn : n ≤ 30) (hb : ¬ zand (zshr b (n : Int)) 1 = 0) : ∀ (f : Nat) (k : Nat), k ≤ n → lwF b k (n - k) = lwF b 0 n → n - k < f → Z M_X11_lowest d 0 0 2 [some (.int (iI (b))), some (.int (iI ((k : Int))))] [] S (zi V) J (zRt (some (.int (iI (lwF b 0 n)))) S (zi V) J) := by
  intro f
  induction f with
  | zero => intro k hk hk2 hf; omega
  | succ f ih =>
    intro k hk hk2 hf
    refine z_iload_n Q_X11_lowest (k := 2) rfl rfl ?_
    refine z_iload_n Q_X11_lowest (k := 3) rfl rfl ?_
    refine y_ishr Q_X11_lowest (k := 4) rfl ?_
    refine y_iconst Q_X11_lowest (k := 5) rfl ?_
    refine y_iand Q_X11_lowest (k := 6) rfl ?_
    refine y_if_ne 16 Q_X11_lowest (k := 7) rfl (by decide) (zand_r _ _) (fun c7 => ?_) (fun c7 => ?_)
    · refine z_iload_n Q_X11_lowest (k := 10) rfl rfl ?_
      exact y_iret Q_X11_lowest (k := 11) rfl rfl (by rw [← hk2]; cases hm : n - k with | zero => exact zRt_i _ _ _ _ | succ m => rw [lwF, if_neg c7]; exact zRt_i _ _ _ _)
    · refine y_iinc (L' := [some (.int (iI (b))), some (.int (iI ((k : Int) + 1)))]) Q_X11_lowest (k := 8) rfl (by decide) rfl rfl ?_
      refine z_goto (tgt := 2) Q_X11_lowest (k := 9) rfl (by decide) ?_
      refine y_fg ?_ (ih (k + 1) (by rcases Nat.lt_or_ge k n with z | z; omega; rw [show k = n by omega] at c7; exact absurd c7 hb) ?_ (by omega))
      exact zsb_c rfl (zsb_c (zie (by omega)) zsb_e)
      rw [← hk2, show n - k = (n - (k + 1)) + 1 by rcases Nat.lt_or_ge k n with z | z; omega; rw [show k = n by omega] at c7; exact absurd c7 hb, lwF, if_pos c7]
set_option maxHeartbeats 4000000 in
set_option maxRecDepth 20000 in
theorem c_lowest {S : zS} {V : Nat → Nat → Int} {J : zJ} {b : Int} (d : Nat) (n : Nat) (hn : n ≤ 30) (hb : ¬ zand (zshr b (n : Int)) 1 = 0) : Z M_X11_lowest d 0 0 0 [some (.int (iI (b))), none] [] S (zi V) J (zRt (some (.int (iI (lwF b 0 n)))) S (zi V) J) := by
  refine y_iconst Q_X11_lowest (k := 0) rfl ?_
  refine y_istore_n (L' := [some (.int (iI (b))), some (.int (iI (0)))]) Q_X11_lowest (k := 1) rfl (by decide) rfl ?_
  exact lp_lowest d n hn hb (n + 1) 0 (by omega) rfl (by omega)
def mbF (wd : Nat → Bool) (wh : Nat → Int) : Nat → Int
  | 0 => 0
  | v + 1 => zor (mbF wd wh v) (if wd v = true then zshl 1 (wh v) else 0)
set_option maxHeartbeats 4000000 in
set_option maxRecDepth 20000 in
theorem lp_mayBits {S : zS} {V : Nat → Nat → Int} {J : zJ} (d : Nat) (hS : zSh S) (hV : ∀ a j, zr (V a j)) {wd : Nat → Bool} (hwd : ∀ u, u < 1024 → V 616 u = if wd u = true then 1 else 0) : ∀ (f : Nat) (k : Nat), k ≤ 1024 → 1024 - k < f → Z M_X11_mayBits d 0 0 4 [some (.ref 602), some (.int (iI (mbF wd (V 617) k))), some (.int (iI ((k : Int))))] [] S (zi V) J (zRt (some (.int (iI (mbF wd (V 617) 1024)))) S (zi V) J) := by
  intro f
  induction f with
  | zero => intro k hk hf; omega
  | succ f ih =>
    intro k hk hf
    refine z_iload_n Q_X11_mayBits (k := 4) rfl rfl ?_
    refine y_sipush Q_X11_mayBits (k := 5) rfl (by decide) ?_
    refine y_icmp_ge 41 Q_X11_mayBits (k := 6) rfl (by decide) ⟨by omega, by omega⟩ ⟨by decide, by decide⟩ (fun c8 => ?_) (fun c8 => ?_)
    · refine z_iload_n Q_X11_mayBits (k := 25) rfl rfl ?_
      exact y_iret Q_X11_mayBits (k := 26) rfl rfl (by rw [show k = 1024 by omega]; exact zRt_i _ _ _ _)
    · refine z_iload_n Q_X11_mayBits (k := 7) rfl rfl ?_
      refine z_aload_n Q_X11_mayBits (k := 8) rfl rfl ?_
      refine z_getR Q_X11_mayBits (k := 9) rfl F_X11_56 rfl (n_ hS rfl) (k_602 hS) (r_602_24 hS) ?_
      refine z_iload_n Q_X11_mayBits (k := 10) rfl rfl ?_
      refine y_zaldN Q_X11_mayBits (k := 11) rfl (n_ hS rfl) (k_616 hS) (z := (k : Int)) (j := k) (by omega) (by omega) (by decide) ?_
      refine y_if_eq 32 Q_X11_mayBits (k := 12) rfl (by decide) (hV _ _) (fun c18 => ?_) (fun c18 => ?_)
      · refine y_iconst Q_X11_mayBits (k := 20) rfl ?_
        refine y_ior Q_X11_mayBits (k := 21) rfl ?_
        refine y_istore_n (L' := [some (.ref 602), some (.int (iI (zor (mbF wd (V 617) k) (0)))), some (.int (iI ((k : Int))))]) Q_X11_mayBits (k := 22) rfl (by decide) rfl ?_
        refine y_iinc (L' := [some (.ref 602), some (.int (iI (zor (mbF wd (V 617) k) (0)))), some (.int (iI ((k : Int) + 1)))]) Q_X11_mayBits (k := 23) rfl (by decide) rfl rfl ?_
        refine z_goto (tgt := 4) Q_X11_mayBits (k := 24) rfl (by decide) ?_
        refine y_fg ?_ (ih (k + 1) (by omega) (by omega))
        have hk3 := hwd k (by omega)
        exact zsb_c rfl (zsb_c (zie (by rw [mbF]; cases hb : wd k <;> simp_all)) (zsb_c (zie (by omega)) zsb_e))
      · refine y_iconst Q_X11_mayBits (k := 13) rfl ?_
        refine z_aload_n Q_X11_mayBits (k := 14) rfl rfl ?_
        refine z_getR Q_X11_mayBits (k := 15) rfl F_X11_60 rfl (n_ hS rfl) (k_602 hS) (r_602_26 hS) ?_
        refine z_iload_n Q_X11_mayBits (k := 16) rfl rfl ?_
        refine y_ialdN Q_X11_mayBits (k := 17) rfl (n_ hS rfl) (k_617 hS) (z := (k : Int)) (j := k) (by omega) (by omega) (by decide) ?_
        refine y_ishl Q_X11_mayBits (k := 18) rfl ?_
        refine z_goto (tgt := 33) Q_X11_mayBits (k := 19) rfl (by decide) ?_
        refine y_ior Q_X11_mayBits (k := 21) rfl ?_
        refine y_istore_n (L' := [some (.ref 602), some (.int (iI (zor (mbF wd (V 617) k) (zshl (1) (V 617 (k)))))), some (.int (iI ((k : Int))))]) Q_X11_mayBits (k := 22) rfl (by decide) rfl ?_
        refine y_iinc (L' := [some (.ref 602), some (.int (iI (zor (mbF wd (V 617) k) (zshl (1) (V 617 (k)))))), some (.int (iI ((k : Int) + 1)))]) Q_X11_mayBits (k := 23) rfl (by decide) rfl rfl ?_
        refine z_goto (tgt := 4) Q_X11_mayBits (k := 24) rfl (by decide) ?_
        refine y_fg ?_ (ih (k + 1) (by omega) (by omega))
        have hk3 := hwd k (by omega)
        exact zsb_c rfl (zsb_c (zie (by rw [mbF]; cases hb : wd k <;> simp_all)) (zsb_c (zie (by omega)) zsb_e))
set_option maxHeartbeats 4000000 in
set_option maxRecDepth 20000 in
theorem c_mayBits {S : zS} {V : Nat → Nat → Int} {J : zJ} (d : Nat) (hS : zSh S) (hV : ∀ a j, zr (V a j)) {wd : Nat → Bool} (hwd : ∀ u, u < 1024 → V 616 u = if wd u = true then 1 else 0) : Z M_X11_mayBits d 0 0 0 [some (.ref 602), none, none] [] S (zi V) J (zRt (some (.int (iI (mbF wd (V 617) 1024)))) S (zi V) J) := by
  refine y_iconst Q_X11_mayBits (k := 0) rfl ?_
  refine y_istore_n (L' := [some (.ref 602), some (.int (iI (0))), none]) Q_X11_mayBits (k := 1) rfl (by decide) rfl ?_
  refine y_iconst Q_X11_mayBits (k := 2) rfl ?_
  refine y_istore_n (L' := [some (.ref 602), some (.int (iI (0))), some (.int (iI (0)))]) Q_X11_mayBits (k := 3) rfl (by decide) rfl ?_
  exact lp_mayBits d hS hV hwd 1025 0 (by omega) (by omega)
def wtF (w : Nat → Int) (v : Int) : Nat → Int64
  | 0 => 1
  | k + 1 => if w k = 2 then wtF w v k * (iI (if zand (zshr v (k : Int)) 1 = 1 then w (10 + k) else 10 - w (10 + k))).toInt64 else wtF w v k
set_option maxHeartbeats 4000000 in
set_option maxRecDepth 20000 in
theorem lp_weightOf {S : zS} {V : Nat → Nat → Int} {J : zJ} {v : Int} (d : Nat) (hS : zSh S) (hV : ∀ a j, zr (V a j)) : ∀ (f : Nat) (k : Nat), k ≤ 10 → 10 - k < f → Z M_X11_weightOf d 0 0 5 [some (.ref 602), some (.int (iI (v))), some (.long (wtF (V 603) v k)), none, some (.int (iI ((k : Int))))] [] S (zi V) J (zRt (some (.long (wtF (V 603) v 10))) S (zi V) J) := by
  intro f
  induction f with
  | zero => intro k hk hf; omega
  | succ f ih =>
    intro k hk hf
    refine z_iload Q_X11_weightOf (k := 4) rfl rfl ?_
    refine y_bipush Q_X11_weightOf (k := 5) rfl (by decide) ?_
    refine y_icmp_ge 72 Q_X11_weightOf (k := 6) rfl (by decide) ⟨by omega, by omega⟩ ⟨by decide, by decide⟩ (fun c9 => ?_) (fun c9 => ?_)
    · refine z_lload_n Q_X11_weightOf (k := 44) rfl rfl ?_
      exact z_lret Q_X11_weightOf (k := 45) rfl rfl (by rw [show k = 10 by omega]; exact zRt_i _ _ _ _)
    · refine z_aload_n Q_X11_weightOf (k := 7) rfl rfl ?_
      refine z_getR Q_X11_weightOf (k := 8) rfl F_X11_13 rfl (n_ hS rfl) (k_602 hS) (r_602_1 hS) ?_
      refine y_iconst Q_X11_weightOf (k := 9) rfl ?_
      refine z_iload Q_X11_weightOf (k := 10) rfl rfl ?_
      refine y_iadd Q_X11_weightOf (k := 11) rfl ?_
      refine y_ialdN Q_X11_weightOf (k := 12) rfl (n_ hS rfl) (k_603 hS) (z := (0 + (k : Int))) (j := (0 + k)) (by omega) (by omega) (by decide) ?_
      refine y_iconst Q_X11_weightOf (k := 13) rfl ?_
      refine y_icmp_ne 66 Q_X11_weightOf (k := 14) rfl (by decide) (hV _ _) ⟨by decide, by decide⟩ (fun c22 => ?_) (fun c22 => ?_)
      · refine y_iinc (L' := [some (.ref 602), some (.int (iI (v))), some (.long (wtF (V 603) v k)), none, some (.int (iI ((k : Int) + 1)))]) Q_X11_weightOf (k := 42) rfl (by decide) rfl rfl ?_
        refine z_goto (tgt := 5) Q_X11_weightOf (k := 43) rfl (by decide) ?_
        refine y_fg ?_ (ih (k + 1) (by omega) (by omega))
        rw [Nat.zero_add] at c22
        exact zsb_c rfl (zsb_c rfl (zsb_c (congrArg (fun z => some (Value.long z)) (by rw [wtF]; first | (rw [if_pos c22, if_pos c33]) | (rw [if_pos c22, if_neg c33]) | (rw [if_neg c22]))) (zsb_n (zsb_c (zie (by omega)) zsb_e))))
      · refine z_lload_n Q_X11_weightOf (k := 15) rfl rfl ?_
        refine z_iload_n Q_X11_weightOf (k := 16) rfl rfl ?_
        refine z_iload Q_X11_weightOf (k := 17) rfl rfl ?_
        refine y_ishr Q_X11_weightOf (k := 18) rfl ?_
        refine y_iconst Q_X11_weightOf (k := 19) rfl ?_
        refine y_iand Q_X11_weightOf (k := 20) rfl ?_
        refine y_iconst Q_X11_weightOf (k := 21) rfl ?_
        refine y_icmp_ne 50 Q_X11_weightOf (k := 22) rfl (by decide) (zand_r _ _) ⟨by decide, by decide⟩ (fun c33 => ?_) (fun c33 => ?_)
        · refine y_bipush Q_X11_weightOf (k := 31) rfl (by decide) ?_
          refine z_aload_n Q_X11_weightOf (k := 32) rfl rfl ?_
          refine z_getR Q_X11_weightOf (k := 33) rfl F_X11_13 rfl (n_ hS rfl) (k_602 hS) (r_602_1 hS) ?_
          refine y_bipush Q_X11_weightOf (k := 34) rfl (by decide) ?_
          refine z_iload Q_X11_weightOf (k := 35) rfl rfl ?_
          refine y_iadd Q_X11_weightOf (k := 36) rfl ?_
          refine y_ialdN Q_X11_weightOf (k := 37) rfl (n_ hS rfl) (k_603 hS) (z := (10 + (k : Int))) (j := (10 + k)) (by omega) (by omega) (by decide) ?_
          refine y_isub Q_X11_weightOf (k := 38) rfl ?_
          refine z_i2l Q_X11_weightOf (k := 39) rfl ?_
          refine z_lmul Q_X11_weightOf (k := 40) rfl ?_
          refine y_lstore_n (L' := [some (.ref 602), some (.int (iI (v))), some (.long ((wtF (V 603) v k * (iI ((10 - V 603 ((10 + k))))).toInt64))), none, some (.int (iI ((k : Int))))]) Q_X11_weightOf (k := 41) rfl (by decide) rfl ?_
          refine y_iinc (L' := [some (.ref 602), some (.int (iI (v))), some (.long ((wtF (V 603) v k * (iI ((10 - V 603 ((10 + k))))).toInt64))), none, some (.int (iI ((k : Int) + 1)))]) Q_X11_weightOf (k := 42) rfl (by decide) rfl rfl ?_
          refine z_goto (tgt := 5) Q_X11_weightOf (k := 43) rfl (by decide) ?_
          refine y_fg ?_ (ih (k + 1) (by omega) (by omega))
          rw [Nat.zero_add] at c22
          exact zsb_c rfl (zsb_c rfl (zsb_c (congrArg (fun z => some (Value.long z)) (by rw [wtF]; first | (rw [if_pos c22, if_pos c33]) | (rw [if_pos c22, if_neg c33]) | (rw [if_neg c22]))) (zsb_n (zsb_c (zie (by omega)) zsb_e))))
        · refine z_aload_n Q_X11_weightOf (k := 23) rfl rfl ?_
          refine z_getR Q_X11_weightOf (k := 24) rfl F_X11_13 rfl (n_ hS rfl) (k_602 hS) (r_602_1 hS) ?_
          refine y_bipush Q_X11_weightOf (k := 25) rfl (by decide) ?_
          refine z_iload Q_X11_weightOf (k := 26) rfl rfl ?_
          refine y_iadd Q_X11_weightOf (k := 27) rfl ?_
          refine y_ialdN Q_X11_weightOf (k := 28) rfl (n_ hS rfl) (k_603 hS) (z := (10 + (k : Int))) (j := (10 + k)) (by omega) (by omega) (by decide) ?_
          refine z_i2l Q_X11_weightOf (k := 29) rfl ?_
          refine z_goto (tgt := 64) Q_X11_weightOf (k := 30) rfl (by decide) ?_
          refine z_lmul Q_X11_weightOf (k := 40) rfl ?_
          refine y_lstore_n (L' := [some (.ref 602), some (.int (iI (v))), some (.long ((wtF (V 603) v k * (iI (V 603 ((10 + k)))).toInt64))), none, some (.int (iI ((k : Int))))]) Q_X11_weightOf (k := 41) rfl (by decide) rfl ?_
          refine y_iinc (L' := [some (.ref 602), some (.int (iI (v))), some (.long ((wtF (V 603) v k * (iI (V 603 ((10 + k)))).toInt64))), none, some (.int (iI ((k : Int) + 1)))]) Q_X11_weightOf (k := 42) rfl (by decide) rfl rfl ?_
          refine z_goto (tgt := 5) Q_X11_weightOf (k := 43) rfl (by decide) ?_
          refine y_fg ?_ (ih (k + 1) (by omega) (by omega))
          rw [Nat.zero_add] at c22
          exact zsb_c rfl (zsb_c rfl (zsb_c (congrArg (fun z => some (Value.long z)) (by rw [wtF]; first | (rw [if_pos c22, if_pos c33]) | (rw [if_pos c22, if_neg c33]) | (rw [if_neg c22]))) (zsb_n (zsb_c (zie (by omega)) zsb_e))))
set_option maxHeartbeats 4000000 in
set_option maxRecDepth 20000 in
theorem c_weightOf {S : zS} {V : Nat → Nat → Int} {J : zJ} {v : Int} (d : Nat) (hS : zSh S) (hV : ∀ a j, zr (V a j)) : Z M_X11_weightOf d 0 0 0 [some (.ref 602), some (.int (iI (v))), none, none, none] [] S (zi V) J (zRt (some (.long (wtF (V 603) v 10))) S (zi V) J) := by
  refine z_lconst_ Q_X11_weightOf (k := 0) rfl (v := 1) rfl ?_
  refine y_lstore_n (L' := [some (.ref 602), some (.int (iI (v))), some (.long (1)), none, none]) Q_X11_weightOf (k := 1) rfl (by decide) rfl ?_
  refine y_iconst Q_X11_weightOf (k := 2) rfl ?_
  refine y_istore (L' := [some (.ref 602), some (.int (iI (v))), some (.long (1)), none, some (.int (iI (0)))]) Q_X11_weightOf (k := 3) rfl (by decide) rfl ?_
  exact lp_weightOf d hS hV 11 0 (by omega) (by omega)
