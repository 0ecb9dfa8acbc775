/-! the class: what is told, by numbers -/
def xhF (V : Nat → Nat → Int) (marks : Int) : Nat → Int
  | 0 => 0
  | k + 1 => if zand (V (22 + 2 * k) 1) marks = marks then xhF V marks k + 1 else xhF V marks k
theorem xhF_b (V : Nat → Nat → Int) (m : Int) : ∀ n, 0 ≤ xhF V m n ∧ xhF V m n ≤ n
  | 0 => by simp [xhF]
  | n + 1 => by
    have h := xhF_b V m n
    simp only [xhF]
    split <;> constructor <;> push_cast <;> omega
set_option maxHeartbeats 4000000 in
set_option maxRecDepth 20000 in
theorem lp_havers {S : zS} {V : Nat → Nat → Int} {J : zJ} (d : Nat) (hS : zSh S) (hV : ∀ a j, zr (V a j)) {n : Nat} (hn : V 12 8 = (n : Int)) (hn2 : n ≤ 16) {m : Int} (hm : zr m) : ∀ (f : Nat) (k : Nat), k ≤ n → n - k < f → Z M_X8_havers d 0 0 4 [some (.ref 12), some (.int (iI (m))), some (.int (iI (xhF V m k))), some (.int (iI ((k : Int))))] [] S (zi V) J (zRt (some (.int (iI (xhF V m n)))) S (zi V) J) := by
  intro f
  induction f with
  | zero => intro k hk hf; omega
  | succ f ih =>
    intro k hk hf
    refine z_iload_n Q_X8_havers (k := 4) rfl rfl ?_
    refine z_aload_n Q_X8_havers (k := 5) rfl rfl ?_
    refine y_getI Q_X8_havers (k := 6) rfl F_X8_65 rfl (n_ hS rfl) (k_12 hS) ?_
    refine y_as (y := (n : Int)) (hn) ?_
    refine y_icmp_ge 42 Q_X8_havers (k := 7) rfl (by decide) ⟨by omega, by omega⟩ ⟨by omega, by omega⟩ (fun c9 => ?_) (fun c9 => ?_)
    · refine z_iload_n Q_X8_havers (k := 23) rfl rfl ?_
      exact y_iret Q_X8_havers (k := 24) rfl rfl (by rw [show k = n by omega]; exact zRt_i _ _ _ _)
    · refine z_iload_n Q_X8_havers (k := 8) rfl rfl ?_
      refine y_bipush Q_X8_havers (k := 9) rfl (by decide) ?_
      refine y_icmp_ge 42 Q_X8_havers (k := 10) rfl (by decide) ⟨by omega, by omega⟩ ⟨by decide, by decide⟩ (fun c15 => ?_) (fun c15 => ?_)
      · refine z_iload_n Q_X8_havers (k := 23) rfl rfl ?_
        exact y_iret Q_X8_havers (k := 24) rfl rfl (by rw [show k = n by omega]; exact zRt_i _ _ _ _)
      · refine z_aload_n Q_X8_havers (k := 11) rfl rfl ?_
        refine z_getR Q_X8_havers (k := 12) rfl F_X8_30 rfl (n_ hS rfl) (k_12 hS) (r_12_7 hS) ?_
        refine z_iload_n Q_X8_havers (k := 13) rfl rfl ?_
        refine y_aaldN (t := 6) Q_X8_havers (k := 14) rfl (n_ hS rfl) (k_18 hS) (by decide) rfl (z := (k : Int)) (j := k) (by omega) (by omega) (by decide) (r_person hS (by omega)) ?_
        refine y_getI Q_X8_havers (k := 15) rfl F_X8_162 rfl (n_person hS (by omega)) (k_person hS (by omega)) ?_
        refine z_iload_n Q_X8_havers (k := 16) rfl rfl ?_
        refine y_iand Q_X8_havers (k := 17) rfl ?_
        refine z_iload_n Q_X8_havers (k := 18) rfl rfl ?_
        refine y_icmp_ne 36 Q_X8_havers (k := 19) rfl (by decide) (zand_r _ _) hm (fun c30 => ?_) (fun c30 => ?_)
        · refine y_iinc (L' := [some (.ref 12), some (.int (iI (m))), some (.int (iI (xhF V m k))), some (.int (iI ((k : Int) + 1)))]) Q_X8_havers (k := 21) rfl (by decide) rfl rfl ?_
          refine z_goto (tgt := 4) Q_X8_havers (k := 22) rfl (by decide) ?_
          refine y_fg ?_ (ih (k + 1) (by omega) (by omega))
          exact zsb_c rfl (zsb_c rfl (zsb_c (zie (by rw [xhF]; first | rw [if_pos c30] | rw [if_neg c30])) (zsb_c (zie (by omega)) zsb_e)))
        · refine y_iinc (L' := [some (.ref 12), some (.int (iI (m))), some (.int (iI (xhF V m k + 1))), some (.int (iI ((k : Int))))]) Q_X8_havers (k := 20) rfl (by decide) rfl rfl ?_
          refine y_iinc (L' := [some (.ref 12), some (.int (iI (m))), some (.int (iI (xhF V m k + 1))), some (.int (iI ((k : Int) + 1)))]) Q_X8_havers (k := 21) rfl (by decide) rfl rfl ?_
          refine z_goto (tgt := 4) Q_X8_havers (k := 22) rfl (by decide) ?_
          refine y_fg ?_ (ih (k + 1) (by omega) (by omega))
          exact zsb_c rfl (zsb_c rfl (zsb_c (zie (by rw [xhF]; first | rw [if_pos c30] | rw [if_neg c30])) (zsb_c (zie (by omega)) zsb_e)))
set_option maxHeartbeats 4000000 in
set_option maxRecDepth 20000 in
theorem c_havers {S : zS} {V : Nat → Nat → Int} {J : zJ} (d : Nat) (hS : zSh S) (hV : ∀ a j, zr (V a j)) {n : Nat} (hn : V 12 8 = (n : Int)) (hn2 : n ≤ 16) {m : Int} (hm : zr m) : Z M_X8_havers d 0 0 0 [some (.ref 12), some (.int (iI (m))), none, none] [] S (zi V) J (zRt (some (.int (iI (xhF V m n)))) S (zi V) J) := by
  refine y_iconst Q_X8_havers (k := 0) rfl ?_
  refine y_istore_n (L' := [some (.ref 12), some (.int (iI (m))), some (.int (iI (0))), none]) Q_X8_havers (k := 1) rfl (by decide) rfl ?_
  refine y_iconst Q_X8_havers (k := 2) rfl ?_
  refine y_istore_n (L' := [some (.ref 12), some (.int (iI (m))), some (.int (iI (0))), some (.int (iI (0)))]) Q_X8_havers (k := 3) rfl (by decide) rfl ?_
  exact lp_havers d hS hV hn hn2 hm (n + 1) 0 (by omega) (by omega)
def xcF (V : Nat → Nat → Int) (f : Int) : Nat → Int
  | 0 => 0
  | k + 1 => if V (86 + 1 * k) 0 = f then xcF V f k + 1 else xcF V f k
set_option maxHeartbeats 4000000 in
set_option maxRecDepth 20000 in
theorem lp_claimsOf {S : zS} {V : Nat → Nat → Int} {J : zJ} (d : Nat) (hS : zSh S) (hV : ∀ a j, zr (V a j)) {n : Nat} (hn : V 12 12 = (n : Int)) (hn2 : n ≤ 24) {f : Int} (hf : zr f) : ∀ (f : Nat) (k : Nat), k ≤ n → n - k < f → Z M_X8_claimsOf d 0 0 4 [some (.ref 12), some (.int (iI (f))), some (.int (iI (xcF V f k))), some (.int (iI ((k : Int))))] [] S (zi V) J (zRt (some (.int (iI (xcF V f n)))) S (zi V) J) := by
  intro f
  induction f with
  | zero => intro k hk hf; omega
  | succ f ih =>
    intro k hk hf
    refine z_iload_n Q_X8_claimsOf (k := 4) rfl rfl ?_
    refine z_aload_n Q_X8_claimsOf (k := 5) rfl rfl ?_
    refine y_getI Q_X8_claimsOf (k := 6) rfl F_X8_71 rfl (n_ hS rfl) (k_12 hS) ?_
    refine y_as (y := (n : Int)) (hn) ?_
    refine y_icmp_ge 40 Q_X8_claimsOf (k := 7) rfl (by decide) ⟨by omega, by omega⟩ ⟨by omega, by omega⟩ (fun c9 => ?_) (fun c9 => ?_)
    · refine z_iload_n Q_X8_claimsOf (k := 21) rfl rfl ?_
      exact y_iret Q_X8_claimsOf (k := 22) rfl rfl (by rw [show k = n by omega]; exact zRt_i _ _ _ _)
    · refine z_iload_n Q_X8_claimsOf (k := 8) rfl rfl ?_
      refine y_bipush Q_X8_claimsOf (k := 9) rfl (by decide) ?_
      refine y_icmp_ge 40 Q_X8_claimsOf (k := 10) rfl (by decide) ⟨by omega, by omega⟩ ⟨by decide, by decide⟩ (fun c15 => ?_) (fun c15 => ?_)
      · refine z_iload_n Q_X8_claimsOf (k := 21) rfl rfl ?_
        exact y_iret Q_X8_claimsOf (k := 22) rfl rfl (by rw [show k = n by omega]; exact zRt_i _ _ _ _)
      · refine z_aload_n Q_X8_claimsOf (k := 11) rfl rfl ?_
        refine z_getR Q_X8_claimsOf (k := 12) rfl F_X8_42 rfl (n_ hS rfl) (k_12 hS) (r_12_11 hS) ?_
        refine z_iload_n Q_X8_claimsOf (k := 13) rfl rfl ?_
        refine y_aaldN (t := 8) Q_X8_claimsOf (k := 14) rfl (n_ hS rfl) (k_20 hS) (by decide) rfl (z := (k : Int)) (j := k) (by omega) (by omega) (by decide) (r_claim hS (by omega)) ?_
        refine y_getI Q_X8_claimsOf (k := 15) rfl F_X8_90 rfl (n_claim hS (by omega)) (k_claim hS (by omega)) ?_
        refine z_iload_n Q_X8_claimsOf (k := 16) rfl rfl ?_
        refine y_icmp_ne 34 Q_X8_claimsOf (k := 17) rfl (by decide) (hV _ _) hf (fun c28 => ?_) (fun c28 => ?_)
        · refine y_iinc (L' := [some (.ref 12), some (.int (iI (f))), some (.int (iI (xcF V f k))), some (.int (iI ((k : Int) + 1)))]) Q_X8_claimsOf (k := 19) rfl (by decide) rfl rfl ?_
          refine z_goto (tgt := 4) Q_X8_claimsOf (k := 20) rfl (by decide) ?_
          refine y_fg ?_ (ih (k + 1) (by omega) (by omega))
          exact zsb_c rfl (zsb_c rfl (zsb_c (zie (by rw [xcF]; first | rw [if_pos c28] | rw [if_neg c28])) (zsb_c (zie (by omega)) zsb_e)))
        · refine y_iinc (L' := [some (.ref 12), some (.int (iI (f))), some (.int (iI (xcF V f k + 1))), some (.int (iI ((k : Int))))]) Q_X8_claimsOf (k := 18) rfl (by decide) rfl rfl ?_
          refine y_iinc (L' := [some (.ref 12), some (.int (iI (f))), some (.int (iI (xcF V f k + 1))), some (.int (iI ((k : Int) + 1)))]) Q_X8_claimsOf (k := 19) rfl (by decide) rfl rfl ?_
          refine z_goto (tgt := 4) Q_X8_claimsOf (k := 20) rfl (by decide) ?_
          refine y_fg ?_ (ih (k + 1) (by omega) (by omega))
          exact zsb_c rfl (zsb_c rfl (zsb_c (zie (by rw [xcF]; first | rw [if_pos c28] | rw [if_neg c28])) (zsb_c (zie (by omega)) zsb_e)))
set_option maxHeartbeats 4000000 in
set_option maxRecDepth 20000 in
theorem c_claimsOf {S : zS} {V : Nat → Nat → Int} {J : zJ} (d : Nat) (hS : zSh S) (hV : ∀ a j, zr (V a j)) {n : Nat} (hn : V 12 12 = (n : Int)) (hn2 : n ≤ 24) {f : Int} (hf : zr f) : Z M_X8_claimsOf d 0 0 0 [some (.ref 12), some (.int (iI (f))), none, none] [] S (zi V) J (zRt (some (.int (iI (xcF V f n)))) S (zi V) J) := by
  refine y_iconst Q_X8_claimsOf (k := 0) rfl ?_
  refine y_istore_n (L' := [some (.ref 12), some (.int (iI (f))), some (.int (iI (0))), none]) Q_X8_claimsOf (k := 1) rfl (by decide) rfl ?_
  refine y_iconst Q_X8_claimsOf (k := 2) rfl ?_
  refine y_istore_n (L' := [some (.ref 12), some (.int (iI (f))), some (.int (iI (0))), some (.int (iI (0)))]) Q_X8_claimsOf (k := 3) rfl (by decide) rfl ?_
  exact lp_claimsOf d hS hV hn hn2 hf (n + 1) 0 (by omega) (by omega)
def xaF (V : Nat → Nat → Int) (pl : Nat) : Nat → Int
  | 0 => 0
  | k + 1 => xaF V pl k + V (22 + 2 * k + 1) pl
def xoF (V : Nat → Nat → Int) (pl : Nat) : Nat → Int
  | 0 => 0
  | k + 1 => xoF V pl k + if V (22 + 2 * k) 0 = 0 then V (22 + 2 * k + 1) pl else 0
def xoR (V : Nat → Nat → Int) (pl n : Nat) : Int := if 0 < xaF V pl n then (xoF V pl n * 100).tdiv (xaF V pl n) else 0
theorem xaF_b {V : Nat → Nat → Int} {pl : Nat} (h : ∀ p, p < 16 → 0 ≤ V (22 + 2 * p + 1) pl ∧ V (22 + 2 * p + 1) pl ≤ 99) : ∀ n, n ≤ 16 → 0 ≤ xaF V pl n ∧ xaF V pl n ≤ 99 * n ∧ 0 ≤ xoF V pl n ∧ xoF V pl n ≤ 99 * n
  | 0, _ => by simp [xaF, xoF]
  | n + 1, hn => by
    have h1 := xaF_b h n (by omega)
    have h2 := h n (by omega)
    simp only [xaF, xoF]
    split <;> refine ⟨?_, ?_, ?_, ?_⟩ <;> push_cast <;> omega
set_option maxHeartbeats 4000000 in
set_option maxRecDepth 20000 in
theorem lp_own {S : zS} {V : Nat → Nat → Int} {J : zJ} (d : Nat) (hS : zSh S) (hV : ∀ a j, zr (V a j)) {n : Nat} (hn : V 12 8 = (n : Int)) (hn2 : n ≤ 16) {pl : Nat} (hpl : pl < 4) (hp : ∀ p, p < 16 → 0 ≤ V (22 + 2 * p + 1) pl ∧ V (22 + 2 * p + 1) pl ≤ 99) : ∀ (f : Nat) (k : Nat), k ≤ n → n - k < f → Z M_X8_ownHundredths d 0 0 7 [some (.ref 12), some (.int (iI ((pl : Int)))), some (.int (iI (xaF V pl k))), some (.int (iI (xoF V pl k))), some (.int (iI ((k : Int)))), none] [] S (zi V) J (zRt (some (.int (iI (xoR V pl n)))) S (zi V) J) := by
  intro f
  induction f with
  | zero => intro k hk hf; omega
  | succ f ih =>
    intro k hk hf
    have hb := xaF_b hp k (by omega)
    refine z_iload Q_X8_ownHundredths (k := 6) rfl rfl ?_
    refine z_aload_n Q_X8_ownHundredths (k := 7) rfl rfl ?_
    refine y_getI Q_X8_ownHundredths (k := 8) rfl F_X8_65 rfl (n_ hS rfl) (k_12 hS) ?_
    refine y_as (y := (n : Int)) (hn) ?_
    refine y_icmp_ge 83 Q_X8_ownHundredths (k := 9) rfl (by decide) ⟨by omega, by omega⟩ ⟨by omega, by omega⟩ (fun c13 => ?_) (fun c13 => ?_)
    · refine z_iload_n Q_X8_ownHundredths (k := 46) rfl rfl ?_
      refine y_if_le 96 Q_X8_ownHundredths (k := 47) rfl (by decide) ⟨by omega, by omega⟩ (fun c84 => ?_) (fun c84 => ?_)
      · refine y_iconst Q_X8_ownHundredths (k := 54) rfl ?_
        exact y_iret Q_X8_ownHundredths (k := 55) rfl rfl (by rw [xoR, if_neg (by rw [← show k = n by omega]; omega)]; exact zRt_i _ _ _ _)
      · refine z_iload_n Q_X8_ownHundredths (k := 48) rfl rfl ?_
        refine y_bipush Q_X8_ownHundredths (k := 49) rfl (by decide) ?_
        refine y_imul Q_X8_ownHundredths (k := 50) rfl ?_
        refine z_iload_n Q_X8_ownHundredths (k := 51) rfl rfl ?_
        refine y_idiv Q_X8_ownHundredths (k := 52) rfl ⟨by omega, by omega⟩ (by first | decide | omega) ⟨by omega, by omega⟩ ?_
        refine z_goto (tgt := 97) Q_X8_ownHundredths (k := 53) rfl (by decide) ?_
        exact y_iret Q_X8_ownHundredths (k := 55) rfl rfl (by rw [xoR, if_pos (by rw [← show k = n by omega]; omega), ← show k = n by omega]; exact zRt_i _ _ _ _)
    · refine z_iload Q_X8_ownHundredths (k := 10) rfl rfl ?_
      refine y_bipush Q_X8_ownHundredths (k := 11) rfl (by decide) ?_
      refine y_icmp_ge 83 Q_X8_ownHundredths (k := 12) rfl (by decide) ⟨by omega, by omega⟩ ⟨by decide, by decide⟩ (fun c20 => ?_) (fun c20 => ?_)
      · refine z_iload_n Q_X8_ownHundredths (k := 46) rfl rfl ?_
        refine y_if_le 96 Q_X8_ownHundredths (k := 47) rfl (by decide) ⟨by omega, by omega⟩ (fun c84 => ?_) (fun c84 => ?_)
        · refine y_iconst Q_X8_ownHundredths (k := 54) rfl ?_
          exact y_iret Q_X8_ownHundredths (k := 55) rfl rfl (by rw [xoR, if_neg (by rw [← show k = n by omega]; omega)]; exact zRt_i _ _ _ _)
        · refine z_iload_n Q_X8_ownHundredths (k := 48) rfl rfl ?_
          refine y_bipush Q_X8_ownHundredths (k := 49) rfl (by decide) ?_
          refine y_imul Q_X8_ownHundredths (k := 50) rfl ?_
          refine z_iload_n Q_X8_ownHundredths (k := 51) rfl rfl ?_
          refine y_idiv Q_X8_ownHundredths (k := 52) rfl ⟨by omega, by omega⟩ (by first | decide | omega) ⟨by omega, by omega⟩ ?_
          refine z_goto (tgt := 97) Q_X8_ownHundredths (k := 53) rfl (by decide) ?_
          exact y_iret Q_X8_ownHundredths (k := 55) rfl rfl (by rw [xoR, if_pos (by rw [← show k = n by omega]; omega), ← show k = n by omega]; exact zRt_i _ _ _ _)
      · refine z_iload_n Q_X8_ownHundredths (k := 13) rfl rfl ?_
        refine y_if_lt 47 Q_X8_ownHundredths (k := 14) rfl (by decide) ⟨by omega, by omega⟩ (fun c24 => ?_) (fun c24 => ?_)
        · exfalso; omega
        · refine z_iload_n Q_X8_ownHundredths (k := 15) rfl rfl ?_
          refine y_iconst Q_X8_ownHundredths (k := 16) rfl ?_
          refine y_icmp_ge 47 Q_X8_ownHundredths (k := 17) rfl (by decide) ⟨by omega, by omega⟩ ⟨by decide, by decide⟩ (fun c29 => ?_) (fun c29 => ?_)
          · exfalso; omega
          · refine z_aload_n Q_X8_ownHundredths (k := 18) rfl rfl ?_
            refine z_getR Q_X8_ownHundredths (k := 19) rfl F_X8_30 rfl (n_ hS rfl) (k_12 hS) (r_12_7 hS) ?_
            refine z_iload Q_X8_ownHundredths (k := 20) rfl rfl ?_
            refine y_aaldN (t := 6) Q_X8_ownHundredths (k := 21) rfl (n_ hS rfl) (k_18 hS) (by decide) rfl (z := (k : Int)) (j := k) (by omega) (by omega) (by decide) (r_person hS (by omega)) ?_
            refine z_getR Q_X8_ownHundredths (k := 22) rfl F_X8_156 rfl (n_person hS (by omega)) (k_person hS (by omega)) (r_passes hS (by omega)) ?_
            refine z_iload_n Q_X8_ownHundredths (k := 23) rfl rfl ?_
            refine y_ialdN Q_X8_ownHundredths (k := 24) rfl (n_passes hS (by omega)) (k_passes hS (by omega)) (z := (pl : Int)) (j := pl) (by omega) (by omega) (by decide) ?_
            refine z_goto (tgt := 48) Q_X8_ownHundredths (k := 25) rfl (by decide) ?_
            refine y_istore (L' := [some (.ref 12), some (.int (iI ((pl : Int)))), some (.int (iI (xaF V pl k))), some (.int (iI (xoF V pl k))), some (.int (iI ((k : Int)))), some (.int (iI (V (22 + 2 * k + 1) (pl))))]) Q_X8_ownHundredths (k := 27) rfl (by decide) rfl ?_
            refine z_iload_n Q_X8_ownHundredths (k := 28) rfl rfl ?_
            refine z_iload Q_X8_ownHundredths (k := 29) rfl rfl ?_
            refine y_iadd Q_X8_ownHundredths (k := 30) rfl ?_
            refine y_istore_n (L' := [some (.ref 12), some (.int (iI ((pl : Int)))), some (.int (iI ((xaF V pl k + V (22 + 2 * k + 1) (pl))))), some (.int (iI (xoF V pl k))), some (.int (iI ((k : Int)))), some (.int (iI (V (22 + 2 * k + 1) (pl))))]) Q_X8_ownHundredths (k := 31) rfl (by decide) rfl ?_
            refine z_iload_n Q_X8_ownHundredths (k := 32) rfl rfl ?_
            refine z_aload_n Q_X8_ownHundredths (k := 33) rfl rfl ?_
            refine z_getR Q_X8_ownHundredths (k := 34) rfl F_X8_30 rfl (n_ hS rfl) (k_12 hS) (r_12_7 hS) ?_
            refine z_iload Q_X8_ownHundredths (k := 35) rfl rfl ?_
            refine y_aaldN (t := 6) Q_X8_ownHundredths (k := 36) rfl (n_ hS rfl) (k_18 hS) (by decide) rfl (z := (k : Int)) (j := k) (by omega) (by omega) (by decide) (r_person hS (by omega)) ?_
            refine y_getI Q_X8_ownHundredths (k := 37) rfl F_X8_159 rfl (n_person hS (by omega)) (k_person hS (by omega)) ?_
            refine y_if_ne 74 Q_X8_ownHundredths (k := 38) rfl (by decide) (hV _ _) (fun c66 => ?_) (fun c66 => ?_)
            · refine y_iconst Q_X8_ownHundredths (k := 41) rfl ?_
              refine y_iadd Q_X8_ownHundredths (k := 42) rfl ?_
              refine y_istore_n (L' := [some (.ref 12), some (.int (iI ((pl : Int)))), some (.int (iI ((xaF V pl k + V (22 + 2 * k + 1) (pl))))), some (.int (iI ((xoF V pl k + 0)))), some (.int (iI ((k : Int)))), some (.int (iI (V (22 + 2 * k + 1) (pl))))]) Q_X8_ownHundredths (k := 43) rfl (by decide) rfl ?_
              refine y_iinc (L' := [some (.ref 12), some (.int (iI ((pl : Int)))), some (.int (iI ((xaF V pl k + V (22 + 2 * k + 1) (pl))))), some (.int (iI ((xoF V pl k + 0)))), some (.int (iI ((k : Int) + 1))), some (.int (iI (V (22 + 2 * k + 1) (pl))))]) Q_X8_ownHundredths (k := 44) rfl (by decide) rfl rfl ?_
              refine z_goto (tgt := 7) Q_X8_ownHundredths (k := 45) rfl (by decide) ?_
              refine y_fg ?_ (ih (k + 1) (by omega) (by omega))
              exact zsb_c rfl (zsb_c rfl (zsb_c rfl (zsb_c (zie (by rw [xoF]; first | rw [if_pos c66] | rw [if_neg c66])) (zsb_c (zie (by omega)) (zsb_n zsb_e)))))
            · refine z_iload Q_X8_ownHundredths (k := 39) rfl rfl ?_
              refine z_goto (tgt := 75) Q_X8_ownHundredths (k := 40) rfl (by decide) ?_
              refine y_iadd Q_X8_ownHundredths (k := 42) rfl ?_
              refine y_istore_n (L' := [some (.ref 12), some (.int (iI ((pl : Int)))), some (.int (iI ((xaF V pl k + V (22 + 2 * k + 1) (pl))))), some (.int (iI ((xoF V pl k + V (22 + 2 * k + 1) (pl))))), some (.int (iI ((k : Int)))), some (.int (iI (V (22 + 2 * k + 1) (pl))))]) Q_X8_ownHundredths (k := 43) rfl (by decide) rfl ?_
              refine y_iinc (L' := [some (.ref 12), some (.int (iI ((pl : Int)))), some (.int (iI ((xaF V pl k + V (22 + 2 * k + 1) (pl))))), some (.int (iI ((xoF V pl k + V (22 + 2 * k + 1) (pl))))), some (.int (iI ((k : Int) + 1))), some (.int (iI (V (22 + 2 * k + 1) (pl))))]) Q_X8_ownHundredths (k := 44) rfl (by decide) rfl rfl ?_
              refine z_goto (tgt := 7) Q_X8_ownHundredths (k := 45) rfl (by decide) ?_
              refine y_fg ?_ (ih (k + 1) (by omega) (by omega))
              exact zsb_c rfl (zsb_c rfl (zsb_c rfl (zsb_c (zie (by rw [xoF]; first | rw [if_pos c66] | rw [if_neg c66])) (zsb_c (zie (by omega)) (zsb_n zsb_e)))))
set_option maxHeartbeats 4000000 in
set_option maxRecDepth 20000 in
theorem c_own {S : zS} {V : Nat → Nat → Int} {J : zJ} (d : Nat) (hS : zSh S) (hV : ∀ a j, zr (V a j)) {n : Nat} (hn : V 12 8 = (n : Int)) (hn2 : n ≤ 16) {pl : Nat} (hpl : pl < 4) (hp : ∀ p, p < 16 → 0 ≤ V (22 + 2 * p + 1) pl ∧ V (22 + 2 * p + 1) pl ≤ 99) : Z M_X8_ownHundredths d 0 0 0 [some (.ref 12), some (.int (iI ((pl : Int)))), none, none, none, none] [] S (zi V) J (zRt (some (.int (iI (xoR V pl n)))) S (zi V) J) := by
  refine y_iconst Q_X8_ownHundredths (k := 0) rfl ?_
  refine y_istore_n (L' := [some (.ref 12), some (.int (iI ((pl : Int)))), some (.int (iI (0))), none, none, none]) Q_X8_ownHundredths (k := 1) rfl (by decide) rfl ?_
  refine y_iconst Q_X8_ownHundredths (k := 2) rfl ?_
  refine y_istore_n (L' := [some (.ref 12), some (.int (iI ((pl : Int)))), some (.int (iI (0))), some (.int (iI (0))), none, none]) Q_X8_ownHundredths (k := 3) rfl (by decide) rfl ?_
  refine y_iconst Q_X8_ownHundredths (k := 4) rfl ?_
  refine y_istore (L' := [some (.ref 12), some (.int (iI ((pl : Int)))), some (.int (iI (0))), some (.int (iI (0))), some (.int (iI (0))), none]) Q_X8_ownHundredths (k := 5) rfl (by decide) rfl ?_
  exact lp_own d hS hV hn hn2 hpl hp (n + 1) 0 (by omega) (by omega)
def xrF (V : Nat → Nat → Int) (m : Int) (n : Nat) : Nat → Int
  | 0 => 16
  | k + 1 => if zand (zshr m (k : Int)) 1 = 1 then min (xrF V m n k) (xhF V (zshl 1 (k : Int)) n) else xrF V m n k
theorem xrF_b (V : Nat → Nat → Int) (m : Int) {n : Nat} (hn : n ≤ 16) : ∀ k, 0 ≤ xrF V m n k ∧ xrF V m n k ≤ 16
  | 0 => by simp [xrF]
  | k + 1 => by
    have h := xrF_b V m hn k
    have h2 := xhF_b V (zshl 1 (k : Int)) n
    simp only [xrF]
    split <;> constructor <;> omega
set_option maxHeartbeats 4000000 in
set_option maxRecDepth 20000 in
theorem lp_rare {S : zS} {V : Nat → Nat → Int} {J : zJ} (d : Nat) (hS : zSh S) (hV : ∀ a j, zr (V a j)) {n : Nat} (hn : V 12 8 = (n : Int)) (hn2 : n ≤ 16) {m : Int} (hm : zr m) (hm0 : ¬ m = 0) : ∀ (f : Nat) (k : Nat), k ≤ 12 → 12 - k < f → Z M_X8_rareness (d + 1) 0 0 11 [some (.ref 12), some (.int (iI (m))), some (.int (iI (xrF V m n k))), some (.int (iI ((k : Int))))] [] S (zi V) J (zRt (some (.int (iI (if m = 0 then 0 else xrF V m n 12)))) S (zi V) J) := by
  intro f
  induction f with
  | zero => intro k hk hf; omega
  | succ f ih =>
    intro k hk hf
    have hb := xrF_b V m hn2 k
    refine z_iload_n Q_X8_rareness (k := 8) rfl rfl ?_
    refine y_bipush Q_X8_rareness (k := 9) rfl (by decide) ?_
    refine y_icmp_ge 44 Q_X8_rareness (k := 10) rfl (by decide) ⟨by omega, by omega⟩ ⟨by decide, by decide⟩ (fun c14 => ?_) (fun c14 => ?_)
    · refine z_iload_n Q_X8_rareness (k := 28) rfl rfl ?_
      exact y_iret Q_X8_rareness (k := 29) rfl rfl (by rw [if_neg hm0, show k = 12 by omega]; exact zRt_i _ _ _ _)
    · refine z_iload_n Q_X8_rareness (k := 11) rfl rfl ?_
      refine z_iload_n Q_X8_rareness (k := 12) rfl rfl ?_
      refine y_ishr Q_X8_rareness (k := 13) rfl ?_
      refine y_iconst Q_X8_rareness (k := 14) rfl ?_
      refine y_iand Q_X8_rareness (k := 15) rfl ?_
      refine y_iconst Q_X8_rareness (k := 16) rfl ?_
      refine y_icmp_ne 38 Q_X8_rareness (k := 17) rfl (by decide) (zand_r _ _) ⟨by decide, by decide⟩ (fun c23 => ?_) (fun c23 => ?_)
      · refine y_iinc (L' := [some (.ref 12), some (.int (iI (m))), some (.int (iI (xrF V m n k))), some (.int (iI ((k : Int) + 1)))]) Q_X8_rareness (k := 26) rfl (by decide) rfl rfl ?_
        refine z_goto (tgt := 11) Q_X8_rareness (k := 27) rfl (by decide) ?_
        refine y_fg ?_ (ih (k + 1) (by omega) (by omega))
        exact zsb_c rfl (zsb_c rfl (zsb_c (zie (by rw [xrF]; first | rw [if_pos c23] | rw [if_neg c23])) (zsb_c (zie (by omega)) zsb_e)))
      · refine z_iload_n Q_X8_rareness (k := 18) rfl rfl ?_
        refine z_aload_n Q_X8_rareness (k := 19) rfl rfl ?_
        refine y_iconst Q_X8_rareness (k := 20) rfl ?_
        refine z_iload_n Q_X8_rareness (k := 21) rfl rfl ?_
        refine y_ishl Q_X8_rareness (k := 22) rfl ?_
        have hb31 := xhF_b V (zshl (1) ((k : Int))) n
        refine y_callV1 Q_X8_rareness (k := 23) rfl rfl K_X8_havers V_X8_havers L_X8_147 (n_ hS rfl) (k_12 hS) (by decide) (Nat.le_of_ble_eq_true rfl) rfl (Nat.zero_le _) (Nat.zero_le _) rfl (c_havers d hS hV hn hn2 (zshl_r _ _)) ?_
        refine y_min Q_X8_rareness (k := 24) rfl L_X8_150 G_min (by decide) ⟨by omega, by omega⟩ ⟨by omega, by omega⟩ ?_
        refine y_istore_n (L' := [some (.ref 12), some (.int (iI (m))), some (.int (iI ((min (xrF V m n k) (xhF V (zshl (1) ((k : Int))) n))))), some (.int (iI ((k : Int))))]) Q_X8_rareness (k := 25) rfl (by decide) rfl ?_
        refine y_iinc (L' := [some (.ref 12), some (.int (iI (m))), some (.int (iI ((min (xrF V m n k) (xhF V (zshl (1) ((k : Int))) n))))), some (.int (iI ((k : Int) + 1)))]) Q_X8_rareness (k := 26) rfl (by decide) rfl rfl ?_
        refine z_goto (tgt := 11) Q_X8_rareness (k := 27) rfl (by decide) ?_
        refine y_fg ?_ (ih (k + 1) (by omega) (by omega))
        exact zsb_c rfl (zsb_c rfl (zsb_c (zie (by rw [xrF]; first | rw [if_pos c23] | rw [if_neg c23])) (zsb_c (zie (by omega)) zsb_e)))
set_option maxHeartbeats 4000000 in
set_option maxRecDepth 20000 in
theorem c_rare {S : zS} {V : Nat → Nat → Int} {J : zJ} (d : Nat) (hS : zSh S) (hV : ∀ a j, zr (V a j)) {n : Nat} (hn : V 12 8 = (n : Int)) (hn2 : n ≤ 16) {m : Int} (hm : zr m) : Z M_X8_rareness (d + 1) 0 0 0 [some (.ref 12), some (.int (iI (m))), none, none] [] S (zi V) J (zRt (some (.int (iI (if m = 0 then 0 else xrF V m n 12)))) S (zi V) J) := by
  refine z_iload_n Q_X8_rareness (k := 0) rfl rfl ?_
  refine y_if_ne 6 Q_X8_rareness (k := 1) rfl (by decide) hm (fun c1 => ?_) (fun c1 => ?_)
  · refine y_bipush Q_X8_rareness (k := 4) rfl (by decide) ?_
    refine y_istore_n (L' := [some (.ref 12), some (.int (iI (m))), some (.int (iI (16))), none]) Q_X8_rareness (k := 5) rfl (by decide) rfl ?_
    refine y_iconst Q_X8_rareness (k := 6) rfl ?_
    refine y_istore_n (L' := [some (.ref 12), some (.int (iI (m))), some (.int (iI (16))), some (.int (iI (0)))]) Q_X8_rareness (k := 7) rfl (by decide) rfl ?_
    exact lp_rare d hS hV hn hn2 hm c1 13 0 (by omega) (by omega)
  · refine y_iconst Q_X8_rareness (k := 2) rfl ?_
    exact y_iret Q_X8_rareness (k := 3) rfl rfl (by rw [if_pos (by omega)]; exact zRt_i _ _ _ _)
def xuF (w : Nat → Int) : Nat → Int
  | 0 => 0
  | k + 1 => if w k = 2 then xuF w k + 1 else xuF w k
set_option maxHeartbeats 4000000 in
set_option maxRecDepth 20000 in
theorem lp_openU {S : zS} {V : Nat → Nat → Int} {J : zJ} (d : Nat) (hS : zSh S) (hV : ∀ a j, zr (V a j)) : ∀ (f : Nat) (k : Nat), k ≤ 10 → 10 - k < f → Z M_X8_openUnknowns d 0 0 4 [some (.ref 12), some (.int (iI (xuF (V 14) k))), some (.int (iI ((k : Int))))] [] S (zi V) J (zRt (some (.int (iI (xuF (V 14) 10)))) S (zi V) J) := by
  intro f
  induction f with
  | zero => intro k hk hf; omega
  | succ f ih =>
    intro k hk hf
    refine z_iload_n Q_X8_openUnknowns (k := 4) rfl rfl ?_
    refine y_bipush Q_X8_openUnknowns (k := 5) rfl (by decide) ?_
    refine y_icmp_ge 29 Q_X8_openUnknowns (k := 6) rfl (by decide) ⟨by omega, by omega⟩ ⟨by decide, by decide⟩ (fun c7 => ?_) (fun c7 => ?_)
    · refine z_iload_n Q_X8_openUnknowns (k := 16) rfl rfl ?_
      exact y_iret Q_X8_openUnknowns (k := 17) rfl rfl (by rw [show k = 10 by omega]; exact zRt_i _ _ _ _)
    · refine z_aload_n Q_X8_openUnknowns (k := 7) rfl rfl ?_
      refine z_getR Q_X8_openUnknowns (k := 8) rfl F_X8_15 rfl (n_ hS rfl) (k_12 hS) (r_12_2 hS) ?_
      refine z_iload_n Q_X8_openUnknowns (k := 9) rfl rfl ?_
      refine y_ialdN Q_X8_openUnknowns (k := 10) rfl (n_ hS rfl) (k_14 hS) (z := (k : Int)) (j := k) (by omega) (by omega) (by decide) ?_
      refine y_iconst Q_X8_openUnknowns (k := 11) rfl ?_
      refine y_icmp_ne 23 Q_X8_openUnknowns (k := 12) rfl (by decide) (hV _ _) ⟨by decide, by decide⟩ (fun c17 => ?_) (fun c17 => ?_)
      · refine y_iinc (L' := [some (.ref 12), some (.int (iI (xuF (V 14) k))), some (.int (iI ((k : Int) + 1)))]) Q_X8_openUnknowns (k := 14) rfl (by decide) rfl rfl ?_
        refine z_goto (tgt := 4) Q_X8_openUnknowns (k := 15) rfl (by decide) ?_
        refine y_fg ?_ (ih (k + 1) (by omega) (by omega))
        exact zsb_c rfl (zsb_c (zie (by rw [xuF]; first | rw [if_pos c17] | rw [if_neg c17])) (zsb_c (zie (by omega)) zsb_e))
      · refine y_iinc (L' := [some (.ref 12), some (.int (iI (xuF (V 14) k + 1))), some (.int (iI ((k : Int))))]) Q_X8_openUnknowns (k := 13) rfl (by decide) rfl rfl ?_
        refine y_iinc (L' := [some (.ref 12), some (.int (iI (xuF (V 14) k + 1))), some (.int (iI ((k : Int) + 1)))]) Q_X8_openUnknowns (k := 14) rfl (by decide) rfl rfl ?_
        refine z_goto (tgt := 4) Q_X8_openUnknowns (k := 15) rfl (by decide) ?_
        refine y_fg ?_ (ih (k + 1) (by omega) (by omega))
        exact zsb_c rfl (zsb_c (zie (by rw [xuF]; first | rw [if_pos c17] | rw [if_neg c17])) (zsb_c (zie (by omega)) zsb_e))
set_option maxHeartbeats 4000000 in
set_option maxRecDepth 20000 in
theorem c_openU {S : zS} {V : Nat → Nat → Int} {J : zJ} (d : Nat) (hS : zSh S) (hV : ∀ a j, zr (V a j)) : Z M_X8_openUnknowns d 0 0 0 [some (.ref 12), none, none] [] S (zi V) J (zRt (some (.int (iI (xuF (V 14) 10)))) S (zi V) J) := by
  refine y_iconst Q_X8_openUnknowns (k := 0) rfl ?_
  refine y_istore_n (L' := [some (.ref 12), some (.int (iI (0))), none]) Q_X8_openUnknowns (k := 1) rfl (by decide) rfl ?_
  refine y_iconst Q_X8_openUnknowns (k := 2) rfl ?_
  refine y_istore_n (L' := [some (.ref 12), some (.int (iI (0))), some (.int (iI (0)))]) Q_X8_openUnknowns (k := 3) rfl (by decide) rfl ?_
  exact lp_openU d hS hV 11 0 (by omega) (by omega)
set_option maxHeartbeats 4000000 in
set_option maxRecDepth 20000 in
theorem c_fits {S : zS} {V : Nat → Nat → Int} {J : zJ} (d : Nat) (hS : zSh S) (hV : ∀ a j, zr (V a j)) {j fi pe : Nat} (hj : j < 24) (h0 : V (86 + 1 * j) 0 = (fi : Int)) (h1 : V (86 + 1 * j) 1 = (pe : Int)) (hfi : fi < 8) (hpe : pe < 16) : Z M_X8_fits d 0 0 0 [some (.ref 12), some (.ref (86 + 1 * j))] [] S (zi V) J (zRt (some (.int (iI (if zand (zand (V (54 + 4 * fi) 3) (V (22 + 2 * pe) 1)) (V (86 + 1 * j) 2) = V (86 + 1 * j) 2 then 1 else 0)))) S (zi V) J) := by
  refine z_aload_n Q_X8_fits (k := 0) rfl rfl ?_
  refine y_getI Q_X8_fits (k := 1) rfl F_X8_90 rfl (n_claim hS (by omega)) (k_claim hS (by omega)) ?_
  refine y_as (y := (fi : Int)) (h0) ?_
  refine y_if_lt 32 Q_X8_fits (k := 2) rfl (by decide) ⟨by omega, by omega⟩ (fun c4 => ?_) (fun c4 => ?_)
  · exfalso; omega
  · refine z_aload_n Q_X8_fits (k := 3) rfl rfl ?_
    refine y_getI Q_X8_fits (k := 4) rfl F_X8_90 rfl (n_claim hS (by omega)) (k_claim hS (by omega)) ?_
    refine y_as (y := (fi : Int)) (h0) ?_
    refine y_bipush Q_X8_fits (k := 5) rfl (by decide) ?_
    refine y_icmp_ge 32 Q_X8_fits (k := 6) rfl (by decide) ⟨by omega, by omega⟩ ⟨by decide, by decide⟩ (fun c13 => ?_) (fun c13 => ?_)
    · exfalso; omega
    · refine z_aload_n Q_X8_fits (k := 7) rfl rfl ?_
      refine y_getI Q_X8_fits (k := 8) rfl F_X8_93 rfl (n_claim hS (by omega)) (k_claim hS (by omega)) ?_
      refine y_as (y := (pe : Int)) (h1) ?_
      refine y_if_lt 32 Q_X8_fits (k := 9) rfl (by decide) ⟨by omega, by omega⟩ (fun c20 => ?_) (fun c20 => ?_)
      · exfalso; omega
      · refine z_aload_n Q_X8_fits (k := 10) rfl rfl ?_
        refine y_getI Q_X8_fits (k := 11) rfl F_X8_93 rfl (n_claim hS (by omega)) (k_claim hS (by omega)) ?_
        refine y_as (y := (pe : Int)) (h1) ?_
        refine y_bipush Q_X8_fits (k := 12) rfl (by decide) ?_
        refine y_icmp_lt 34 Q_X8_fits (k := 13) rfl (by decide) ⟨by omega, by omega⟩ ⟨by decide, by decide⟩ (fun c29 => ?_) (fun c29 => ?_)
        · refine z_aload_n Q_X8_fits (k := 16) rfl rfl ?_
          refine z_getR Q_X8_fits (k := 17) rfl F_X8_36 rfl (n_ hS rfl) (k_12 hS) (r_12_9 hS) ?_
          refine z_aload_n Q_X8_fits (k := 18) rfl rfl ?_
          refine y_getI Q_X8_fits (k := 19) rfl F_X8_90 rfl (n_claim hS (by omega)) (k_claim hS (by omega)) ?_
          refine y_as (y := (fi : Int)) (h0) ?_
          refine y_aaldN (t := 7) Q_X8_fits (k := 20) rfl (n_ hS rfl) (k_19 hS) (by decide) rfl (z := (fi : Int)) (j := fi) (by omega) (by omega) (by decide) (r_find hS (by omega)) ?_
          refine y_getI Q_X8_fits (k := 21) rfl F_X8_125 rfl (n_find hS (by omega)) (k_find hS (by omega)) ?_
          refine z_aload_n Q_X8_fits (k := 22) rfl rfl ?_
          refine z_getR Q_X8_fits (k := 23) rfl F_X8_30 rfl (n_ hS rfl) (k_12 hS) (r_12_7 hS) ?_
          refine z_aload_n Q_X8_fits (k := 24) rfl rfl ?_
          refine y_getI Q_X8_fits (k := 25) rfl F_X8_93 rfl (n_claim hS (by omega)) (k_claim hS (by omega)) ?_
          refine y_as (y := (pe : Int)) (h1) ?_
          refine y_aaldN (t := 6) Q_X8_fits (k := 26) rfl (n_ hS rfl) (k_18 hS) (by decide) rfl (z := (pe : Int)) (j := pe) (by omega) (by omega) (by decide) (r_person hS (by omega)) ?_
          refine y_getI Q_X8_fits (k := 27) rfl F_X8_162 rfl (n_person hS (by omega)) (k_person hS (by omega)) ?_
          refine y_iand Q_X8_fits (k := 28) rfl ?_
          refine z_aload_n Q_X8_fits (k := 29) rfl rfl ?_
          refine y_getI Q_X8_fits (k := 30) rfl F_X8_96 rfl (n_claim hS (by omega)) (k_claim hS (by omega)) ?_
          refine y_iand Q_X8_fits (k := 31) rfl ?_
          refine z_aload_n Q_X8_fits (k := 32) rfl rfl ?_
          refine y_getI Q_X8_fits (k := 33) rfl F_X8_96 rfl (n_claim hS (by omega)) (k_claim hS (by omega)) ?_
          refine y_icmp_ne 75 Q_X8_fits (k := 34) rfl (by decide) (zand_r _ _) (hV _ _) (fun c68 => ?_) (fun c68 => ?_)
          · refine y_iconst Q_X8_fits (k := 37) rfl ?_
            exact y_zret Q_X8_fits (k := 38) rfl rfl (by first | exact Or.inl rfl | exact Or.inr rfl | omega) (by rw [if_neg c68]; exact zRt_i _ _ _ _)
          · refine y_iconst Q_X8_fits (k := 35) rfl ?_
            refine z_goto (tgt := 76) Q_X8_fits (k := 36) rfl (by decide) ?_
            exact y_zret Q_X8_fits (k := 38) rfl rfl (by first | exact Or.inl rfl | exact Or.inr rfl | omega) (by rw [if_pos c68]; exact zRt_i _ _ _ _)
        · exfalso; omega
