/-! rows filled by loops; small steps -/
def fl {α : Type} (f : Int → Int → α) (o a b : Int) (c : Int → α) : Int → Int → α := fun i j => if i = o ∧ a ≤ j ∧ j < b then c j else f i j
theorem fl_in {α : Type} {f : Int → Int → α} {o a b : Int} {c : Int → α} {j : Int} (h1 : a ≤ j) (h2 : j < b) : fl f o a b c o j = c j := by simp [fl, h1, h2]
theorem fl_out {α : Type} {f : Int → Int → α} {o a b : Int} {c : Int → α} {j : Int} (i : Int) (h : j < a ∨ b ≤ j) : fl f o a b c i j = f i j := by
  simp only [fl]; rw [if_neg (by omega)]
theorem fl_o {α : Type} {f : Int → Int → α} {o a b : Int} {c : Int → α} {i : Int} (h : i ≠ o) (j : Int) : fl f o a b c i j = f i j := by simp [fl, h]
theorem fl_e {α : Type} {f : Int → Int → α} {o a b : Int} {c : Int → α} (h : b ≤ a) : fl f o a b c = f := by
  funext i j; simp only [fl]; rw [if_neg (by omega)]
theorem fl_s {α : Type} {f : Int → Int → α} {o a b : Int} {c : Int → α} (h : a < b) : fl (qu f o a (c a)) o (a + 1) b c = fl f o a b c := by
  funext i j
  simp only [fl, qu]
  by_cases h1 : i = o
  · by_cases h2 : j = a
    · subst h1; subst h2
      rw [if_neg (by omega), if_pos rfl, if_pos rfl, if_pos (by omega)]
    · by_cases h3 : a ≤ j ∧ j < b
      · rw [if_pos (by omega), if_pos (by omega)]
      · rw [if_neg (by omega), if_pos h1, if_neg h2, if_neg (by omega)]
  · rw [if_neg (by omega), if_neg h1, if_neg (by omega)]
theorem fl_s' {α : Type} {f : Int → Int → α} {o a b : Int} {c : Int → α} {x : α} (h : a < b) (hx : x = c a) : fl (qu f o a x) o (a + 1) b c = fl f o a b c := by rw [hx]; exact fl_s h
theorem qu_e {α : Type} {f : Int → Int → α} {a k i j : Int} {v : α} (h : ¬ (i = a ∧ j = k)) : qu f a k v i j = f i j := by
  simp only [qu]
  split
  · split
    · rename_i h1 h2; exact absurd ⟨h1, h2⟩ h
    · rfl
  · rfl
theorem zr_i {x : Int} (h1 : -2147483648 ≤ x) (h2 : x < 2147483648) : zr x := ⟨h1, h2⟩
/-! tests -/
theorem s_tR1 {a lo hi : Int} {V : qV} {Q : Prop} {X : String → Prop} (h : lo ≤ a ∧ a ≤ hi) (k : Q) : W_X10_testRange a lo hi V Q X :=
  br_f (by omega) (br_t h.2 k)
theorem s_tR0 {a lo hi : Int} {V : qV} {Q : Prop} {X : String → Prop} (h : ¬ (lo ≤ a ∧ a ≤ hi)) (k : X "java/lang/IllegalArgumentException") : W_X10_testRange a lo hi V Q X :=
  br_c (fun _ => k) (fun _ => br_f (by omega) k)
theorem s_tU1 {a : Int} {V : qV} {Q : Prop} {X : String → Prop} (h : 0 ≤ a ∧ a < 10) (k : Q) : W_X10_testUnknown a V Q X :=
  br_f (by omega) (br_t h.2 k)
theorem s_tU0 {a : Int} {V : qV} {Q : Prop} {X : String → Prop} (h : ¬ (0 ≤ a ∧ a < 10)) (k : X "java/lang/IndexOutOfBoundsException") : W_X10_testUnknown a V Q X :=
  br_c (fun _ => k) (fun _ => br_f (by omega) k)
theorem s_pO1 {a : Int} {V : qV} {Q : Int → Prop} {X : String → Prop} (h : 0 ≤ a ∧ a < V 12 8) (h2 : V 12 8 ≤ 16) (k : Q (22 + 2 * a)) : W_X10_personOf a V Q X :=
  br_f (by omega) (br_f (by omega) (br_t (by omega) ⟨by omega, k⟩))
theorem s_pO0 {a : Int} {V : qV} {Q : Int → Prop} {X : String → Prop} (h : ¬ (0 ≤ a ∧ a < V 12 8)) (k : X "java/util/NoSuchElementException") : W_X10_personOf a V Q X :=
  br_c (fun _ => k) (fun _ => br_t (by omega) k)
theorem s_fO1 {a : Int} {V : qV} {Q : Int → Prop} {X : String → Prop} (h : 0 ≤ a ∧ a < V 12 10) (h2 : V 12 10 ≤ 8) (k : Q (54 + 4 * a)) : W_X10_findOf a V Q X :=
  br_f (by omega) (br_f (by omega) (br_t (by omega) ⟨by omega, k⟩))
theorem s_fO0 {a : Int} {V : qV} {Q : Int → Prop} {X : String → Prop} (h : ¬ (0 ≤ a ∧ a < V 12 10)) (k : X "java/lang/IndexOutOfBoundsException") : W_X10_findOf a V Q X :=
  br_c (fun _ => k) (fun _ => br_t (by omega) k)
theorem s_lO1 {a : Int} {V : qV} {Q : Int → Prop} {X : String → Prop} (h : 0 ≤ a ∧ a < V 0 2) (h2 : V 0 2 ≤ 3) (k : Q (173 + 5 * a)) : W_X10_lawOf a V Q X :=
  br_f (by omega) (br_f (by omega) (br_t (by omega) ⟨by omega, k⟩))
theorem s_lO0 {a : Int} {V : qV} {Q : Int → Prop} {X : String → Prop} (h : ¬ (0 ≤ a ∧ a < V 0 2)) (k : X "java/lang/IllegalArgumentException") : W_X10_lawOf a V Q X :=
  br_c (fun _ => k) (fun _ => br_t (by omega) k)
/-! the reference's tests -/
theorem m_may1 {c : Int} {V : qV} {Q : Int → qV → Prop} (h : V 602 0 = 0) (k : Q 1 V) : W_X11_may 1 c V Q :=
  br_f (by decide) (br_t h k)
theorem m_may0 {c : Int} {V : qV} {Q : Int → qV → Prop} (h : V 602 0 = 0) (hc : c ≠ 0) (k : Q 0 (qu V 602 0 c)) : W_X11_may 0 c V Q :=
  br_t rfl (br_t h (br_f (by rw [qu_s]; exact hc) k))
theorem m_in1 {a lo hi : Int} {V : qV} {Q : Int → Prop} (h : lo ≤ a ∧ a ≤ hi) (k : Q 1) : W_X11_within a lo hi V Q :=
  br_f (by omega) (br_f (by omega) k)
theorem m_in0 {a lo hi : Int} {V : qV} {Q : Int → Prop} (h : ¬ (lo ≤ a ∧ a ≤ hi)) (k : Q 0) : W_X11_within a lo hi V Q :=
  br_c (fun _ => k) (fun _ => br_t (by omega) k)
theorem m_iu1 {a : Int} {V : qV} {Q : Int → qV → Prop} (h0 : V 602 0 = 0) (h : 0 ≤ a ∧ a < 10) (k : Q 1 V) : W_X11_isUnknown a V Q := m_in1 (by omega) (m_may1 h0 k)
theorem m_iu0 {a : Int} {V : qV} {Q : Int → qV → Prop} (h0 : V 602 0 = 0) (h : ¬ (0 ≤ a ∧ a < 10)) (k : Q 0 (qu V 602 0 1)) : W_X11_isUnknown a V Q := m_in0 (by omega) (m_may0 h0 (by decide) k)
theorem m_ip1 {a c : Int} {V : qV} {Q : Int → qV → Prop} (h0 : V 602 0 = 0) (hw : 0 ≤ V 603 21 ∧ V 603 21 ≤ 16) (h : 0 ≤ a ∧ a < V 603 21) (k : Q 1 V) : W_X11_isPerson a c V Q := ⟨zr_i (by omega) (by omega), m_in1 (by omega) (m_may1 h0 k)⟩
theorem m_ip0 {a c : Int} {V : qV} {Q : Int → qV → Prop} (h0 : V 602 0 = 0) (hw : 0 ≤ V 603 21 ∧ V 603 21 ≤ 16) (hc : c ≠ 0) (h : ¬ (0 ≤ a ∧ a < V 603 21)) (k : Q 0 (qu V 602 0 c)) : W_X11_isPerson a c V Q := ⟨zr_i (by omega) (by omega), m_in0 (by omega) (m_may0 h0 hc k)⟩
theorem m_if1 {a : Int} {V : qV} {Q : Int → qV → Prop} (h0 : V 602 0 = 0) (hw : 0 ≤ V 603 142 ∧ V 603 142 ≤ 8) (h : 0 ≤ a ∧ a < V 603 142) (k : Q 1 V) : W_X11_isFind a V Q := ⟨zr_i (by omega) (by omega), m_in1 (by omega) (m_may1 h0 k)⟩
theorem m_if0 {a : Int} {V : qV} {Q : Int → qV → Prop} (h0 : V 602 0 = 0) (hw : 0 ≤ V 603 142 ∧ V 603 142 ≤ 8) (h : ¬ (0 ≤ a ∧ a < V 603 142)) (k : Q 0 (qu V 602 0 1)) : W_X11_isFind a V Q := ⟨zr_i (by omega) (by omega), m_in0 (by omega) (m_may0 h0 (by decide) k)⟩
theorem m_il1 {a c : Int} {V : qV} {Q : Int → qV → Prop} (h0 : V 602 0 = 0) (hw : 0 ≤ V 602 11 ∧ V 602 11 ≤ 3) (h : 0 ≤ a ∧ a < V 602 11) (k : Q 1 V) : W_X11_isLaw a c V Q := ⟨zr_i (by omega) (by omega), m_in1 (by omega) (m_may1 h0 k)⟩
theorem m_il0 {a c : Int} {V : qV} {Q : Int → qV → Prop} (h0 : V 602 0 = 0) (hw : 0 ≤ V 602 11 ∧ V 602 11 ≤ 3) (hc : c ≠ 0) (h : ¬ (0 ≤ a ∧ a < V 602 11)) (k : Q 0 (qu V 602 0 c)) : W_X11_isLaw a c V Q := ⟨zr_i (by omega) (by omega), m_in0 (by omega) (m_may0 h0 hc k)⟩
