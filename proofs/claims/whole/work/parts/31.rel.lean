/-! what class and reference hold alike -/
def tU (V : qV) (t : Int) (w : Int → Int) : Prop :=
  (V t 4 = w 20 ∧ 0 ≤ w 20 ∧ w 20 ≤ 9999) ∧ ∀ k, 0 ≤ k → k < 10 → (V (t + 2) k = w k ∧ 0 ≤ w k ∧ w k ≤ 2) ∧ (V (t + 3) k = w (10 + k) ∧ 1 ≤ w (10 + k) ∧ w (10 + k) ≤ 9)
def pR (V : qV) (o : Int) (w : Int → Int) (p : Int) : Prop :=
  (V o 0 = w (22 + p) ∧ (w (22 + p) = 0 ∨ w (22 + p) = 1)) ∧ (V o 1 = w (38 + p) ∧ 0 ≤ w (38 + p) ∧ w (38 + p) ≤ 4095) ∧ (V o 3 = w (54 + p) ∧ (w (54 + p) = 0 ∨ w (54 + p) = 1)) ∧
  ∀ k, 0 ≤ k → k < 4 → V (o + 1) k = w (70 + 4 * p + k) ∧ 0 ≤ w (70 + 4 * p + k) ∧ w (70 + 4 * p + k) ≤ 99
def tP (V : qV) (t : Int) (w : Int → Int) : Prop :=
  (V t 8 = w 21 ∧ 0 ≤ w 21 ∧ w 21 ≤ 16) ∧ ∀ p, 0 ≤ p → p < w 21 → pR V (t + 10 + 2 * p) w p
def tG (V : qV) (t : Int) (w : Int → Int) : Prop :=
  ∀ k, 0 ≤ k → k < 4 → (V (t + 4) k = w (134 + k) ∧ (w (134 + k) = 0 ∨ w (134 + k) = 1)) ∧ V (t + 5) k = w (138 + k)
def lastTo (w : Int → Int) (f : Int) : Nat → Int
  | 0 => -1
  | n + 1 => if w (433 + 4 * n) = f then w (433 + 4 * n + 2) else lastTo w f n
def fR (V : qV) (o : Int) (w : Int → Int) (b : Int) (many today : Int) : Prop :=
  (V o 0 = w (b + 0) ∧ 0 ≤ w (b + 0) ∧ w (b + 0) ≤ 5) ∧ (V o 1 = w (b + 1) ∧ 0 ≤ w (b + 1) ∧ w (b + 1) ≤ 3) ∧ (V o 2 = w (b + 2) ∧ 1 ≤ w (b + 2) ∧ w (b + 2) ≤ 9999) ∧
  (V o 3 = w (b + 3) ∧ 0 ≤ w (b + 3) ∧ w (b + 3) ≤ 4095) ∧ (V o 4 = w (b + 4) ∧ 0 ≤ w (b + 4) ∧ w (b + 4) ≤ 99) ∧ (V o 5 = w (b + 5) ∧ 0 ≤ w (b + 5) ∧ w (b + 5) ≤ today) ∧
  (V o 6 = w (b + 6) ∧ 0 ≤ w (b + 6) ∧ w (b + 6) ≤ w (b + 7) + 1) ∧ (V o 7 = w (b + 7) ∧ -1 ≤ w (b + 7) ∧ w (b + 7) ≤ today) ∧ (V o 9 = w (b + 8) ∧ 0 ≤ w (b + 8) ∧ w (b + 8) ≤ 6) ∧
  ∀ h, 0 ≤ h → h < w (b + 8) → (V (o + 1) h = w (b + 9 + 3 * h) ∧ 0 ≤ w (b + 9 + 3 * h) ∧ w (b + 9 + 3 * h) < many) ∧ (V (o + 2) h = w (b + 9 + 3 * h + 1) ∧ 0 ≤ w (b + 9 + 3 * h + 1) ∧ w (b + 9 + 3 * h + 1) ≤ 2) ∧ (V (o + 3) h = w (b + 9 + 3 * h + 2) ∧ 0 ≤ w (b + 9 + 3 * h + 2) ∧ w (b + 9 + 3 * h + 2) ≤ 999)
def tF (V : qV) (t : Int) (w : Int → Int) : Prop :=
  (V t 10 = w 142 ∧ 0 ≤ w 142 ∧ w 142 ≤ 8) ∧ ∀ f, 0 ≤ f → f < w 142 → fR V (t + 42 + 4 * f) w (143 + 27 * f) (w 21) (w 20) ∧ V (t + 42 + 4 * f) 8 = lastTo w f (w 432).toNat
def tC (V : qV) (t : Int) (w : Int → Int) : Prop :=
  (V t 12 = w 359 ∧ 0 ≤ w 359 ∧ w 359 ≤ 24) ∧ ∀ c, 0 ≤ c → c < w 359 → (V (t + 74 + 1 * c) 0 = w (360 + 3 * c) ∧ 0 ≤ w (360 + 3 * c) ∧ w (360 + 3 * c) < w 142) ∧ (V (t + 74 + 1 * c) 1 = w (360 + 3 * c + 1) ∧ 0 ≤ w (360 + 3 * c + 1) ∧ w (360 + 3 * c + 1) < w 21) ∧ (V (t + 74 + 1 * c) 2 = w (360 + 3 * c + 2) ∧ 1 ≤ w (360 + 3 * c + 2) ∧ w (360 + 3 * c + 2) ≤ 4095)
def tS (V : qV) (t : Int) (w : Int → Int) : Prop :=
  (V t 14 = w 432 ∧ 0 ≤ w 432 ∧ w 432 ≤ 40) ∧ ∀ c, 0 ≤ c → c < w 432 → (V (t + 98 + 1 * c) 0 = w (433 + 4 * c) ∧ 0 ≤ w (433 + 4 * c) ∧ w (433 + 4 * c) < w 142) ∧ (V (t + 98 + 1 * c) 1 = w (433 + 4 * c + 1) ∧ 0 ≤ w (433 + 4 * c + 1) ∧ w (433 + 4 * c + 1) < w 21) ∧ (V (t + 98 + 1 * c) 2 = w (433 + 4 * c + 2) ∧ 0 ≤ w (433 + 4 * c + 2) ∧ w (433 + 4 * c + 2) < w 21) ∧ (V (t + 98 + 1 * c) 3 = w (433 + 4 * c + 3) ∧ 0 ≤ w (433 + 4 * c + 3) ∧ w (433 + 4 * c + 3) ≤ 9999) ∧ w (433 + 4 * c + 1) ≠ w (433 + 4 * c + 2)
def tA (V : qV) (J : qJ) (t : Int) (w : Int → Int) (cs : Int → Int → Prop) : Prop :=
  (V t 0 = w 593 ∧ 0 ≤ w 593 ∧ w 593 ≤ 8) ∧ ∀ v, 0 ≤ v → v < 1024 → (hb (J (t + 1) (v / 64)) (v % 64) = true ↔ ∀ c, 0 ≤ c → c < w 593 → cs c v)
def tR (V : qV) (J : qJ) (t : Int) (w : Int → Int) (cs : Int → Int → Prop) : Prop := tU V t w ∧ tP V t w ∧ tG V t w ∧ tF V t w ∧ tC V t w ∧ tS V t w ∧ tA V J t w cs
/-! codes: (what, number) as the reference numbers them, worked with a stack -/
def bit01 (b : Bool) : Int := if b then 1 else 0
def op2 (what a b : Int) : Int := if what = 3 then qw (a + b) else if what = 4 then qw (a - b) else if what = 5 then bit01 (a < b) else if what = 6 then bit01 (b < a) else if what = 7 then bit01 (a = b) else if what = 8 then zor a b else zand a b
def stp (nm : Int → Int) (v : Int) (st : List Int) (c : Int × Int) : List Int :=
  if c.1 ≤ 2 then (if c.1 = 0 then c.2 else if c.1 = 1 then nm c.2 else bit01 (tb v c.2)) :: st
  else match st with
    | [] => []
    | b :: r => if c.1 = 10 then qw (1 - b) :: r else match r with
      | [] => []
      | a :: q => op2 c.1 a b :: q
def run (nm : Int → Int) (v : Int) (L : List (Int × Int)) (st : List Int) : List Int := L.foldl (stp nm v) st
/-- a well formed code takes the stack of types t (true: a condition's value) on; with at most 16 of each -/
def wst (t : List Bool) (c : Int × Int) : Option (List Bool) :=
  if c.1 = 0 then (if 0 ≤ c.2 ∧ c.2 ≤ 9999 then some (false :: t) else none)
  else if c.1 = 1 then (if 0 ≤ c.2 ∧ c.2 ≤ 9 then some (false :: t) else none)
  else if c.1 = 2 then (if 0 ≤ c.2 ∧ c.2 ≤ 9 then some (true :: t) else none)
  else if c.2 ≠ 0 then none
  else if c.1 = 10 then (match t with | true :: r => some (true :: r) | _ => none)
  else if 8 ≤ c.1 ∧ c.1 ≤ 9 then (match t with | true :: true :: r => some (true :: r) | _ => none)
  else if 5 ≤ c.1 ∧ c.1 ≤ 7 then (match t with | false :: false :: r => some (true :: r) | _ => none)
  else if 3 ≤ c.1 ∧ c.1 ≤ 4 then (match t with | false :: false :: r => some (false :: r) | _ => none)
  else none
def wok (t : List Bool) : Bool := decide (t.count true ≤ 16 ∧ t.count false ≤ 16)
def wrun : List (Int × Int) → List Bool → Option (List Bool)
  | [], t => some t
  | c :: L, t => match wst t c with
    | none => none
    | some t' => if wok t' then wrun L t' else none
def seg (V : qV) (a : Int) : Nat → List (Int × Int)
  | 0 => []
  | n + 1 => (V 604 a, V 605 a) :: seg V (a + 1) n
/-- condition c of the reference holds in world v -/
def cS (V : qV) (c v : Int) : Prop := run (fun _ => 0) v (seg V (420 * (3 + c)) (V 611 c - 420 * (3 + c)).toNat) [] = [1]
def cW (V : qV) (c : Int) : Prop := (420 * (3 + c) < V 611 c ∧ V 611 c ≤ 420 * (3 + c) + 400) ∧ wrun (seg V (420 * (3 + c)) (V 611 c - 420 * (3 + c)).toNat) [] = some [true]
/-- the class's number of an operation -/
def opC (what : Int) : Int := if what ≤ 2 then what else if what = 10 then 3 else if what = 9 then 4 else if what = 8 then 5 else what + 3
def enc (c : Int × Int) : Int := opC c.1 * 16384 + c.2
def lR (V : qV) (l : Int) : Prop :=
  (V (173 + 5 * l) 0 = V 610 l ∧ 0 ≤ V 610 l ∧ V 610 l ≤ 12) ∧
  (∀ i, 0 ≤ i → i < V 610 l → (V (173 + 5 * l + 1) i = V 606 (12 * l + i) ∧ 0 ≤ V 606 (12 * l + i) ∧ V 606 (12 * l + i) ≤ 4) ∧ (V (173 + 5 * l + 2) i = V 607 (12 * l + i) ∧ 0 ≤ V 607 (12 * l + i) ∧ V 607 (12 * l + i) ≤ 9999) ∧
    (V (173 + 5 * l + 3) i = V 609 (12 * l + i) - 420 * l ∧ V 608 (12 * l + i) ≤ V 609 (12 * l + i) ∧ V 609 (12 * l + i) ≤ 420 * l + 400 ∧ V 608 (12 * l + i) = (if i = 0 then 420 * l else V 609 (12 * l + (i - 1)))) ∧
    (V 608 (12 * l + i) < V 609 (12 * l + i) → wrun (seg V (V 608 (12 * l + i)) (V 609 (12 * l + i) - V 608 (12 * l + i)).toNat) [] = some [true]) ∧
    (∀ k, V 608 (12 * l + i) ≤ k → k < V 609 (12 * l + i) → V (173 + 5 * l + 4) (k - 420 * l) = enc (V 604 k, V 605 k) ∧ (V 604 k = 1 → tb (V (173 + 5 * l) 6) (V 605 k) = true) ∧ (V 604 k = 2 → tb (V 612 l) (V 605 k) = true))) ∧
  (0 ≤ V (173 + 5 * l) 6 ∧ V (173 + 5 * l) 6 < 1024) ∧ (0 ≤ V 612 l ∧ V 612 l < 1024)
