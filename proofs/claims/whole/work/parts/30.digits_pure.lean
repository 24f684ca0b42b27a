/-! DIGITS: what its methods compute, over the row of 31 ints. -/
theorem l_0 : (0 : Int32).toInt = 0 := by decide
theorem l_1 : (1 : Int32).toInt = 1 := by decide
theorem l_2 : (2 : Int32).toInt = 2 := by decide
theorem l_12 : (12 : Int32).toInt = 12 := by decide
theorem l_18 : (18 : Int32).toInt = 18 := by decide
theorem l_19 : (19 : Int32).toInt = 19 := by decide
theorem l_30 : (30 : Int32).toInt = 30 := by decide
theorem l_31 : (31 : Int32).toInt = 31 := by decide
theorem l_64 : (64 : Int32).toInt = 64 := by decide
theorem k_decm {a : Int32} (h : 0 ≤ a.toInt) : (a + (-1)).toInt = a.toInt - 1 := by
  have h1 := Int32.toInt_lt a
  rw [Int32.toInt_add, show (-1 : Int32).toInt = -1 from by decide]
  rw [Int.bmod_eq_of_le] <;> omega
theorem k_subl {a : Int32} (h : 1 ≤ a.toInt) : (a - 1).toInt = a.toInt - 1 := k_dec (by omega)
theorem k_inc31 {a : Int32} (h : a.toInt < 31) : (a + 1).toInt = a.toInt + 1 := k_inc (b := 31) (by rw [l_31]; omega)
def dgLoad (lo : Int32) : Nat → Int32 → Int64 → (Nat → Int32) → (Nat → Int32)
  | 0, _, _, row => row
  | k + 1, i, y, row => if i < lo then row else dgLoad lo k (i + (-1)) (y / 10) (upd row i.toNatClampNeg (y - y / 10 * 10).toInt32)
def dgLd (bh ah : Int64) (row : Nat → Int32) : Nat → Int32 := dgLoad 0 20 18 ah (dgLoad 19 13 30 bh row)
def dgFirst (row : Nat → Int32) : Nat → Int32 → Int32
  | 0, _ => 18
  | k + 1, i => if 31 ≤ i then 18 else if row i.toNatClampNeg = 0 then dgFirst row k (i + 1) else i
def dgFst (row : Nat → Int32) : Int32 := dgFirst row 32 0
def dgExp (row : Nat → Int32) : Int32 := 18 - dgFst row
def dgAny (row : Nat → Int32) : Nat → Int32 → Bool
  | 0, _ => false
  | k + 1, i => if 31 ≤ i then false else if row i.toNatClampNeg = 0 then dgAny row k (i + 1) else true
def dgUp (row : Nat → Int32) (kept : Int32) : Bool :=
  if row kept.toNatClampNeg = 5 then (if dgAny row 32 (kept + 1) = true then true else decide (row (kept - 1).toNatClampNeg - row (kept - 1).toNatClampNeg / 2 * 2 = 1))
  else !decide (row kept.toNatClampNeg ≤ 5)
def dgClr : Nat → Int32 → (Nat → Int32) → (Nat → Int32)
  | 0, _, row => row
  | k + 1, i, row => if 31 ≤ i then row else dgClr k (i + 1) (upd row i.toNatClampNeg 0)
def dgCar : Nat → Int32 → Int32 → (Nat → Int32) → (Nat → Int32)
  | 0, _, _, row => row
  | k + 1, i, up, row => if i < 0 then row else if up = 0 then row else
      dgCar k (i + (-1)) (k_b (decide (row i.toNatClampNeg = 9))) (upd row i.toNatClampNeg (if row i.toNatClampNeg = 9 then 0 else row i.toNatClampNeg + 1))
def dgRound (row : Nat → Int32) (kept : Int32) : Nat → Int32 :=
  if kept < 1 then row else if ¬ kept < 31 then row else dgCar 32 (kept - 1) (k_b (dgUp row kept)) (dgClr 32 kept row)
def dgAt (row : Nat → Int32) (i : Int32) : Int32 := if i < 0 then 48 else if 31 ≤ i then 48 else 48 + row i.toNatClampNeg
def dgP1 (row : Nat → Int32) (room : Nat) (point : Int32) : Nat → Int32 → LnS → LnS
  | 0, _, L => L
  | k + 1, i, L => if point ≤ i then L else dgP1 row room point k (i + 1) (lnAdd room L (dgAt row i))
def dgP2 (row : Nat → Int32) (room : Nat) (point places : Int32) : Nat → Int32 → LnS → LnS
  | 0, _, L => L
  | k + 1, i, L => if places ≤ i then L else dgP2 row room point places k (i + 1) (lnAdd room L (dgAt row (point + i)))
def dgBeg (row : Nat → Int32) (point : Int32) : Int32 := if point - 1 < dgFst row then point - 1 else dgFst row
def dgPa (row : Nat → Int32) (room : Nat) (point : Int32) (L : LnS) : LnS := dgP1 row room point ((point.toInt - (dgBeg row point).toInt).toNat + 1) (dgBeg row point) L
def dgPb (row : Nat → Int32) (room : Nat) (point places must : Int32) (L : LnS) : LnS := if 0 < places then lnAdd room (dgPa row room point L) 46 else if must = 0 then dgPa row room point L else lnAdd room (dgPa row room point L) 46
def dgPut (row : Nat → Int32) (room : Nat) (point places must : Int32) (L : LnS) : LnS := dgP2 row room point places (places.toInt.toNat + 1) 0 (dgPb row room point places must L)
