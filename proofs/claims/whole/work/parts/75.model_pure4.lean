/-! THE REFERENCE: exponential. -/
def exD (row : Nat → Int32) (n i : Int32) : Int32 := if n ≤ i then 0 else row i.toNatClampNeg
def exGo (row : Nat → Int32) (n fst places : Int32) : Nat → Int32 → LnS → LnS
  | 0, _, L => L
  | k + 1, i, L => if places < i then L else exGo row n fst places k (i + 1) (lyAdd L (48 + exD row n (fst + i)))
def exDigits (row : Nat → Int32) (n fst places point : Int32) (B : LnS) : LnS := exGo row n fst places 101 1 (fxDot places point (lyAdd B (48 + row fst.toNatClampNeg)))
def exShort (places short : Int32) (L : LnS) : LnS := if short = 0 then L else (L.1, cuAll L.1 places L.2)
def exTail (e le : Int32) (L : LnS) : LnS :=
  lyAdd (lyAdd (lyAdd (lyAdd L (if le = 69 then 69 else if le = 71 then 69 else 101)) (if 0 ≤ e then 43 else 45)) (48 + (if 0 ≤ e then e else -e) / 10)) (48 + ((if 0 ≤ e then e else -e) - (if 0 ≤ e then e else -e) / 10 * 10))
def exAllM (row : Nat → Int32) (n fst e places point short le : Int32) (B : LnS) : LnS := exTail e le (exShort places short (exDigits row n fst places point B))
theorem pl_ne {x : Int32} (h0 : 0 ≤ x.toInt) (h : ¬ x = 0) : 0 < x := by
  rw [k_lt, l_0]
  have : ¬ x.toInt = 0 := fun z => h (Int32.toInt_inj.mp (by rw [z, l_0]))
  omega
