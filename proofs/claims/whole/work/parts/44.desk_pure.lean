/-! FORMATDESK: what its small methods compute. -/
theorem l_200 : (200 : Int32).toInt = 200 := by decide
theorem l_8 : (8 : Int32).toInt = 8 := by decide
def deByte (word : Int64) (i : Int32) : Int32 := ((word.toUInt64 >>> ((8 * i).toInt64.toUInt64 &&& Int64.toUInt64 63)).toInt64).toInt32 &&& 255
def sfIs (f : Nat → Int32) (n place : Int32) : Bool := if lnAt f n place = 37 then !decide (lnAt f n (place + 1) = 37) else false
def bhMk (f : Nat → Int32) (n place : Int32) : Int32 := if lnAt f n place = 37 then place + 2 else place + 1
def frSo (R : FG × Int32 × Int32 × Int32 × Int32 × Int32 × Int32 × Int32) : Int32 := R.2.2.2.2.2.2.1
def frNx (R : FG × Int32 × Int32 × Int32 × Int32 × Int32 × Int32 × Int32) : Int32 := R.2.2.2.2.2.2.2
def fnGo (f : Nat → Int32) (n : Int32) : Nat → Int32 → Int32 → Int32
  | 0, _, _ => -1
  | k + 1, st, place => if 200 ≤ st then -1 else if n ≤ place then -1 else
      if sfIs f n place = true then (if frSo (fiRead f n place) = 0 then place else fnGo f n k (st + 1) (frNx (fiRead f n place))) else fnGo f n k (st + 1) (bhMk f n place)
def fnAll (f : Nat → Int32) (n : Int32) : Int32 := fnGo f n 201 0 0
def tyChk (word : Int64) (m : Int32) : Nat → Int32 → Bool
  | 0, _ => true
  | k + 1, i => if m ≤ i then true else if deByte word i < 32 then false else if ¬ deByte word i ≤ 126 then false else tyChk word m k (i + 1)
def tyAdd (word : Int64) : Nat → Int32 → LnS → LnS
  | 0, _, L => L
  | k + 1, i, L => if i < 0 then L else tyAdd word k (i + (-1)) (lnAdd 200 L (deByte word i))
def tyOK (word : Int64) (m nt : Int32) : Bool := if m < 1 then false else if 8 < m then false else if m ≤ nI 200 - nt then tyChk word m 9 0 else false
def deFault (what fk fp : Int32) : Int32 := if what = 0 then fk else if what = 1 then fp else -1
def deLetters (ev n : Int32) : Int32 := if ev = 0 then -1 else n
