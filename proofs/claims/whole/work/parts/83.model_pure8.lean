/-! THE REFERENCE: putWords. -/
def pwN (pr n : Int32) : Int32 := if pr = -1 then n else if pr ≤ n then pr else n
def pwQ (le : Int32) (L : LnS) : LnS := if ¬ le = 113 then L else lyAdd L 34
def pwEsc (le c : Int32) (L : LnS) : LnS := if ¬ le = 113 then L else if c = 34 then lyAdd L 92 else if ¬ c = 92 then L else lyAdd L 92
def pwGo (pl : Nat → Int32) (le e : Int32) : Nat → Int32 → LnS → LnS
  | 0, _, L => L
  | k + 1, i, L => if e ≤ i then L else pwGo pl le e k (i + 1) (lyAdd (pwEsc le (pl i.toNatClampNeg) L) (pl i.toNatClampNeg))
def pwAll (pl : Nat → Int32) (n le pr : Int32) (B : LnS) : LnS := pwQ le (pwGo pl le (pwN pr n) 61 0 (pwQ le B))
