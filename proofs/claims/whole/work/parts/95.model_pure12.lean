/-! THE REFERENCE: putWhole. That the digits are at most 64 is asked for (pwOK), and shown later of the numbers that come. -/
def pwB (le : Int32) : Int32 := if ¬ le = 100 then (if ¬ le = 111 then (if ¬ le = 98 then 16 else 2) else 8) else 10
def pwHead (sh base le : Int32) (L : LnS) : LnS := if sh = 0 then L else if base = 10 then L else (upd (upd L.1 L.2.toNatClampNeg 48) (L.2 + 1).toNatClampNeg le, L.2 + 2)
def pwAbs (x : Int64) : Int64 := if 0 ≤ x then x else -x
def pwC (le d : Int32) : Int32 := if 10 ≤ d then (if ¬ le = 88 then 97 + d - 10 else 65 + d - 10) else 48 + d
def pwRev (le : Int32) (b : Int64) : Nat → Int32 → Int64 → (Nat → Int32) → (Nat → Int32) × Int32
  | 0, n, _, rv => (rv, n)
  | k + 1, n, y, rv => if 0 < y / b then pwRev le b k (n + 1) (y / b) (upd rv n.toNatClampNeg (pwC le (y - y / b * b).toInt32)) else (upd rv n.toNatClampNeg (pwC le (y - y / b * b).toInt32), n + 1)
def pwOK (b : Int64) : Nat → Int64 → Bool
  | 0, _ => false
  | k + 1, y => if 0 < y / b then pwOK b k (y / b) else true
def pwZr (pr : Int32) : Nat → Int32 → LnS → LnS
  | 0, _, L => L
  | k + 1, i, L => if pr ≤ i then L else pwZr pr k (i + 1) (lyAdd L 48)
def pwD (rv : Nat → Int32) : Nat → Int32 → LnS → LnS
  | 0, _, L => L
  | k + 1, i, L => if i < 0 then L else pwD rv k (i + (-1)) (lyAdd L (rv i.toNatClampNeg))
def pwNum (le : Int32) (x : Int64) (rv : Nat → Int32) : (Nat → Int32) × Int32 := pwRev le (pwB le).toInt64 64 0 (pwAbs x) rv
def pwBody (R : (Nat → Int32) × Int32) (pr : Int32) (B : LnS) : LnS := pwD R.1 65 (R.2 - 1) (pwZr pr 101 R.2 B)
theorem pwB_2 (le : Int32) : ¬ pwB le < 2 := by
  unfold pwB
  split
  · split
    · split <;> decide
    · decide
  · decide
theorem moSign_b {b p k n n2 : Int32} {f f2 : Nat → Int32} (e : (f2, n2) = moSign b p k (f, n)) (h : n.toInt = 0) : 0 ≤ n2.toInt ∧ n2.toInt ≤ 1 := by
  have e2 : n2 = (moSign b p k (f, n)).2 := by rw [← e]
  rw [e2]
  unfold moSign
  split
  · exact ⟨by show 0 ≤ n.toInt; omega, by show n.toInt ≤ 1; omega⟩
  · have : (lyAdd (f, n) (fiSign b p k)).2.toInt = n.toInt + 1 := k_inct (a := n) (by omega)
    exact ⟨by omega, by omega⟩
