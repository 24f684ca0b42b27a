/-! THE REFERENCE: fixed, cut, exponentOf. -/
def skGo (row : Nat → Int32) (e : Int32) : Nat → Int32 → Int32
  | 0, i => i
  | k + 1, i => if e ≤ i then i else if row i.toNatClampNeg = 0 then skGo row e k (i + 1) else i
def fxGo (row : Nat → Int32) (e : Int32) : Nat → Int32 → LnS → LnS
  | 0, _, L => L
  | k + 1, i, L => if e ≤ i then L else fxGo row e k (i + 1) (lyAdd L (48 + row i.toNatClampNeg))
def fxRow (dg : Nat → Int32) (a b v places : Int32) (row : Nat → Int32) : Nat → Int32 := roRow (liAll dg a b v places row).1 (liAll dg a b v places row).2 (a + 1 + places)
def fxDot (places point : Int32) (L : LnS) : LnS := if 0 < places then lyAdd L 46 else if point = 0 then L else lyAdd L 46
def fxBody (row : Nat → Int32) (ra places point : Int32) (L : LnS) : LnS :=
  fxGo row (ra + places) 141 ra (fxDot places point (fxGo row ra 141 (skGo row (ra - 1) 141 0) L))
def cuGo (f : Nat → Int32) : Nat → Int32 → Int32
  | 0, n => n
  | k + 1, n => if f (n - 1).toNatClampNeg = 48 then cuGo f k (n - 1) else n
def cuAll (f : Nat → Int32) (places n : Int32) : Int32 := if places = 0 then n else if f (cuGo f 901 n - 1).toNatClampNeg = 46 then cuGo f 901 n - 1 else cuGo f 901 n
theorem k_inct {a : Int32} (h : a.toInt < 2000) : (a + 1).toInt = a.toInt + 1 := k_inc (b := 2000) (by rw [show (2000 : Int32).toInt = 2000 from by decide]; omega)
theorem k_sb {a b : Int32} (h1 : -2147483648 ≤ a.toInt - b.toInt) (h2 : a.toInt - b.toInt < 2147483648) : (a - b).toInt = a.toInt - b.toInt := by
  rw [Int32.toInt_sub, Int.bmod_eq_of_le] <;> omega
theorem ly_keep {L : LnS} {c : Int32} {q : Nat} (h0 : 0 ≤ L.2.toInt) (h : (q : Int) < L.2.toInt) : (lyAdd L c).1 q = L.1 q := by
  unfold lyAdd
  refine pk_un ?_
  rw [k_clamp h0]
  omega
theorem ly_last {L : LnS} {c : Int32} : (lyAdd L c).1 L.2.toNatClampNeg = c := pk_us
theorem ly_at {f f' : Nat → Int32} {n n' c : Int32} {q : Nat} {x : Int32} (w : (f', n') = lyAdd (f, n) c) (h0 : 0 ≤ n.toInt) (h : (q : Int) < n.toInt) (e : f q = x) : f' q = x := by
  have h1 := ly_keep (L := (f, n)) (c := c) (q := q) h0 h
  rw [← w] at h1
  exact h1.trans e
theorem ly_dot {f f' : Nat → Int32} {n n' c : Int32} (w : (f', n') = lyAdd (f, n) c) : f' n.toNatClampNeg = c := by
  have h1 := ly_last (L := (f, n)) (c := c)
  rw [← w] at h1
  exact h1
def eoZ (L : LnS) : Int32 := skGo L.1 L.2 141 0
def eoP (L : LnS) (ra places : Int32) : LnS := if eoZ L = L.2 then liPad (ra - 1 + places + 1) 140 L else liPad (eoZ L + places + 1) 140 L
def eoRow (L : LnS) (ra places : Int32) : Nat → Int32 := if eoZ L = L.2 then (eoP L ra places).1 else roRow (eoP L ra places).1 (eoP L ra places).2 (eoZ L + places + 1)
def eoLen (L : LnS) (ra places : Int32) : Int32 := if eoZ L = L.2 then (eoP L ra places).2 else roLen (eoP L ra places).2 (eoZ L + places + 1)
def eoFst (L : LnS) (ra places : Int32) : Int32 := if eoZ L = L.2 then ra - 1 else if eoRow L ra places (eoZ L).toNatClampNeg = 0 then eoZ L - 1 else eoZ L
def eoExp (L : LnS) (ra places : Int32) : Int32 := if eoZ L = L.2 then 0 else ra - 1 - eoFst L ra places
theorem ro_len {n k : Int32} (h1 : n.toInt ≤ 140) (h2 : k.toInt ≤ 140) : (roLen n k).toInt ≤ 140 := by
  unfold roLen
  split
  · exact h1
  · exact h2
