/-! THE REFERENCE: what its small methods compute. -/
theorem l_60 : (60 : Int32).toInt = 60 := by decide
theorem l_600 : (600 : Int32).toInt = 600 := by decide
def moSee (f : Nat → Int32) (n k : Int32) : Int32 := if n ≤ k then 0 else f k.toNatClampNeg
def lyAdd (L : LnS) (c : Int32) : LnS := (upd L.1 L.2.toNatClampNeg c, L.2 + 1)
def moPut (c place ft fp : Int32) (L : LnS) : Int32 × Int32 × Int32 × LnS := if L.2 = 600 then (0, 5, place, L) else (1, ft, fp, lyAdd L c)
def moSign (b p k : Int32) (L : LnS) : LnS := if fiSign b p k = -1 then L else lyAdd L (fiSign b p k)
def moByte (word : Int64) (k : Int32) : Int32 := ((word >>> ((8 * k).toInt64 &&& 63)) &&& 255).toInt32
def moChk (word : Int64) (m : Int32) : Nat → Int32 → Bool
  | 0, _ => true
  | k + 1, i => if m ≤ i then true else if moByte word i < 32 then false else if ¬ moByte word i ≤ 126 then false else moChk word m k (i + 1)
def moAdd (word : Int64) : Nat → Int32 → LnS → LnS
  | 0, _, L => L
  | k + 1, i, L => if i < 0 then L else moAdd word k (i + (-1)) (lyAdd L (moByte word i))
def moTyOK (word : Int64) (m nt : Int32) : Bool := if m < 1 then false else if 8 < m then false else if nt + m ≤ 200 then moChk word m 9 0 else false
def moLet (isF n i : Int32) : Bool := if isF = 0 then false else if i < 0 then false else decide (i < n)
def moWh (dg : Nat → Int32) (a v : Int32) : Nat → Int32 → Int64 → Int64
  | 0, _, x => x
  | k + 1, i, x => if a ≤ i then x else moWh dg a v k (i + 1) (10 * x + (dg (30 * v + i).toNatClampNeg).toInt64)
def moWhole (dg : Nat → Int32) (a v mn : Int32) : Int64 := if mn = 0 then moWh dg a v 19 0 0 else -(moWh dg a v 19 0 0)
theorem moSee_in {n k : Int32} {N : Nat} (h : n.toInt ≤ (N : Int)) (h0 : 0 ≤ k.toInt) (h1 : ¬ n ≤ k) : vp_in k N := by
  rw [k_le] at h1
  exact vp_in_iff.mpr ⟨h0, by omega⟩
theorem k_add {a b : Int32} (h1 : -2147483648 ≤ a.toInt + b.toInt) (h2 : a.toInt + b.toInt < 2147483648) : (a + b).toInt = a.toInt + b.toInt := by
  rw [Int32.toInt_add, Int.bmod_eq_of_le] <;> omega
theorem k_mul {a b : Int32} (h1 : -2147483648 ≤ a.toInt * b.toInt) (h2 : a.toInt * b.toInt < 2147483648) : (a * b).toInt = a.toInt * b.toInt := by
  rw [Int32.toInt_mul, Int.bmod_eq_of_le] <;> omega
theorem dg_in {v i : Int32} (hv : 0 ≤ v.toInt ∧ v.toInt < 12) (hi : 0 ≤ i.toInt ∧ i.toInt < 30) : vp_in (30 * v + i) 360 := by
  have e1 : ((30 : Int32) * v).toInt = 30 * v.toInt := by
    rw [k_mul] <;> rw [show (30 : Int32).toInt = 30 from l_30] <;> omega
  have e2 : (30 * v + i).toInt = 30 * v.toInt + i.toInt := by rw [k_add] <;> omega
  exact vp_in_iff.mpr ⟨by omega, by omega⟩
theorem tx_in {v i : Int32} (hv : 0 ≤ v.toInt ∧ v.toInt < 12) (hi : 0 ≤ i.toInt ∧ i.toInt < 60) : vp_in (60 * v + i) 720 := by
  have e1 : ((60 : Int32) * v).toInt = 60 * v.toInt := by
    rw [k_mul] <;> rw [show (60 : Int32).toInt = 60 from l_60] <;> omega
  have e2 : (60 * v + i).toInt = 60 * v.toInt + i.toInt := by rw [k_add] <;> omega
  exact vp_in_iff.mpr ⟨by omega, by omega⟩
def moTx (tp : Nat → Int32) (nt v : Int32) : Nat → Int32 → (Nat → Int32) → (Nat → Int32)
  | 0, _, tx => tx
  | k + 1, i, tx => if nt ≤ i then tx else moTx tp nt v k (i + 1) (upd tx (60 * v + i).toNatClampNeg (tp i.toNatClampNeg))
