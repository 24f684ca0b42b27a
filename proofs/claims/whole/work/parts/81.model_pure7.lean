/-! THE REFERENCE: makePlain. -/
def mpTx (tx : Nat → Int32) (v n : Int32) : Nat → Int32 → LnS → LnS
  | 0, _, L => L
  | k + 1, i, L => if n ≤ i then L else mpTx tx v n k (i + 1) (lyAdd L (tx (60 * v + i).toNatClampNeg))
def mpSk (dg : Nat → Int32) (v e : Int32) : Nat → Int32 → Int32
  | 0, i => i
  | k + 1, i => if e ≤ i then i else if dg (30 * v + i).toNatClampNeg = 0 then mpSk dg v e k (i + 1) else i
def mpDg (dg : Nat → Int32) (v e : Int32) : Nat → Int32 → LnS → LnS
  | 0, _, L => L
  | k + 1, i, L => if e ≤ i then L else mpDg dg v e k (i + 1) (lyAdd L (48 + dg (30 * v + i).toNatClampNeg))
def mpEnd (dg : Nat → Int32) (v a : Int32) : Nat → Int32 → Int32
  | 0, e => e
  | k + 1, e => if e ≤ a then e else if dg (30 * v + e - 1).toNatClampNeg = 0 then mpEnd dg v a k (e + (-1)) else e
def mpL1 (mn : Int32) (f : Nat → Int32) : LnS := if mn = 0 then (f, 0) else lyAdd (f, 0) 45
def mpL2 (dg : Nat → Int32) (a v mn : Int32) (f : Nat → Int32) : LnS := mpDg dg v a 19 (mpSk dg v (a - 1) 19 0) (mpL1 mn f)
def mpE (dg : Nat → Int32) (a b v : Int32) : Int32 := mpEnd dg v a 31 (a + b)
def mpL3 (dg : Nat → Int32) (a b v mn : Int32) (f : Nat → Int32) : LnS := if mpE dg a b v ≤ a then mpL2 dg a v mn f else lyAdd (mpL2 dg a v mn f) 46
def mpNum (dg : Nat → Int32) (a b v mn : Int32) (f : Nat → Int32) : LnS := mpDg dg v (mpE dg a b v) 13 a (mpL3 dg a b v mn f)
def mpAll (it : Int32) (tx : Nat → Int32) (tl : Int32) (dg : Nat → Int32) (a b v mn : Int32) (f : Nat → Int32) : LnS := if it = 0 then mpNum dg a b v mn f else mpTx tx v tl 61 0 (f, 0)
theorem dg_in1 {v e : Int32} (hv : 0 ≤ v.toInt ∧ v.toInt < 12) (he : 1 ≤ e.toInt ∧ e.toInt ≤ 30) : vp_in (30 * v + e - 1) 360 := by
  have e1 : ((30 : Int32) * v).toInt = 30 * v.toInt := by
    rw [k_mul] <;> rw [show (30 : Int32).toInt = 30 from l_30] <;> omega
  have e2 : (30 * v + e).toInt = 30 * v.toInt + e.toInt := by rw [k_add] <;> omega
  have e3 : (30 * v + e - 1).toInt = 30 * v.toInt + e.toInt - 1 := by rw [k_decs (by omega), e2]
  exact vp_in_iff.mpr ⟨by omega, by omega⟩
