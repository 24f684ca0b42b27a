/-! THE REFERENCE: type, text, letter, and the row of digits (lift, round). -/
def liGo (dg : Nat → Int32) (e v : Int32) : Nat → Int32 → LnS → LnS
  | 0, _, L => L
  | k + 1, i, L => if e ≤ i then L else liGo dg e v k (i + 1) (lyAdd L (dg (30 * v + i).toNatClampNeg))
def liPad (e : Int32) : Nat → LnS → LnS
  | 0, L => L
  | k + 1, L => if e ≤ L.2 then L else liPad e k (lyAdd L 0)
def liAll (dg : Nat → Int32) (a b v places : Int32) (row : Nat → Int32) : LnS := liPad (a + 1 + places) 140 (liGo dg (a + b) v 31 0 (upd row (0 : Int32).toNatClampNeg 0, 1))
def roMore (row : Nat → Int32) (n : Int32) : Nat → Int32 → Int32 → Int32
  | 0, _, m => m
  | k + 1, i, m => if n ≤ i then m else roMore row n k (i + 1) (if m = 0 then (if row i.toNatClampNeg ≤ 0 then 0 else 1) else 1)
def roD (row : Nat → Int32) (n keep : Int32) : Int32 := if n ≤ keep then 0 else row keep.toNatClampNeg
def roUp (row : Nat → Int32) (n keep : Int32) : Int32 :=
  if 5 < roD row n keep then 1 else if ¬ roD row n keep = 5 then 0 else if ¬ roMore row n 141 (keep + 1) 0 = 0 then 1 else k_b (decide (row (keep - 1).toNatClampNeg - row (keep - 1).toNatClampNeg / 2 * 2 = 1))
def roLen (n keep : Int32) : Int32 := if n ≤ keep then n else keep
def roCar : Nat → Int32 → Int32 → (Nat → Int32) → (Nat → Int32)
  | 0, _, _, row => row
  | k + 1, i, up, row => if up = 0 then row else if i < 0 then row else
      roCar k (i + (-1)) (k_b (decide (row i.toNatClampNeg = 9))) (upd row i.toNatClampNeg (if row i.toNatClampNeg = 9 then 0 else row i.toNatClampNeg + 1))
def roRow (row : Nat → Int32) (n keep : Int32) : Nat → Int32 := roCar 141 (keep - 1) (roUp row n keep) row
theorem l_140 : (140 : Int32).toInt = 140 := by decide
theorem k_sub1 {a : Int32} (h : 0 ≤ a.toInt) : (a - 1).toInt = a.toInt - 1 := k_decs h
theorem ly_len {L : LnS} {c : Int32} {N : Int} (h0 : 0 ≤ L.2.toInt) (h1 : L.2.toInt < N) (h2 : N ≤ 2000) : (lyAdd L c).2.toInt = L.2.toInt + 1 := k_inc (b := 2000) (by rw [show (2000 : Int32).toInt = 2000 from by decide]; omega)
theorem let_in {b n i : Int32} (h : n.toInt ≤ 600) (hm : moLet b n i = true) : vp_in i 600 := by
  unfold moLet at hm
  split at hm
  · exact absurd hm (by decide)
  · split at hm
    · exact absurd hm (by decide)
    · rename_i h0
      have h1 := of_decide_eq_true hm
      rw [k_lt] at h1
      rw [k_lt, l_0] at h0
      exact vp_in_iff.mpr ⟨by omega, by omega⟩
