/-! THE REFERENCE: putNumber. dg, a, b, v: the digits of the value; row: the row as it stood. -/
def pnQ (pr : Int32) : Int32 := if ¬ fiOr pr 6 = 0 then fiOr pr 6 else 1
def pnExp (dg : Nat → Int32) (a b v : Int32) (row : Nat → Int32) (places sh short le : Int32) (B : LnS) : LnS :=
  exAllM (eoRow (liAll dg a b v 0 row) (a + 1) places) (eoLen (liAll dg a b v 0 row) (a + 1) places) (eoFst (liAll dg a b v 0 row) (a + 1) places) (eoExp (liAll dg a b v 0 row) (a + 1) places) places sh short le B
def pnFix (dg : Nat → Int32) (a b v : Int32) (row : Nat → Int32) (places sh : Int32) (B : LnS) : LnS := fxBody (fxRow dg a b v places row) (a + 1) places sh B
def pnE (dg : Nat → Int32) (a b v : Int32) (row : Nat → Int32) (pr : Int32) : Int32 := eoExp (liAll dg a b v 0 row) (a + 1) (pnQ pr - 1)
def pnR (dg : Nat → Int32) (a b v : Int32) (row : Nat → Int32) (pr : Int32) : Nat → Int32 := eoRow (liAll dg a b v 0 row) (a + 1) (pnQ pr - 1)
def pnCut (sh places : Int32) (L : LnS) : LnS := if ¬ sh = 0 then L else (L.1, cuAll L.1 places L.2)
def pnG (dg : Nat → Int32) (a b v : Int32) (row : Nat → Int32) (pr sh le : Int32) (B : LnS) : LnS :=
  if pnE dg a b v row pr < -4 then pnExp dg a b v (pnR dg a b v row pr) (pnQ pr - 1) sh (if ¬ sh = 0 then 0 else 1) le B else
  if ¬ pnE dg a b v row pr < pnQ pr then pnExp dg a b v (pnR dg a b v row pr) (pnQ pr - 1) sh (if ¬ sh = 0 then 0 else 1) le B else
  pnCut sh (pnQ pr - 1 - pnE dg a b v row pr) (pnFix dg a b v (pnR dg a b v row pr) (pnQ pr - 1 - pnE dg a b v row pr) sh B)
def pnAll (dg : Nat → Int32) (a b v : Int32) (row : Nat → Int32) (pr sh le : Int32) (B : LnS) : LnS :=
  if ¬ le = 102 then (if le = 101 then pnExp dg a b v row (fiOr pr 6) sh 0 le B else if ¬ le = 69 then pnG dg a b v row pr sh le B else pnExp dg a b v row (fiOr pr 6) sh 0 le B) else pnFix dg a b v row (fiOr pr 6) sh B
theorem l_m4 : (-4 : Int32).toInt = -4 := by decide
theorem l_6 : (6 : Int32).toInt = 6 := by decide
theorem fiOr_b {pr : Int32} (h0 : -1 ≤ pr.toInt) (h1 : pr.toInt ≤ 99) : 0 ≤ (fiOr pr 6).toInt ∧ (fiOr pr 6).toInt ≤ 99 := by
  unfold fiOr
  split
  · rename_i h
    have : ¬ pr.toInt = -1 := fun z => h (Int32.toInt_inj.mp (by rw [z]; decide))
    exact ⟨by omega, h1⟩
  · rw [l_6]
    exact ⟨by decide, by decide⟩
