/-! SHAPE: what its methods compute. The body has 160 places, the row of digits 31, the lowest digits 64. -/
def shCut (n pr : Int32) : Int32 := if fiOr pr 60 < n then fiOr pr 60 else n
def spGo (rad : Int64) : Nat → Int32 → Int64 → (Nat → Int32) → (Nat → Int32) × Int32
  | 0, m, _, lo => (lo, m)
  | k + 1, m, y, lo => if 64 ≤ m then (lo, m) else if ¬ m = 0 ∧ y ≤ 0 then (lo, m) else spGo rad k (m + 1) (y / rad) (upd lo m.toNatClampNeg (y - y / rad * rad).toInt32)
def spAll (num : Int64) (radix : Int32) (lo : Nat → Int32) : (Nat → Int32) × Int32 := spGo radix.toInt64 65 0 num lo
theorem rad_ne {r : Int32} (h : ¬ r < 2) : ¬ r.toInt64 = 0 := by
  intro q
  have h1 : r.toInt64.toInt = 0 := by rw [q]; decide
  rw [Int32.toInt_toInt64] at h1
  rw [k_lt, l_2] at h
  omega
theorem k_inc64 {a : Int32} (h : a.toInt < 64) : (a + 1).toInt = a.toInt + 1 := k_inc (b := 64) (by rw [l_64]; omega)
def whCh (ten d : Int32) : Int32 := if 10 ≤ d then ten + d - 10 else 48 + d
def whGo (ten : Int32) (lo : Nat → Int32) : Nat → Int32 → LnS → LnS
  | 0, _, L => L
  | k + 1, i, L => if i < 0 then L else whGo ten lo k (i + (-1)) (lnAdd 160 L (whCh ten (lo i.toNatClampNeg)))
def whTen (le : Int32) : Int32 := if le = 88 then 65 else 97
def whLine (num : Int64) (radix le pr : Int32) (lo : Nat → Int32) (L : LnS) : LnS :=
  whGo (whTen le) (spAll num radix lo).1 65 ((spAll num radix lo).2 - 1) (lnRp 160 48 (pr - (spAll num radix lo).2) L)
def whBase (sh radix le ba : Int32) : Int32 := if sh = 0 then ba else if radix = 10 then ba else le
def whSign (bel : Int32) (ah : Int64) (pl bl : Int32) : Int32 := fiSign (k_b (!decide (0 ≤ vaWhole bel ah))) pl bl
def plRow (bh ah : Int64) (pr : Int32) (row : Nat → Int32) : Nat → Int32 := dgRound (dgLd bh ah row) (19 + fiOr pr 6)
def plLine (bh ah : Int64) (pr sh : Int32) (row : Nat → Int32) (L : LnS) : LnS := dgPut (plRow bh ah pr row) 160 19 (fiOr pr 6) sh L
def exPut (row : Nat → Int32) (mark : Int32) (L : LnS) : LnS :=
  lnAdd 160 (lnAdd 160 (lnAdd 160 (lnAdd 160 L mark) (if 0 ≤ dgExp row then 43 else 45)) (48 + fiAbs (dgExp row) / 10)) (48 + (fiAbs (dgExp row) - fiAbs (dgExp row) / 10 * 10))
def exPutE (ex mark : Int32) (L : LnS) : LnS :=
  lnAdd 160 (lnAdd 160 (lnAdd 160 (lnAdd 160 L mark) (if 0 ≤ ex then 43 else 45)) (48 + fiAbs ex / 10)) (48 + (fiAbs ex - fiAbs ex / 10 * 10))
theorem exPut_E {row : Nat → Int32} {mark : Int32} {L : LnS} : exPut row mark L = exPutE (dgExp row) mark L := rfl
def exRow (bh ah : Int64) (pr : Int32) (row : Nat → Int32) : Nat → Int32 := dgRound (dgLd bh ah row) (dgFst (dgLd bh ah row) + 1 + fiOr pr 6)
def exLine (bh ah : Int64) (pr sh le : Int32) (row : Nat → Int32) (L : LnS) : LnS := exPut (exRow bh ah pr row) le (dgPut (exRow bh ah pr row) 160 (dgFst (exRow bh ah pr row) + 1) (fiOr pr 6) sh L)
def gMost (pr : Int32) : Int32 := if 1 < fiOr pr 6 then fiOr pr 6 else 1
def gRow (bh ah : Int64) (pr : Int32) (row : Nat → Int32) : Nat → Int32 := dgRound (dgLd bh ah row) (dgFst (dgLd bh ah row) + gMost pr)
def gFar (row : Nat → Int32) (pr : Int32) : Bool := if dgExp row < -4 then true else !decide (dgExp row < gMost pr)
def gPlaces (row : Nat → Int32) (pr : Int32) : Int32 := if gFar row pr = true then gMost pr - 1 else gMost pr - 1 - dgExp row
def gPoint (row : Nat → Int32) (pr : Int32) : Int32 := if gFar row pr = true then dgFst row + 1 else 19
def gL1 (row : Nat → Int32) (pr sh : Int32) (L : LnS) : LnS := dgPut row 160 (gPoint row pr) (gPlaces row pr) sh L
def gL2 (row : Nat → Int32) (pr sh : Int32) (L : LnS) : LnS := if sh = 0 then ((gL1 row pr sh L).1, lnDp (gL1 row pr sh L).1 (gPlaces row pr) (gL1 row pr sh L).2) else gL1 row pr sh L
def gL3 (row : Nat → Int32) (pr sh le : Int32) (L : LnS) : LnS := if gFar row pr = true then exPut row (if le = 71 then 69 else 101) (gL2 row pr sh L) else gL2 row pr sh L
def qtOne (L : LnS) (mark : Int32) : LnS := lnAdd 160 (if mark = 34 then lnAdd 160 L 92 else if mark = 92 then lnAdd 160 L 92 else L) mark
def qtGo (g : Nat → Int32) (gn e : Int32) : Nat → Int32 → LnS → LnS
  | 0, _, L => L
  | k + 1, i, L => if e ≤ i then L else qtGo g gn e k (i + 1) (qtOne L (lnAt g gn i))
def qtLine (g : Nat → Int32) (gn pr : Int32) (L : LnS) : LnS := lnAdd 160 (qtGo g gn (shCut gn pr) ((shCut gn pr).toInt.toNat + 1) 0 (lnAdd 160 L 34)) 34
def piSize (n sg ba : Int32) : Int32 := n + (if sg = -1 then 0 else 1) + (if ba = -1 then 0 else 2)
def piGap (wi size : Int32) : Int32 := if 0 < wi - size then wi - size else 0
def piA (room : Nat) (gap zeros mi : Int32) (L : LnS) : LnS := if ¬ zeros = 0 then L else if ¬ mi = 0 then L else lnRp room 32 gap L
def piB (room : Nat) (sg : Int32) (L : LnS) : LnS := if sg = -1 then L else lnAdd room L sg
def piC (room : Nat) (ba : Int32) (L : LnS) : LnS := if ba = -1 then L else lnAdd room (lnAdd room L 48) ba
def piD (room : Nat) (gap zeros : Int32) (L : LnS) : LnS := if zeros = 0 then L else lnRp room 48 gap L
def piE (room : Nat) (gap mi : Int32) (L : LnS) : LnS := if mi = 0 then L else lnRp room 32 gap L
def piOK (room : Nat) (nO n sg ba wi : Int32) : Bool := decide (piSize n sg ba + piGap wi (piSize n sg ba) ≤ nI room - nO)
def piLine (room : Nat) (f : Nat → Int32) (n sg ba wi ze mi so : Int32) (L : LnS) : LnS :=
  piE room (piGap wi (piSize n sg ba)) mi (lnPt room f n 0 n (piD room (piGap wi (piSize n sg ba)) (k_b (fiZeros ze mi so)) (piC room ba (piB room sg (piA room (piGap wi (piSize n sg ba)) (k_b (fiZeros ze mi so)) mi L)))))
theorem k_decs {a : Int32} (h : 0 ≤ a.toInt) : (a - 1).toInt = a.toInt - 1 := by
  have h1 := Int32.toInt_lt a
  rw [Int32.toInt_sub, show (1 : Int32).toInt = 1 from by decide]
  rw [Int.bmod_eq_of_le] <;> omega
def foPick {α : Type} (le : Int32) (e g x b c d f o q s : α) (g2 : α) (x2 : α) (e2 : α) : α :=
  if le = 69 then e else if le = 71 then g else if le = 88 then x else if le = 98 then b else if le = 99 then c else if le = 100 then d else if le = 101 then e2 else if le = 102 then f else
  if le = 103 then g2 else if le = 111 then o else if le = 113 then q else if le = 120 then x2 else s
def foSign (le bel : Int32) (ah : Int64) (pl bl : Int32) : Int32 :=
  foPick le (fiSign bel pl bl) (fiSign bel pl bl) (whSign bel ah pl bl) (whSign bel ah pl bl) (-1) (whSign bel ah pl bl) (fiSign bel pl bl) (whSign bel ah pl bl) (-1) (-1) (fiSign bel pl bl) (whSign bel ah pl bl) (fiSign bel pl bl)
def foBase (le sh : Int32) : Int32 :=
  foPick le (-1) (-1) (whBase sh 16 le (-1)) (whBase sh 2 le (-1)) (-1) (whBase sh 10 le (-1)) (-1) (whBase sh 8 le (-1)) (-1) (-1) (-1) (whBase sh 16 le (-1)) (-1)
def foLine (le dec bel : Int32) (ah bh : Int64) (fV : Nat → Int32) (nV pr sh : Int32) (row lo f : Nat → Int32) : LnS :=
  foPick le (exLine bh ah pr sh le row (f, 0)) (gL3 (gRow bh ah pr row) pr sh le (f, 0)) (whLine ah 16 le pr lo (f, 0)) (whLine ah 2 le pr lo (f, 0)) (lnAdd 160 (f, 0) (vaChar dec bel ah fV nV)) (whLine ah 10 le pr lo (f, 0))
    (plLine bh ah pr sh row (f, 0)) (whLine ah 8 le pr lo (f, 0)) (qtLine fV nV pr (f, 0)) (lnPt 160 fV nV 0 (shCut nV pr) (f, 0)) (gL3 (gRow bh ah pr row) pr sh le (f, 0)) (whLine ah 16 le pr lo (f, 0)) (exLine bh ah pr sh le row (f, 0))
