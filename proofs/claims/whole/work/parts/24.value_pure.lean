/-! VALUE: what its methods compute. A value's raw fields: dec, bel (0 or 1), ah, bh (longs), and its words (f, n) in 60 places. -/
def rdS (f : Nat → Int32) (n : Int32) : Int32 := if lnAt f n 0 = 45 then 1 else 0
def rdP (f : Nat → Int32) (n : Int32) : Int32 := rdS f n + lnDg f n (rdS f n)
def rdT (f : Nat → Int32) (n : Int32) : Bool := decide (lnAt f n (rdP f n) = 46)
def rdL (f : Nat → Int32) (n : Int32) : Int32 := if rdT f n = true then lnDg f n (rdP f n + 1) else 0
def rdE (f : Nat → Int32) (n : Int32) : Int32 := if rdT f n = true then rdP f n + 1 + rdL f n else rdP f n
def rdOK (f : Nat → Int32) (n : Int32) : Bool :=
  if rdP f n = rdS f n then false else if 18 < rdP f n - rdS f n then false else if ¬ rdL f n ≤ 12 then false else
  if rdT f n = true ∧ rdL f n = 0 then false else decide (rdE f n = n)
def rdMul : Nat → Int32 → Int64 → Int64
  | 0, _, y => y
  | k + 1, i, y => if 12 ≤ i then y else rdMul k (i + 1) (y * 10)
def rdAh (f : Nat → Int32) (n : Int32) : Int64 := lnNb f n (rdS f n) (rdP f n - rdS f n)
def rdBh (f : Nat → Int32) (n : Int32) : Int64 := rdMul (((12 : Int32).toInt - (rdL f n).toInt).toNat + 1) (rdL f n) (lnNb f n (rdP f n + 1) (rdL f n))
def rdBl (f : Nat → Int32) (n : Int32) : Int32 := k_b (decide (rdS f n = 1) && (!decide (rdAh f n = 0) || !decide (rdBh f n = 0)))
def wpSkip (f : Nat → Int32) (n point : Int32) : Nat → Int32 → Int32
  | 0, i => i
  | k + 1, i => if point - 1 ≤ i then i else if lnAt f n i = 48 then wpSkip f n point k (i + 1) else i
def wpFirst (f : Nat → Int32) (n start point : Int32) : Int32 := wpSkip f n point (((point - 1).toInt - start.toInt).toNat + 1) start
def wpL1 (g : Nat → Int32) (bel : Int32) : LnS := if bel = 0 then (g, 0) else lnAdd 60 (g, 0) 45
def wpL2 (g : Nat → Int32) (bel : Int32) (f : Nat → Int32) (n start point : Int32) : LnS := lnPt 60 f n (wpFirst f n start point) point (wpL1 g bel)
def wpLine (g : Nat → Int32) (bel : Int32) (bh : Int64) (f : Nat → Int32) (n start point e : Int32) : LnS :=
  if bh = 0 then wpL2 g bel f n start point else
    ((lnPt 60 f n point e (wpL2 g bel f n start point)).1, lnDp (lnPt 60 f n point e (wpL2 g bel f n start point)).1 (e - point - 1) (lnPt 60 f n point e (wpL2 g bel f n start point)).2)
theorem k_nf {b : Bool} (h : ¬ b = false) : b = true := by cases b <;> simp_all
def vaWhole (bel : Int32) (ah : Int64) : Int64 := if bel = 0 then ah else -ah
def vaStar (dec : Int32) (ah : Int64) : Bool := if dec = 0 then false else !decide (99 < ah)
def vaMark (dec bel : Int32) (ah : Int64) (n : Int32) : Bool := if dec = 0 then decide (n = 1) else if vaWhole bel ah < 32 then false else !decide (126 < vaWhole bel ah)
def vaChar (dec bel : Int32) (ah : Int64) (f : Nat → Int32) (n : Int32) : Int32 := if dec = 0 then lnAt f n 0 else (vaWhole bel ah).toInt32
def vaSame (dec dec2 : Int32) (f : Nat → Int32) (n : Int32) (g : Nat → Int32) (m : Int32) : Bool := if dec = dec2 then lnEq f n g m else false
