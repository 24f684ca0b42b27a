/-! THE REFERENCE: takeStar. -/
def tsGood (it : Int32) (wh : Int64) : Bool := if ¬ it = 0 then false else if wh < -99 then false else !decide (99 < wh)
def tsAll (tk vals it bg ft fp sr : Int32) (wh : Int64) : Int32 × Int32 × Int32 × Int32 × Int32 :=
  if ¬ tk = vals then (if tsGood it wh = true then (1, ft, fp, wh.toInt32, tk + 1) else (0, 3, bg, sr, tk)) else (0, 2, bg, sr, tk)
