/-! fillField: the two stars, the value, the shape, the draft. -/
def stA (cnt : Int32) (SS : Nat → VS) (sw tk mi wi pr : Int32) : ST := if sw = 0 then (0, tk, mi, wi, pr) else stTake cnt SS 1 tk mi wi pr
def stB1 (cnt : Int32) (SS : Nat → VS) (sp r tk mi wi pr : Int32) : ST := if ¬ r = 0 then (r, tk, mi, wi, pr) else if sp = 0 then (r, tk, mi, wi, pr) else stTake cnt SS 0 tk mi wi pr
def stB (cnt : Int32) (SS : Nat → VS) (sp : Int32) (q : ST) : ST := stB1 cnt SS sp q.1 q.2.1 q.2.2.1 q.2.2.2.1 q.2.2.2.2
def stAB (cnt : Int32) (SS : Nat → VS) (sw sp tk mi wi pr : Int32) : ST := stB cnt SS sp (stA cnt SS sw tk mi wi pr)
def ffSg (v : VS) (le pl bl : Int32) : Int32 := foSign le v.2.1 v.2.2.1 pl bl
def ffBd (v : VS) (le pr sh : Int32) (row lo f : Nat → Int32) : LnS := foLine le v.1 v.2.1 v.2.2.1 v.2.2.2.1 v.2.2.2.2.1 v.2.2.2.2.2 pr sh row lo f
def ffTk (v : VS) (le so : Int32) : Int32 := fiTakes so le v.1 v.2.1 v.2.2.1 v.2.2.2.2.2
def ffFit (v : VS) (le pl bl sh pr wi : Int32) (row lo f : Nat → Int32) (nD : Int32) : Bool := piOK 600 nD (ffBd v le pr sh row lo f).2 (ffSg v le pl bl) (foBase le sh) wi
def ffLn (v : VS) (le pl bl sh pr wi ze mi so : Int32) (row lo f : Nat → Int32) (L : LnS) : LnS := piLine 600 (ffBd v le pr sh row lo f).1 (ffBd v le pr sh row lo f).2 (ffSg v le pl bl) (foBase le sh) wi ze mi so L
def ffAll (cnt : Int32) (SS : Nat → VS) (r tk mi wi pr le so ze pl bl sh : Int32) (row lo f : Nat → Int32) (L : LnS) : Int32 × Int32 × LnS :=
  if ¬ r = 0 then (r, tk, L) else if ¬ tk < cnt then (2, tk, L) else if ffTk (SS tk.toNatClampNeg) le so = 0 then (3, tk + 1, L) else
  if ffFit (SS tk.toNatClampNeg) le pl bl sh pr wi row lo f L.2 = true then (0, tk + 1, ffLn (SS tk.toNatClampNeg) le pl bl sh pr wi ze mi so row lo f L) else (5, tk + 1, L)
def ffOf (cnt : Int32) (SS : Nat → VS) (q : ST) (le so ze pl bl sh : Int32) (row lo f : Nat → Int32) (L : LnS) : Int32 × Int32 × LnS := ffAll cnt SS q.1 q.2.1 q.2.2.1 q.2.2.2.1 q.2.2.2.2 le so ze pl bl sh row lo f L
