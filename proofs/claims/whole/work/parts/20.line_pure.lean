/-! LINE: what its methods compute, over the raw fields: f (the characters), n (the length); room is the array's length. -/
abbrev LnS : Type := (Nat → Int32) × Int32
def k_b (b : Bool) : Int32 := if b then 1 else 0
theorem k_b_nar (b : Bool) : narrow .boolean (.int (k_b b)) = .int (k_b b) := by cases b <;> rfl
theorem k_b_fit (b : Bool) : fits .boolean (.int (k_b b)) = true := by cases b <;> rfl
theorem k_b_eq0 (b : Bool) : k_b b = 0 ↔ b = false := by cases b <;> decide
theorem k_b_true : k_b true = 1 := rfl
theorem k_b_false : k_b false = 0 := rfl
def chr16 (c : Int32) : Int32 := (c.toUInt32 % 65536).toInt32
/-- the length of a line lies in its room -/
def lnOK (room : Nat) (n : Int32) : Prop := 0 ≤ n.toInt ∧ n.toInt ≤ (room : Int) ∧ room < 1073741824
def lnAt (f : Nat → Int32) (n i : Int32) : Int32 := if i < 0 then -1 else if n ≤ i then -1 else f i.toNatClampNeg
def lnAdd (room : Nat) (L : LnS) (c : Int32) : LnS := if nI room ≤ L.2 then L else (upd L.1 L.2.toNatClampNeg (chr16 c), L.2 + 1)
def lnRep (room : Nat) (mark times : Int32) : Nat → Int32 → LnS → LnS
  | 0, _, L => L
  | k + 1, i, L => if times ≤ i then L else lnRep room mark times k (i + 1) (lnAdd room L mark)
def lnPart (room : Nat) (g : Nat → Int32) (gn e : Int32) : Nat → Int32 → LnS → LnS
  | 0, _, L => L
  | k + 1, i, L => if e ≤ i then L else lnPart room g gn e k (i + 1) (lnAdd room L (lnAt g gn i))
def isDig (c : Int32) : Bool := !decide (c < 48) && !decide (57 < c)
def lnDig (f : Nat → Int32) (n : Int32) : Nat → Int32 → Int32 → Int32
  | 0, _, many => many
  | k + 1, i, many => if n ≤ i then many else if isDig (lnAt f n i) then lnDig f n k (i + 1) (many + 1) else many
def lnNum (f : Nat → Int32) (n start many : Int32) : Nat → Int32 → Int64 → Int64
  | 0, _, a => a
  | k + 1, i, a => if many ≤ i then a else lnNum f n start many k (i + 1) (a * 10 + (lnAt f n (start + i) - 48).toInt64)
def lnZeros (f : Nat → Int32) (places : Int32) : Nat → Int32 → Int32 → Int32
  | 0, _, n => n
  | k + 1, i, n => if places ≤ i then n else if lnAt f n (n - 1) = 48 then lnZeros f places k (i + 1) (n - 1) else n
def lnDrop (f : Nat → Int32) (places : Int32) (k : Nat) (n : Int32) : Int32 :=
  if lnAt f (lnZeros f places k 0 n) (lnZeros f places k 0 n - 1) = 46 then lnZeros f places k 0 n - 1 else lnZeros f places k 0 n
def lnSame (f : Nat → Int32) (n : Int32) (g : Nat → Int32) (gn : Int32) : Nat → Int32 → Bool
  | 0, _ => true
  | k + 1, i => if n ≤ i then true else if lnAt f n i = lnAt g gn i then lnSame f n g gn k (i + 1) else false
def lnRp (room : Nat) (mark times : Int32) (L : LnS) : LnS := lnRep room mark times (times.toInt.toNat + 1) 0 L
def lnPt (room : Nat) (g : Nat → Int32) (gn b e : Int32) (L : LnS) : LnS := lnPart room g gn e ((e.toInt - b.toInt).toNat + 1) b L
def lnDg (f : Nat → Int32) (n b : Int32) : Int32 := lnDig f n ((n.toInt - b.toInt).toNat + 1) b 0
def lnNb (f : Nat → Int32) (n b many : Int32) : Int64 := lnNum f n b many (many.toInt.toNat + 1) 0 0
def lnDp (f : Nat → Int32) (places n : Int32) : Int32 := lnDrop f places (places.toInt.toNat + 1) n
def lnEq (f : Nat → Int32) (n : Int32) (g : Nat → Int32) (gn : Int32) : Bool := if n = gn then lnSame f n g gn (n.toInt.toNat + 1) 0 else false
theorem k_lt {a b : Int32} : a < b ↔ a.toInt < b.toInt := Int32.lt_iff_toInt_lt
theorem k_le {a b : Int32} : a ≤ b ↔ a.toInt ≤ b.toInt := Int32.le_iff_toInt_le
theorem k_inc {a b : Int32} (h : a.toInt < b.toInt) : (a + 1).toInt = a.toInt + 1 := by
  have h1 := Int32.toInt_lt b
  have h2 := Int32.le_toInt a
  rw [Int32.toInt_add, show (1 : Int32).toInt = 1 from by decide]
  rw [Int.bmod_eq_of_le] <;> omega
theorem k_dec {a : Int32} (h : 0 < a.toInt) : (a - 1).toInt = a.toInt - 1 := by
  have h1 := Int32.toInt_lt a
  rw [Int32.toInt_sub, show (1 : Int32).toInt = 1 from by decide]
  rw [Int.bmod_eq_of_le] <;> omega
theorem k_clamp {a : Int32} (h : 0 ≤ a.toInt) : a.toNatClampNeg = a.toInt.toNat := rfl
theorem lnAt_in {room : Nat} {n i : Int32} (h : lnOK room n) (h0 : ¬ i < 0) (h1 : ¬ n ≤ i) : vp_in i room := by
  obtain ⟨a, b, _⟩ := h
  rw [k_lt] at h0
  rw [k_le] at h1
  rw [vp_in_iff]
  have : (0 : Int32).toInt = 0 := by decide
  omega
theorem lnAdd_in {room : Nat} {n : Int32} (h : lnOK room n) (h1 : ¬ nI room ≤ n) : vp_in n room := by
  obtain ⟨a, b, c⟩ := h
  rw [k_le, nI_toInt (by omega)] at h1
  rw [vp_in_iff]
  omega
theorem lnAdd_ok {room : Nat} {L : LnS} {c : Int32} (h : lnOK room L.2) : lnOK room (lnAdd room L c).2 := by
  obtain ⟨a, b, d⟩ := h
  unfold lnAdd
  split
  · exact ⟨a, b, d⟩
  · rename_i h1
    have h2 := h1
    rw [k_le, nI_toInt (by omega)] at h1
    have := k_inc (a := L.2) (b := nI room) (by rw [nI_toInt (by omega)]; omega)
    refine ⟨?_, ?_, d⟩ <;> (show _ ≤ _) <;> (try dsimp only) <;> rw [this] <;> omega
/-- the fuel of a counting loop, one step on -/
theorem k_fuel {e i : Int32} {k : Nat} (h : ¬ e ≤ i) (hk : (e.toInt - i.toInt).toNat < k + 1) : (e.toInt - (i + 1).toInt).toNat < k := by
  rw [k_le] at h
  rw [k_inc (a := i) (b := e) (by omega)]
  omega
theorem k_Q {p : Program} {l : Launch} {e : Env} {R : Room} {s : State} {m : MethodId} {args : Array Value} {below : List Frame} {meth : Method} {c : Code} {H : Heap} {locs : List Loc} {a b : Nat} {g : JFrame} {Q0 : State → Prop} (h : ∀ Q : State → Prop, Q = Q0 → W p l e R s m args below meth c H locs a b Q g) : W p l e R s m args below meth c H locs a b Q0 g := h Q0 rfl
theorem k_same {D : va_G} {cl : List vw_C} {tys : List (ClassId × FieldType)} {U : State} (hK : va_K D cl tys U) (i j : Nat) {a b : ClassId} (hi : tys[i]? = some (a, .char)) (hj : tys[j]? = some (b, .char)) : a = b := by
  have h1 := (hK.2 i _ hi).2
  have h2 := (hK.2 j _ hj).2
  exact Option.some.inj (h1.symm.trans h2)
theorem k_sameI {D : va_G} {cl : List vw_C} {tys : List (ClassId × FieldType)} {U : State} (hK : va_K D cl tys U) (i j : Nat) {a b : ClassId} (hi : tys[i]? = some (a, .int)) (hj : tys[j]? = some (b, .int)) : a = b := by
  have h1 := (hK.2 i _ hi).2
  have h2 := (hK.2 j _ hj).2
  exact Option.some.inj (h1.symm.trans h2)
theorem k_bT {x y z : Int32} (h : ¬ x = 0) (w : x = k_b (isDig y)) (v : y = z) : isDig z = true := by
  subst v; subst w
  cases hh : isDig y
  · rw [hh] at h; exact absurd rfl h
  · rfl
theorem k_bF {x y z : Int32} (h : x = 0) (w : x = k_b (isDig y)) (v : y = z) : ¬ isDig z = true := by
  subst v; subst w
  intro hh
  rw [hh] at h
  exact absurd h (by decide)
theorem lnAt_neg {f : Nat → Int32} {n i : Int32} (h : i < 0) : lnAt f n i = -1 := by simp [lnAt, h]
theorem lnOK_dec {room : Nat} {f : Nat → Int32} {n : Int32} (h : lnOK room n) (h1 : lnAt f n (n - 1) ≠ -1) : lnOK room (n - 1) := by
  obtain ⟨a, b, c⟩ := h
  by_cases h0 : 0 < n.toInt
  · have e := k_dec h0
    exact ⟨by omega, by omega, c⟩
  · have hz : n = 0 := Int32.toInt_inj.mp (by rw [show (0 : Int32).toInt = 0 from by decide]; omega)
    subst hz
    exact absurd (lnAt_neg (by decide)) h1
