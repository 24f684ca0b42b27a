/-! FIELD: what its methods compute. Flags in the order minus, plus, zero, sharp, blank. -/
abbrev FG : Type := Int32 × Int32 × Int32 × Int32 × Int32
def flIs (ch : Int32) : Bool := decide (ch = 32) || (decide (ch = 35) || (decide (ch = 43) || (decide (ch = 45) || decide (ch = 48))))
def flSet (F : FG) (ch : Int32) : FG := match F with
  | (mi, pl, ze, sh, bl) => if ch = 32 then (mi, pl, ze, sh, 1) else if ch = 35 then (mi, pl, ze, 1, bl) else if ch = 43 then (mi, 1, ze, sh, bl) else if ch = 45 then (1, pl, ze, sh, bl) else if ch = 48 then (mi, pl, 1, sh, bl) else (mi, pl, ze, sh, bl)
def flGo (f : Nat → Int32) (n : Int32) : Nat → FG → Int32 → FG × Int32
  | 0, F, x => (F, x)
  | k + 1, F, x => if n ≤ x then (F, x) else if flIs (lnAt f n x) = true then flGo f n k (flSet F (lnAt f n x)) (x + 1) else (F, x)
def flAll (f : Nat → Int32) (n x : Int32) : FG × Int32 := flGo f n ((n.toInt - x.toInt).toNat + 1) (0, 0, 0, 0, 0) x
def rnMany (f : Nat → Int32) (n x : Int32) : Int32 := if lnDg f n x < 2 then lnDg f n x else 2
def rnVal (f : Nat → Int32) (n x : Int32) : Int32 := (lnNb f n x (rnMany f n x)).toInt32
def rwS (f : Nat → Int32) (n x : Int32) : Int32 := k_b (decide (lnAt f n x = 42))
def rwW (f : Nat → Int32) (n x : Int32) : Int32 := if lnAt f n x = 42 then 0 else rnVal f n x
def rwN (f : Nat → Int32) (n x : Int32) : Int32 := if lnAt f n x = 42 then x + 1 else x + rnMany f n x
def rpS (f : Nat → Int32) (n x : Int32) : Int32 := if lnAt f n x = 46 then k_b (decide (lnAt f n (x + 1) = 42)) else 0
def rpP (f : Nat → Int32) (n x : Int32) : Int32 := if lnAt f n x = 46 then (if lnAt f n (x + 1) = 42 then -1 else rnVal f n (x + 1)) else -1
def rpN (f : Nat → Int32) (n x : Int32) : Int32 := if lnAt f n x = 46 then (if lnAt f n (x + 1) = 42 then x + 1 + 1 else x + 1 + rnMany f n (x + 1)) else x
def soOf (ch : Int32) : Int32 :=
  if ch = 100 ∨ ch = 120 ∨ ch = 88 ∨ ch = 111 ∨ ch = 98 then 1 else if ch = 102 ∨ ch = 101 ∨ ch = 69 ∨ ch = 103 ∨ ch = 71 then 2 else if ch = 115 ∨ ch = 113 ∨ ch = 99 then 3 else 0
def soOff (k : Int32) : Int := if k = 1 then 223 else if k = 2 then 225 else if k = 3 then 227 else 229
def soArr : Array Int := #[225, 229, 225, 229, 229, 229, 229, 229, 229, 229, 229, 229, 229, 229, 229, 229, 229, 229, 229, 223, 229, 229, 229, 229, 229, 229, 229, 229, 229, 223, 227, 223, 225, 225, 225, 229, 229, 229, 229, 229, 229, 229, 223, 229, 227, 229, 227, 229, 229, 229, 229, 223]
theorem so_key : ∀ j : Fin 52, soArr[j.val]? = some (soOff (soOf (Int32.ofNat (69 + j.val)))) := by decide +kernel
theorem k_ofNat {x : Int32} (h : 0 ≤ x.toInt) : x = Int32.ofNat x.toInt.toNat := by
  have h1 := Int32.toInt_lt x
  refine Int32.toInt_inj.mp ?_
  have := nI_toInt (n := x.toInt.toNat) (by omega)
  rw [show Int32.ofNat x.toInt.toNat = nI x.toInt.toNat from rfl, this]
  omega
theorem so_off {x : Int32} (h1 : ¬ x.toInt < 69) (h2 : ¬ 120 < x.toInt) : soArr[(x.toInt - 69).toNat]? = some (soOff (soOf x)) := by
  have h := so_key ⟨(x.toInt - 69).toNat, by omega⟩
  have e := k_ofNat (x := x) (by omega)
  rw [show 69 + (x.toInt - 69).toNat = x.toInt.toNat by omega, ← e] at h
  exact h
theorem so_out {x : Int32} (h : x.toInt < 69 ∨ 120 < x.toInt) : soOf x = 0 := by
  have key : ∀ k : Int32, 69 ≤ k.toInt → k.toInt ≤ 120 → x ≠ k := fun k a b e => by subst e; omega
  unfold soOf
  rw [if_neg, if_neg, if_neg]
  · rintro (e | e | e) <;> exact key _ (by decide) (by decide) e
  · rintro (e | e | e | e | e) <;> exact key _ (by decide) (by decide) e
  · rintro (e | e | e | e | e) <;> exact key _ (by decide) (by decide) e
theorem so_vals (x : Int32) : soOf x = 1 ∨ soOf x = 2 ∨ soOf x = 3 ∨ soOf x = 0 := by
  unfold soOf
  split
  · exact Or.inl rfl
  · split
    · exact Or.inr (Or.inl rfl)
    · split
      · exact Or.inr (Or.inr (Or.inl rfl))
      · exact Or.inr (Or.inr (Or.inr rfl))
def fiSign (below plus blank : Int32) : Int32 := if below = 0 then (if plus = 0 then (if blank = 0 then -1 else 32) else 43) else 45
def fiZeros (zero minus sort : Int32) : Bool := if zero = 0 then false else if ¬ minus = 0 then false else !decide (sort = 3)
def fiTakes (sort letter : Int32) (dec bel : Int32) (ah : Int64) (n : Int32) : Int32 := if sort = 3 then (if ¬ letter = 99 then 1 else k_b (vaMark dec bel ah n)) else dec
def fiOr (pr other : Int32) : Int32 := if ¬ pr = -1 then pr else other
def fiAbs (x : Int32) : Int32 := if 0 ≤ x then x else 0 - x
/-- all that read finds: flags, the stars, width, precision, letter, sort, the place behind it -/
def fiRead (f : Nat → Int32) (n place : Int32) : FG × Int32 × Int32 × Int32 × Int32 × Int32 × Int32 × Int32 :=
  ((flAll f n (place + 1)).1, rwS f n (flAll f n (place + 1)).2, rpS f n (rwN f n (flAll f n (place + 1)).2), rwW f n (flAll f n (place + 1)).2, rpP f n (rwN f n (flAll f n (place + 1)).2),
    lnAt f n (rpN f n (rwN f n (flAll f n (place + 1)).2)), soOf (lnAt f n (rpN f n (rwN f n (flAll f n (place + 1)).2))), rpN f n (rwN f n (flAll f n (place + 1)).2) + 1)
theorem k_bT1 {x : Int32} {b : Bool} (h : ¬ x = 0) (w : x = k_b b) : b = true := by
  subst w
  cases b
  · exact absurd rfl h
  · rfl
theorem k_bF1 {x : Int32} {b : Bool} (h : x = 0) (w : x = k_b b) : ¬ b = true := by
  subst w
  cases b
  · decide
  · exact absurd h (by decide)
theorem fl_no {F : FG} {ch : Int32} (h : ¬ flIs ch = true) : flSet F ch = F := by
  obtain ⟨a, b, c, d, e⟩ := F
  simp only [flIs, Bool.or_eq_true, decide_eq_true_eq, not_or] at h
  obtain ⟨h1, h2, h3, h4, h5⟩ := h
  simp [flSet, h1, h2, h3, h4, h5]
