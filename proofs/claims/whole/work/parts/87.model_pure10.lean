/-! THE REFERENCE: alike. -/
def alCp (pl : Nat → Int32) (n : Int32) : Nat → Int32 → (Nat → Int32) → (Nat → Int32)
  | 0, _, rv => rv
  | k + 1, i, rv => if n ≤ i then rv else alCp pl n k (i + 1) (upd rv i.toNatClampNeg (pl i.toNatClampNeg))
def alGo (pl rv : Nat → Int32) (n : Int32) : Nat → Int32 → Int32 → Int32
  | 0, _, s => s
  | k + 1, i, s => if s = 0 then s else if n ≤ i then s else alGo pl rv n k (i + 1) (k_b (decide (pl i.toNatClampNeg = rv i.toNatClampNeg)))
def alIn (x y vals : Int32) (it : Nat → Int32) : Bool :=
  if x < 0 then false else if vals ≤ x then false else if y < 0 then false else if vals ≤ y then false else decide (it x.toNatClampNeg = it y.toNatClampNeg)
/-- L1: the plain text of the one, L2: that of the other (laid over it), rv: the copy's place -/
def alSame (L1 L2 : LnS) (rv : Nat → Int32) : Int32 := alGo L2.1 (alCp L1.1 L1.2 61 0 rv) L1.2 61 0 (k_b (decide (L2.2 = L1.2)))
theorem al_bool (pl rv : Nat → Int32) (n : Int32) : ∀ (k : Nat) (i s : Int32), (s = 0 ∨ s = 1) → (alGo pl rv n k i s = 0 ∨ alGo pl rv n k i s = 1) := by
  intro k
  induction k with
  | zero => intro i s h; exact h
  | succ k ih =>
    intro i s h
    rw [alGo]
    split
    · exact h
    · split
      · exact h
      · refine ih _ _ ?_
        unfold k_b
        split
        · exact Or.inr rfl
        · exact Or.inl rfl
theorem k_b_01 (b : Bool) : k_b b = 0 ∨ k_b b = 1 := by cases b <;> decide
