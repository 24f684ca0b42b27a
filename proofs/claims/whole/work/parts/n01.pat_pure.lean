/-! THE REFERENCE's patterns, said with the one function of both sides. -/
theorem pat_end {f : Nat → Int32} {n p : Int32} (k : Nat) (h : n ≤ p) : patGo f n k p = -1 := by
  cases k with
  | zero => rfl
  | succ k => rw [patGo, if_pos h]
theorem sf_mark1 {f : Nat → Int32} {n p : Int32} (h0 : 0 ≤ p.toInt) (h : ¬ n ≤ p) (hc : ¬ f p.toNatClampNeg = 37) : ¬ sfIs f n p = true ∧ bhMk f n p = p + 1 ∧ lnAt f n p = f p.toNatClampNeg := by
  have e := lnAt_of (f := f) h0 h
  unfold sfIs bhMk
  rw [e, if_neg hc, if_neg hc]
  exact ⟨by decide, rfl, rfl⟩
theorem sf_mark2 {f : Nat → Int32} {n p : Int32} (h0 : 0 ≤ p.toInt) (h1 : p.toInt < 1000) (h : ¬ n ≤ p) (hc : f p.toNatClampNeg = 37) (h2 : moSee f n (p + 1) = 37) : ¬ sfIs f n p = true ∧ bhMk f n p = p + 1 + 1 ∧ lnAt f n p = 37 := by
  have e := lnAt_of (f := f) h0 h
  have e1 : (p + 1).toInt = p.toInt + 1 := k_inct (by omega)
  have e2 := (moSee_at (by omega) (by decide) h2).2
  unfold sfIs bhMk
  rw [e, if_pos hc, if_pos hc, e2, Int32.add_assoc]
  exact ⟨by decide, rfl, hc⟩
theorem sf_field {f : Nat → Int32} {n p : Int32} (h0 : 0 ≤ p.toInt) (h1 : p.toInt < 1000) (h : ¬ n ≤ p) (hc : f p.toNatClampNeg = 37) (h2 : ¬ moSee f n (p + 1) = 37) : sfIs f n p = true := by
  have e := lnAt_of (f := f) h0 h
  have e1 : (p + 1).toInt = p.toInt + 1 := k_inct (by omega)
  have e2 := moSee_ne (by omega) (by decide) h2
  unfold sfIs
  rw [e, if_pos hc, decide_eq_false e2]
  rfl
theorem so_see {f : Nat → Int32} {n k : Int32} (h0 : 0 ≤ k.toInt) : soOf (moSee f n k) = soOf (lnAt f n k) := by
  by_cases e : n ≤ k
  · rw [moSee, if_pos e, lnAt_end h0 e]
    decide
  · rw [moSee, if_neg e, lnAt_of h0 e]
theorem see_le {f : Nat → Int32} {n k : Int32} (h0 : 0 ≤ k.toInt) (h : ¬ soOf (lnAt f n k) = 0) : moSee f n k = lnAt f n k := by
  by_cases e : n ≤ k
  · rw [lnAt_end h0 e] at h
    exact absurd (by decide) h
  · rw [moSee, if_neg e, lnAt_of h0 e]
