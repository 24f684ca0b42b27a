/-! THE REFERENCE's patterns, said with the one function of both sides. -/
theorem pat_end {f : Nat → Int32} {n p : Int32} (k : Nat) (h : n ≤ p) : patGo f n k p = -1 := by
  cases k with
  | zero => rfl
  | succ k => rw [patGo, if_pos h]
theorem sf_mark1 {f : Nat → Int32} {n p : Int32} (h0 : 0 ≤ p.toInt) (h : ¬ n ≤ p) (hc : ¬ f p.toNatClampNeg = 37) : ¬ sfIs f n p = true ∧ bhMk f n p = p + 1 ∧ lnAt f n p = f p.toNatClampNeg := by
  have e := lnAt_of (f := f) h0 h
  unfold sfIs bhMk
  rw [e, if_neg hc, if_neg hc]
  exact ⟨by decide, rfl, rfl⟩
theorem sf_mark2 {f : Nat → Int32} {n p : Int32} (h0 : 0 ≤ p.toInt) (h1 : p.toInt < 1000) (h : ¬ n ≤ p) (hc : f p.toNatClampNeg = 37) (h2 : moSee f n (p + 1) = 37) : ¬ sfIs f n p = true ∧ bhMk f n p = p + 1 + 1 ∧ lnAt f n p = 37 := by
  have e := lnAt_of (f := f) h0 h
  have e1 : (p + 1).toInt = p.toInt + 1 := k_inct (by omega)
  have e2 := (moSee_at (by omega) (by decide) h2).2
  unfold sfIs bhMk
  rw [e, if_pos hc, if_pos hc, e2, Int32.add_assoc]
  exact ⟨by decide, rfl, hc⟩
theorem sf_field {f : Nat → Int32} {n p : Int32} (h0 : 0 ≤ p.toInt) (h1 : p.toInt < 1000) (h : ¬ n ≤ p) (hc : f p.toNatClampNeg = 37) (h2 : ¬ moSee f n (p + 1) = 37) : sfIs f n p = true := by
  have e := lnAt_of (f := f) h0 h
  have e1 : (p + 1).toInt = p.toInt + 1 := k_inct (by omega)
  have e2 := moSee_ne (by omega) (by decide) h2
  unfold sfIs
  rw [e, if_pos hc, decide_eq_false e2]
  rfl
theorem so_see {f : Nat → Int32} {n k : Int32} (h0 : 0 ≤ k.toInt) : soOf (moSee f n k) = soOf (lnAt f n k) := by
  by_cases e : n ≤ k
  · rw [moSee, if_pos e, lnAt_end h0 e]
    decide
  · rw [moSee, if_neg e, lnAt_of h0 e]
theorem see_le {f : Nat → Int32} {n k : Int32} (h0 : 0 ≤ k.toInt) (h : ¬ soOf (lnAt f n k) = 0) : moSee f n k = lnAt f n k := by
  by_cases e : n ≤ k
  · rw [lnAt_end h0 e] at h
    exact absurd (by decide) h
  · rw [moSee, if_neg e, lnAt_of h0 e]
theorem rp_nonneg {a Z : Int32} (h : a = Z + 1) (h1 : 1 ≤ a.toInt) (h2 : a.toInt ≤ 1000) : 0 ≤ Z.toInt := by
  have q3 := Int32.toInt_lt Z
  have q4 := Int32.le_toInt Z
  rw [h] at h1 h2
  by_cases q5 : Z.toInt < 2147483647
  · rw [k_add (by rw [l_1]; omega) (by rw [l_1]; omega), l_1] at h1
    omega
  · omega
theorem fr_so (f : Nat → Int32) (n p : Int32) : frSo (fiRead f n p) = soOf (lnAt f n (rpN f n (rwN f n (flAll f n (p + 1)).2))) := by unfold frSo fiRead; dsimp only
theorem fr_nx (f : Nat → Int32) (n p : Int32) : frNx (fiRead f n p) = rpN f n (rwN f n (flAll f n (p + 1)).2) + 1 := by unfold frNx fiRead; dsimp only
theorem fr_le (f : Nat → Int32) (n p : Int32) : (fiRead f n p).2.2.2.2.2.1 = lnAt f n (rpN f n (rwN f n (flAll f n (p + 1)).2)) := by unfold fiRead; dsimp only
