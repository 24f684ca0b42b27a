/-! THE REFERENCE: isSome says what the class's own reading of a decimal says (rdOK). -/
theorem lnAt_of {f : Nat → Int32} {n k : Int32} (h0 : 0 ≤ k.toInt) (h1 : ¬ n ≤ k) : lnAt f n k = f k.toNatClampNeg := by
  rw [lnAt, if_neg (by rw [k_lt, l_0]; omega), if_neg h1]
theorem lnAt_end {f : Nat → Int32} {n k : Int32} (h0 : 0 ≤ k.toInt) (h1 : n ≤ k) : lnAt f n k = -1 := by
  rw [lnAt, if_neg (by rw [k_lt, l_0]; omega), if_pos h1]
theorem l_13 : (13 : Int32).toInt = 13 := by decide
theorem rd_ok {f : Nat → Int32} {n a b : Int32} (ha : a = lnDg f n (rdS f n)) (ha0 : 0 ≤ a.toInt) (ha1 : a.toInt ≤ 300) (hb : b = rdL f n) (hb0 : 0 ≤ b.toInt) :
    rdOK f n = (decide (rdE f n = n) && (decide (0 < a) && (decide (a < 19) && (decide (b < 13) && (!rdT f n || decide (0 < b)))))) := by
  have hs : (rdS f n).toInt = 0 ∨ (rdS f n).toInt = 1 := by
    unfold rdS
    split
    · exact Or.inr l_1
    · exact Or.inl l_0
  have hp : (rdP f n).toInt = (rdS f n).toInt + a.toInt := by
    rw [rdP, ← ha, k_add] <;> omega
  have hd : (rdP f n - rdS f n).toInt = a.toInt := by rw [k_sb] <;> omega
  have e1 : (rdP f n = rdS f n) ↔ ¬ 0 < a := by
    rw [k_lt, l_0]
    constructor
    · intro z
      have := congrArg Int32.toInt z
      omega
    · intro z
      exact Int32.toInt_inj.mp (by omega)
  have e2 : (18 < rdP f n - rdS f n) ↔ ¬ a < 19 := by
    rw [k_lt, k_lt, hd, l_18, l_19]
    omega
  have e3 : (¬ rdL f n ≤ 12) ↔ ¬ b < 13 := by
    rw [← hb, k_le, k_lt, l_12, l_13]
    omega
  have e4 : (rdL f n = 0) ↔ ¬ 0 < b := by
    rw [← hb, k_lt, l_0]
    constructor
    · intro z
      rw [z, l_0]
      omega
    · intro z
      exact Int32.toInt_inj.mp (by rw [l_0]; omega)
  unfold rdOK
  by_cases h1 : 0 < a <;> by_cases h2 : a < 19 <;> by_cases h3 : b < 13 <;> by_cases h4 : 0 < b <;> cases h5 : rdT f n <;> by_cases h6 : rdE f n = n <;> simp [e1, e2, e3, e4, h1, h2, h3, h4, h6]
