/-! THE REFERENCE: isDecimal. -/
theorem ix30 {v i : Int32} (hv : 0 ≤ v.toInt ∧ v.toInt < 12) (hi : 0 ≤ i.toInt ∧ i.toInt < 31) : (30 * v + i).toNatClampNeg = 30 * v.toNatClampNeg + i.toInt.toNat := by
  have e1 : ((30 : Int32) * v).toInt = 30 * v.toInt := by
    rw [k_mul] <;> rw [show (30 : Int32).toInt = 30 from l_30] <;> omega
  have e2 : (30 * v + i).toInt = 30 * v.toInt + i.toInt := by rw [k_add] <;> omega
  show (30 * v + i).toInt.toNat = 30 * v.toInt.toNat + i.toInt.toNat
  omega
theorem rdP_sub (f : Nat → Int32) (n : Int32) : rdP f n - rdS f n = lnDg f n (rdS f n) := by
  unfold rdP
  rw [Int32.add_comm]
  exact Int32.add_sub_cancel _ _
theorem rd_no1 {f : Nat → Int32} {n : Int32} (h : 18 < (lnDg f n (rdS f n)).toInt) : rdOK f n = false := by
  unfold rdOK
  split
  · rfl
  · rw [rdP_sub, if_pos]
    rw [k_lt, l_18]
    exact h
theorem rd_no2 {f : Nat → Int32} {n : Int32} (h : 12 < (rdL f n).toInt) : rdOK f n = false := by
  unfold rdOK
  split
  · rfl
  · split
    · rfl
    · rw [if_pos]
      rw [k_le, l_12]
      omega
/-- one digit more than was counted -/
theorem dig_more {f : Nat → Int32} {n k a : Int32} {m : Nat} {r : Int32} (hk0 : 0 ≤ k.toInt) (hk : ¬ n ≤ k) (hd : isDig (f k.toNatClampNeg) = true) (ha : 0 ≤ a.toInt) (hb : a.toInt + m < 2147483000) (h : lnDig f n (m + 1) k a = r) : a.toInt < r.toInt := by
  rw [lnDig, if_neg hk, lnAt_of hk0 hk, if_pos hd] at h
  have e : (a + 1).toInt = a.toInt + 1 := by rw [k_add] <;> rw [l_1] <;> omega
  have := lnDig_mono f n m (k + 1) (a + 1) (by omega) (by omega)
  rw [h] at this
  omega
/-- the digits written so far -/
def digAt (dg f : Nat → Int32) (o b : Nat) (c : Int) : Prop := ∀ i : Nat, (i : Int) < c → dg (o + i) = f (b + i) - 48
def digKeep (dg g : Nat → Int32) (o : Nat) : Prop := ∀ q, (q < o ∨ o + 30 ≤ q) → dg q = g q
theorem digAt_step {dg f : Nat → Int32} {o b : Nat} {a x : Int32} {ix : Nat} (h : digAt dg f o b a.toInt) (h0 : 0 ≤ a.toInt) (h1 : a.toInt < 100) (hix : ix = o + a.toInt.toNat) (hx : x = f (b + a.toInt.toNat) - 48) : digAt (upd dg ix x) f o b (a + 1).toInt := by
  intro i hi
  rw [k_inct (by omega)] at hi
  by_cases e : i = a.toInt.toNat
  · subst e; rw [hix, pk_us]; exact hx
  · rw [pk_un (by omega)]; exact h i (by omega)
theorem digAt_old {dg f : Nat → Int32} {o b : Nat} {c : Int} {x : Int32} {ix : Nat} (h : digAt dg f o b c) (hix : (o : Int) + c ≤ ix) : digAt (upd dg ix x) f o b c := by
  intro i hi
  rw [pk_un (by omega)]; exact h i hi
theorem digKeep_step {dg g : Nat → Int32} {o ix : Nat} {x : Int32} (h : digKeep dg g o) (h1 : o ≤ ix) (h2 : ix < o + 30) : digKeep (upd dg ix x) g o := by
  intro q hq
  rw [pk_un (by omega)]; exact h q hq
theorem more_01 {row : Nat → Int32} {n : Int32} : ∀ (k : Nat) (i m : Int32), (m = 0 ∨ m = 1) → (roMore row n k i m = 0 ∨ roMore row n k i m = 1) := by
  intro k
  induction k with
  | zero => intro i m h; exact h
  | succ k ih =>
    intro i m h
    rw [roMore]
    split
    · exact h
    · refine ih _ _ ?_
      split
      · split
        · exact Or.inl rfl
        · exact Or.inr rfl
      · exact Or.inr rfl
