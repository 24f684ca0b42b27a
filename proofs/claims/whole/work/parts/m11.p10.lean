/-! THE DIGITS OF A NUMBER: what load puts into the row. -/
theorem j_pred {i : Nat} (h : i < 2147483648) : (nI i + (-1)).toInt = (i : Int) - 1 := by
  have := nI_toInt (n := i) (by omega)
  rw [k_decm (by omega), this]
theorem t_10 : (10 : Int64).toInt = (10 : Nat) := by decide
theorem dgLoad_at {lo : Nat} (hlo : lo < 100) : ∀ (k i Y : Nat) (y : Int64) (row : Nat → Int32), y.toInt = Y → lo ≤ i → i - lo < k → i < 100 → ∀ j, dgLoad (nI lo) k (nI i + (-1)) y row j = if lo ≤ j ∧ j < i then nI (Y / 10 ^ (i - 1 - j) % 10) else row j := by
  intro k
  induction k with
  | zero => intro i Y y row hy h1 h2; omega
  | succ k ih =>
    intro i Y y row hy h1 h2 h3 j
    rw [dgLoad]
    by_cases e : i = lo
    · subst e
      rw [if_pos (by rw [k_lt, j_pred (by omega), nI_toInt (by omega)]; omega), if_neg (by omega)]
    · obtain ⟨i, rfl⟩ : ∃ i', i = i' + 1 := ⟨i - 1, by omega⟩
      rw [j_m0, if_neg (by rw [j_lt (by omega) (by omega)]; omega), j_nat (by omega), j_rem hy t_10 (by omega) (by omega)]
      rw [ih i (Y / 10) (y / 10) _ (j_div hy t_10 (by omega)) (by omega) (by omega) (by omega) j]
      by_cases g : lo ≤ j ∧ j < i
      · rw [if_pos g, if_pos (by omega), Nat.div_div_eq_div_mul, show i + 1 - 1 - j = (i - 1 - j) + 1 by omega, Nat.pow_succ, Nat.mul_comm]
      · rw [if_neg g]
        by_cases w : j = i
        · subst w
          rw [pk_us, if_pos (by omega), show j + 1 - 1 - j = 0 by omega, Nat.pow_zero, Nat.div_one]
        · rw [pk_un w, if_neg (by omega)]
theorem dgLd_at {bh ah : Int64} {A B : Nat} (ha : ah.toInt = A) (hb : bh.toInt = B) (row : Nat → Int32) (j : Nat) :
    dgLd bh ah row j = if j < 19 then nI (A / 10 ^ (18 - j) % 10) else if j < 31 then nI (B / 10 ^ (30 - j) % 10) else row j := by
  unfold dgLd
  have h1 := dgLoad_at (lo := 19) (by omega) 13 31 B bh row hb (by omega) (by omega) (by omega)
  have h2 := dgLoad_at (lo := 0) (by omega) 20 19 A ah (dgLoad (nI 19) 13 (nI 31 + (-1)) bh row) ha (by omega) (by omega) (by omega) j
  refine Eq.trans ?_ (h2.trans ?_)
  · rfl
  · rw [h1]
    by_cases e : j < 19
    · rw [if_pos (by omega), if_pos e]
    · rw [if_neg (by omega), if_neg e]
      by_cases g : j < 31
      · rw [if_pos (by omega), if_pos g]
      · rw [if_neg (by omega), if_neg g]
/-- the number that n digits say -/
def numOf (d : Nat → Nat) : Nat → Nat
  | 0 => 0
  | n + 1 => numOf d n * 10 + d n
theorem numOf_congr {d e : Nat → Nat} : ∀ n, (∀ i, i < n → d i = e i) → numOf d n = numOf e n := by
  intro n
  induction n with
  | zero => intro h; rfl
  | succ n ih => intro h; rw [numOf, numOf, ih (fun i hi => h i (by omega)), h n (by omega)]
theorem numOf_lt {d : Nat → Nat} : ∀ n, (∀ i, i < n → d i < 10) → numOf d n < 10 ^ n := by
  intro n
  induction n with
  | zero => intro h; exact Nat.one_pos
  | succ n ih =>
    intro h
    have a := ih (fun i hi => h i (by omega))
    have b := h n (by omega)
    rw [numOf, Nat.pow_succ]
    omega
theorem numOf_dig {d : Nat → Nat} : ∀ (n k : Nat), (∀ i, i < n → d i < 10) → numOf d n / 10 ^ k % 10 = if k < n then d (n - 1 - k) else 0 := by
  intro n
  induction n with
  | zero => intro k h; rw [numOf, Nat.zero_div, if_neg (by omega)]
  | succ n ih =>
    intro k h
    have b := h n (by omega)
    cases k with
    | zero =>
      rw [numOf, Nat.pow_zero, Nat.div_one, if_pos (by omega), show n + 1 - 1 - 0 = n by omega]
      omega
    | succ k =>
      have e : numOf d (n + 1) / 10 ^ (k + 1) = numOf d n / 10 ^ k := by
        rw [Nat.pow_succ, Nat.mul_comm, ← Nat.div_div_eq_div_mul, numOf]
        congr 1
        omega
      rw [e, ih k (fun i hi => h i (by omega))]
      by_cases g : k < n
      · rw [if_pos g, if_pos (by omega)]; congr 1; omega
      · rw [if_neg g, if_neg (by omega)]
theorem numOf_0 {d : Nat → Nat} : ∀ n, numOf d n = 0 ↔ ∀ i, i < n → d i = 0 := by
  intro n
  induction n with
  | zero => exact ⟨fun _ i hi => by omega, fun _ => rfl⟩
  | succ n ih =>
    rw [numOf]
    constructor
    · intro h i hi
      by_cases e : i = n
      · subst e; omega
      · exact ih.mp (by omega) i (by omega)
    · intro h
      have := ih.mpr (fun i hi => h i (by omega))
      have := h n (by omega)
      omega
theorem numC_X {bh ah : Int64} {a b : Nat} {d : Nat → Nat} (h1 : 1 ≤ a) (h18 : a ≤ 18) (h12 : b ≤ 12) (hd : ∀ i, i < a + b → d i < 10) (ha : ah.toInt = numOf d a) (hb : bh.toInt = (numOf (fun i => d (a + i)) b * 10 ^ (12 - b) : Nat)) : NumC bh ah (digX d a b) := by
  intro row j hj
  rw [dgLd_at ha hb]
  have hA := fun k => numOf_dig (d := d) a k (fun i hi => hd i (by omega))
  have hB := fun k => numOf_dig (d := fun i => d (a + i)) b k (fun i hi => hd (a + i) (by omega))
  unfold digX
  by_cases e : j < 19
  · rw [if_pos e, hA]
    by_cases g : 18 - j < a
    · rw [if_pos g, if_pos (by omega)]; congr 2; omega
    · rw [if_neg g, if_neg (by omega)]
  · rw [if_neg e, if_pos hj]
    by_cases g : 30 - j < 12 - b
    · have : numOf (fun i => d (a + i)) b * 10 ^ (12 - b) / 10 ^ (30 - j) % 10 = 0 := by
        rw [show 12 - b = (12 - b - (30 - j) - 1) + 1 + (30 - j) by omega, Nat.pow_add, ← Nat.mul_assoc, Nat.mul_div_cancel _ (Nat.pow_pos (by omega)), Nat.pow_succ, ← Nat.mul_assoc]
        exact Nat.mul_mod_left _ _
      rw [this, if_neg (by omega)]
    · have : numOf (fun i => d (a + i)) b * 10 ^ (12 - b) / 10 ^ (30 - j) = numOf (fun i => d (a + i)) b / 10 ^ (30 - j - (12 - b)) := by
        rw [show 30 - j = (12 - b) + (30 - j - (12 - b)) by omega, Nat.pow_add, ← Nat.div_div_eq_div_mul, Nat.mul_div_cancel _ (Nat.pow_pos (by omega))]
        congr 2
        omega
      rw [this, hB, if_pos (by omega), if_pos (by omega)]
      congr 2
      omega
