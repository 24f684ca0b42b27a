/-! DECIMALS: how they are read. -/
theorem lnDig_X {f : Nat → Int32} {N : Nat} (hN : N < 1000) : ∀ (k i m : Nat), N - i < k → i < 2000 → m + (N - i) < 2000 → ∃ c, lnDig f (nI N) k (nI i) (nI m) = nI (m + c) ∧ (c = 0 ∨ i + c ≤ N) ∧ (∀ j, j < c → isDig (f (i + j)) = true) ∧ (i + c < N → ¬ isDig (f (i + c)) = true) := by
  intro k
  induction k with
  | zero => intro i m h; omega
  | succ k ih =>
    intro i m h hi hm
    rw [lnDig]
    split
    · rename_i h1
      rw [j_le (by omega) (by omega)] at h1
      exact ⟨0, rfl, Or.inl rfl, fun j hj => by omega, fun q => by omega⟩
    · rename_i h1
      rw [j_le (by omega) (by omega)] at h1
      rw [lnAt_n (by omega) (by omega)]
      split
      · rename_i h2
        rw [j_one, j_one]
        obtain ⟨c, a, b, d, e⟩ := ih (i + 1) (m + 1) (by omega) (by omega) (by omega)
        refine ⟨c + 1, by rw [a]; congr 1; omega, Or.inr (by omega), fun j hj => ?_, fun q => ?_⟩
        · cases j with
          | zero => exact h2
          | succ j => rw [show i + (j + 1) = i + 1 + j by omega]; exact d j (by omega)
        · rw [show i + (c + 1) = i + 1 + c by omega]; exact e (by omega)
      · rename_i h2
        exact ⟨0, rfl, Or.inl rfl, fun j hj => by omega, fun _ => h2⟩
theorem lnDg_X {f : Nat → Int32} {N i : Nat} (hN : N < 1000) (hi : i < 1000) : ∃ c, lnDg f (nI N) (nI i) = nI c ∧ c < 1000 ∧ (c = 0 ∨ i + c ≤ N) ∧ (∀ j, j < c → isDig (f (i + j)) = true) ∧ (i + c < N → ¬ isDig (f (i + c)) = true) := by
  obtain ⟨c, a, b, d, e⟩ := lnDig_X (f := f) hN (((nI N).toInt - (nI i).toInt).toNat + 1) i 0 (by rw [nI_toInt (by omega), nI_toInt (by omega)]; omega) (by omega) (by omega)
  rw [Nat.zero_add] at a
  exact ⟨c, a, by omega, b, d, e⟩
/-- the value of a digit -/
def dv (x : Int32) : Nat := (x.toInt - 48).toNat
theorem dv_X {x : Int32} (h : isDig x = true) : dv x < 10 ∧ x = nI (48 + dv x) ∧ x - 48 = nI (dv x) ∧ chr16 x = x ∧ (x = 48 ↔ dv x = 0) := by
  unfold isDig at h
  rw [Bool.and_eq_true] at h
  have h1 : ¬ x < 48 := by simpa using h.1
  have h2 : ¬ 57 < x := by simpa using h.2
  rw [k_lt, show (48 : Int32).toInt = 48 from by decide] at h1
  rw [k_lt, show (57 : Int32).toInt = 57 from by decide] at h2
  have e : x = nI (48 + dv x) := by
    rw [j_of (x := x) (by omega)]
    congr 1
    unfold dv
    rw [nI_toInt (by omega)]
    omega
  have hl : dv x < 10 := by unfold dv; omega
  refine ⟨hl, e, ?_, ?_, ?_⟩
  · refine Int32.toInt_inj.mp ?_
    rw [k_sb (by rw [show (48 : Int32).toInt = 48 from by decide]; omega) (by rw [show (48 : Int32).toInt = 48 from by decide]; omega), show (48 : Int32).toInt = 48 from by decide, nI_toInt (by omega)]
    unfold dv
    omega
  · rw [e]; exact chr16_n (by omega)
  · rw [e, n_48, j_inj (by omega) (by omega)]
    have : dv (nI (48 + dv x)) = dv x := by rw [← e]
    omega
/-- what is found on a tape that is a decimal: sign, digits ahead, a point, digits behind -/
abbrev Rd (f : Nat → Int32) (N S A B : Nat) (T : Bool) : Prop := (rdS f (nI N) = nI S) ∧ (S ≤ 1) ∧ ((S = 1 ↔ (0 < N ∧ f 0 = 45))) ∧ (rdP f (nI N) = nI (S + A)) ∧ (rdT f (nI N) = T) ∧ (rdL f (nI N) = nI B) ∧ (rdE f (nI N) = nI N) ∧ (1 ≤ A) ∧ (A ≤ 18) ∧ (B ≤ 12) ∧ ((T = true → 1 ≤ B) ∧ (T = false → B = 0)) ∧ (N = if T = true then S + A + 1 + B else S + A) ∧ (∀ i, i < A → isDig (f (S + i)) = true) ∧ (T = true → f (S + A) = 46) ∧ (∀ i, i < B → isDig (f (S + A + 1 + i)) = true)
theorem Rd.s {f : Nat → Int32} {N S A B : Nat} {T : Bool} (h : Rd f N S A B T) : rdS f (nI N) = nI S := h.1
theorem Rd.s1 {f : Nat → Int32} {N S A B : Nat} {T : Bool} (h : Rd f N S A B T) : S ≤ 1 := h.2.1
theorem Rd.sm {f : Nat → Int32} {N S A B : Nat} {T : Bool} (h : Rd f N S A B T) : (S = 1 ↔ (0 < N ∧ f 0 = 45)) := h.2.2.1
theorem Rd.p {f : Nat → Int32} {N S A B : Nat} {T : Bool} (h : Rd f N S A B T) : rdP f (nI N) = nI (S + A) := h.2.2.2.1
theorem Rd.t {f : Nat → Int32} {N S A B : Nat} {T : Bool} (h : Rd f N S A B T) : rdT f (nI N) = T := h.2.2.2.2.1
theorem Rd.l {f : Nat → Int32} {N S A B : Nat} {T : Bool} (h : Rd f N S A B T) : rdL f (nI N) = nI B := h.2.2.2.2.2.1
theorem Rd.e {f : Nat → Int32} {N S A B : Nat} {T : Bool} (h : Rd f N S A B T) : rdE f (nI N) = nI N := h.2.2.2.2.2.2.1
theorem Rd.a1 {f : Nat → Int32} {N S A B : Nat} {T : Bool} (h : Rd f N S A B T) : 1 ≤ A := h.2.2.2.2.2.2.2.1
theorem Rd.a18 {f : Nat → Int32} {N S A B : Nat} {T : Bool} (h : Rd f N S A B T) : A ≤ 18 := h.2.2.2.2.2.2.2.2.1
theorem Rd.b12 {f : Nat → Int32} {N S A B : Nat} {T : Bool} (h : Rd f N S A B T) : B ≤ 12 := h.2.2.2.2.2.2.2.2.2.1
theorem Rd.tb {f : Nat → Int32} {N S A B : Nat} {T : Bool} (h : Rd f N S A B T) : (T = true → 1 ≤ B) ∧ (T = false → B = 0) := h.2.2.2.2.2.2.2.2.2.2.1
theorem Rd.n {f : Nat → Int32} {N S A B : Nat} {T : Bool} (h : Rd f N S A B T) : N = if T = true then S + A + 1 + B else S + A := h.2.2.2.2.2.2.2.2.2.2.2.1
theorem Rd.da {f : Nat → Int32} {N S A B : Nat} {T : Bool} (h : Rd f N S A B T) : ∀ i, i < A → isDig (f (S + i)) = true := h.2.2.2.2.2.2.2.2.2.2.2.2.1
theorem Rd.dot {f : Nat → Int32} {N S A B : Nat} {T : Bool} (h : Rd f N S A B T) : T = true → f (S + A) = 46 := h.2.2.2.2.2.2.2.2.2.2.2.2.2.1
theorem Rd.db {f : Nat → Int32} {N S A B : Nat} {T : Bool} (h : Rd f N S A B T) : ∀ i, i < B → isDig (f (S + A + 1 + i)) = true := h.2.2.2.2.2.2.2.2.2.2.2.2.2.2
theorem rd_X {f : Nat → Int32} {N : Nat} (hN : N ≤ 200) (h : rdOK f (nI N) = true) : ∃ S A B T, Rd f N S A B T := by
  obtain ⟨S, hS, hS1, hSm⟩ : ∃ S : Nat, rdS f (nI N) = nI S ∧ S ≤ 1 ∧ (S = 1 ↔ (0 < N ∧ f 0 = 45)) := by
    unfold rdS
    by_cases g : lnAt f (nI N) 0 = 45
    · refine ⟨1, by rw [if_pos g]; rfl, Nat.le_refl _, fun _ => ?_, fun _ => rfl⟩
      by_cases w : 0 < N
      · refine ⟨w, ?_⟩
        rw [n_0, lnAt_n w (by omega)] at g
        exact g
      · have : N = 0 := by omega
        subst this
        rw [lnAt, if_neg (by decide), if_pos (by decide)] at g
        exact absurd g (by decide)
    · refine ⟨0, by rw [if_neg g]; rfl, Nat.zero_le _, fun q => by omega, fun q => ?_⟩
      rw [n_0, lnAt_n q.1 (by omega)] at g
      exact absurd q.2 g
  obtain ⟨A, hA, hA1, hA2, hA3, hA4⟩ := lnDg_X (f := f) (N := N) (i := S) (by omega) (by omega)
  have hP : rdP f (nI N) = nI (S + A) := by unfold rdP; rw [hS, hA, j_add]
  unfold rdOK at h
  rw [hP, hS, show nI (S + A) - nI S = nI A by rw [j_sub (by omega) (by omega)]; congr 1; omega] at h
  split at h
  · exact absurd h (by decide)
  rename_i c1
  rw [j_inj (by omega) (by omega)] at c1
  split at h
  · exact absurd h (by decide)
  rename_i c2
  rw [show (18 : Int32) = nI 18 from rfl, j_lt (by omega) (by omega)] at c2
  split at h
  · exact absurd h (by decide)
  rename_i c3
  split at h
  · exact absurd h (by decide)
  rename_i c4
  have hE := of_decide_eq_true h
  cases hT : rdT f (nI N) with
  | false =>
    have hL : rdL f (nI N) = nI 0 := by unfold rdL; rw [hT]; rfl
    have hE2 : rdE f (nI N) = nI (S + A) := by unfold rdE; rw [hT, if_neg (by decide), hP]
    have hNe : N = S + A := by
      have := hE2.symm.trans hE
      rw [j_inj (by omega) (by omega)] at this
      omega
    exact ⟨S, A, 0, false, ⟨hS, hS1, hSm, hP, hT, hL, hE, by omega, by omega, by omega, ⟨fun q => absurd q (by decide), fun _ => rfl⟩, by rw [if_neg (by decide)]; exact hNe, hA3, fun q => absurd q (by decide), fun i hi => by omega⟩⟩
  | true =>
    obtain ⟨B, hB, hB1, hB2, hB3, hB4⟩ := lnDg_X (f := f) (N := N) (i := S + A + 1) (by omega) (by omega)
    have hL : rdL f (nI N) = nI B := by unfold rdL; rw [hT, if_pos rfl, hP, j_one, hB]
    have hE2 : rdE f (nI N) = nI (S + A + 1 + B) := by unfold rdE; rw [hT, if_pos rfl, hP, hL, j_one, j_add]
    have hNe : N = S + A + 1 + B := by
      have := hE2.symm.trans hE
      rw [j_inj (by omega) (by omega)] at this
      omega
    rw [hL, show (12 : Int32) = nI 12 from rfl] at c3
    have c3 : B ≤ 12 := by
      have q : nI B ≤ nI 12 := by
        by_cases w : nI B ≤ nI 12
        · exact w
        · exact absurd w c3
      rw [j_le (by omega) (by omega)] at q
      exact q
    have c4 : 1 ≤ B := by
      rcases Nat.eq_zero_or_pos B with w | w
      · exact absurd ⟨hT, by rw [hL, w]; rfl⟩ c4
      · exact w
    have hdot : f (S + A) = 46 := by
      have q := hT
      unfold rdT at q
      rw [hP, lnAt_n (by omega) (by omega)] at q
      exact of_decide_eq_true q
    exact ⟨S, A, B, true, ⟨hS, hS1, hSm, hP, hT, hL, hE, by omega, by omega, c3, ⟨fun _ => c4, fun q => absurd q (by decide)⟩, by rw [if_pos rfl]; exact hNe, hA3, fun _ => hdot, hB3⟩⟩
/-- the digits that the tape says -/
def tpD (f : Nat → Int32) (S A : Nat) : Nat → Nat := fun i => if i < A then dv (f (S + i)) else dv (f (S + A + 1 + (i - A)))
theorem Rd.d10 {f : Nat → Int32} {N S A B : Nat} {T : Bool} (h : Rd f N S A B T) : ∀ i, i < A + B → tpD f S A i < 10 := by
  intro i hi
  unfold tpD
  split
  · exact (dv_X (h.da i (by omega))).1
  · exact (dv_X (h.db (i - A) (by omega))).1
theorem lnNum_X {f : Nat → Int32} {N st m : Nat} {d : Nat → Nat} (hN : N < 1000) (hm : m ≤ 18) (hst : st + m ≤ N) (hd : ∀ i, i < m → isDig (f (st + i)) = true ∧ d i = dv (f (st + i))) : ∀ (k i : Nat) (x : Int64), m - i < k → i ≤ m → x.toInt = numOf d i → (lnNum f (nI N) (nI st) (nI m) k (nI i) x).toInt = numOf d m := by
  intro k
  induction k with
  | zero => intro i x h; omega
  | succ k ih =>
    intro i x h hi hx
    rw [lnNum]
    split
    · rename_i h1
      rw [j_le (by omega) (by omega)] at h1
      rw [hx, show i = m by omega]
    · rename_i h1
      rw [j_le (by omega) (by omega)] at h1
      obtain ⟨g1, g2⟩ := hd i (by omega)
      obtain ⟨d1, d2, d3, d4, d5⟩ := dv_X g1
      rw [j_add, lnAt_n (by omega) (by omega), d3, j_one]
      refine ih (i + 1) _ (by omega) (by omega) ?_
      have hlt := numOf_lt (d := d) i (fun j hj => by rw [(hd j (by omega)).2]; exact (dv_X (hd j (by omega)).1).1)
      have hp : (10 : Nat) ^ i ≤ 10 ^ 17 := Nat.pow_le_pow_right (by omega) (by omega)
      rw [show (10 : Nat) ^ 17 = 100000000000000000 from by decide] at hp
      have e1 : (x * 10).toInt = numOf d i * 10 := by
        rw [Int64.toInt_mul, hx, show (10 : Int64).toInt = 10 from by decide, Int.bmod_eq_of_le] <;> omega
      have e2 : (nI (dv (f (st + i)))).toInt64.toInt = d i := by rw [Int32.toInt_toInt64, nI_toInt (by omega), g2]
      rw [← g2] at d1
      rw [Int64.toInt_add, e1, e2, numOf, Int.bmod_eq_of_le] <;> omega
theorem rdMul_X {Y : Nat} : ∀ (k i : Nat) (y : Int64), 12 - i < k → i ≤ 12 → Y < 10 ^ i → y.toInt = Y → (rdMul k (nI i) y).toInt = (Y * 10 ^ (12 - i) : Nat) := by
  intro k
  induction k generalizing Y with
  | zero => intro i y h; omega
  | succ k ih =>
    intro i y h hi hY hy
    rw [rdMul]
    split
    · rename_i h1
      rw [show (12 : Int32) = nI 12 from rfl, j_le (by omega) (by omega)] at h1
      rw [hy, show 12 - i = 0 by omega, Nat.pow_zero, Nat.mul_one]
    · rename_i h1
      rw [show (12 : Int32) = nI 12 from rfl, j_le (by omega) (by omega)] at h1
      have hp : (10 : Nat) ^ i ≤ 10 ^ 12 := Nat.pow_le_pow_right (by omega) (by omega)
      rw [show (10 : Nat) ^ 12 = 1000000000000 from by decide] at hp
      have e1 : (y * 10).toInt = (Y * 10 : Nat) := by
        rw [Int64.toInt_mul, hy, show (10 : Int64).toInt = 10 from by decide, Int.bmod_eq_of_le] <;> omega
      rw [j_one, ih (Y := Y * 10) (i + 1) _ (by omega) (by omega) (by rw [Nat.pow_succ]; omega) e1]
      rw [show 12 - i = (12 - (i + 1)) + 1 by omega, Nat.pow_succ, Nat.mul_comm (10 ^ (12 - (i + 1))) 10, ← Nat.mul_assoc]
theorem Rd.ah {f : Nat → Int32} {N S A B : Nat} {T : Bool} (h : Rd f N S A B T) (hN : N ≤ 200) : (rdAh f (nI N)).toInt = numOf (tpD f S A) A := by
  have hn := h.n
  have ha := h.a18
  have hs := h.s1
  have hle : S + A ≤ N := by rw [hn]; split <;> omega
  unfold rdAh lnNb
  rw [h.p, h.s, show nI (S + A) - nI S = nI A by rw [j_sub (by omega) (by omega)]; congr 1; omega, n_0, nI_toInt (by omega)]
  exact lnNum_X (by omega) ha hle (fun i hi => ⟨h.da i hi, by unfold tpD; rw [if_pos hi]⟩) _ 0 0 (by omega) (by omega) (show (0 : Int64).toInt = ((0 : Nat) : Int) from by decide)
theorem Rd.bh {f : Nat → Int32} {N S A B : Nat} {T : Bool} (h : Rd f N S A B T) (hN : N ≤ 200) : (rdBh f (nI N)).toInt = (numOf (fun i => tpD f S A (A + i)) B * 10 ^ (12 - B) : Nat) := by
  have hn := h.n
  have hb := h.b12
  have hs := h.s1
  have ha := h.a18
  have hdd : ∀ i, i < B → isDig (f (S + A + 1 + i)) = true ∧ tpD f S A (A + i) = dv (f (S + A + 1 + i)) := fun i hi => ⟨h.db i hi, by unfold tpD; rw [if_neg (by omega), show A + i - A = i by omega]⟩
  have hle : B = 0 ∨ S + A + 1 + B ≤ N := by
    cases hT : T
    · exact Or.inl (h.tb.2 hT)
    · rw [hT, if_pos rfl] at hn
      exact Or.inr (by omega)
  have h1 : (lnNb f (nI N) (nI (S + A) + 1) (nI B)).toInt = numOf (fun i => tpD f S A (A + i)) B := by
    unfold lnNb
    rw [n_0, nI_toInt (by omega), j_one]
    rcases hle with w | w
    · subst w
      show (lnNum f (nI N) (nI (S + A + 1)) (nI 0) 1 (nI 0) 0).toInt = _
      rw [lnNum, if_pos (by decide)]
      exact (show (0 : Int64).toInt = ((0 : Nat) : Int) from by decide)
    · exact lnNum_X (by omega) (by omega) w hdd _ 0 0 (by omega) (by omega) (show (0 : Int64).toInt = ((0 : Nat) : Int) from by decide)
  unfold rdBh
  rw [h.l, h.p, l_12, nI_toInt (by omega)]
  refine rdMul_X _ B _ (by omega) (by omega) ?_ h1
  exact numOf_lt B (fun i hi => by rw [(hdd i hi).2]; exact (dv_X (hdd i hi).1).1)
theorem Rd.bel {f : Nat → Int32} {N S A B : Nat} {T : Bool} (h : Rd f N S A B T) (hN : N ≤ 200) : rdBl f (nI N) = k_b (decide (S = 1) && !decide (∀ i, i < A + B → tpD f S A i = 0)) := by
  have h1 := h.ah hN
  have h2 := h.bh hN
  have z : (0 : Int64).toInt = 0 := by decide
  have e1 : (rdAh f (nI N) = 0) ↔ numOf (tpD f S A) A = 0 := by
    rw [← Int64.toInt_inj, h1, z]; omega
  have e2 : (rdBh f (nI N) = 0) ↔ numOf (fun i => tpD f S A (A + i)) B = 0 := by
    rw [← Int64.toInt_inj, h2, z]
    constructor
    · intro q
      have : numOf (fun i => tpD f S A (A + i)) B * 10 ^ (12 - B) = 0 := by omega
      rcases Nat.mul_eq_zero.mp this with w | w
      · exact w
      · exact absurd w (Nat.ne_of_gt (Nat.pow_pos (by omega)))
    · intro q; rw [q, Nat.zero_mul]; rfl
  have e3 : (∀ i, i < A + B → tpD f S A i = 0) ↔ (rdAh f (nI N) = 0 ∧ rdBh f (nI N) = 0) := by
    rw [e1, e2, numOf_0, numOf_0]
    constructor
    · intro q
      exact ⟨fun i hi => q i (by omega), fun i hi => q (A + i) (by omega)⟩
    · rintro ⟨q1, q2⟩ i hi
      by_cases w : i < A
      · exact q1 i w
      · have := q2 (i - A) (by omega)
        rw [show A + (i - A) = i by omega] at this
        exact this
  have e4 : decide (rdS f (nI N) = 1) = decide (S = 1) := by
    rw [h.s, n_1]
    refine decide_eq_decide.mpr ?_
    have := h.s1
    exact j_inj (by omega) (by omega)
  unfold rdBl
  rw [e4, show decide (∀ i, i < A + B → tpD f S A i = 0) = decide (rdAh f (nI N) = 0 ∧ rdBh f (nI N) = 0) from decide_eq_decide.mpr e3, Bool.decide_and, Bool.not_and]
