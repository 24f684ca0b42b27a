/-! WHOLE NUMBERS in bases. -/
theorem j_div {y b : Int64} {Y r : Nat} (hy : y.toInt = Y) (hb : b.toInt = r) (hr : 2 ≤ r) : (y / b).toInt = (Y / r : Nat) := by
  have h1 := Int64.toInt_lt y
  rw [Int64.toInt_div, hy, hb, ← Int.ofNat_tdiv]
  have : Y / r ≤ Y := Nat.div_le_self _ _
  generalize Y / r = D at *
  rw [Int.bmod_eq_of_le] <;> omega
theorem j_rem {y b : Int64} {Y r : Nat} (hy : y.toInt = Y) (hb : b.toInt = r) (hr : 2 ≤ r) (hr2 : r < 1000) : (y - y / b * b).toInt32 = nI (Y % r) := by
  have h1 := Int64.toInt_lt y
  have hd := j_div hy hb hr
  have hle : Y / r * r ≤ Y := Nat.div_mul_le_self _ _
  have hm : (y / b * b).toInt = (Y / r * r : Nat) := by
    rw [Int64.toInt_mul, hd, hb, ← Int.natCast_mul]
    generalize Y / r * r = N at *
    rw [Int.bmod_eq_of_le] <;> omega
  have hs : (y - y / b * b).toInt = (Y % r : Nat) := by
    have e : Y % r = Y - Y / r * r := by rw [Nat.mod_eq_sub_div_mul]
    rw [Int64.toInt_sub, hm, hy]
    generalize Y % r = M at *
    generalize Y / r * r = N at *
    rw [Int.bmod_eq_of_le] <;> omega
  have hlt : Y % r < r := Nat.mod_lt _ (by omega)
  generalize Y % r = M at *
  refine Int32.toInt_inj.mp ?_
  rw [Int64.toInt_toInt32, hs, nI_toInt (by omega), Int.bmod_eq_of_le] <;> omega
def ldg (r : Nat) : Nat → Nat → List Nat
  | 0, _ => []
  | k + 1, Y => (Y % r) :: (if Y / r = 0 then [] else ldg r k (Y / r))
theorem ldg_lt (r : Nat) (hr : 2 ≤ r) : ∀ (k Y : Nat), ∀ x ∈ ldg r k Y, x < r := by
  intro k
  induction k with
  | zero => intro Y x h; simp [ldg] at h
  | succ k ih =>
    intro Y x h
    rw [ldg] at h
    rcases List.mem_cons.mp h with rfl | h
    · exact Nat.mod_lt _ (by omega)
    · split at h
      · simp at h
      · exact ih _ x h
theorem ldg_len (r : Nat) : ∀ (k Y : Nat), (ldg r k Y).length ≤ k := by
  intro k
  induction k with
  | zero => intro Y; exact Nat.le_refl _
  | succ k ih =>
    intro Y
    rw [ldg, List.length_cons]
    split
    · simp
    · have := ih (Y / r); omega
theorem div_pow {Y r j : Nat} (hr : 2 ≤ r) (h : Y < 2 ^ (j + 1)) : Y / r < 2 ^ j := by
  have h1 : Y / r ≤ Y / 2 := Nat.div_le_div_left hr (by omega)
  have h2 : Y / 2 < 2 ^ j := by
    rw [Nat.div_lt_iff_lt_mul (by omega)]
    rw [Nat.pow_succ] at h
    omega
  omega
theorem spGo_ls {rad : Int64} {r : Nat} (hb : rad.toInt = r) (hr : 2 ≤ r) (hr2 : r < 1000) : ∀ (j k m Y : Nat) (y : Int64) (lo : Nat → Int32), y.toInt = Y → Y < 2 ^ j → 1 ≤ j → m + j ≤ 64 → j < k → (m = 0 ∨ 0 < Y) →
    (spGo rad k (nI m) y lo).2 = nI (m + (ldg r j Y).length) ∧ (∀ i, i < m → (spGo rad k (nI m) y lo).1 i = lo i) ∧ ∀ i (h : i < (ldg r j Y).length), (spGo rad k (nI m) y lo).1 (m + i) = nI ((ldg r j Y)[i]) := by
  intro j
  induction j with
  | zero => intro k m Y y lo hy hY h1; omega
  | succ j ih =>
    intro k m Y y lo hy hY h1 hmj hk hmy
    obtain ⟨k, rfl⟩ : ∃ k', k = k' + 1 := ⟨k - 1, by omega⟩
    rw [spGo, if_neg (by rw [k_le, nI_toInt (by omega), l_64]; omega)]
    rw [if_neg (by
      rintro ⟨a, b⟩
      rw [n_0, j_inj (by omega) (by omega)] at a
      rw [Int64.le_iff_toInt_le, hy, show (0 : Int64).toInt = 0 from by decide] at b
      omega)]
    rw [j_nat (by omega), j_one, j_rem hy hb hr hr2]
    have hd := j_div hy hb hr
    by_cases e : Y / r = 0
    · have hstop : ∀ (k : Nat) (lo : Nat → Int32), spGo rad k (nI (m + 1)) (y / rad) lo = (lo, nI (m + 1)) := by
        intro k lo
        cases k with
        | zero => rfl
        | succ k =>
          rw [spGo]
          split
          · rfl
          · rw [if_pos]
            refine ⟨by rw [n_0, j_inj (by omega) (by omega)]; omega, ?_⟩
            rw [Int64.le_iff_toInt_le, hd, e]
            decide
      rw [hstop]
      have el : ldg r (j + 1) Y = [Y % r] := by rw [ldg, if_pos e]
      refine ⟨by rw [el]; rfl, fun i hi => pk_un (by omega), fun i h => ?_⟩
      have : i = 0 := by rw [el] at h; simp at h; exact h
      subst this
      simp only [el, List.getElem_cons_zero]
      exact pk_us
    · have hY2 := div_pow hr hY
      have hj1 : 1 ≤ j := by
        rcases Nat.eq_zero_or_pos j with w | w
        · subst w
          rw [Nat.pow_zero] at hY2
          exact absurd (Nat.lt_one_iff.mp hY2) e
        · exact w
      obtain ⟨a, b, c⟩ := ih k (m + 1) (Y / r) (y / rad) (upd lo m (nI (Y % r))) hd hY2 hj1 (by omega) (by omega) (Or.inr (Nat.pos_of_ne_zero e))
      have el : ldg r (j + 1) Y = (Y % r) :: ldg r j (Y / r) := by rw [ldg, if_neg e]
      refine ⟨?_, fun i hi => ?_, fun i h => ?_⟩
      · rw [a, el, List.length_cons]; congr 1; omega
      · rw [b i (by omega)]; exact pk_un (by omega)
      · simp only [el]
        cases i with
        | zero =>
          rw [show m + 0 = m from rfl, b m (by omega)]
          exact pk_us
        | succ i =>
          have h' : i < (ldg r j (Y / r)).length := by rw [el, List.length_cons] at h; omega
          have := c i h'
          rw [show m + (i + 1) = m + 1 + i by omega, this]
          rfl
theorem pwRev_ls {rad : Int64} {r : Nat} (le : Int32) (hb : rad.toInt = r) (hr : 2 ≤ r) (hr2 : r < 1000) : ∀ (j k n Y : Nat) (y : Int64) (rv : Nat → Int32), y.toInt = Y → Y < 2 ^ j → 1 ≤ j → n + j ≤ 64 → j ≤ k →
    (pwRev le rad k (nI n) y rv).2 = nI (n + (ldg r j Y).length) ∧ (∀ i, i < n → (pwRev le rad k (nI n) y rv).1 i = rv i) ∧ (∀ i (h : i < (ldg r j Y).length), (pwRev le rad k (nI n) y rv).1 (n + i) = pwC le (nI ((ldg r j Y)[i]))) ∧ pwOK rad k y = true := by
  intro j
  induction j with
  | zero => intro k n Y y rv hy hY h1; omega
  | succ j ih =>
    intro k n Y y rv hy hY h1 hmj hk
    obtain ⟨k, rfl⟩ : ∃ k', k = k' + 1 := ⟨k - 1, by omega⟩
    have hd := j_div hy hb hr
    have hc : (0 < y / rad) ↔ ¬ Y / r = 0 := by
      rw [Int64.lt_iff_toInt_lt, hd, show (0 : Int64).toInt = 0 from by decide]
      generalize Y / r = D
      omega
    rw [pwRev, pwOK, j_nat (by omega), j_one, j_rem hy hb hr hr2]
    by_cases e : Y / r = 0
    · rw [if_neg (fun q => hc.mp q e), if_neg (fun q => hc.mp q e)]
      have el : ldg r (j + 1) Y = [Y % r] := by rw [ldg, if_pos e]
      refine ⟨by rw [el]; rfl, fun i hi => pk_un (by omega), fun i h => ?_, rfl⟩
      have : i = 0 := by rw [el] at h; simp at h; exact h
      subst this
      simp only [el, List.getElem_cons_zero]
      exact pk_us
    · have hY2 := div_pow hr hY
      have hj1 : 1 ≤ j := by
        rcases Nat.eq_zero_or_pos j with w | w
        · subst w
          rw [Nat.pow_zero] at hY2
          exact absurd (Nat.lt_one_iff.mp hY2) e
        · exact w
      rw [if_pos (hc.mpr e), if_pos (hc.mpr e)]
      obtain ⟨a, b, c, f⟩ := ih k (n + 1) (Y / r) (y / rad) (upd rv n (pwC le (nI (Y % r)))) hd hY2 hj1 (by omega) (by omega)
      have el : ldg r (j + 1) Y = (Y % r) :: ldg r j (Y / r) := by rw [ldg, if_neg e]
      refine ⟨?_, fun i hi => ?_, fun i h => ?_, f⟩
      · rw [a, el, List.length_cons]; congr 1; omega
      · rw [b i (by omega)]; exact pk_un (by omega)
      · simp only [el]
        cases i with
        | zero =>
          rw [show n + 0 = n from rfl, b n (by omega)]
          exact pk_us
        | succ i =>
          have h' : i < (ldg r j (Y / r)).length := by rw [el, List.length_cons] at h; omega
          have := c i h'
          rw [show n + (i + 1) = n + 1 + i by omega, this]
          rfl
