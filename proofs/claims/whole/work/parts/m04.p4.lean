/-! THE REFERENCE'S ROW of n digits: its place r is the class's place r + s. -/
def RowR (L : LnS) (n : Nat) (X : Nat → Nat) (s : Nat) : Prop := L.2 = nI n ∧ ∀ r, r < n → L.1 r = nI (X (r + s))
theorem RowR.add {L : LnS} {n : Nat} {X : Nat → Nat} {s : Nat} {c : Int32} (h : RowR L n X s) (hn : n < 2147483648) (hc : c = nI (X (n + s))) : RowR (lyAdd L c) (n + 1) X s := by
  obtain ⟨h1, h2⟩ := h
  refine ⟨?_, fun r hr => ?_⟩
  · show L.2 + 1 = _
    rw [h1, j_one]
  · unfold lyAdd
    dsimp only
    rw [h1, j_nat hn]
    by_cases e : r = n
    · subst e; rw [pk_us]; exact hc
    · rw [pk_un e]; exact h2 r (by omega)
/-- the digits of a number with a ahead and b behind the point -/
def digX (d : Nat → Nat) (a b : Nat) : Nat → Nat := fun j => if 18 - a < j ∧ j ≤ 18 + b then d (j - (18 - a) - 1) else 0
theorem digX_ok {d : Nat → Nat} {a b : Nat} (hd : ∀ i, i < a + b → d i < 10) (ha : a ≤ 18) (hb : b ≤ 12) : okX (digX d a b) := by
  intro j
  unfold digX
  split
  · rename_i h
    exact ⟨hd _ (by omega), fun q => by omega⟩
  · exact ⟨by omega, fun _ => rfl⟩
theorem liGo_X {dg : Nat → Int32} {v : Int32} {e : Nat} {X : Nat → Nat} {s : Nat} (he : e < 1000) (hd : ∀ i, i < e → dg (30 * v + nI i).toNatClampNeg = nI (X (1 + i + s))) :
    ∀ (k i : Nat) (L : LnS), e - i < k → i ≤ e → RowR L (1 + i) X s → RowR (liGo dg (nI e) v k (nI i) L) (1 + e) X s := by
  intro k
  induction k with
  | zero => intro i L h; omega
  | succ k ih =>
    intro i L h hi hL
    rw [liGo]
    split
    · rename_i h1
      rw [j_le (by omega) (by omega)] at h1
      have : i = e := by omega
      subst this; exact hL
    · rename_i h1
      rw [j_le (by omega) (by omega)] at h1
      rw [j_one]
      exact ih (i + 1) _ (by omega) (by omega) (hL.add (by omega) (hd i (by omega)))
theorem liPad_X {X : Nat → Nat} {s : Nat} (e : Nat) (he : e < 1000) : ∀ (k n : Nat) (L : LnS), e - n < k → n < 1000 → (∀ j, n + s ≤ j → X j = 0) → RowR L n X s → RowR (liPad (nI e) k L) (max n e) X s := by
  intro k
  induction k with
  | zero => intro n L h; omega
  | succ k ih =>
    intro n L h hn hX hL
    rw [liPad]
    split
    · rename_i h1
      rw [hL.1, j_le (by omega) (by omega)] at h1
      rw [Nat.max_eq_left h1]; exact hL
    · rename_i h1
      rw [hL.1, j_le (by omega) (by omega)] at h1
      have := ih (n + 1) (lyAdd L 0) (by omega) (by omega) (fun j hj => hX j (by omega)) (hL.add (by omega) (by rw [hX _ (Nat.le_refl _)]; rfl))
      rw [show max n e = max (n + 1) e by omega]
      exact this
theorem liAll_X {dg row : Nat → Int32} {v : Int32} {a b places : Nat} {d : Nat → Nat} (ha : a ≤ 18) (hb : b ≤ 12) (hp : places < 120) (hd : ∀ i, i < a + b → dg (30 * v + nI i).toNatClampNeg = nI (d i)) :
    RowR (liAll dg (nI a) (nI b) v (nI places) row) (max (1 + (a + b)) (a + 1 + places)) (digX d a b) (18 - a) := by
  have h0 : RowR (upd row (0 : Int32).toNatClampNeg 0, 1) (1 + 0) (digX d a b) (18 - a) := by
    refine ⟨rfl, fun r hr => ?_⟩
    have : r = 0 := by omega
    subst this
    have e : digX d a b (0 + (18 - a)) = 0 := by unfold digX; rw [if_neg (by omega)]
    rw [e]
    show upd row 0 0 0 = _
    exact pk_us
  have h1 := liGo_X (dg := dg) (v := v) (e := a + b) (X := digX d a b) (s := 18 - a) (by omega) (fun i hi => by
    rw [hd i hi]
    congr 1
    unfold digX
    rw [if_pos (by omega)]
    congr 1
    omega) 31 0 _ (by omega) (by omega) h0
  have h2 := liPad_X (X := digX d a b) (s := 18 - a) (a + 1 + places) (by omega) 140 (1 + (a + b)) _ (by omega) (by omega) (fun j hj => by unfold digX; rw [if_neg (by omega)]) h1
  unfold liAll
  rw [j_add, j_one, j_add, n_0]
  exact h2
/-! rounding -/
theorem roMore_X {row : Nat → Int32} {n : Nat} {X : Nat → Nat} {s : Nat} (hn : n < 1000) (hr : ∀ r, r < n → row r = nI (X (r + s))) (h10 : ∀ j, X j < 10) : ∀ (k i : Nat) (m : Bool), n - i < k → i < 1000 →
    roMore row (nI n) k (nI i) (k_b m) = k_b (m || (List.range' i (n - i)).any fun r => !decide (X (r + s) = 0)) := by
  intro k
  induction k with
  | zero => intro i m h; omega
  | succ k ih =>
    intro i m h hi
    rw [roMore]
    split
    · rename_i h1
      rw [j_le (by omega) (by omega)] at h1
      rw [show n - i = 0 by omega]
      simp
    · rename_i h1
      rw [j_le (by omega) (by omega)] at h1
      have e : (if k_b m = 0 then (if row (nI i).toNatClampNeg ≤ 0 then (0 : Int32) else 1) else 1) = k_b (m || !decide (X (i + s) = 0)) := by
        cases m with
        | true => rfl
        | false =>
          rw [k_b_false, if_pos rfl, j_nat (by omega), hr i (by omega)]
          have := h10 (i + s)
          by_cases g : X (i + s) = 0
          · rw [g]; rfl
          · rw [if_neg (by rw [n_0, j_le (by omega) (by omega)]; omega), show decide (X (i + s) = 0) = false from decide_eq_false g]
            rfl
      rw [e, j_one, ih (i + 1) _ (by omega) (by omega), show n - i = (n - (i + 1)) + 1 by omega, List.range'_succ, List.any_cons, Bool.or_assoc]
theorem moreX {n keep s : Nat} {X : Nat → Nat} (hX : ∀ j, n + s ≤ j → X j = 0) (h31 : n + s ≤ 31 ∨ ∀ j, 31 ≤ j → X j = 0) : ((List.range' (keep + 1) (n - (keep + 1))).any fun r => !decide (X (r + s) = 0)) = anyX X (keep + s) := by
  unfold anyX
  rw [Bool.eq_iff_iff, List.any_eq_true, List.any_eq_true]
  constructor
  · rintro ⟨r, h1, h2⟩
    rw [List.mem_range'_1] at h1
    have h3 : X (r + s) ≠ 0 := by simpa using h2
    have h4 : r + s < 31 := by
      rcases h31 with q | q
      · omega
      · rcases Nat.lt_or_ge (r + s) 31 with w | w
        · exact w
        · exact absurd (q _ w) h3
    exact ⟨r + s, List.mem_range.mpr h4, by rw [show decide (keep + s < r + s) = true from decide_eq_true (by omega)]; exact h2⟩
  · rintro ⟨j, h1, h2⟩
    rw [Bool.and_eq_true] at h2
    have h3 := of_decide_eq_true h2.1
    have h4 : X j ≠ 0 := by simpa using h2.2
    have h5 : j < n + s := by
      rcases Nat.lt_or_ge j (n + s) with w | w
      · exact w
      · exact absurd (hX _ w) h4
    exact ⟨j - s, by rw [List.mem_range'_1]; omega, by rw [show j - s + s = j by omega]; exact h2.2⟩
theorem roUp_X {row : Nat → Int32} {n keep : Nat} {X : Nat → Nat} {s : Nat} (hn : n < 140) (hr : ∀ r, r < n → row r = nI (X (r + s))) (hX : okX X) (hz : ∀ j, n + s ≤ j → X j = 0) (h1 : 1 ≤ keep) (hk : keep ≤ n) :
    roUp row (nI n) (nI keep) = k_b (upX X (keep + s)) := by
  have hD : roD row (nI n) (nI keep) = nI (X (keep + s)) := by
    unfold roD
    split
    · rename_i h
      rw [j_le (by omega) (by omega)] at h
      rw [hz (keep + s) (by omega)]; rfl
    · rename_i h
      rw [j_le (by omega) (by omega)] at h
      rw [j_nat (by omega), hr keep (by omega)]
  have hM := roMore_X (row := row) (n := n) (X := X) (s := s) (by omega) hr (fun j => (hX j).1) 141 (keep + 1) false (by omega) (by omega)
  rw [Bool.false_or, moreX hz (Or.inr fun j hj => (hX j).2 hj)] at hM
  have hM : roMore row (nI n) 141 (nI keep + 1) 0 = k_b (anyX X (keep + s)) := by rw [j_one]; exact hM
  have h10 := (hX (keep + s)).1
  have h11 := (hX (keep + s - 1)).1
  have hodd : decide (row (nI keep - 1).toNatClampNeg - row (nI keep - 1).toNatClampNeg / 2 * 2 = 1) = decide (X (keep + s - 1) % 2 = 1) := by
    rw [j_s1 (by omega) (by omega), j_nat (by omega), hr (keep - 1) (by omega), show keep - 1 + s = keep + s - 1 by omega, d_odd' h11]
  unfold roUp upX
  rw [hD, hM, hodd]
  by_cases e : X (keep + s) = 5
  · rw [e, if_neg (by decide), if_neg (by decide), if_pos rfl]
    cases anyX X (keep + s) <;> rfl
  · rw [if_neg e]
    by_cases g : 5 < X (keep + s)
    · rw [if_pos (by rw [n_5, j_lt (by omega) (by omega)]; exact g), decide_eq_true g]; rfl
    · rw [if_neg (by rw [n_5, j_lt (by omega) (by omega)]; exact g), if_pos (by rw [n_5, d_eq h10 (by omega)]; exact e), decide_eq_false g]; rfl
theorem roCar_X {s N : Nat} : ∀ (k i : Nat) (up : Bool) (row : Nat → Int32) (X : Nat → Nat), i < k → i ≤ N → N < 1000 → (∀ r, r < N → row r = nI (X (r + s))) → (∀ j, X j < 10) → X s ≠ 9 →
    ∀ r, r < N → roCar k (nI i + (-1)) (k_b up) row r = nI (carX (i + s) up X (r + s)) := by
  intro k
  induction k with
  | zero => intro i up row X h; omega
  | succ k ih =>
    intro i up row X h hi hN hr hX hs r hrN
    cases up with
    | false =>
      rw [roCar, k_b_false, if_pos rfl, carX_f]
      exact hr r hrN
    | true =>
      rw [roCar, if_neg (by decide)]
      cases i with
      | zero =>
        rw [show nI 0 + (-1) = -1 from by decide, if_pos (by decide), carX_ge _ _ _ _ (by omega)]
        exact hr r hrN
      | succ i =>
        rw [j_m0, if_neg (by rw [k_lt, nI_toInt (by omega), l_0]; omega), show i + 1 + s = (i + s) + 1 by omega, carX, if_pos rfl, j_nat (by omega), hr i (by omega)]
        have h10 := hX (i + s)
        have e9 : (nI (X (i + s)) = 9) ↔ X (i + s) = 9 := by rw [n_9, d_eq h10 (by omega)]
        have e2 : decide (nI (X (i + s)) = 9) = decide (X (i + s) = 9) := by rw [Bool.eq_iff_iff]; simp only [decide_eq_true_eq]; exact e9
        rw [e2]
        have hrow : ∀ r, r < N → upd row i (if nI (X (i + s)) = 9 then 0 else nI (X (i + s)) + 1) r = nI (updN X (i + s) (if X (i + s) = 9 then 0 else X (i + s) + 1) (r + s)) := by
          intro j hj
          unfold updN
          by_cases e : j = i
          · subst e
            rw [pk_us, if_pos rfl]
            by_cases g : X (j + s) = 9
            · rw [if_pos (e9.mpr g), if_pos g]; rfl
            · rw [if_neg (fun q => g (e9.mp q)), if_neg g, j_one]
          · rw [pk_un e, if_neg (by omega)]; exact hr j hj
        by_cases g : i = 0
        · subst g
          have hs' : X (0 + s) ≠ 9 := by rw [Nat.zero_add]; exact hs
          rw [show decide (X (0 + s) = 9) = false from decide_eq_false hs', carX_f]
          have hz : ∀ (k : Nat) (x : Int32) (R : Nat → Int32), roCar k x (k_b false) R = R := by
            intro k x R
            cases k
            · rfl
            · rw [roCar, k_b_false, if_pos rfl]
          rw [hz]
          exact hrow r hrN
        · refine ih i _ _ _ (by omega) (by omega) hN hrow ?_ ?_ r hrN
          · intro j
            unfold updN
            split
            · split <;> omega
            · exact hX j
          · rw [updN, if_neg (by omega)]; exact hs
theorem roRow_X {row : Nat → Int32} {n keep : Nat} {X : Nat → Nat} {s : Nat} (hn : n < 140) (hr : ∀ r, r < n → row r = nI (X (r + s))) (hX : okX X) (hz : ∀ j, n + s ≤ j → X j = 0) (hs : X s ≠ 9) (h1 : 1 ≤ keep) (hk : keep ≤ n) :
    ∀ r, r < keep → roRow row (nI n) (nI keep) r = nI (rdX X (keep + s) (r + s)) := by
  intro r hrk
  unfold roRow rdX
  rw [roUp_X hn hr hX hz h1 hk, Int32.sub_eq_add_neg]
  refine roCar_X (N := keep) 141 keep _ row (cutX X (keep + s)) (by omega) (Nat.le_refl _) (by omega) ?_ (fun j => (cutX_ok hX _ j).1) ?_ r hrk
  · intro q hq
    rw [cutX, if_pos (by omega)]
    exact hr q (by omega)
  · rw [cutX, if_pos (by omega)]; exact hs
theorem skGo_X {row : Nat → Int32} {X : Nat → Nat} {s e : Nat} (he : e < 1000) (hr : ∀ r, r < e → row r = nI (X (r + s))) (h10 : ∀ j, X j < 10) : ∀ (k i : Nat), e - i < k → i ≤ e →
    ∃ z, i ≤ z ∧ z ≤ e ∧ skGo row (nI e) k (nI i) = nI z ∧ (∀ r, i ≤ r → r < z → X (r + s) = 0) ∧ (z < e → X (z + s) ≠ 0) := by
  intro k
  induction k with
  | zero => intro i h; omega
  | succ k ih =>
    intro i h hi
    rw [skGo]
    split
    · rename_i h1
      rw [j_le (by omega) (by omega)] at h1
      exact ⟨i, Nat.le_refl _, hi, rfl, fun r a b => by omega, fun q => by omega⟩
    · rename_i h1
      rw [j_le (by omega) (by omega)] at h1
      have := h10 (i + s)
      rw [j_nat (by omega), hr i (by omega)]
      split
      · rename_i h2
        rw [n_0, d_eq this (by omega)] at h2
        rw [j_one]
        obtain ⟨z, a, b, c, d, f⟩ := ih (i + 1) (by omega) (by omega)
        refine ⟨z, by omega, b, c, fun r g w => ?_, f⟩
        by_cases q : r = i
        · subst q; exact h2
        · exact d r (by omega) w
      · rename_i h2
        rw [n_0, d_eq this (by omega)] at h2
        exact ⟨i, Nat.le_refl _, hi, rfl, fun r a b => by omega, fun _ => h2⟩
