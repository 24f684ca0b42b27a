/-! DIGITS as numbers: X j is the digit at place j of the class's row (18: the ones), 0 from 31 on. -/
def updN (X : Nat → Nat) (k x : Nat) : Nat → Nat := fun j => if j = k then x else X j
def carX : Nat → Bool → (Nat → Nat) → (Nat → Nat)
  | 0, _, X => X
  | i + 1, up, X => if up = true then carX i (decide (X i = 9)) (updN X i (if X i = 9 then 0 else X i + 1)) else X
def anyX (X : Nat → Nat) (K : Nat) : Bool := (List.range 31).any fun j => decide (K < j) && !decide (X j = 0)
def upX (X : Nat → Nat) (K : Nat) : Bool := if X K = 5 then (anyX X K || decide (X (K - 1) % 2 = 1)) else decide (5 < X K)
def cutX (X : Nat → Nat) (K : Nat) : Nat → Nat := fun j => if j < K then X j else 0
def rdX (X : Nat → Nat) (K : Nat) : Nat → Nat := carX K (upX X K) (cutX X K)
/-- digits below 10, none from 31 on -/
def okX (X : Nat → Nat) : Prop := ∀ j, X j < 10 ∧ (31 ≤ j → X j = 0)
theorem carX_f (i : Nat) (X : Nat → Nat) : carX i false X = X := by cases i <;> rfl
theorem carX_ge : ∀ (i : Nat) (up : Bool) (X : Nat → Nat) (j : Nat), i ≤ j → carX i up X j = X j := by
  intro i
  induction i with
  | zero => intro up X j h; rfl
  | succ i ih =>
    intro up X j h
    rw [carX]
    split
    · rw [ih _ _ j (by omega), updN, if_neg (by omega)]
    · rfl
theorem carX_lt : ∀ (i : Nat) (up : Bool) (X : Nat → Nat), (∀ j, X j < 10) → ∀ j, carX i up X j < 10 := by
  intro i
  induction i with
  | zero => intro up X h j; exact h j
  | succ i ih =>
    intro up X h j
    rw [carX]
    split
    · refine ih _ _ (fun q => ?_) j
      unfold updN
      split
      · have := h i
        split <;> omega
      · exact h q
    · exact h j
/-- a place that is not 9 holds the carrying -/
theorem carX_lo : ∀ (i : Nat) (up : Bool) (X : Nat → Nat) (m : Nat), m < i → X m ≠ 9 → ∀ j, j < m → carX i up X j = X j := by
  intro i
  induction i with
  | zero => intro up X m h; omega
  | succ i ih =>
    intro up X m h hm j hj
    rw [carX]
    split
    · by_cases e : m = i
      · subst e
        rw [show decide (X m = 9) = false from decide_eq_false hm, carX_f, updN, if_neg (by omega)]
      · rw [ih _ _ m (by omega) (by rw [updN, if_neg e]; exact hm) j hj, updN, if_neg (by omega)]
    · rfl
/-- where the first digit stands after rounding -/
theorem carX_first : ∀ (i : Nat) (up : Bool) (X : Nat → Nat) (z : Nat), z < i → 0 < z → (∀ j, X j < 10) → X z ≠ 0 → (∀ j, j < z → X j = 0) →
    (carX i up X z ≠ 0 ∧ ∀ j, j < z → carX i up X j = 0) ∨ (up = true ∧ (∀ j, z ≤ j → j < i → X j = 9 ∧ carX i up X j = 0) ∧ carX i up X (z - 1) = 1 ∧ ∀ j, j < z - 1 → carX i up X j = 0) := by
  intro i
  induction i with
  | zero => intro up X z h; omega
  | succ i ih =>
    intro up X z h h0 h10 hz hlo
    rw [carX]
    split
    · rename_i hu
      by_cases e : z = i
      · subst e
        by_cases h9 : X z = 9
        · right
          rw [if_pos h9, show decide (X z = 9) = true from decide_eq_true h9]
          obtain ⟨y, rfl⟩ : ∃ y, z = y + 1 := ⟨z - 1, by omega⟩
          have hy : X y = 0 := hlo y (by omega)
          have e1 : carX (y + 1) true (updN X (y + 1) 0) = updN (updN X (y + 1) 0) y 1 := by
            rw [carX, if_pos rfl]
            have : updN X (y + 1) 0 y = 0 := by rw [updN, if_neg (by omega)]; exact hy
            rw [this]
            exact carX_f _ _
          rw [e1]
          refine ⟨hu, ?_, ?_, ?_⟩
          · intro j a b
            have : j = y + 1 := by omega
            subst this
            refine ⟨h9, ?_⟩
            rw [updN, if_neg (by omega), updN, if_pos rfl]
          · rw [show y + 1 - 1 = y by omega, updN, if_pos rfl]
          · intro j hj
            rw [updN, if_neg (by omega), updN, if_neg (by omega)]
            exact hlo j (by omega)
        · left
          rw [if_neg h9, show decide (X z = 9) = false from decide_eq_false h9, carX_f]
          refine ⟨?_, ?_⟩
          · rw [updN, if_pos rfl]; omega
          · intro j hj
            rw [updN, if_neg (by omega)]
            exact hlo j hj
      · have hX : ∀ j, updN X i (if X i = 9 then 0 else X i + 1) j < 10 := by
          intro q
          unfold updN
          split
          · have := h10 i
            split <;> omega
          · exact h10 q
        rcases ih (decide (X i = 9)) (updN X i (if X i = 9 then 0 else X i + 1)) z (by omega) h0 hX (by rw [updN, if_neg e]; exact hz) (fun j hj => by rw [updN, if_neg (by omega)]; exact hlo j hj) with a | ⟨a, b, c, d⟩
        · left; exact a
        · right
          have h9 := of_decide_eq_true a
          refine ⟨hu, ?_, c, d⟩
          intro j hj hj2
          by_cases ej : j = i
          · subst ej
            refine ⟨h9, ?_⟩
            rw [carX_ge _ _ _ j (Nat.le_refl _), updN, if_pos rfl, if_pos h9]
          · obtain ⟨b1, b2⟩ := b j hj (by omega)
            rw [updN, if_neg ej] at b1
            exact ⟨b1, b2⟩
    · left
      exact ⟨hz, hlo⟩
theorem cutX_ok {X : Nat → Nat} (h : okX X) (K : Nat) : okX (cutX X K) := by
  intro j
  unfold cutX
  split
  · exact h j
  · exact ⟨by omega, fun _ => rfl⟩
theorem upX_ge {X : Nat → Nat} (h : okX X) {K : Nat} (hK : 31 ≤ K) : upX X K = false := by
  have := (h K).2 hK
  unfold upX
  rw [this]
  rfl
theorem rdX_ok {X : Nat → Nat} (h : okX X) (K : Nat) : okX (rdX X K) := by
  intro j
  refine ⟨carX_lt _ _ _ (fun j => (cutX_ok h K j).1) j, fun hj => ?_⟩
  unfold rdX
  by_cases hk : K ≤ j
  · rw [carX_ge _ _ _ j hk]
    exact (cutX_ok h K j).2 hj
  · rw [upX_ge h (by omega), carX_f]
    exact (cutX_ok h K j).2 hj
theorem rdX_hi {X : Nat → Nat} {K j : Nat} (h : K ≤ j) : rdX X K j = 0 := by
  unfold rdX
  rw [carX_ge _ _ _ j h, cutX, if_neg (by omega)]
theorem rdX_lo {X : Nat → Nat} {K s j : Nat} (hs : X s ≠ 9) (h : s < K) (hj : j < s) : rdX X K j = X j := by
  unfold rdX
  rw [carX_lo K _ _ s h (by rw [cutX, if_pos h]; exact hs) j hj, cutX, if_pos (by omega)]
/-- first digit after rounding behind it: it stays, or all were 9 and it is a 1 one place ahead -/
theorem rdX_first {X : Nat → Nat} (h : okX X) {z K : Nat} (hz0 : 0 < z) (hzK : z < K) (hz : X z ≠ 0) (hlo : ∀ j, j < z → X j = 0) :
    (rdX X K z ≠ 0 ∧ ∀ j, j < z → rdX X K j = 0) ∨ ((∀ j, z ≤ j → j < K → X j = 9 ∧ rdX X K j = 0) ∧ rdX X K (z - 1) = 1 ∧ ∀ j, j < z - 1 → rdX X K j = 0) := by
  have h1 := carX_first K (upX X K) (cutX X K) z hzK hz0 (fun j => (cutX_ok h K j).1) (by rw [cutX, if_pos hzK]; exact hz) (fun j hj => by rw [cutX, if_pos (by omega)]; exact hlo j hj)
  rcases h1 with a | ⟨a, b, c, d⟩
  · exact Or.inl a
  · refine Or.inr ⟨fun j hj hj2 => ?_, c, d⟩
    obtain ⟨b1, b2⟩ := b j hj hj2
    rw [cutX, if_pos hj2] at b1
    exact ⟨b1, b2⟩
/-- and then one digit less gives the same -/
theorem carX_all9 : ∀ (i : Nat) (X : Nat → Nat) (z : Nat), 0 < z → z ≤ i → (∀ j, z ≤ j → j < i → X j = 9) → (∀ j, j < z → X j = 0) → (∀ j, i ≤ j → X j = 0) → carX i true X = fun j => if j = z - 1 then 1 else 0 := by
  intro i
  induction i with
  | zero => intro X z h0 h; omega
  | succ i ih =>
    intro X z h0 h h9 hlo hhi
    rw [carX, if_pos rfl]
    by_cases e : z = i + 1
    · subst e
      rw [hlo i (by omega)]
      rw [show decide (0 = 9) = false from rfl, carX_f]
      funext j
      unfold updN
      by_cases ej : j = i
      · subst ej; simp
      · rw [if_neg ej, if_neg (by omega)]
        by_cases hj : j < i + 1
        · exact hlo j hj
        · exact hhi j (by omega)
    · have := h9 i (by omega) (by omega)
      rw [if_pos this, show decide (X i = 9) = true from decide_eq_true this]
      refine ih _ z h0 (by omega) ?_ ?_ ?_
      · intro j a b; rw [updN, if_neg (by omega)]; exact h9 j a (by omega)
      · intro j a; rw [updN, if_neg (by omega)]; exact hlo j a
      · intro j a
        unfold updN
        split
        · rfl
        · exact hhi j (by omega)
theorem rdX_less {X : Nat → Nat} (h : okX X) {z K : Nat} (hz0 : 0 < z) (hzK : z < K) (hlo : ∀ j, j < z → X j = 0) (h9 : ∀ j, z ≤ j → j < K → X j = 9 ∧ rdX X K j = 0) (h1 : rdX X K (z - 1) = 1) : rdX X K = rdX X (K - 1) := by
  have hu : upX X K = true := by
    cases hh : upX X K
    · exfalso
      have : rdX X K (z - 1) = 0 := by
        unfold rdX
        rw [hh, carX_f, cutX, if_pos (by omega)]
        exact hlo _ (by omega)
      omega
    · rfl
  have hu2 : upX X (K - 1) = true := by
    unfold upX
    rw [(h9 (K - 1) (by omega) (by omega)).1]
    rfl
  unfold rdX
  rw [hu, hu2, carX_all9 K (cutX X K) z hz0 (by omega), carX_all9 (K - 1) (cutX X (K - 1)) z hz0 (by omega)]
  · intro j a b; rw [cutX, if_pos b]; exact (h9 j a (by omega)).1
  · intro j a; unfold cutX; split; exact hlo j a; rfl
  · intro j a; rw [cutX, if_neg (by omega)]
  · intro j a b; rw [cutX, if_pos b]; exact (h9 j a b).1
  · intro j a; unfold cutX; split; exact hlo j a; rfl
  · intro j a; rw [cutX, if_neg (by omega)]
