/-! THE CLASS'S ROW of 31 digits, as X. -/
def RowC (row : Nat → Int32) (X : Nat → Nat) : Prop := ∀ j, j < 31 → row j = nI (X j)
theorem chr16_n {n : Nat} (h : n < 65536) : chr16 (nI n) = nI n := by
  have e : UInt32.ofNat n % 65536 = UInt32.ofNat n := by
    apply UInt32.toNat_inj.mp
    rw [UInt32.toNat_mod, UInt32.toNat_ofNat', show (65536 : UInt32).toNat = 65536 from rfl]
    omega
  exact congrArg UInt32.toInt32 e
theorem d_odd : ∀ x : Fin 10, (decide (nI x.val - nI x.val / 2 * 2 = 1)) = decide (x.val % 2 = 1) := by decide +kernel
theorem d_odd' {x : Nat} (h : x < 10) : (decide (nI x - nI x / 2 * 2 = 1)) = decide (x % 2 = 1) := d_odd ⟨x, h⟩
theorem n_0 : (0 : Int32) = nI 0 := rfl
theorem n_1 : (1 : Int32) = nI 1 := rfl
theorem n_5 : (5 : Int32) = nI 5 := rfl
theorem n_9 : (9 : Int32) = nI 9 := rfl
theorem n_48 : (48 : Int32) = nI 48 := rfl
theorem d_eq {x y : Nat} (h : x < 10) (hy : y < 10) : (nI x = nI y) ↔ x = y := j_inj (by omega) (by omega)
theorem dgAny_X {row : Nat → Int32} {X : Nat → Nat} (hr : RowC row X) (hX : okX X) : ∀ (k i : Nat), 31 - i < k → i < 100 → dgAny row k (nI i) = (List.range' i (31 - i)).any fun j => !decide (X j = 0) := by
  intro k
  induction k with
  | zero => intro i h; omega
  | succ k ih =>
    intro i h hi
    rw [dgAny]
    split
    · rename_i h1
      rw [k_le, nI_toInt (by omega), l_31] at h1
      rw [show 31 - i = 0 by omega]
      rfl
    · rename_i h1
      rw [k_le, nI_toInt (by omega), l_31] at h1
      have hri := hr i (by omega)
      have h10 := (hX i).1
      rw [j_nat (by omega), hri, show 31 - i = (31 - (i + 1)) + 1 by omega, List.range'_succ, List.any_cons]
      split
      · rename_i h2
        rw [n_0, d_eq h10 (by omega)] at h2
        rw [j_one, ih (i + 1) (by omega) (by omega), h2]
        rfl
      · rename_i h2
        rw [n_0, d_eq h10 (by omega)] at h2
        rw [show decide (X i = 0) = false from decide_eq_false h2]
        rfl
theorem any_X {X : Nat → Nat} {K : Nat} (hK : K < 31) : ((List.range' (K + 1) (31 - (K + 1))).any fun j => !decide (X j = 0)) = anyX X K := by
  unfold anyX
  rw [Bool.eq_iff_iff, List.any_eq_true, List.any_eq_true]
  constructor
  · rintro ⟨j, h1, h2⟩
    rw [List.mem_range'_1] at h1
    exact ⟨j, List.mem_range.mpr (by omega), by rw [show decide (K < j) = true from decide_eq_true (by omega)]; exact h2⟩
  · rintro ⟨j, h1, h2⟩
    rw [Bool.and_eq_true] at h2
    have h3 := of_decide_eq_true h2.1
    exact ⟨j, by rw [List.mem_range'_1]; have := List.mem_range.mp h1; omega, h2.2⟩
theorem dgUp_X {row : Nat → Int32} {X : Nat → Nat} (hr : RowC row X) (hX : okX X) {K : Nat} (h1 : 1 ≤ K) (h31 : K < 31) : dgUp row (nI K) = upX X K := by
  unfold dgUp upX
  have h10 := (hX K).1
  have h11 := (hX (K - 1)).1
  rw [j_nat (by omega), hr K h31, j_s1 (by omega) (by omega), j_nat (by omega), hr (K - 1) (by omega), d_odd' h11, j_one, dgAny_X hr hX 32 (K + 1) (by omega) (by omega), any_X h31]
  by_cases e : X K = 5
  · rw [if_pos e, if_pos (by rw [e]; rfl)]
    cases anyX X K <;> rfl
  · rw [if_neg e, if_neg (by rw [n_5, d_eq h10 (by omega)]; exact e)]
    rw [Bool.eq_iff_iff]
    simp only [Bool.not_eq_true', decide_eq_false_iff_not, decide_eq_true_eq]
    rw [n_5, j_le (by omega) (by omega)]
    omega
theorem dgClr_X : ∀ (k i : Nat) (row : Nat → Int32) (j : Nat), 31 - i < k → i < 100 → dgClr k (nI i) row j = if i ≤ j ∧ j < 31 then 0 else row j := by
  intro k
  induction k with
  | zero => intro i row j h; omega
  | succ k ih =>
    intro i row j h hi
    rw [dgClr]
    split
    · rename_i h1
      rw [k_le, nI_toInt (by omega), l_31] at h1
      rw [if_neg (by omega)]
    · rename_i h1
      rw [k_le, nI_toInt (by omega), l_31] at h1
      rw [j_nat (by omega), j_one, ih (i + 1) _ j (by omega) (by omega)]
      by_cases e : j = i
      · subst e
        rw [if_neg (by omega), if_pos (by omega), pk_us]
      · rw [pk_un e]
        by_cases g : i ≤ j ∧ j < 31
        · rw [if_pos g, if_pos (by omega)]
        · rw [if_neg g, if_neg (by omega)]
theorem j_s0 (i : Nat) : nI (i + 1) - 1 = nI i := by
  rw [Int32.sub_eq_add_neg]; exact j_m0 i
theorem dgCar_X : ∀ (k i : Nat) (up : Bool) (row : Nat → Int32) (X : Nat → Nat), i < k → i ≤ 31 → RowC row X → (∀ j, X j < 10) → RowC (dgCar k (nI i + (-1)) (k_b up) row) (carX i up X) := by
  intro k
  induction k with
  | zero => intro i up row X h; omega
  | succ k ih =>
    intro i up row X h hi hr hX
    cases i with
    | zero =>
      rw [show nI 0 + (-1) = -1 from by decide, dgCar, if_pos (by decide)]
      exact hr
    | succ i =>
      rw [j_m0, dgCar, if_neg (by rw [k_lt, nI_toInt (by omega), l_0]; omega), carX]
      cases up with
      | false => exact hr
      | true =>
        rw [if_neg (by decide), if_pos rfl, j_nat (by omega), hr i (by omega)]
        have h10 := hX i
        have e9 : (nI (X i) = 9) ↔ X i = 9 := by rw [n_9, d_eq h10 (by omega)]
        have e2 : decide (nI (X i) = 9) = decide (X i = 9) := by rw [Bool.eq_iff_iff]; simp only [decide_eq_true_eq]; exact e9
        rw [e2]
        refine ih i _ _ _ (by omega) (by omega) ?_ ?_
        · intro j hj
          unfold updN
          by_cases e : j = i
          · subst e
            rw [pk_us, if_pos rfl]
            by_cases g : X j = 9
            · rw [if_pos (e9.mpr g), if_pos g]; rfl
            · rw [if_neg (fun q => g (e9.mp q)), if_neg g, j_one]
          · rw [pk_un e, if_neg e]; exact hr j hj
        · intro j
          unfold updN
          split
          · split <;> omega
          · exact hX j
theorem dgRound_X {row : Nat → Int32} {X : Nat → Nat} (hr : RowC row X) (hX : okX X) {K : Nat} (h1 : 1 ≤ K) (h2 : K < 2147483648) : RowC (dgRound row (nI K)) (rdX X K) := by
  unfold dgRound
  rw [if_neg (by rw [k_lt, nI_toInt (by omega), l_1]; omega)]
  by_cases h : K < 31
  · rw [if_neg (by rw [k_lt, nI_toInt (by omega), l_31]; omega), dgUp_X hr hX h1 h, Int32.sub_eq_add_neg]
    refine dgCar_X 32 K _ _ _ (by omega) (by omega) ?_ (fun j => (cutX_ok hX K j).1)
    intro j hj
    rw [dgClr_X 32 K row j (by omega) (by omega)]
    unfold cutX
    by_cases e : j < K
    · rw [if_neg (by omega), if_pos e]; exact hr j hj
    · rw [if_pos (by omega), if_neg e]; rfl
  · rw [if_pos (by rw [k_lt, nI_toInt (by omega), l_31]; omega)]
    intro j hj
    unfold rdX
    rw [upX_ge hX (by omega), carX_f, cutX, if_pos (by omega)]
    exact hr j hj
/-- where the first digit that is not 0 stands (18 of 0) -/
def isFst (X : Nat → Nat) (z : Nat) : Prop := (z < 31 ∧ X z ≠ 0 ∧ ∀ j, j < z → X j = 0) ∨ (z = 18 ∧ ∀ j, j < 31 → X j = 0)
theorem isFst.eq {X : Nat → Nat} {y z : Nat} (h : isFst X y) (g : isFst X z) : y = z := by
  rcases h with ⟨a, b, c⟩ | ⟨a, b⟩ <;> rcases g with ⟨d, e, f⟩ | ⟨d, e⟩
  · rcases Nat.lt_trichotomy y z with q | q | q
    · exact absurd (f y q) b
    · exact q
    · exact absurd (c z q) e
  · exact absurd (e y a) b
  · exact absurd (b z d) e
  · omega
theorem isFst.lt {X : Nat → Nat} {z : Nat} (h : isFst X z) : z < 31 := by rcases h with ⟨a, _⟩ | ⟨a, _⟩ <;> omega
theorem dgFirst_X {row : Nat → Int32} {X : Nat → Nat} (hr : RowC row X) (hX : okX X) : ∀ (k i : Nat), 31 - i < k → i ≤ 31 → (∀ j, j < i → X j = 0) → ∃ z, isFst X z ∧ dgFirst row k (nI i) = nI z := by
  intro k
  induction k with
  | zero => intro i h; omega
  | succ k ih =>
    intro i h hi hlo
    rw [dgFirst]
    split
    · rename_i h1
      rw [k_le, nI_toInt (by omega), l_31] at h1
      exact ⟨18, Or.inr ⟨rfl, fun j hj => hlo j (by omega)⟩, rfl⟩
    · rename_i h1
      rw [k_le, nI_toInt (by omega), l_31] at h1
      have h10 := (hX i).1
      rw [j_nat (by omega), hr i (by omega)]
      split
      · rename_i h2
        rw [n_0, d_eq h10 (by omega)] at h2
        rw [j_one]
        refine ih (i + 1) (by omega) (by omega) (fun j hj => ?_)
        by_cases e : j = i
        · subst e; exact h2
        · exact hlo j (by omega)
      · rename_i h2
        rw [n_0, d_eq h10 (by omega)] at h2
        exact ⟨i, Or.inl ⟨by omega, h2, hlo⟩, rfl⟩
theorem dgFst_X {row : Nat → Int32} {X : Nat → Nat} (hr : RowC row X) (hX : okX X) {z : Nat} (hz : isFst X z) : dgFst row = nI z := by
  obtain ⟨y, h1, h2⟩ := dgFirst_X hr hX 32 0 (by omega) (by omega) (fun j hj => by omega)
  rw [hz.eq h1]
  exact h2
theorem dgAt_X {row : Nat → Int32} {X : Nat → Nat} (hr : RowC row X) (hX : okX X) {i : Nat} (h : i < 2147483648) : dgAt row (nI i) = nI (48 + X i) := by
  unfold dgAt
  rw [if_neg (by rw [k_lt, nI_toInt (by omega), l_0]; omega)]
  by_cases e : i < 31
  · rw [if_neg (by rw [k_le, nI_toInt (by omega), l_31]; omega), j_nat h, hr i e, n_48, j_add]
  · rw [if_pos (by rw [k_le, nI_toInt (by omega), l_31]; omega), (hX i).2 (by omega)]
    rfl
/-- the digits from one place up to another, as characters -/
def dcs (X : Nat → Nat) (i n : Nat) : List Int32 := (List.range' i n).map fun j => nI (48 + X j)
def dotL (places : Nat) (must : Int32) : List Int32 := if 0 < places then [46] else if must = 0 then [] else [46]
theorem map_dgAt {row : Nat → Int32} {X : Nat → Nat} (hr : RowC row X) (hX : okX X) {i n : Nat} (h : i + n < 2147483648) : (List.range' i n).map (fun j => chr16 (dgAt row (nI j))) = dcs X i n := by
  unfold dcs
  refine List.map_congr_left fun j hj => ?_
  rw [List.mem_range'_1] at hj
  have := (hX j).1
  rw [dgAt_X hr hX (by omega), chr16_n (by omega)]
theorem dgPut_X {row : Nat → Int32} {X : Nat → Nat} (hr : RowC row X) (hX : okX X) {room : Nat} {z P places : Nat} (hz : isFst X z) (hP0 : 1 ≤ P) (hP : P < 10000) (hpl : places < 10000) (must : Int32) {L : LnS} (hL : lnOK room L.2) :
    lnL (dgPut row room (nI P) (nI places) must L) = (lnL L ++ (dcs X (min z (P - 1)) (P - min z (P - 1)) ++ (dotL places must ++ dcs X P places))).take room ∧ lnOK room (dgPut row room (nI P) (nI places) must L).2 := by
  have hb : dgBeg row (nI P) = nI (min z (P - 1)) := by
    unfold dgBeg
    have := hz.lt
    rw [dgFst_X hr hX hz, j_s1 (by omega) (by omega)]
    by_cases e : P - 1 < z
    · rw [if_pos (by rw [j_lt (by omega) (by omega)]; exact e), Nat.min_eq_right (by omega)]
    · rw [if_neg (by rw [j_lt (by omega) (by omega)]; exact e), Nat.min_eq_left (by omega)]
  have hm : min z (P - 1) < P := by omega
  have a12 : lnL (dgPa row room (nI P) L) = (lnL L ++ dcs X (min z (P - 1)) (P - min z (P - 1))).take room ∧ lnOK room (dgPa row room (nI P) L).2 := by
    rw [dgPa, hb, dgP1_g]
    obtain ⟨F, hF⟩ : ∃ F, F = ((nI P).toInt - (nI (min z (P - 1))).toInt).toNat + 1 := ⟨_, rfl⟩
    rw [← hF]
    rw [nI_toInt (by omega), nI_toInt (by omega)] at hF
    have h1 := ga_ls room (dgAt row) (nI P) F (min z (P - 1)) L (by rw [nI_toInt (by omega)]; omega) (by omega) hL
    rw [nI_toInt (by omega), show ((P : Int) - (min z (P - 1) : Nat)).toNat = P - min z (P - 1) by omega, map_dgAt hr hX (by omega)] at h1
    exact h1
  obtain ⟨a1, a2⟩ := a12
  have b : lnL (dgPb row room (nI P) (nI places) must L) = (lnL L ++ (dcs X (min z (P - 1)) (P - min z (P - 1)) ++ dotL places must)).take room ∧ lnOK room (dgPb row room (nI P) (nI places) must L).2 := by
    unfold dgPb dotL
    have hdot : lnL (lnAdd room (dgPa row room (nI P) L) 46) = (lnL L ++ (dcs X (min z (P - 1)) (P - min z (P - 1)) ++ [46])).take room ∧ lnOK room (lnAdd room (dgPa row room (nI P) L) 46).2 := by
      obtain ⟨c, d⟩ := ln_ls (c := 46) (L := dgPa row room (nI P) L) a2
      refine ⟨?_, d⟩
      rw [c, a1, take_app, List.append_assoc]
      rfl
    by_cases e : 0 < places
    · rw [if_pos (by rw [n_0, j_lt (by omega) (by omega)]; exact e), if_pos e]
      exact hdot
    · rw [if_neg (by rw [n_0, j_lt (by omega) (by omega)]; exact e), if_neg e]
      by_cases g : must = 0
      · rw [if_pos g, if_pos g, List.append_nil]
        exact ⟨a1, a2⟩
      · rw [if_neg g, if_neg g]
        exact hdot
  obtain ⟨b1, b2⟩ := b
  rw [dgPut, dgP2_g, n_0]
  obtain ⟨F, hF⟩ : ∃ F, F = (nI places).toInt.toNat + 1 := ⟨_, rfl⟩
  rw [← hF]
  rw [nI_toInt (by omega)] at hF
  have h3 := ga_ls room (fun i => dgAt row (nI P + i)) (nI places) F 0 _ (by rw [nI_toInt (by omega)]; omega) (by omega) b2
  obtain ⟨c1, c2⟩ := h3
  refine ⟨?_, c2⟩
  have hm2 : (List.range' 0 ((places : Int) - (0 : Nat)).toNat).map (fun j => chr16 (dgAt row (nI P + nI j))) = dcs X P places := by
    rw [← map_dgAt hr hX (by omega), show ((places : Int) - (0 : Nat)).toNat = places by omega, List.range'_eq_map_range (s := P)]
    rw [List.map_map, ← List.range_eq_range']
    exact List.map_congr_left fun j _ => by rw [j_add]; rfl
  rw [c1, b1, take_app, nI_toInt (by omega), hm2]
  simp only [List.append_assoc]
