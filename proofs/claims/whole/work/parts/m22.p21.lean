/-! PATTERNS: what reading depends on, and the whole filling as one function. -/
theorem lnDig_c {f g : Nat → Int32} {n : Int32} (h : ∀ i, lnAt f n i = lnAt g n i) : ∀ (k : Nat) (i m : Int32), lnDig f n k i m = lnDig g n k i m := by
  intro k
  induction k with
  | zero => intro i m; rfl
  | succ k ih => intro i m; rw [lnDig, lnDig, h i, ih]
theorem lnDg_c {f g : Nat → Int32} {n : Int32} (h : ∀ i, lnAt f n i = lnAt g n i) (b : Int32) : lnDg f n b = lnDg g n b := lnDig_c h _ _ _
theorem lnNum_c {f g : Nat → Int32} {n : Int32} (h : ∀ i, lnAt f n i = lnAt g n i) (st many : Int32) : ∀ (k : Nat) (i : Int32) (a : Int64), lnNum f n st many k i a = lnNum g n st many k i a := by
  intro k
  induction k with
  | zero => intro i m; rfl
  | succ k ih => intro i m; rw [lnNum, lnNum, h, ih]
theorem flGo_c {f g : Nat → Int32} {n : Int32} (h : ∀ i, lnAt f n i = lnAt g n i) : ∀ (k : Nat) (F : FG) (x : Int32), flGo f n k F x = flGo g n k F x := by
  intro k
  induction k with
  | zero => intro F x; rfl
  | succ k ih => intro F x; rw [flGo, flGo, h x, ih]
theorem rnMany_c {f g : Nat → Int32} {n : Int32} (h : ∀ i, lnAt f n i = lnAt g n i) (x : Int32) : rnMany f n x = rnMany g n x := by unfold rnMany; rw [lnDg_c h]
theorem rnVal_c {f g : Nat → Int32} {n : Int32} (h : ∀ i, lnAt f n i = lnAt g n i) (x : Int32) : rnVal f n x = rnVal g n x := by unfold rnVal lnNb; rw [rnMany_c h, lnNum_c h]
theorem fiRead_c {f g : Nat → Int32} {n : Int32} (h : ∀ i, lnAt f n i = lnAt g n i) (p : Int32) : fiRead f n p = fiRead g n p := by
  have e1 : ∀ x, flAll f n x = flAll g n x := fun x => flGo_c h _ _ _
  have e2 : ∀ x, rwN f n x = rwN g n x := fun x => by unfold rwN; rw [h, rnMany_c h]
  have e3 : ∀ x, rpN f n x = rpN g n x := fun x => by unfold rpN; rw [h, h, rnMany_c h]
  have e4 : ∀ x, rwW f n x = rwW g n x := fun x => by unfold rwW; rw [h, rnVal_c h]
  have e5 : ∀ x, rpP f n x = rpP g n x := fun x => by unfold rpP; rw [h, h, rnVal_c h]
  have e6 : ∀ x, rwS f n x = rwS g n x := fun x => by unfold rwS; rw [h]
  have e7 : ∀ x, rpS f n x = rpS g n x := fun x => by unfold rpS; rw [h, h]
  unfold fiRead
  rw [e1, e2, e3, e4, e5, e6, e7, h]
theorem sfIs_c {f g : Nat → Int32} {n : Int32} (h : ∀ i, lnAt f n i = lnAt g n i) (p : Int32) : sfIs f n p = sfIs g n p := by unfold sfIs; rw [h, h]
theorem bhMk_c {f g : Nat → Int32} {n : Int32} (h : ∀ i, lnAt f n i = lnAt g n i) (p : Int32) : bhMk f n p = bhMk g n p := by unfold bhMk; rw [h]
/-- the first % that begins no field, or -1 -/
def patGo (f : Nat → Int32) (n : Int32) : Nat → Int32 → Int32
  | 0, _ => -1
  | k + 1, p => if n ≤ p then -1 else if sfIs f n p = true then (if frSo (fiRead f n p) = 0 then p else patGo f n k (frNx (fiRead f n p))) else patGo f n k (bhMk f n p)
theorem fnGo_pat (f : Nat → Int32) (n : Int32) : ∀ (k s : Nat) (p : Int32), s + k = 200 → fnGo f n (k + 1) (nI s) p = patGo f n k p := by
  intro k
  induction k with
  | zero =>
    intro s p h
    rw [fnGo, if_pos (by rw [show (200 : Int32) = nI 200 from rfl, j_le (by omega) (by omega)]; omega)]
    rfl
  | succ k ih =>
    intro s p h
    rw [fnGo, patGo, if_neg (by rw [show (200 : Int32) = nI 200 from rfl, j_le (by omega) (by omega)]; omega), j_one, ih (s + 1) _ (by omega), ih (s + 1) _ (by omega)]
theorem fnAll_pat (f : Nat → Int32) (n : Int32) : fnAll f n = patGo f n 200 0 := fnGo_pat f n 200 0 0 rfl
abbrev RdT : Type := FG × Int32 × Int32 × Int32 × Int32 × Int32 × Int32 × Int32
/-- one field, as it was read -/
def fieldA (cnt : Int32) (SS : Nat → VS) (R : RdT) (tk : Int32) (out : List Int32) : Int32 × Int32 × List Int32 :=
  abOf cnt SS (stAB cnt SS R.2.1 R.2.2.1 tk R.1.1 R.2.2.2.1 R.2.2.2.2.1) R.2.2.2.2.2.1 (frSo R) R.1.2.2.1 R.1.2.1 R.1.2.2.2.2 R.1.2.2.2.1 out
/-- the filling: fault, its place, what is filled -/
def fpGo (f : Nat → Int32) (n cnt : Int32) (SS : Nat → VS) : Nat → Int32 → Int32 → List Int32 → Int32 × Int32 × List Int32
  | 0, _, tk, out => if tk < cnt then (4, n, out) else (0, 0, out)
  | k + 1, p, tk, out => if n ≤ p then (if tk < cnt then (4, n, out) else (0, 0, out)) else
      if sfIs f n p = true ∧ ¬ frSo (fiRead f n p) = 0 then
        (if ¬ (fieldA cnt SS (fiRead f n p) tk out).1 = 0 then ((fieldA cnt SS (fiRead f n p) tk out).1, p, out) else fpGo f n cnt SS k (frNx (fiRead f n p)) (fieldA cnt SS (fiRead f n p) tk out).2.1 (fieldA cnt SS (fiRead f n p) tk out).2.2)
      else if ¬ out.length < 600 then (5, p, out) else fpGo f n cnt SS k (bhMk f n p) tk (out ++ [lnAt f n p])
def abFill (f : Nat → Int32) (n cnt : Int32) (SS : Nat → VS) : Int32 × Int32 × List Int32 := if ¬ fnAll f n = -1 then (1, fnAll f n, []) else fpGo f n cnt SS 200 0 0 []
theorem patGo_c {f g : Nat → Int32} {n : Int32} (h : ∀ i, lnAt f n i = lnAt g n i) : ∀ (k : Nat) (p : Int32), patGo f n k p = patGo g n k p := by
  intro k
  induction k with
  | zero => intro p; rfl
  | succ k ih => intro p; rw [patGo, patGo, sfIs_c h, fiRead_c h, bhMk_c h, ih, ih]
theorem fpGo_c {f g : Nat → Int32} {n cnt : Int32} {SS : Nat → VS} (h : ∀ i, lnAt f n i = lnAt g n i) : ∀ (k : Nat) (p tk : Int32) (out : List Int32), fpGo f n cnt SS k p tk out = fpGo g n cnt SS k p tk out := by
  intro k
  induction k with
  | zero => intro p tk out; rfl
  | succ k ih => intro p tk out; rw [fpGo, fpGo, sfIs_c h, fiRead_c h, bhMk_c h, h p, ih, ih]
theorem abFill_c {f g : Nat → Int32} {n cnt : Int32} {SS : Nat → VS} (h : ∀ i, lnAt f n i = lnAt g n i) : abFill f n cnt SS = abFill g n cnt SS := by
  unfold abFill
  rw [fnAll_pat, fnAll_pat, patGo_c h, fpGo_c h]
theorem tape_at {f g : Nat → Int32} {N : Nat} (h : TapeR f g N) : ∀ i, lnAt f (nI N) i = lnAt g (nI N) i := by
  intro i
  have hN := h.1
  unfold lnAt
  by_cases e : i < 0
  · rw [if_pos e, if_pos e]
  · rw [if_neg e, if_neg e]
    by_cases g2 : nI N ≤ i
    · rw [if_pos g2, if_pos g2]
    · rw [if_neg g2, if_neg g2]
      rw [k_le, nI_toInt (by omega)] at g2
      rw [k_lt, l_0] at e
      refine (h.2 _ ?_).1
      show i.toInt.toNat < N
      omega
theorem rd_c {f g : Nat → Int32} {n : Int32} (h : ∀ i, lnAt f n i = lnAt g n i) : rdOK f n = rdOK g n := by
  have e1 : rdS f n = rdS g n := by unfold rdS; rw [h]
  have e2 : rdP f n = rdP g n := by unfold rdP; rw [e1, lnDg_c h]
  have e3 : rdT f n = rdT g n := by unfold rdT; rw [e2, h]
  have e4 : rdL f n = rdL g n := by unfold rdL; rw [e3, e2, lnDg_c h]
  have e5 : rdE f n = rdE g n := by unfold rdE; rw [e3, e2, e4]
  unfold rdOK
  rw [e1, e2, e3, e4, e5]
/-! ranges -/
theorem rnMany_X {f : Nat → Int32} {N x : Nat} (hN : N < 1000) (hx : x < 1000) : ∃ m, m ≤ 2 ∧ rnMany f (nI N) (nI x) = nI m ∧ (m = 0 ∨ x + m ≤ N) ∧ 0 ≤ (rnVal f (nI N) (nI x)).toInt ∧ (rnVal f (nI N) (nI x)).toInt ≤ 99 := by
  obtain ⟨c, a, c1, b, d, e⟩ := lnDg_X (f := f) hN hx
  have hm : rnMany f (nI N) (nI x) = nI (min c 2) := by
    unfold rnMany
    rw [a]
    by_cases g : c < 2
    · rw [if_pos (by rw [show (2 : Int32) = nI 2 from rfl, j_lt (by omega) (by omega)]; exact g), show min c 2 = c by omega]
    · rw [if_neg (by rw [show (2 : Int32) = nI 2 from rfl, j_lt (by omega) (by omega)]; exact g), show min c 2 = 2 by omega]
      rfl
  refine ⟨min c 2, by omega, hm, by omega, ?_⟩
  have hv : (lnNb f (nI N) (nI x) (nI (min c 2))).toInt = numOf (fun i => dv (f (x + i))) (min c 2) := by
    unfold lnNb
    rw [n_0, nI_toInt (by omega)]
    rcases b with w | w
    · subst w
      show (lnNum f (nI N) (nI x) (nI 0) 1 (nI 0) 0).toInt = _
      rw [lnNum, if_pos (by decide)]
      exact (show (0 : Int64).toInt = ((0 : Nat) : Int) from by decide)
    · exact lnNum_X hN (by omega) (by omega) (fun i hi => ⟨d i (by omega), rfl⟩) _ 0 0 (by omega) (by omega) (show (0 : Int64).toInt = ((0 : Nat) : Int) from by decide)
  have hlt := numOf_lt (d := fun i => dv (f (x + i))) (min c 2) (fun i hi => (dv_X (d i (by omega))).1)
  have hp : (10 : Nat) ^ (min c 2) ≤ 10 ^ 2 := Nat.pow_le_pow_right (by omega) (by omega)
  rw [show (10 : Nat) ^ 2 = 100 from by decide] at hp
  unfold rnVal
  rw [hm, Int64.toInt_toInt32, hv, Int.bmod_eq_of_le] <;> omega
theorem flGo_X {f : Nat → Int32} {N : Nat} (hN : N < 1000) : ∀ (k x : Nat) (F : FG), N - x < k → x < 1000 → ∃ y, (flGo f (nI N) k F (nI x)).2 = nI y ∧ x ≤ y ∧ (y = x ∨ y ≤ N) := by
  intro k
  induction k with
  | zero => intro x F h; omega
  | succ k ih =>
    intro x F h hx
    rw [flGo]
    split
    · exact ⟨x, rfl, Nat.le_refl _, Or.inl rfl⟩
    · rename_i h1
      rw [j_le (by omega) (by omega)] at h1
      split
      · rw [j_one]
        obtain ⟨y, a, b, c⟩ := ih (x + 1) (flSet F (lnAt f (nI N) (nI x))) (by omega) (by omega)
        exact ⟨y, a, by omega, Or.inr (by omega)⟩
      · exact ⟨x, rfl, Nat.le_refl _, Or.inl rfl⟩
theorem at_lt {f : Nat → Int32} {N x : Nat} {c : Int32} (hN : N < 1000) (hx : x < 1000) (hc : ¬ c = -1) (h : lnAt f (nI N) (nI x) = c) : x < N := by
  rcases Nat.lt_or_ge x N with w | w
  · exact w
  · rw [lnAt, if_neg (by rw [k_lt, nI_toInt (by omega), l_0]; omega), if_pos (by rw [j_le (by omega) (by omega)]; exact w)] at h
    exact absurd h.symm hc
/-- what a reading gives: its ranges -/
theorem fiRead_X {f : Nat → Int32} {N p : Nat} (hN : N ≤ 200) (hp : p < N) : ∃ q, frNx (fiRead f (nI N) (nI p)) = nI q ∧ p + 1 < q ∧ q ≤ N + 1 ∧ (0 ≤ (fiRead f (nI N) (nI p)).2.2.2.1.toInt ∧ (fiRead f (nI N) (nI p)).2.2.2.1.toInt ≤ 99) ∧ (-1 ≤ (fiRead f (nI N) (nI p)).2.2.2.2.1.toInt ∧ (fiRead f (nI N) (nI p)).2.2.2.2.1.toInt ≤ 99) ∧ frSo (fiRead f (nI N) (nI p)) = soOf (fiRead f (nI N) (nI p)).2.2.2.2.2.1 := by
  obtain ⟨y, a1, a2, a3⟩ := flGo_X (f := f) (N := N) (by omega) (((nI N).toInt - (nI (p + 1)).toInt).toNat + 1) (p + 1) (0, 0, 0, 0, 0) (by rw [nI_toInt (by omega), nI_toInt (by omega)]; omega) (by omega)
  have hy : (flAll f (nI N) (nI p + 1)).2 = nI y := by rw [j_one]; exact a1
  obtain ⟨m, b1, b2, b3, b4, b5⟩ := rnMany_X (f := f) (N := N) (x := y) (by omega) (by omega)
  obtain ⟨z, hz, z1, z2⟩ : ∃ z, rwN f (nI N) (nI y) = nI z ∧ y ≤ z ∧ z ≤ N := by
    unfold rwN
    by_cases g : lnAt f (nI N) (nI y) = 42
    · have := at_lt (by omega) (by omega) (by decide) g
      rw [if_pos g, j_one]
      exact ⟨y + 1, rfl, by omega, by omega⟩
    · rw [if_neg g, b2, j_add]
      exact ⟨y + m, rfl, by omega, by omega⟩
  have hw : 0 ≤ (rwW f (nI N) (nI y)).toInt ∧ (rwW f (nI N) (nI y)).toInt ≤ 99 := by
    unfold rwW
    split
    · rw [l_0]; omega
    · exact ⟨b4, b5⟩
  obtain ⟨m', c1, c2, c3, c4, c5⟩ := rnMany_X (f := f) (N := N) (x := z + 1) (by omega) (by omega)
  obtain ⟨w, hw2, w1, w2⟩ : ∃ w, rpN f (nI N) (nI z) = nI w ∧ z ≤ w ∧ w ≤ N := by
    unfold rpN
    by_cases g : lnAt f (nI N) (nI z) = 46
    · have := at_lt (by omega) (by omega) (by decide) g
      rw [if_pos g, j_one]
      by_cases g2 : lnAt f (nI N) (nI (z + 1)) = 42
      · have := at_lt (by omega) (by omega) (by decide) g2
        rw [if_pos g2, j_one]
        exact ⟨z + 1 + 1, rfl, by omega, by omega⟩
      · rw [if_neg g2, c2, j_add]
        exact ⟨z + 1 + m', rfl, by omega, by omega⟩
    · rw [if_neg g]
      exact ⟨z, rfl, by omega, by omega⟩
  have hpr : -1 ≤ (rpP f (nI N) (nI z)).toInt ∧ (rpP f (nI N) (nI z)).toInt ≤ 99 := by
    unfold rpP
    rw [j_one]
    split
    · split
      · rw [show (-1 : Int32).toInt = -1 from by decide]; omega
      · exact ⟨by omega, c5⟩
    · rw [show (-1 : Int32).toInt = -1 from by decide]; omega
  unfold fiRead frNx frSo
  dsimp only
  rw [hy, hz, hw2, j_one]
  exact ⟨w + 1, rfl, by omega, by omega, hw, hpr, rfl⟩
