/-! ALIKE. -/
theorem lnSame_X {f g : Nat → Int32} {n : Nat} (hn : n < 1000) : ∀ (k i : Nat), n - i < k → i ≤ n → (lnSame f (nI n) g (nI n) k (nI i) = true ↔ ∀ j, i ≤ j → j < n → f j = g j) := by
  intro k
  induction k with
  | zero => intro i h; omega
  | succ k ih =>
    intro i h hi
    rw [lnSame]
    by_cases e : n ≤ i
    · rw [if_pos (by rw [j_le (by omega) (by omega)]; exact e)]
      exact ⟨fun _ j a b => by omega, fun _ => rfl⟩
    · rw [if_neg (by rw [j_le (by omega) (by omega)]; exact e), lnAt_n (by omega) (by omega), lnAt_n (by omega) (by omega)]
      by_cases g2 : f i = g i
      · rw [if_pos g2, j_one, ih (i + 1) (by omega) (by omega)]
        constructor
        · intro q j a b
          by_cases w : j = i
          · subst w; exact g2
          · exact q j (by omega) b
        · intro q j a b; exact q j (by omega) b
      · rw [if_neg g2]
        constructor
        · intro q; exact absurd q (by decide)
        · intro q; exact absurd (q i (Nat.le_refl _) (by omega)) g2
theorem lists_iff {L M : LnS} {n : Nat} (hL : Len L n) (hM : Len M n) : lnL L = lnL M ↔ ∀ j, j < n → L.1 j = M.1 j := by
  have hn := hL.2
  constructor
  · intro h j hj
    have a := lnL_get (L := L) (k := j) (by rw [hL.list]; exact hj)
    have b := lnL_get (L := M) (k := j) (by rw [hM.list]; exact hj)
    rw [← a, ← b]
    simp only [h]
  · intro h
    refine lnL_eq (by rw [hL.1, hM.1]) (fun k hk => h k ?_)
    rw [hM.1, j_nat (by omega)] at hk
    exact hk
theorem lnEq_X {f g : Nat → Int32} {n m : Nat} (hn : n ≤ 60) (hm : m ≤ 60) : lnEq f (nI n) g (nI m) = decide (lnL (f, nI n) = lnL (g, nI m)) := by
  unfold lnEq
  by_cases e : n = m
  · subst e
    rw [if_pos rfl, Bool.eq_iff_iff, decide_eq_true_eq, lists_iff (L := (f, nI n)) (M := (g, nI n)) (n := n) ⟨rfl, by omega⟩ ⟨rfl, by omega⟩, nI_toInt (by omega), show (0 : Int32) = nI 0 from rfl, lnSame_X (by omega) _ 0 (by omega) (by omega)]
    exact ⟨fun q j hj => q j (Nat.zero_le _) hj, fun q j _ hj => q j hj⟩
  · rw [if_neg (by rw [j_inj (by omega) (by omega)]; exact e)]
    symm
    rw [decide_eq_false_iff_not]
    intro q
    have := congrArg List.length q
    rw [lnL_length, lnL_length] at this
    have this : (nI n).toNatClampNeg = (nI m).toNatClampNeg := this
    rw [j_nat (by omega), j_nat (by omega)] at this
    exact e this
theorem alCp_X {pl : Nat → Int32} {n : Nat} (hn : n ≤ 60) : ∀ (k i : Nat) (rv : Nat → Int32), n - i < k → i ≤ n → ∀ q, alCp pl (nI n) k (nI i) rv q = if i ≤ q ∧ q < n then pl q else rv q := by
  intro k
  induction k with
  | zero => intro i rv h; omega
  | succ k ih =>
    intro i rv h hi q
    rw [alCp]
    by_cases e : n ≤ i
    · rw [if_pos (by rw [j_le (by omega) (by omega)]; exact e), if_neg (by omega)]
    · rw [if_neg (by rw [j_le (by omega) (by omega)]; exact e), j_nat (by omega), j_one, ih (i + 1) _ (by omega) (by omega) q]
      by_cases w : q = i
      · subst w; rw [if_neg (by omega), pk_us, if_pos (by omega)]
      · rw [pk_un w]
        by_cases g : i ≤ q ∧ q < n
        · rw [if_pos g, if_pos (by omega)]
        · rw [if_neg g, if_neg (by omega)]
theorem alGo_0 {pl rv : Nat → Int32} {n : Int32} (k : Nat) (i : Int32) : alGo pl rv n k i 0 = 0 := by
  cases k with
  | zero => rfl
  | succ k => rw [alGo, if_pos rfl]
theorem alGo_X {pl rv : Nat → Int32} {n : Nat} (hn : n ≤ 60) : ∀ (k i : Nat), n - i < k → i ≤ n → (alGo pl rv (nI n) k (nI i) 1 = 1 ∧ (∀ j, i ≤ j → j < n → pl j = rv j)) ∨ (alGo pl rv (nI n) k (nI i) 1 = 0 ∧ ¬ (∀ j, i ≤ j → j < n → pl j = rv j)) := by
  intro k
  induction k with
  | zero => intro i h; omega
  | succ k ih =>
    intro i h hi
    rw [alGo, if_neg (by decide)]
    by_cases e : n ≤ i
    · rw [if_pos (by rw [j_le (by omega) (by omega)]; exact e)]
      exact Or.inl ⟨rfl, fun j a b => by omega⟩
    · rw [if_neg (by rw [j_le (by omega) (by omega)]; exact e), j_nat (by omega), j_one]
      by_cases g : pl i = rv i
      · rw [decide_eq_true g, k_b_true]
        rcases ih (i + 1) (by omega) (by omega) with ⟨a, b⟩ | ⟨a, b⟩
        · refine Or.inl ⟨a, fun j p q => ?_⟩
          by_cases w : j = i
          · subst w; exact g
          · exact b j (by omega) q
        · exact Or.inr ⟨a, fun q => b (fun j p z => q j (by omega) z)⟩
      · rw [decide_eq_false g, k_b_false, alGo_0]
        exact Or.inr ⟨rfl, fun q => g (q i (Nat.le_refl _) (by omega))⟩
theorem alSame_X {L1 L2 : LnS} {n m : Nat} (h1 : Len L1 n) (h2 : Len L2 m) (hn : n ≤ 60) (hm : m ≤ 60) (rv : Nat → Int32) : alSame L1 L2 rv = k_b (decide (lnL L1 = lnL L2)) := by
  unfold alSame
  rw [h1.1, h2.1]
  by_cases e : m = n
  · subst e
    rw [decide_eq_true rfl, k_b_true, show (0 : Int32) = nI 0 from rfl]
    have hcp : ∀ j, j < m → alCp L1.1 (nI m) 61 (nI 0) rv j = L1.1 j := fun j hj => by rw [alCp_X hn 61 0 rv (by omega) (by omega), if_pos (by omega)]
    rcases alGo_X (pl := L2.1) (rv := alCp L1.1 (nI m) 61 (nI 0) rv) hn 61 0 (by omega) (by omega) with ⟨a, b⟩ | ⟨a, b⟩
    · rw [a, decide_eq_true ((lists_iff h1 h2).mpr fun j hj => by rw [b j (Nat.zero_le _) hj, hcp j hj])]
      rfl
    · rw [a, decide_eq_false (fun q => b (fun j _ hj => by rw [hcp j hj]; exact ((lists_iff h1 h2).mp q j hj).symm))]
      rfl
  · rw [decide_eq_false (by rw [j_inj (by omega) (by omega)]; exact e), k_b_false, alGo_0, decide_eq_false]
    · rfl
    · intro q
      have := congrArg List.length q
      rw [h1.list, h2.list] at this
      omega
theorem alike_both {c c' : VS} {it tl : Int32} {tx dg : Nat → Int32} {a b mn v it' tl' a' b' mn' v' : Int32} (h : VR c it tl tx dg a b mn v) (h' : VR c' it' tl' tx dg a' b' mn' v') (f1 f2 rv : Nat → Int32) :
    k_b (vaSame c.1 c'.1 c.2.2.2.2.1 c.2.2.2.2.2 c'.2.2.2.2.1 c'.2.2.2.2.2) = if it = it' then alSame (mpAll it tx tl dg a b v mn f1) (mpAll it' tx tl' dg a' b' v' mn' f2) rv else 0 := by
  obtain ⟨n, n60, en, _, hpl⟩ := h.plain
  obtain ⟨m, m60, em, _, hpl'⟩ := h'.plain
  obtain ⟨p1, p2⟩ := hpl f1
  obtain ⟨q1, q2⟩ := hpl' f2
  have hd : (c.1 = c'.1) ↔ (it = it') := by
    rcases h.sort with ⟨e1, e2, _⟩ | ⟨e1, e2, _⟩ <;> rcases h'.sort with ⟨g1, g2, _⟩ | ⟨g1, g2, _⟩ <;> rw [e1, e2, g1, g2] <;> decide
  unfold vaSame
  rw [en, em]
  by_cases e : it = it'
  · rw [if_pos (hd.mpr e), if_pos e, alSame_X p2 q2 n60 m60, p1, q1, lnEq_X n60 m60]
  · rw [if_neg (fun w => e (hd.mp w)), if_neg e]
    rfl
