/-! WORDS: cut and quoted. -/
def pwNn (pr : Int32) (n : Nat) : Nat := if pr = -1 then n else min pr.toInt.toNat n
theorem pwN_n {pr : Int32} {n : Nat} (h0 : -1 ≤ pr.toInt) (hn : n ≤ 60) : pwN pr (nI n) = nI (pwNn pr n) := by
  unfold pwN pwNn
  by_cases e : pr = -1
  · rw [if_pos e, if_pos e]
  · rw [if_neg e, if_neg e]
    have h1 : ¬ pr.toInt = -1 := fun z => e (Int32.toInt_inj.mp (by rw [z]; decide))
    have h2 := j_of (x := pr) (by omega)
    by_cases g : pr ≤ nI n
    · rw [if_pos g]
      rw [k_le, nI_toInt (by omega)] at g
      rw [show min pr.toInt.toNat n = pr.toInt.toNat by omega]
      exact h2
    · rw [if_neg g]
      rw [k_le, nI_toInt (by omega)] at g
      rw [show min pr.toInt.toNat n = n by omega]
theorem shCut_n {pr : Int32} {n : Nat} (h0 : -1 ≤ pr.toInt) (hn : n ≤ 60) : shCut (nI n) pr = nI (pwNn pr n) := by
  unfold shCut pwNn fiOr
  by_cases e : pr = -1
  · rw [if_neg (fun q : ¬ pr = -1 => q e), if_pos e, if_neg (by rw [k_lt, nI_toInt (by omega), l_60]; omega)]
  · rw [if_pos e, if_neg e]
    have h1 : ¬ pr.toInt = -1 := fun z => e (Int32.toInt_inj.mp (by rw [z]; decide))
    have h2 := j_of (x := pr) (by omega)
    by_cases g : pr < nI n
    · rw [if_pos g]
      rw [k_lt, nI_toInt (by omega)] at g
      rw [show min pr.toInt.toNat n = pr.toInt.toNat by omega]
      exact h2
    · rw [if_neg g]
      rw [k_lt, nI_toInt (by omega)] at g
      rw [show min pr.toInt.toNat n = n by omega]
theorem pwNn_le (pr : Int32) (n : Nat) : pwNn pr n ≤ n := by unfold pwNn; split <;> omega
theorem take_lnL {f : Nat → Int32} {n m : Nat} (h : m ≤ n) (hn : n < 2147483648) : (lnL (f, nI n)).take m = (List.range m).map f := by
  unfold lnL
  dsimp only
  rw [j_nat hn, ← List.map_take, List.take_range, Nat.min_eq_left h]
/-- the class's words: as they are -/
theorem words_C {g : Nat → Int32} {n : Nat} (hn : n ≤ 60) (hc : ∀ x ∈ lnL (g, nI n), chr16 x = x) {pr : Int32} (h0 : -1 ≤ pr.toInt) (f : Nat → Int32) : CLn (lnPt 160 g (nI n) 0 (shCut (nI n) pr) (f, 0)) ((lnL (g, nI n)).take (pwNn pr n)) := by
  have hle := pwNn_le pr n
  rw [shCut_n h0 hn, take_lnL hle (by omega)]
  unfold lnPt
  obtain ⟨F, hF⟩ : ∃ F, F = ((nI (pwNn pr n)).toInt - (0 : Int32).toInt).toNat + 1 := ⟨_, rfl⟩
  rw [← hF, lnPart_g]
  rw [nI_toInt (by omega), l_0] at hF
  obtain ⟨p, q⟩ := ga_ls 160 (lnAt g (nI n)) (nI (pwNn pr n)) F 0 (f, 0) (by rw [nI_toInt (by omega)]; omega) (by omega) (lnOK_0 160 (by omega))
  refine ⟨?_, q⟩
  rw [show (0 : Int32) = nI 0 from rfl] at p ⊢
  rw [p, show lnL (f, nI 0) = [] from rfl, List.nil_append, nI_toInt (by omega), show (((pwNn pr n : Nat) : Int) - (0 : Nat)).toNat = pwNn pr n by omega, ← List.range_eq_range']
  rw [List.take_of_length_le (by rw [List.length_map, List.length_range]; omega)]
  refine List.map_congr_left fun j hj => ?_
  have hj := List.mem_range.mp hj
  rw [lnAt_n (by omega) (by omega)]
  refine hc _ ?_
  unfold lnL
  dsimp only
  rw [j_nat (by omega)]
  exact List.mem_map.mpr ⟨j, List.mem_range.mpr (by omega), rfl⟩
def escL (x : Int32) : List Int32 := if x = 34 then [92, x] else if x = 92 then [92, x] else [x]
theorem escL_len (x : Int32) : (escL x).length ≤ 2 := by unfold escL; split; exact Nat.le_refl _; split; exact Nat.le_refl _; exact Nat.le_succ _
theorem flat_len (xs : List Int32) : (xs.flatMap escL).length ≤ 2 * xs.length := by
  induction xs with
  | nil => exact Nat.le_refl _
  | cons x xs ih =>
    rw [List.flatMap_cons, List.length_append, List.length_cons]
    have := escL_len x
    omega
theorem qtOne_X {L : LnS} (hL : lnOK 160 L.2) {x : Int32} (hx : chr16 x = x) : lnL (qtOne L x) = (lnL L ++ escL x).take 160 ∧ lnOK 160 (qtOne L x).2 := by
  unfold qtOne escL
  have h2 : lnL (lnAdd 160 (lnAdd 160 L 92) x) = (lnL L ++ [92, x]).take 160 ∧ lnOK 160 (lnAdd 160 (lnAdd 160 L 92) x).2 := by
    obtain ⟨a, b⟩ := ln_ls (c := 92) hL
    obtain ⟨c, d⟩ := ln_ls (c := x) b
    refine ⟨?_, d⟩
    rw [c, a, take_app, hx, List.append_assoc]
    rfl
  by_cases e : x = 34
  · rw [if_pos e, if_pos e]; exact h2
  · rw [if_neg e, if_neg e]
    by_cases g : x = 92
    · rw [if_pos g, if_pos g]; exact h2
    · rw [if_neg g, if_neg g]
      obtain ⟨a, b⟩ := ln_ls (c := x) hL
      rw [hx] at a
      exact ⟨a, b⟩
theorem qtGo_X {g : Nat → Int32} {n e : Nat} (he : e ≤ n) (hn : n ≤ 60) (hc : ∀ k, k < n → chr16 (g k) = g k) : ∀ (k i : Nat) (L : LnS), e - i < k → i ≤ e → lnOK 160 L.2 →
    lnL (qtGo g (nI n) (nI e) k (nI i) L) = (lnL L ++ ((List.range' i (e - i)).map g).flatMap escL).take 160 ∧ lnOK 160 (qtGo g (nI n) (nI e) k (nI i) L).2 := by
  intro k
  induction k with
  | zero => intro i L h; omega
  | succ k ih =>
    intro i L h hi hL
    rw [qtGo]
    split
    · rename_i h1
      rw [j_le (by omega) (by omega)] at h1
      rw [show e - i = 0 by omega]
      refine ⟨?_, hL⟩
      simp only [List.range'_zero, List.map_nil, List.flatMap_nil, List.append_nil]
      rw [List.take_of_length_le]
      obtain ⟨a, b, d⟩ := hL
      rw [lnL_length]
      show L.2.toInt.toNat ≤ _
      omega
    · rename_i h1
      rw [j_le (by omega) (by omega)] at h1
      rw [lnAt_n (by omega) (by omega), j_one]
      obtain ⟨a, b⟩ := qtOne_X hL (hc i (by omega))
      obtain ⟨c, d⟩ := ih (i + 1) _ (by omega) (by omega) b
      refine ⟨?_, d⟩
      rw [c, a, take_app, show e - i = (e - (i + 1)) + 1 by omega, List.range'_succ, List.map_cons, List.flatMap_cons, List.append_assoc]
def quoL (xs : List Int32) : List Int32 := 34 :: (xs.flatMap escL ++ [34])
theorem quoL_len (xs : List Int32) : (quoL xs).length ≤ 2 + 2 * xs.length := by
  unfold quoL
  have := flat_len xs
  simp only [List.length_cons, List.length_append, List.length_nil]
  omega
theorem quote_C {g : Nat → Int32} {n : Nat} (hn : n ≤ 60) (hc : ∀ x ∈ lnL (g, nI n), chr16 x = x) {pr : Int32} (h0 : -1 ≤ pr.toInt) (f : Nat → Int32) : CLn (qtLine g (nI n) pr (f, 0)) (quoL ((lnL (g, nI n)).take (pwNn pr n))) := by
  have hle := pwNn_le pr n
  have hc' : ∀ k, k < n → chr16 (g k) = g k := by
    intro k hk
    refine hc _ ?_
    unfold lnL
    dsimp only
    rw [j_nat (by omega)]
    exact List.mem_map.mpr ⟨k, List.mem_range.mpr hk, rfl⟩
  rw [take_lnL hle (by omega)]
  unfold qtLine
  rw [shCut_n h0 hn, nI_toInt (by omega)]
  obtain ⟨a, b⟩ := ln_ls (room := 160) (L := (f, (0 : Int32))) (c := 34) (lnOK_0 160 (by omega))
  obtain ⟨c, d⟩ := qtGo_X hle hn hc' (((pwNn pr n : Nat) : Int).toNat + 1) 0 _ (by omega) (by omega) b
  obtain ⟨e, h⟩ := ln_ls (c := 34) d
  refine ⟨?_, h⟩
  rw [show (0 : Int32) = nI 0 from rfl] at e a c ⊢
  rw [e, c, take_app, a, List.append_assoc, take_app, show lnL (f, nI 0) = [] from rfl, Nat.sub_zero, ← List.range_eq_range', List.nil_append]
  have hq := quoL_len ((List.range (pwNn pr n)).map g)
  rw [List.length_map, List.length_range] at hq
  exact List.take_of_length_le (by show (quoL ((List.range (pwNn pr n)).map g)).length ≤ 160; omega)
/-- the reference's words -/
theorem pwGo_X {pl : Nat → Int32} {le : Int32} {e : Nat} (he : e ≤ 60) : ∀ (k i : Nat) (L : LnS) (n : Nat), e - i < k → i ≤ e → Len L n → n + 2 * (e - i) < 4000 →
    lnL (pwGo pl le (nI e) k (nI i) L) = lnL L ++ ((List.range' i (e - i)).map pl).flatMap (fun x => if le = 113 then escL x else [x]) ∧ ∃ m, Len (pwGo pl le (nI e) k (nI i) L) m ∧ m ≤ n + 2 * (e - i) := by
  intro k
  induction k with
  | zero => intro i L n h; omega
  | succ k ih =>
    intro i L n h hi hL hb
    rw [pwGo]
    split
    · rename_i h1
      rw [j_le (by omega) (by omega)] at h1
      rw [show e - i = 0 by omega]
      exact ⟨by simp, n, hL, by omega⟩
    · rename_i h1
      rw [j_le (by omega) (by omega)] at h1
      rw [j_nat (by omega), j_one]
      have key : ∃ m, lnL (lyAdd (pwEsc le (pl i) L) (pl i)) = lnL L ++ (if le = 113 then escL (pl i) else [pl i]) ∧ Len (lyAdd (pwEsc le (pl i) L) (pl i)) m ∧ m ≤ n + 2 := by
        unfold pwEsc escL
        have one : lnL (lyAdd L (pl i)) = lnL L ++ [pl i] ∧ Len (lyAdd L (pl i)) (n + 1) := hL.ly (by omega)
        have two : lnL (lyAdd (lyAdd L 92) (pl i)) = lnL L ++ [92, pl i] ∧ Len (lyAdd (lyAdd L 92) (pl i)) (n + 2) := by
          obtain ⟨a, b⟩ := hL.ly (c := 92) (by omega)
          obtain ⟨c, d⟩ := b.ly (c := pl i) (by omega)
          exact ⟨by rw [c, a, List.append_assoc]; rfl, d⟩
        by_cases g : le = 113
        · rw [if_neg (fun q : ¬ le = 113 => q g), if_pos g]
          by_cases g2 : pl i = 34
          · rw [if_pos g2, if_pos g2]; exact ⟨_, two.1, two.2, by omega⟩
          · rw [if_neg g2, if_neg g2]
            by_cases g3 : pl i = 92
            · rw [if_neg (fun q : ¬ pl i = 92 => q g3), if_pos g3]; exact ⟨_, two.1, two.2, by omega⟩
            · rw [if_pos g3, if_neg g3]; exact ⟨_, one.1, one.2, by omega⟩
        · rw [if_pos g, if_neg g]; exact ⟨_, one.1, one.2, by omega⟩
      obtain ⟨m, a, b, c⟩ := key
      obtain ⟨p, m2, q, w⟩ := ih (i + 1) _ m (by omega) (by omega) b (by omega)
      refine ⟨?_, m2, q, by omega⟩
      rw [p, a, show e - i = (e - (i + 1)) + 1 by omega, List.range'_succ, List.map_cons, List.flatMap_cons, List.append_assoc]
theorem flat_one (xs : List Int32) : xs.flatMap (fun x => [x]) = xs := by
  induction xs with
  | nil => rfl
  | cons x xs ih => rw [List.flatMap_cons, ih]; rfl
theorem words_R {pl : Nat → Int32} {n : Nat} (hn : n ≤ 60) {pr le : Int32} (h0 : -1 ≤ pr.toInt) {B : LnS} (hB : Len B 0) :
    (lnL (pwAll pl (nI n) le pr B) = if le = 113 then quoL ((lnL (pl, nI n)).take (pwNn pr n)) else (lnL (pl, nI n)).take (pwNn pr n)) ∧ ∃ m, Len (pwAll pl (nI n) le pr B) m ∧ m ≤ 130 := by
  have hle := pwNn_le pr n
  rw [take_lnL hle (by omega)]
  unfold pwAll
  rw [pwN_n h0 hn]
  by_cases g : le = 113
  · have hq : ∀ L, pwQ le L = lyAdd L 34 := by intro L; unfold pwQ; rw [if_neg (fun q : ¬ le = 113 => q g)]
    rw [hq, hq, if_pos g]
    obtain ⟨a, b⟩ := hB.ly (c := 34) (by omega)
    obtain ⟨p, m, q, w⟩ := pwGo_X (pl := pl) (le := le) (e := pwNn pr n) (by omega) 61 0 _ _ (by omega) (by omega) b (by omega)
    rw [show nI 0 = 0 from rfl] at p q
    generalize pwGo pl le (nI (pwNn pr n)) 61 0 (lyAdd B 34) = G at p q ⊢
    obtain ⟨c, d⟩ := q.ly (c := 34) (by omega)
    refine ⟨?_, m + 1, d, by omega⟩
    rw [c, p, a, Len0 hB, Nat.sub_zero, ← List.range_eq_range']
    simp only [if_pos g]
    rfl
  · have hq : ∀ L, pwQ le L = L := by intro L; unfold pwQ; rw [if_pos g]
    rw [hq, hq, if_neg g]
    obtain ⟨p, m, q, w⟩ := pwGo_X (pl := pl) (le := le) (e := pwNn pr n) (by omega) 61 0 _ _ (by omega) (by omega) hB (by omega)
    refine ⟨?_, m, q, by omega⟩
    rw [show (0 : Int32) = nI 0 from rfl, p, Len0 hB, Nat.sub_zero, ← List.range_eq_range', List.nil_append]
    simp only [if_neg g]
    exact flat_one _
