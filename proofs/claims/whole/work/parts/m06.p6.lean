/-! the exponential form, and what is cut -/
def exL (Y : Nat → Nat) (z places : Nat) (sh : Int32) : List Int32 := dcs Y z 1 ++ (dotL places sh ++ dcs Y (z + 1) places)
def tailL (mark : Int32) (z : Nat) : List Int32 :=
  [mark, if 0 ≤ 18 - nI z then 43 else 45, 48 + fiAbs (18 - nI z) / 10, 48 + (fiAbs (18 - nI z) - fiAbs (18 - nI z) / 10 * 10)]
theorem exGo_X {row : Nat → Int32} {Y : Nat → Nat} {s m fst places : Nat} (hr : ∀ r, r < m → row r = nI (Y (r + s))) (hm : m < 1000) (hf : fst + places < m) : ∀ (k i : Nat) (L : LnS) (n : Nat), places + 1 - i < k → i ≤ places + 1 → Len L n → n + (places + 1 - i) < 3000 →
    lnL (exGo row (nI m) (nI fst) (nI places) k (nI i) L) = lnL L ++ dcs Y (fst + s + i) (places + 1 - i) ∧ Len (exGo row (nI m) (nI fst) (nI places) k (nI i) L) (n + (places + 1 - i)) := by
  intro k
  induction k with
  | zero => intro i L n h; omega
  | succ k ih =>
    intro i L n h hi hL hn
    rw [exGo]
    split
    · rename_i h1
      rw [j_lt (by omega) (by omega)] at h1
      rw [show places + 1 - i = 0 by omega]
      exact ⟨by simp [dcs], hL⟩
    · rename_i h1
      rw [j_lt (by omega) (by omega)] at h1
      have e : (48 : Int32) + exD row (nI m) (nI fst + nI i) = nI (48 + Y (fst + s + i)) := by
        unfold exD
        rw [j_add, if_neg (by rw [j_le (by omega) (by omega)]; omega), j_nat (by omega), hr _ (by omega), n_48, j_add]
        congr 3
        omega
      rw [e, j_one]
      obtain ⟨a, b⟩ := hL.ly (c := nI (48 + Y (fst + s + i))) (by omega)
      · obtain ⟨c, d⟩ := ih (i + 1) _ (n + 1) (by omega) (by omega) b (by omega)
        refine ⟨?_, ?_⟩
        · rw [c, a, show places + 1 - i = (places + 1 - (i + 1)) + 1 by omega, List.append_assoc]
          congr 1
        · rw [show n + (places + 1 - i) = n + 1 + (places + 1 - (i + 1)) by omega]; exact d
theorem exDigits_X {row : Nat → Int32} {Y : Nat → Nat} {s m fst places n : Nat} {sh : Int32} {B : LnS} (hr : ∀ r, r < m → row r = nI (Y (r + s))) (hm : m < 1000) (hf : fst + places < m) (hp : places < 100) (hB : Len B n) (hn : n < 1000) :
    lnL (exDigits row (nI m) (nI fst) (nI places) sh B) = lnL B ++ exL Y (fst + s) places sh ∧ Len (exDigits row (nI m) (nI fst) (nI places) sh B) (n + (exL Y (fst + s) places sh).length) := by
  have e : (48 : Int32) + row (nI fst).toNatClampNeg = nI (48 + Y (fst + s)) := by rw [j_nat (by omega), hr _ (by omega), n_48, j_add]
  unfold exDigits
  rw [e]
  obtain ⟨a, b⟩ := hB.ly (c := nI (48 + Y (fst + s))) (by omega)
  have hdl := dotL_len places sh
  obtain ⟨c, d⟩ := fxDot_X (places := places) (point := sh) b (by omega) (by omega)
  obtain ⟨f, g⟩ := exGo_X hr hm hf 101 1 _ _ (by omega) (by omega) d (by omega)
  rw [show (1 : Int32) = nI 1 from rfl]
  refine ⟨?_, ?_⟩
  · rw [f, c, a]
    simp only [exL, List.append_assoc, Nat.add_sub_cancel]
    congr 1
  · have : (exL Y (fst + s) places sh).length = 1 + (dotL places sh).length + (places + 1 - 1) := by
      simp only [exL, List.length_append, dcs_len]
      omega
    rw [this, show n + (1 + (dotL places sh).length + (places + 1 - 1)) = n + 1 + (dotL places sh).length + (places + 1 - 1) by omega]
    exact g
theorem abs_same (x : Int32) : (if 0 ≤ x then x else -x) = fiAbs x := by
  unfold fiAbs
  rw [Int32.zero_sub]
theorem exTail_X {z n : Nat} {le : Int32} {L : LnS} (hL : Len L n) (hn : n < 4000) : lnL (exTail (18 - nI z) le L) = lnL L ++ tailL (if le = 69 then 69 else if le = 71 then 69 else 101) z ∧ Len (exTail (18 - nI z) le L) (n + 4) := by
  unfold exTail tailL
  rw [abs_same]
  obtain ⟨a, b⟩ := hL.ly (c := (if le = 69 then (69 : Int32) else if le = 71 then 69 else 101)) (by omega)
  obtain ⟨c, d⟩ := b.ly (c := (if 0 ≤ 18 - nI z then (43 : Int32) else 45)) (by omega)
  obtain ⟨e, f⟩ := d.ly (c := 48 + fiAbs (18 - nI z) / 10) (by omega)
  obtain ⟨g, h⟩ := f.ly (c := 48 + (fiAbs (18 - nI z) - fiAbs (18 - nI z) / 10 * 10)) (by omega)
  refine ⟨?_, h⟩
  rw [g, e, c, a]
  simp only [List.append_assoc, List.cons_append, List.nil_append]
theorem tail_chr : ∀ z : Fin 31, (tailL 101 z.val).map chr16 = tailL 101 z.val ∧ (tailL 69 z.val).map chr16 = tailL 69 z.val := by decide +kernel
theorem exPut_X {row : Nat → Int32} {X : Nat → Nat} (hr : RowC row X) (hX : okX X) {z : Nat} (hz : isFst X z) {mark : Int32} (hm : mark = 101 ∨ mark = 69) {L : LnS} (hL : lnOK 160 L.2) :
    lnL (exPut row mark L) = (lnL L ++ tailL mark z).take 160 ∧ lnOK 160 (exPut row mark L).2 := by
  have hc : (tailL mark z).map chr16 = tailL mark z := by
    have := tail_chr ⟨z, hz.lt⟩
    rcases hm with rfl | rfl
    · exact this.1
    · exact this.2
  have he : dgExp row = 18 - nI z := by unfold dgExp; rw [dgFst_X hr hX hz]
  unfold exPut
  rw [he]
  obtain ⟨a, b⟩ := ln_ls (c := mark) hL
  obtain ⟨c, d⟩ := ln_ls (c := (if 0 ≤ 18 - nI z then (43 : Int32) else 45)) b
  obtain ⟨e, f⟩ := ln_ls (c := 48 + fiAbs (18 - nI z) / 10) d
  obtain ⟨g, h⟩ := ln_ls (c := 48 + (fiAbs (18 - nI z) - fiAbs (18 - nI z) / 10 * 10)) f
  refine ⟨?_, h⟩
  rw [g, e, take_app, List.append_assoc, c, take_app, List.append_assoc, a, take_app]
  rw [← hc]
  unfold tailL
  simp only [List.append_assoc, List.cons_append, List.nil_append, List.map_cons, List.map_nil]
/-! cutting the zeros at the end -/
def tz (f : Nat → Int32) (q : Nat) : Nat → Nat
  | 0 => 0
  | m + 1 => if f (q + 1 + m) = 48 then tz f q m else m + 1
def cutN (f : Nat → Int32) (q m : Nat) : Nat := if tz f q m = 0 then q else q + 1 + tz f q m
theorem tz_le (f : Nat → Int32) (q : Nat) : ∀ m, tz f q m ≤ m := by
  intro m
  induction m with
  | zero => exact Nat.le_refl _
  | succ m ih =>
    rw [tz]
    split
    · omega
    · exact Nat.le_refl _
theorem tz_congr {f g : Nat → Int32} {q : Nat} : ∀ m, (∀ k, k < q + 1 + m → f k = g k) → tz f q m = tz g q m := by
  intro m
  induction m with
  | zero => intro h; rfl
  | succ m ih =>
    intro h
    rw [tz, tz, h (q + 1 + m) (by omega), ih (fun k hk => h k (by omega))]
theorem tz_last {f : Nat → Int32} {q : Nat} : ∀ m, tz f q m ≠ 0 → f (q + tz f q m) ≠ 48 := by
  intro m
  induction m with
  | zero => intro h; exact absurd rfl h
  | succ m ih =>
    rw [tz]
    split
    · exact ih
    · rename_i h
      intro _
      rw [show q + (m + 1) = q + 1 + m by omega]
      exact h
theorem lnAt_n {f : Nat → Int32} {n i : Nat} (h : i < n) (hn : n < 2147483648) : lnAt f (nI n) (nI i) = f i := by
  rw [lnAt, if_neg (by rw [k_lt, nI_toInt (by omega), l_0]; omega), if_neg (by rw [j_le (by omega) (by omega)]; omega), j_nat (by omega)]
theorem lnZeros_tz {f : Nat → Int32} {q places : Nat} (h46 : f q = 46) (hb : q + 1 + places < 5000) : ∀ (k m i : Nat), m < k → i + m = places → lnZeros f (nI places) k (nI i) (nI (q + 1 + m)) = nI (q + 1 + tz f q m) := by
  intro k
  induction k with
  | zero => intro m i h; omega
  | succ k ih =>
    intro m i h he
    rw [lnZeros]
    cases m with
    | zero =>
      rw [if_pos (by rw [j_le (by omega) (by omega)]; omega)]
      rfl
    | succ m =>
      rw [if_neg (by rw [j_le (by omega) (by omega)]; omega), tz, show q + 1 + (m + 1) = (q + 1 + m) + 1 by omega, j_s0, lnAt_n (by omega) (by omega), j_one]
      split
      · exact ih m (i + 1) (by omega) (by omega)
      · rfl
theorem lnDp_tz {f : Nat → Int32} {q m : Nat} (h46 : f q = 46) (hno : ∀ j, j < m → f (q + 1 + j) ≠ 46) (hb : q + 1 + m < 5000) : lnDp f (nI m) (nI (q + 1 + m)) = nI (cutN f q m) := by
  have h := lnZeros_tz (f := f) (q := q) (places := m) h46 hb (m + 1) m 0 (by omega) (by omega)
  have hl := tz_le f q m
  unfold lnDp lnDrop
  rw [nI_toInt (by omega), show ((m : Int).toNat + 1) = m + 1 by omega, n_0, h, show q + 1 + tz f q m = (q + tz f q m) + 1 by omega, j_s0, lnAt_n (by omega) (by omega)]
  unfold cutN
  by_cases e : tz f q m = 0
  · rw [if_pos e, e, Nat.add_zero, if_pos h46]
  · rw [if_neg e, if_neg, show q + 1 + tz f q m = q + tz f q m + 1 by omega]
    have := hno (tz f q m - 1) (by omega)
    rw [show q + 1 + (tz f q m - 1) = q + tz f q m by omega] at this
    exact this
theorem cuGo_tz {f : Nat → Int32} {q : Nat} (h46 : f q = 46) : ∀ (k m : Nat), m < k → q + 1 + m < 5000 → cuGo f k (nI (q + 1 + m)) = nI (q + 1 + tz f q m) := by
  intro k
  induction k with
  | zero => intro m h; omega
  | succ k ih =>
    intro m h hb
    rw [cuGo]
    cases m with
    | zero =>
      rw [Nat.add_zero, j_s0, j_nat (by omega), if_neg (by rw [h46]; decide)]
      rfl
    | succ m =>
      rw [tz, show q + 1 + (m + 1) = (q + 1 + m) + 1 by omega, j_s0, j_nat (by omega)]
      split
      · exact ih m (by omega) (by omega)
      · rfl
theorem cuAll_tz {f : Nat → Int32} {q m : Nat} (h46 : f q = 46) (hno : ∀ j, j < m → f (q + 1 + j) ≠ 46) (hm : 0 < m) (hm2 : m < 900) (hb : q + 1 + m < 5000) : cuAll f (nI m) (nI (q + 1 + m)) = nI (cutN f q m) := by
  have hl := tz_le f q m
  unfold cuAll
  rw [if_neg (by rw [n_0, j_inj (by omega) (by omega)]; omega), cuGo_tz h46 901 m (by omega) hb, show q + 1 + tz f q m = (q + tz f q m) + 1 by omega, j_s0, j_nat (by omega)]
  unfold cutN
  by_cases e : tz f q m = 0
  · rw [if_pos e, e, Nat.add_zero, if_pos h46]
  · rw [if_neg e, if_neg, show q + 1 + tz f q m = q + tz f q m + 1 by omega]
    have := hno (tz f q m - 1) (by omega)
    rw [show q + 1 + (tz f q m - 1) = q + tz f q m by omega] at this
    exact this
theorem dcs_get {X : Nat → Nat} {i n k : Nat} (h : k < n) : (dcs X i n)[k]? = some (nI (48 + X (i + k))) := by
  unfold dcs
  rw [List.getElem?_map, List.getElem?_range' (by simpa using h)]
  simp
theorem lnL_at {L : LnS} {k : Nat} {x : Int32} (h : (lnL L)[k]? = some x) : L.1 k = x := by
  obtain ⟨a, b⟩ := List.getElem?_eq_some_iff.mp h
  rw [← b, lnL_get a]
theorem nd_46 {X : Nat → Nat} (hX : okX X) (j : Nat) : nI (48 + X j) ≠ 46 := by
  have := (hX j).1
  rw [show (46 : Int32) = nI 46 from rfl, Ne, j_inj (by omega) (by omega)]
  omega
/-- cut, on both sides: of digits, a point if there are places, and the places -/
theorem cut_both {X : Nat → Nat} (hX : okX X) {i n p pl : Nat} (hn : 0 < n) (hn2 : n < 1000) (hpl : pl < 900) {C R : LnS} (hC : lnL C = dcs X i n ++ (dotL pl 0 ++ dcs X p pl)) (hR : lnL R = dcs X i n ++ (dotL pl 0 ++ dcs X p pl)) (hC2 : 0 ≤ C.2.toInt) (hR2 : 0 ≤ R.2.toInt) :
    lnL (C.1, lnDp C.1 (nI pl) C.2) = lnL (R.1, cuAll R.1 (nI pl) R.2) ∧ ∃ q, q ≤ n + 1 + pl ∧ lnDp C.1 (nI pl) C.2 = nI q ∧ cuAll R.1 (nI pl) R.2 = nI q := by
  have lC := lnL_length C
  have lR := lnL_length R
  rw [hC] at lC
  rw [hR] at lR
  simp only [List.length_append, dcs_len] at lC lR
  have tC : C.2.toNatClampNeg = C.2.toInt.toNat := rfl
  have tR : R.2.toNatClampNeg = R.2.toInt.toNat := rfl
  have hdl := dotL_len pl 0
  have eC : C.2 = nI (n + ((dotL pl 0).length + pl)) := by rw [j_of hC2]; congr 1; omega
  have eR : R.2 = nI (n + ((dotL pl 0).length + pl)) := by rw [j_of hR2]; congr 1; omega
  have hget : ∀ k, k < n + ((dotL pl 0).length + pl) → C.1 k = R.1 k := by
    intro k hk
    have h1 : k < (lnL C).length := by rw [hC]; simp only [List.length_append, dcs_len]; exact hk
    have h2 : k < (lnL R).length := by rw [hR]; simp only [List.length_append, dcs_len]; exact hk
    rw [← lnL_get h1, ← lnL_get h2]
    simp only [hC, hR]
  by_cases h0 : 0 < pl
  · have hdot : dotL pl 0 = [46] := by unfold dotL; rw [if_pos h0]
    rw [hdot] at hC hR eC eR hget
    simp only [List.length_singleton] at eC eR hget
    have c46 : C.1 n = 46 := lnL_at (by rw [hC, List.getElem?_append_right (by rw [dcs_len]; exact Nat.le_refl _), dcs_len]; simp)
    have cno : ∀ j, j < pl → C.1 (n + 1 + j) ≠ 46 := by
      intro j hj
      have : C.1 (n + 1 + j) = nI (48 + X (p + j)) := lnL_at (by
        rw [hC, List.getElem?_append_right (by rw [dcs_len]; omega), dcs_len, List.getElem?_append_right (by simp; omega), List.length_singleton, show n + 1 + j - n - 1 = j by omega]
        exact dcs_get hj)
      rw [this]
      exact nd_46 hX _
    have r46 : R.1 n = 46 := by rw [← hget n (by omega)]; exact c46
    have rno : ∀ j, j < pl → R.1 (n + 1 + j) ≠ 46 := fun j hj => by rw [← hget _ (by omega)]; exact cno j hj
    rw [eC, eR, show n + (1 + pl) = n + 1 + pl by omega, lnDp_tz c46 cno (by omega), cuAll_tz r46 rno h0 hpl (by omega)]
    have hcut : cutN C.1 n pl = cutN R.1 n pl := by unfold cutN; rw [tz_congr pl (fun k hk => hget k (by omega))]
    have hle : cutN R.1 n pl ≤ n + 1 + pl := by
      unfold cutN
      have := tz_le R.1 n pl
      split <;> omega
    rw [hcut]
    refine ⟨lnL_eq rfl (fun k hk => hget k ?_), _, hle, rfl, rfl⟩
    have : (nI (cutN R.1 n pl)).toNatClampNeg = cutN R.1 n pl := j_nat (by omega)
    have hk : k < (nI (cutN R.1 n pl)).toNatClampNeg := hk
    omega
  · have hp0 : pl = 0 := by omega
    subst hp0
    have hdot : dotL 0 0 = [] := rfl
    rw [hdot] at eC eR hget hC
    simp only [List.length_nil, Nat.add_zero] at eC eR hget
    have clast : C.1 (n - 1) ≠ 46 := by
      have : C.1 (n - 1) = nI (48 + X (i + (n - 1))) := lnL_at (by
        rw [hC, List.getElem?_append_left (by rw [dcs_len]; omega)]
        exact dcs_get (by omega))
      rw [this]
      exact nd_46 hX _
    have e1 : lnDp C.1 (nI 0) C.2 = nI n := by
      unfold lnDp lnDrop
      have : lnZeros C.1 (nI 0) ((nI 0).toInt.toNat + 1) 0 C.2 = nI n := by
        show lnZeros C.1 0 (0 + 1) 0 C.2 = nI n
        rw [lnZeros, if_pos (by decide), eC]
      rw [this, j_s1 (by omega) (by omega), lnAt_n (by omega) (by omega), if_neg clast]
    have e2 : cuAll R.1 (nI 0) R.2 = nI n := by
      unfold cuAll
      rw [if_pos (show nI 0 = 0 from rfl), eR]
    rw [e1, e2]
    refine ⟨lnL_eq rfl (fun k hk => hget k ?_), n, by omega, rfl, rfl⟩
    have : (nI n).toNatClampNeg = n := j_nat (by omega)
    have hk : k < (nI n).toNatClampNeg := hk
    omega
