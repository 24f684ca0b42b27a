/-! NUMBERS AS TEXTS: the reference's fixed and exponential. -/
theorem dcs_row {row : Nat → Int32} {Y : Nat → Nat} {s N i n : Nat} (hr : ∀ r, r < N → row r = nI (Y (r + s))) (h : i + n ≤ N) (hN : N < 2147483648) : (List.range' i n).map (fun j => 48 + row (nI j).toNatClampNeg) = dcs Y (i + s) n := by
  unfold dcs
  rw [List.range'_eq_map_range, List.range'_eq_map_range, List.map_map, List.map_map]
  refine List.map_congr_left fun j hj => ?_
  have hj := List.mem_range.mp hj
  simp only [Function.comp]
  rw [j_nat (by omega), hr _ (by omega), n_48, j_add, show i + j + s = i + s + j by omega]
theorem dcs_len (X : Nat → Nat) (i n : Nat) : (dcs X i n).length = n := by simp [dcs]
/-- a line with a length that is told -/
def Len (L : LnS) (n : Nat) : Prop := L.2 = nI n ∧ n < 5000
theorem Len.list {L : LnS} {n : Nat} (h : Len L n) : (lnL L).length = n := by
  rw [lnL_length, h.1, j_nat (by have := h.2; omega)]
theorem Len.int {L : LnS} {n : Nat} (h : Len L n) : L.2.toInt = n := by rw [h.1, nI_toInt (by have := h.2; omega)]
theorem Len.of {L : LnS} {n : Nat} (h : L.2.toInt = n) (hn : n < 5000) : Len L n := ⟨by rw [j_of (x := L.2) (by omega), h]; rfl, hn⟩
theorem Len.ly {L : LnS} {n : Nat} {c : Int32} (h : Len L n) (hn : n < 4999) : lnL (lyAdd L c) = lnL L ++ [c] ∧ Len (lyAdd L c) (n + 1) := by
  have := h.int
  obtain ⟨a, b⟩ := ly_ls (L := L) (c := c) (by omega) (by omega)
  exact ⟨a, Len.of (by omega) (by omega)⟩
theorem fxGo_X {row : Nat → Int32} {Y : Nat → Nat} {s N e i k : Nat} {L : LnS} {n : Nat} (hr : ∀ r, r < N → row r = nI (Y (r + s))) (he : e ≤ N) (hN : N < 1000) (hi : i ≤ e) (hk : e - i < k) (hL : Len L n) (hn : n < 3000) :
    lnL (fxGo row (nI e) k (nI i) L) = lnL L ++ dcs Y (i + s) (e - i) ∧ Len (fxGo row (nI e) k (nI i) L) (n + (e - i)) := by
  have h1 := hL.int
  have ee : ((nI e).toInt - (i : Int)).toNat = e - i := by rw [nI_toInt (by omega)]; omega
  obtain ⟨a, b⟩ := gy_ls (fun i => 48 + row i.toNatClampNeg) (nI e) k i L (by omega) (by omega) (by omega) (by omega)
  rw [ee] at a b
  rw [dcs_row hr (by omega) (by omega)] at a
  rw [fxGo_g]
  exact ⟨a, Len.of (by omega) (by omega)⟩
theorem fxDot_X {places n : Nat} {point : Int32} {L : LnS} (hL : Len L n) (hn : n < 4000) (hp : places < 1000) : lnL (fxDot (nI places) point L) = lnL L ++ dotL places point ∧ Len (fxDot (nI places) point L) (n + (dotL places point).length) := by
  unfold fxDot dotL
  by_cases e : 0 < places
  · rw [if_pos (by rw [n_0, j_lt (by omega) (by omega)]; exact e), if_pos e]
    exact hL.ly (by omega)
  · rw [if_neg (by rw [n_0, j_lt (by omega) (by omega)]; exact e), if_neg e]
    by_cases g : point = 0
    · rw [if_pos g, if_pos g]
      exact ⟨by simp, hL⟩
    · rw [if_neg g, if_neg g]
      exact hL.ly (by omega)
theorem dotL_len (places : Nat) (point : Int32) : (dotL places point).length ≤ 1 := by
  unfold dotL
  split
  · exact Nat.le_refl _
  · split
    · exact Nat.zero_le _
    · exact Nat.le_refl _
def fixL (Y : Nat → Nat) (places : Nat) (sh : Int32) (z : Nat) : List Int32 := dcs Y (min z 18) (19 - min z 18) ++ (dotL places sh ++ dcs Y 19 places)
/-- what the reference's digits of a value are -/
abbrev DigOK (dg : Nat → Int32) (v : Int32) (a b : Nat) (d : Nat → Nat) : Prop := (1 ≤ a) ∧ (a ≤ 18) ∧ (b ≤ 12) ∧ (∀ i, i < a + b → d i < 10) ∧ (∀ i, i < a + b → dg (30 * v + nI i).toNatClampNeg = nI (d i))
theorem DigOK.a1 {dg : Nat → Int32} {v : Int32} {a b : Nat} {d : Nat → Nat} (h : DigOK dg v a b d) : 1 ≤ a := h.1
theorem DigOK.a18 {dg : Nat → Int32} {v : Int32} {a b : Nat} {d : Nat → Nat} (h : DigOK dg v a b d) : a ≤ 18 := h.2.1
theorem DigOK.b12 {dg : Nat → Int32} {v : Int32} {a b : Nat} {d : Nat → Nat} (h : DigOK dg v a b d) : b ≤ 12 := h.2.2.1
theorem DigOK.d10 {dg : Nat → Int32} {v : Int32} {a b : Nat} {d : Nat → Nat} (h : DigOK dg v a b d) : ∀ i, i < a + b → d i < 10 := h.2.2.2.1
theorem DigOK.at' {dg : Nat → Int32} {v : Int32} {a b : Nat} {d : Nat → Nat} (h : DigOK dg v a b d) : ∀ i, i < a + b → dg (30 * v + nI i).toNatClampNeg = nI (d i) := h.2.2.2.2
theorem digX_lo {d : Nat → Nat} {a b j : Nat} (h : j ≤ 18 - a) : digX d a b j = 0 := by unfold digX; rw [if_neg (by omega)]
theorem digX_hi {d : Nat → Nat} {a b j : Nat} (h : 19 + b ≤ j) : digX d a b j = 0 := by unfold digX; rw [if_neg (by omega)]
theorem pnFix_X {dg row : Nat → Int32} {v : Int32} {a b places : Nat} {d : Nat → Nat} (h : DigOK dg v a b d) (hp : places < 118) {sh : Int32} {B : LnS} {n : Nat} (hB : Len B n) (hn : n < 1000) {z : Nat} (hz : isFst (rdX (digX d a b) (19 + places)) z) :
    lnL (pnFix dg (nI a) (nI b) v row (nI places) sh B) = lnL B ++ fixL (rdX (digX d a b) (19 + places)) places sh z ∧ Len (pnFix dg (nI a) (nI b) v row (nI places) sh B) (n + (fixL (rdX (digX d a b) (19 + places)) places sh z).length) := by
  have h1 := h.a1
  have h18 := h.a18
  have h12 := h.b12
  have hX := digX_ok h.d10 h18 h12
  have hli := liAll_X (dg := dg) (row := row) (v := v) (d := d) h18 h12 (places := places) (by omega) h.at'
  have hrow : ∀ r, r < a + 1 + places → fxRow dg (nI a) (nI b) v (nI places) row r = nI (rdX (digX d a b) (19 + places) (r + (18 - a))) := by
    intro r hr
    unfold fxRow
    rw [hli.1, j_one, j_add]
    have := roRow_X (n := max (1 + (a + b)) (a + 1 + places)) (keep := a + 1 + places) (s := 18 - a) (by omega) hli.2 hX (fun j hj => digX_hi (by omega)) (by rw [digX_lo (Nat.le_refl _)]; decide) (by omega) (by omega) r hr
    rw [show a + 1 + places + (18 - a) = 19 + places by omega] at this
    exact this
  have hY := rdX_ok hX (19 + places)
  have hYlo : ∀ j, j < 18 - a → rdX (digX d a b) (19 + places) j = 0 := by
    intro j hj
    rw [rdX_lo (s := 18 - a) (by rw [digX_lo (Nat.le_refl _)]; decide) (by omega) hj]
    exact digX_lo (by omega)
  generalize rdX (digX d a b) (19 + places) = Y at *
  unfold pnFix fxBody
  rw [j_one, j_add, j_s0]
  obtain ⟨y, a1, a2, a3, a4, a5⟩ := skGo_X (row := fxRow dg (nI a) (nI b) v (nI places) row) (X := Y) (s := 18 - a) (e := a) (by omega) (fun r hr => hrow r (by omega)) (fun j => (hY j).1) 141 0 (by omega) (by omega)
  rw [show (0 : Int32) = nI 0 from rfl, a3]
  have hym : y + (18 - a) = min z 18 := by
    have hlow : ∀ j, j < y + (18 - a) → Y j = 0 := by
      intro j hj
      by_cases q : j < 18 - a
      · exact hYlo j q
      · have := a4 (j - (18 - a)) (by omega) (by omega)
        rw [show j - (18 - a) + (18 - a) = j by omega] at this
        exact this
    by_cases q : y < a
    · have := a5 q
      have e : z = y + (18 - a) := hz.eq (Or.inl ⟨by omega, this, hlow⟩)
      omega
    · have hya : y = a := by omega
      rcases hz with ⟨c, e, f⟩ | ⟨c, e⟩
      · rcases Nat.lt_or_ge z 18 with w | w
        · exact absurd (hlow z (by omega)) e
        · omega
      · omega
  obtain ⟨b1, b2⟩ := fxGo_X (L := B) (n := n) (N := a + 1 + places) (e := a + 1) (i := y) (k := 141) hrow (by omega) (by omega) (by omega) (by omega) hB (by omega)
  have hdl := dotL_len places sh
  obtain ⟨c1, c2⟩ := fxDot_X (places := places) (point := sh) b2 (by omega) (by omega)
  obtain ⟨e1, e2⟩ := fxGo_X (N := a + 1 + places) (e := a + 1 + places) (i := a + 1) (k := 141) hrow (by omega) (by omega) (by omega) (by omega) c2 (by omega)
  have hlen : (fixL Y places sh z).length = (a + 1 - y) + (dotL places sh).length + (a + 1 + places - (a + 1)) := by
    unfold fixL
    simp only [List.length_append, dcs_len]
    omega
  refine ⟨?_, ?_⟩
  · rw [e1, c1, b1, hym, show a + 1 + (18 - a) = 19 by omega, show a + 1 - y = 19 - min z 18 by omega, show a + 1 + places - (a + 1) = places by omega]
    simp only [fixL, List.append_assoc]
  · rw [hlen]
    rw [show n + (a + 1 - y + (dotL places sh).length + (a + 1 + places - (a + 1))) = n + (a + 1 - y) + (dotL places sh).length + (a + 1 + places - (a + 1)) by omega]
    exact e2
/-! exponential -/
theorem eo_X {L : LnS} {n s : Nat} {X : Nat → Nat} {places : Nat} (hL : RowR L n X s) (hX : okX X) (hs : s ≤ 17) (hlo : ∀ j, j ≤ s → X j = 0) (hhi : ∀ j, n + s ≤ j → X j = 0) (hn : n + s ≤ 31) (hns : 19 ≤ n + s) (hp : places < 100) :
    ∃ z z' m, isFst X z ∧ isFst (rdX X (z + 1 + places)) z' ∧ (z' = z ∨ rdX X (z + 1 + places) = rdX X (z' + 1 + places)) ∧ s ≤ z' ∧ eoFst L (nI (19 - s)) (nI places) = nI (z' - s) ∧ eoExp L (nI (19 - s)) (nI places) = 18 - nI z' ∧
      eoLen L (nI (19 - s)) (nI places) = nI m ∧ m < 1000 ∧ z' - s + places < m ∧ ∀ r, r < m → eoRow L (nI (19 - s)) (nI places) r = nI (rdX X (z + 1 + places) (r + s)) := by
  obtain ⟨y, a1, a2, a3, a4, a5⟩ := skGo_X (row := L.1) (X := X) (s := s) (e := n) (by omega) hL.2 (fun j => (hX j).1) 141 0 (by omega) (by omega)
  have hz : eoZ L = nI y := by
    unfold eoZ
    rw [hL.1]
    exact a3
  have hcond : (eoZ L = L.2) ↔ y = n := by rw [hz, hL.1, j_inj (by omega) (by omega)]
  have hlow : ∀ j, j < y + s → X j = 0 := by
    intro j hj
    by_cases q : j < s
    · exact hlo j (by omega)
    · have := a4 (j - s) (by omega) (by omega)
      rw [show j - s + s = j by omega] at this
      exact this
  by_cases q : y = n
  · have hall : ∀ j, X j = 0 := by
      intro j
      rcases Nat.lt_or_ge j (n + s) with w | w
      · exact hlow j (by omega)
      · exact hhi j w
    have hY : rdX X (18 + 1 + places) = X := by
      unfold rdX
      have : upX X (18 + 1 + places) = false := by unfold upX; rw [hall]; rfl
      rw [this, carX_f]
      funext j
      unfold cutX
      split
      · rfl
      · exact (hall j).symm
    have hf : isFst X 18 := Or.inr ⟨rfl, fun j _ => hall j⟩
    have hP : RowR (eoP L (nI (19 - s)) (nI places)) (max n (19 - s + places)) X s := by
      unfold eoP
      rw [if_pos (hcond.mpr q), show nI (19 - s) - 1 + nI places + 1 = nI (19 - s + places) by
        rw [j_s1 (by omega) (by omega), j_add, j_one]; congr 1; omega]
      exact liPad_X (19 - s + places) (by omega) 140 n L (by omega) (by omega) hhi hL
    refine ⟨18, 18, max n (19 - s + places), hf, by rw [hY]; exact hf, Or.inl rfl, by omega, ?_, ?_, ?_, by omega, by omega, ?_⟩
    · unfold eoFst
      rw [if_pos (hcond.mpr q), j_s1 (by omega) (by omega)]
      congr 1
      omega
    · unfold eoExp
      rw [if_pos (hcond.mpr q)]
      rfl
    · unfold eoLen
      rw [if_pos (hcond.mpr q)]
      exact hP.1
    · intro r hr
      unfold eoRow
      rw [if_pos (hcond.mpr q), hY]
      exact hP.2 r hr
  · have hyn : y < n := by omega
    have hnz := a5 hyn
    have hy1 : 1 ≤ y := by
      rcases Nat.eq_zero_or_pos y with w | w
      · subst w
        rw [Nat.zero_add] at hnz
        exact absurd (hlo s (Nat.le_refl _)) hnz
      · exact w
    have hlt31 : y + s < 31 := by omega
    have hf : isFst X (y + s) := Or.inl ⟨hlt31, hnz, hlow⟩
    have hP : RowR (eoP L (nI (19 - s)) (nI places)) (max n (y + places + 1)) X s := by
      unfold eoP
      rw [if_neg (fun w => q (hcond.mp w)), hz, j_add, j_one]
      exact liPad_X (y + places + 1) (by omega) 140 n L (by omega) (by omega) hhi hL
    have hRow : ∀ r, r < y + places + 1 → eoRow L (nI (19 - s)) (nI places) r = nI (rdX X (y + s + 1 + places) (r + s)) := by
      intro r hr
      unfold eoRow
      rw [if_neg (fun w => q (hcond.mp w)), hP.1, hz, j_add, j_one]
      have := roRow_X (n := max n (y + places + 1)) (keep := y + places + 1) (s := s) (by omega) hP.2 hX (fun j hj => hhi j (by omega)) (by rw [hlo s (Nat.le_refl _)]; decide) (by omega) (by omega) r hr
      rw [show y + places + 1 + s = y + s + 1 + places by omega] at this
      exact this
    have hLen : eoLen L (nI (19 - s)) (nI places) = nI (y + places + 1) := by
      unfold eoLen
      rw [if_neg (fun w => q (hcond.mp w)), hP.1, hz, j_add, j_one]
      unfold roLen
      split
      · rename_i w
        rw [j_le (by omega) (by omega)] at w
        congr 1
        omega
      · rfl
    have hr0 := hRow y (by omega)
    have hF : eoFst L (nI (19 - s)) (nI places) = if rdX X (y + s + 1 + places) (y + s) = 0 then nI (y - 1) else nI y := by
      unfold eoFst
      rw [if_neg (fun w => q (hcond.mp w)), hz, j_nat (by omega), hr0, j_s1 (by omega) (by omega)]
      have h10 := (rdX_ok hX (y + s + 1 + places) (y + s)).1
      by_cases g : rdX X (y + s + 1 + places) (y + s) = 0
      · rw [if_pos g, if_pos (by rw [g]; rfl)]
      · rw [if_neg g, if_neg (by rw [n_0, d_eq h10 (by omega)]; exact g)]
    have hE : eoExp L (nI (19 - s)) (nI places) = nI (18 - s) - eoFst L (nI (19 - s)) (nI places) := by
      unfold eoExp
      rw [if_neg (fun w => q (hcond.mp w)), j_s1 (by omega) (by omega), show 19 - s - 1 = 18 - s by omega]
    have hsub : ∀ w, w < 100 → nI (18 - s) - nI w = 18 - nI (w + s) := by
      intro w hw
      refine Int32.toInt_inj.mp ?_
      have e1 := nI_toInt (n := 18 - s) (by omega)
      have e2 := nI_toInt (n := w) (by omega)
      have e3 := nI_toInt (n := w + s) (by omega)
      rw [k_sb (by omega) (by omega), k_sb (by rw [l_18]; omega) (by rw [l_18]; omega), l_18]
      omega
    rcases rdX_first hX (z := y + s) (K := y + s + 1 + places) (by omega) (by omega) hnz hlow with ⟨g1, g2⟩ | ⟨g1, g2, g3⟩
    · refine ⟨y + s, y + s, y + places + 1, hf, Or.inl ⟨hlt31, g1, g2⟩, Or.inl rfl, by omega, ?_, ?_, hLen, by omega, by omega, hRow⟩
      · rw [hF, if_neg g1]; congr 1; omega
      · rw [hE, hF, if_neg g1, hsub y (by omega)]
    · have g0 := (g1 (y + s) (Nat.le_refl _) (by omega)).2
      refine ⟨y + s, y + s - 1, y + places + 1, hf, Or.inl ⟨by omega, by rw [g2]; decide, g3⟩, Or.inr ?_, by omega, ?_, ?_, hLen, by omega, by omega, hRow⟩
      · rw [rdX_less hX (z := y + s) (by omega) (by omega) hlow g1 g2]
        congr 1
        omega
      · rw [hF, if_pos g0]; congr 1; omega
      · rw [hE, hF, if_pos g0, hsub (y - 1) (by omega)]; congr 2; omega
