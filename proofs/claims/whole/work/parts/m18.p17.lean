/-! THE PLAIN TEXT of a decimal: both sides write the same. -/
def tzD (d : Nat → Nat) (A : Nat) : Nat → Nat
  | 0 => 0
  | m + 1 => if d (A + m) = 0 then tzD d A m else m + 1
theorem tzD_le (d : Nat → Nat) (A : Nat) : ∀ m, tzD d A m ≤ m := by
  intro m
  induction m with
  | zero => exact Nat.le_refl _
  | succ m ih => rw [tzD]; split; omega; exact Nat.le_refl _
theorem tzD_0 {d : Nat → Nat} {A : Nat} : ∀ m, tzD d A m = 0 ↔ ∀ i, i < m → d (A + i) = 0 := by
  intro m
  induction m with
  | zero => exact ⟨fun _ i hi => by omega, fun _ => rfl⟩
  | succ m ih =>
    rw [tzD]
    split
    · rename_i h
      rw [ih]
      constructor
      · intro q i hi
        by_cases w : i = m
        · subst w; exact h
        · exact q i (by omega)
      · intro q i hi; exact q i (by omega)
    · rename_i h
      constructor
      · intro q; omega
      · intro q; exact absurd (q m (by omega)) h
def digs (d : Nat → Nat) (i n : Nat) : List Int32 := (List.range' i n).map fun j => nI (48 + d j)
def sgnL (x : Int32) : List Int32 := if x = 0 then [] else [45]
def plainL (x : Int32) (d : Nat → Nat) (z A t : Nat) : List Int32 := sgnL x ++ (digs d z (A - z) ++ if t = 0 then [] else 46 :: digs d A t)
/-- where the digits ahead begin -/
def isBeg (d : Nat → Nat) (A z : Nat) : Prop := z ≤ A - 1 ∧ (∀ i, i < z → d i = 0) ∧ (z < A - 1 → d z ≠ 0)
theorem isBeg.eq {d : Nat → Nat} {A y z : Nat} (h : isBeg d A y) (g : isBeg d A z) : y = z := by
  obtain ⟨a1, a2, a3⟩ := h
  obtain ⟨b1, b2, b3⟩ := g
  rcases Nat.lt_trichotomy y z with q | q | q
  · exact absurd (b2 y q) (a3 (by omega))
  · exact q
  · exact absurd (a2 z q) (b3 (by omega))
theorem mpSk_X {dg : Nat → Int32} {v : Int32} {A : Nat} {d : Nat → Nat} (hA : A ≤ 18) (h1 : 1 ≤ A) (hd : ∀ i, i < A → d i < 10 ∧ dg (30 * v + nI i).toNatClampNeg = nI (d i)) : ∀ (k i : Nat), A - 1 - i < k → i ≤ A - 1 → (∀ j, j < i → d j = 0) → ∃ z, isBeg d A z ∧ mpSk dg v (nI (A - 1)) k (nI i) = nI z := by
  intro k
  induction k with
  | zero => intro i h; omega
  | succ k ih =>
    intro i h hi hlo
    rw [mpSk]
    split
    · rename_i q
      rw [j_le (by omega) (by omega)] at q
      exact ⟨i, ⟨hi, hlo, fun w => by omega⟩, rfl⟩
    · rename_i q
      rw [j_le (by omega) (by omega)] at q
      obtain ⟨g1, g2⟩ := hd i (by omega)
      rw [g2]
      split
      · rename_i w
        rw [n_0, d_eq g1 (by omega)] at w
        rw [j_one]
        refine ih (i + 1) (by omega) (by omega) (fun j hj => ?_)
        by_cases e : j = i
        · subst e; exact w
        · exact hlo j (by omega)
      · rename_i w
        rw [n_0, d_eq g1 (by omega)] at w
        exact ⟨i, ⟨hi, hlo, fun _ => w⟩, rfl⟩
theorem mpEnd_X {dg : Nat → Int32} {v : Int32} {A B : Nat} {d : Nat → Nat} (hA : A ≤ 18) (hB : B ≤ 12) (hd : ∀ i, i < A + B → d i < 10 ∧ dg (30 * v + nI i).toNatClampNeg = nI (d i)) : ∀ (k m : Nat), m < k → m ≤ B → mpEnd dg v (nI A) k (nI (A + m)) = nI (A + tzD d A m) := by
  intro k
  induction k with
  | zero => intro m h; omega
  | succ k ih =>
    intro m h hm
    rw [mpEnd]
    cases m with
    | zero => rw [if_pos (by rw [j_le (by omega) (by omega)]; omega)]; rfl
    | succ m =>
      obtain ⟨g1, g2⟩ := hd (A + m) (by omega)
      have e : 30 * v + nI (A + (m + 1)) - 1 = 30 * v + nI (A + m) := by
        rw [show A + (m + 1) = (A + m) + 1 by omega, Int32.sub_eq_add_neg, Int32.add_assoc, ← Int32.sub_eq_add_neg, j_s0]
      rw [if_neg (by rw [j_le (by omega) (by omega)]; omega), e, g2, tzD]
      by_cases w : d (A + m) = 0
      · rw [if_pos (by rw [w]; rfl), if_pos w, show A + (m + 1) = (A + m) + 1 by omega, j_m0]
        exact ih m (by omega) (by omega)
      · rw [if_neg (by rw [n_0, d_eq g1 (by omega)]; exact w), if_neg w]
theorem mpDg_X {dg : Nat → Int32} {v : Int32} {M e i k n : Nat} {d : Nat → Nat} {L : LnS} (hM : M < 1000) (hd : ∀ i, i < M → d i < 10 ∧ dg (30 * v + nI i).toNatClampNeg = nI (d i)) (he : e ≤ M) (hi : i ≤ e) (hk : e - i < k) (hL : Len L n) (hn : n < 1000) :
    lnL (mpDg dg v (nI e) k (nI i) L) = lnL L ++ digs d i (e - i) ∧ Len (mpDg dg v (nI e) k (nI i) L) (n + (e - i)) := by
  have h1 := hL.int
  have ee : ((nI e).toInt - (i : Int)).toNat = e - i := by rw [nI_toInt (by omega)]; omega
  obtain ⟨a, b⟩ := gy_ls (fun i => 48 + dg (30 * v + i).toNatClampNeg) (nI e) k i L (by omega) (by omega) (by omega) (by omega)
  rw [ee] at a b
  rw [mpDg_g]
  refine ⟨?_, Len.of (by omega) (by omega)⟩
  rw [a]
  congr 1
  unfold digs
  refine List.map_congr_left fun j hj => ?_
  rw [List.mem_range'_1] at hj
  rw [(hd j (by omega)).2, n_48, j_add]
theorem digs_len (d : Nat → Nat) (i n : Nat) : (digs d i n).length = n := by simp [digs]
theorem sgnL_len (x : Int32) : (sgnL x).length ≤ 1 := by unfold sgnL; split <;> simp
theorem mpNum_X {dg : Nat → Int32} {v mn : Int32} {A B : Nat} {d : Nat → Nat} (h1 : 1 ≤ A) (hA : A ≤ 18) (hB : B ≤ 12) (hd : ∀ i, i < A + B → d i < 10 ∧ dg (30 * v + nI i).toNatClampNeg = nI (d i)) {z : Nat} (hz : isBeg d A z) (f : Nat → Int32) :
    lnL (mpNum dg (nI A) (nI B) v mn f) = plainL mn d z A (tzD d A B) ∧ Len (mpNum dg (nI A) (nI B) v mn f) (plainL mn d z A (tzD d A B)).length := by
  have hE : mpE dg (nI A) (nI B) v = nI (A + tzD d A B) := by
    unfold mpE
    rw [j_add]
    exact mpEnd_X hA hB hd 31 B (by omega) (Nat.le_refl _)
  have htl := tzD_le d A B
  have hz1 := hz.1
  have hsl := sgnL_len mn
  have l1 : lnL (mpL1 mn f) = sgnL mn ∧ Len (mpL1 mn f) (sgnL mn).length := by
    unfold mpL1 sgnL
    by_cases e : mn = 0
    · rw [if_pos e, if_pos e]; exact ⟨rfl, rfl, by simp⟩
    · rw [if_neg e, if_neg e]
      exact (show Len (f, 0) 0 from ⟨rfl, by omega⟩).ly (by omega)
  have l2 : lnL (mpL2 dg (nI A) v mn f) = sgnL mn ++ digs d z (A - z) ∧ Len (mpL2 dg (nI A) v mn f) ((sgnL mn).length + (A - z)) := by
    obtain ⟨y, hy, hs⟩ := mpSk_X (dg := dg) (v := v) hA h1 (fun i hi => hd i (by omega)) 19 0 (by omega) (by omega) (fun j hj => by omega)
    obtain rfl := hz.eq hy
    unfold mpL2
    rw [j_s1 (by omega) (by omega), n_0, hs]
    have := mpDg_X (M := A + B) (e := A) (i := z) (k := 19) (by omega) hd (by omega) (by omega) (by omega) l1.2 (by omega)
    rw [l1.1] at this
    exact this
  have hpl : (plainL mn d z A (tzD d A B)).length = (sgnL mn).length + (A - z) + (if tzD d A B = 0 then 0 else 1 + tzD d A B) := by
    unfold plainL
    rw [List.length_append, List.length_append, digs_len]
    split
    · simp
    · rw [List.length_cons, digs_len]; omega
  rw [hpl]
  unfold mpNum mpL3
  rw [hE]
  by_cases e : tzD d A B = 0
  · rw [e, if_pos (by rw [j_le (by omega) (by omega)]; omega), if_pos rfl]
    have := mpDg_X (M := A + B) (e := A + 0) (i := A) (k := 13) (by omega) hd (by omega) (by omega) (by omega) l2.2 (by omega)
    rw [show A + 0 - A = 0 by omega, l2.1] at this
    refine ⟨?_, this.2⟩
    rw [this.1]
    unfold plainL
    rw [if_pos rfl]
    simp [digs]
  · rw [if_neg (by rw [j_le (by omega) (by omega)]; omega), if_neg e]
    obtain ⟨a, b⟩ := l2.2.ly (c := 46) (by omega)
    have := mpDg_X (M := A + B) (e := A + tzD d A B) (i := A) (k := 13) (by omega) hd (by omega) (by omega) (by omega) b (by omega)
    rw [show A + tzD d A B - A = tzD d A B by omega, a, l2.1] at this
    refine ⟨?_, ?_⟩
    · rw [this.1]
      unfold plainL
      rw [if_neg e]
      simp
    · rw [← Nat.add_assoc]; exact this.2
/-- the class's -/
theorem wpSkip_X {f : Nat → Int32} {N S A : Nat} {d : Nat → Nat} (hN : S + A ≤ N) (hN2 : N < 1000) (h1 : 1 ≤ A) (hd : ∀ i, i < A → isDig (f (S + i)) = true ∧ d i = dv (f (S + i))) : ∀ (k i : Nat), A - 1 - i < k → i ≤ A - 1 → (∀ j, j < i → d j = 0) → ∃ z, isBeg d A z ∧ wpSkip f (nI N) (nI (S + A)) k (nI (S + i)) = nI (S + z) := by
  intro k
  induction k with
  | zero => intro i h; omega
  | succ k ih =>
    intro i h hi hlo
    rw [wpSkip, j_s1 (by omega) (by omega)]
    split
    · rename_i q
      rw [j_le (by omega) (by omega)] at q
      exact ⟨i, ⟨hi, hlo, fun w => by omega⟩, rfl⟩
    · rename_i q
      rw [j_le (by omega) (by omega)] at q
      obtain ⟨g1, g2⟩ := hd i (by omega)
      have g5 := (dv_X g1).2.2.2.2
      rw [← g2] at g5
      rw [lnAt_n (by omega) (by omega)]
      split
      · rename_i w
        rw [g5] at w
        rw [j_one, show S + i + 1 = S + (i + 1) by omega]
        refine ih (i + 1) (by omega) (by omega) (fun j hj => ?_)
        by_cases e : j = i
        · subst e; exact w
        · exact hlo j (by omega)
      · rename_i w
        rw [g5] at w
        exact ⟨i, ⟨hi, hlo, fun _ => w⟩, rfl⟩
theorem part_X {f : Nat → Int32} {N b e : Nat} (hN : N < 1000) (he : e ≤ N) (hb : b ≤ e) (hc : ∀ j, b ≤ j → j < e → chr16 (f j) = f j) {L : LnS} (hL : lnOK 60 L.2) (hl : (lnL L).length + (e - b) ≤ 60) :
    lnL (lnPt 60 f (nI N) (nI b) (nI e) L) = lnL L ++ (List.range' b (e - b)).map f ∧ lnOK 60 (lnPt 60 f (nI N) (nI b) (nI e) L).2 := by
  unfold lnPt
  obtain ⟨F, hF⟩ : ∃ F, F = ((nI e).toInt - (nI b).toInt).toNat + 1 := ⟨_, rfl⟩
  rw [← hF, lnPart_g]
  rw [nI_toInt (by omega), nI_toInt (by omega)] at hF
  obtain ⟨p, q⟩ := ga_ls 60 (lnAt f (nI N)) (nI e) F b L (by rw [nI_toInt (by omega)]; omega) (by omega) hL
  refine ⟨?_, q⟩
  have hm : (List.range' b (e - b)).map (fun j => chr16 (lnAt f (nI N) (nI j))) = (List.range' b (e - b)).map f := by
    refine List.map_congr_left fun j hj => ?_
    rw [List.mem_range'_1] at hj
    rw [lnAt_n (by omega) (by omega)]
    exact hc j (by omega) (by omega)
  rw [p, nI_toInt (by omega), show ((e : Int) - (b : Nat)).toNat = e - b by omega, hm]
  refine List.take_of_length_le ?_
  rw [List.length_append, List.length_map, List.length_range']
  exact hl
theorem wpLine_X {f g : Nat → Int32} {N S A B : Nat} {T : Bool} (h : Rd f N S A B T) (hN : N ≤ 200) {bel : Int32} {bh : Int64} (hb : bh = 0 ↔ tzD (tpD f S A) A B = 0) {z : Nat} (hz : isBeg (tpD f S A) A z) :
    lnL (wpLine g bel bh f (nI N) (nI S) (nI (S + A)) (nI N)) = plainL bel (tpD f S A) z A (tzD (tpD f S A) A B) ∧ lnOK 60 (wpLine g bel bh f (nI N) (nI S) (nI (S + A)) (nI N)).2 := by
  have a1 := h.a1
  have a18 := h.a18
  have b12 := h.b12
  have s1 := h.s1
  have hn := h.n
  have hle : S + A ≤ N := by rw [hn]; split <;> omega
  have hz1 := hz.1
  have hsl := sgnL_len bel
  have htl := tzD_le (tpD f S A) A B
  have hdA : ∀ i, i < A → isDig (f (S + i)) = true ∧ tpD f S A i = dv (f (S + i)) := fun i hi => ⟨h.da i hi, by unfold tpD; rw [if_pos hi]⟩
  have hdB : ∀ i, i < B → isDig (f (S + A + 1 + i)) = true ∧ tpD f S A (A + i) = dv (f (S + A + 1 + i)) := fun i hi => ⟨h.db i hi, by unfold tpD; rw [if_neg (by omega), show A + i - A = i by omega]⟩
  have l1 : lnL (wpL1 g bel) = sgnL bel ∧ lnOK 60 (wpL1 g bel).2 := by
    unfold wpL1 sgnL
    by_cases e : bel = 0
    · rw [if_pos e, if_pos e]; exact ⟨rfl, lnOK_0 60 (by omega)⟩
    · rw [if_neg e, if_neg e]
      obtain ⟨p, q⟩ := ln_ls (room := 60) (L := (g, (0 : Int32))) (c := 45) (lnOK_0 60 (by omega))
      exact ⟨by rw [p, lnL_zero]; decide, q⟩
  have hfst : wpFirst f (nI N) (nI S) (nI (S + A)) = nI (S + z) := by
    unfold wpFirst
    rw [j_s1 (by omega) (by omega), nI_toInt (by omega), nI_toInt (by omega)]
    obtain ⟨y, hy, hs⟩ := wpSkip_X (f := f) (N := N) (S := S) (A := A) hle (by omega) a1 hdA (((S + A - 1 : Nat) : Int) - (S : Nat)).toNat.succ 0 (by omega) (by omega) (fun j hj => by omega)
    obtain rfl := hz.eq hy
    exact hs
  have l2 : lnL (wpL2 g bel f (nI N) (nI S) (nI (S + A))) = sgnL bel ++ digs (tpD f S A) z (A - z) ∧ lnOK 60 (wpL2 g bel f (nI N) (nI S) (nI (S + A))).2 := by
    unfold wpL2
    rw [hfst]
    obtain ⟨p, q⟩ := part_X (f := f) (N := N) (b := S + z) (e := S + A) (by omega) hle (by omega) (fun j q1 q2 => by
      have := (dv_X (hdA (j - S) (by omega)).1).2.2.2.1
      rw [show S + (j - S) = j by omega] at this
      exact this) l1.2 (by rw [l1.1]; omega)
    refine ⟨?_, q⟩
    rw [p, l1.1]
    congr 1
    unfold digs
    rw [List.range'_eq_map_range, List.range'_eq_map_range, List.map_map, List.map_map, show S + A - (S + z) = A - z by omega]
    refine List.map_congr_left fun j hj => ?_
    have hj := List.mem_range.mp hj
    simp only [Function.comp]
    obtain ⟨g1, g2⟩ := hdA (z + j) (by omega)
    rw [g2, show S + z + j = S + (z + j) by omega]
    exact (dv_X g1).2.1
  have l2l : (sgnL bel ++ digs (tpD f S A) z (A - z)).length = (sgnL bel).length + (A - z) := by rw [List.length_append, digs_len]
  unfold wpLine
  by_cases e : bh = 0
  · rw [if_pos e]
    refine ⟨?_, l2.2⟩
    rw [l2.1]
    unfold plainL
    rw [if_pos (hb.mp e), List.append_nil]
  · rw [if_neg e]
    have ht0 : tzD (tpD f S A) A B ≠ 0 := fun w => e (hb.mpr w)
    have hT : T = true := by
      cases hh : T
      · have hB0 := h.tb.2 hh
        subst hB0
        exact absurd rfl ht0
      · rfl
    have hNe : N = S + A + 1 + B := by rw [hn, if_pos hT]
    have hdot := h.dot hT
    obtain ⟨p, q⟩ := part_X (f := f) (N := N) (b := S + A) (e := N) (by omega) (Nat.le_refl _) hle (fun j q1 q2 => by
      by_cases w : j = S + A
      · rw [w, hdot]; decide
      · have := (dv_X (hdB (j - (S + A + 1)) (by omega)).1).2.2.2.1
        rw [show S + A + 1 + (j - (S + A + 1)) = j by omega] at this
        exact this) l2.2 (by rw [l2.1, l2l]; omega)
    generalize hW : lnPt 60 f (nI N) (nI (S + A)) (nI N) (wpL2 g bel f (nI N) (nI S) (nI (S + A))) = W3 at p q ⊢
    have hr : (List.range' (S + A) (N - (S + A))).map f = 46 :: digs (tpD f S A) A B := by
      rw [show N - (S + A) = B + 1 by omega, List.range'_succ, List.map_cons, hdot]
      congr 1
      unfold digs
      rw [List.range'_eq_map_range, List.range'_eq_map_range, List.map_map, List.map_map]
      refine List.map_congr_left fun j hj => ?_
      have hj := List.mem_range.mp hj
      simp only [Function.comp]
      obtain ⟨g1, g2⟩ := hdB j hj
      rw [g2]
      exact (dv_X g1).2.1
    rw [hr, l2.1] at p
    have hlen : W3.2 = nI ((sgnL bel).length + (A - z) + 1 + B) := by
      have := lnL_length W3
      rw [p, List.length_append, l2l, List.length_cons, digs_len] at this
      rw [j_of q.1]
      congr 1
      have t : W3.2.toNatClampNeg = W3.2.toInt.toNat := rfl
      omega
    have hgetd : ∀ j, j < B → W3.1 ((sgnL bel).length + (A - z) + 1 + j) = nI (48 + tpD f S A (A + j)) := by
      intro j hj
      refine lnL_at ?_
      rw [p, List.getElem?_append_right (by rw [l2l]; omega), l2l, show (sgnL bel).length + (A - z) + 1 + j - ((sgnL bel).length + (A - z)) = j + 1 by omega, List.getElem?_cons_succ]
      exact dcs_get (X := tpD f S A) (i := A) hj
    have h46 : W3.1 ((sgnL bel).length + (A - z)) = 46 := by
      refine lnL_at ?_
      rw [p, List.getElem?_append_right (by rw [l2l]; omega), l2l, Nat.sub_self]
      rfl
    have htz : ∀ m, m ≤ B → tz W3.1 ((sgnL bel).length + (A - z)) m = tzD (tpD f S A) A m := by
      intro m
      induction m with
      | zero => intro _; rfl
      | succ m ih =>
        intro hm
        have d10 := h.d10 (A + m) (by omega)
        rw [tz, tzD, hgetd m (by omega), ih (by omega)]
        by_cases w : tpD f S A (A + m) = 0
        · rw [if_pos (by rw [w]; rfl), if_pos w]
        · rw [if_neg (by rw [n_48, j_inj (by omega) (by omega)]; omega), if_neg w]
    have hdp := lnDp_tz (f := W3.1) (q := (sgnL bel).length + (A - z)) (m := B) h46 (fun j hj => by
      rw [hgetd j hj, show (46 : Int32) = nI 46 from rfl, Ne, j_inj (by have := h.d10 (A + j) (by omega); omega) (by omega)]
      omega) (by omega)
    have hpl : nI N - nI (S + A) - 1 = nI B := by
      rw [j_sub (by omega) (by omega), j_s1 (by omega) (by omega)]
      congr 1
      omega
    rw [hpl, hlen, hdp]
    have hcn : cutN W3.1 ((sgnL bel).length + (A - z)) B = (sgnL bel).length + (A - z) + 1 + tzD (tpD f S A) A B := by
      unfold cutN
      rw [htz B (Nat.le_refl _), if_neg ht0]
    rw [hcn]
    refine ⟨?_, ?_⟩
    · have h3 : lnL (W3.1, nI ((sgnL bel).length + (A - z) + 1 + tzD (tpD f S A) A B)) = (lnL W3).take ((sgnL bel).length + (A - z) + 1 + tzD (tpD f S A) A B) := by
        have hW2 : lnL W3 = lnL (W3.1, nI ((sgnL bel).length + (A - z) + 1 + B)) := by rw [← hlen]
        rw [hW2, take_lnL (by omega) (by omega)]
        unfold lnL
        dsimp only
        rw [j_nat (by omega)]
      rw [h3, p]
      unfold plainL
      rw [if_neg ht0, ← List.append_assoc, List.take_append, l2l, List.take_of_length_le (by rw [l2l]; omega), show (sgnL bel).length + (A - z) + 1 + tzD (tpD f S A) A B - ((sgnL bel).length + (A - z)) = tzD (tpD f S A) A B + 1 by omega, List.take_succ_cons]
      congr 2
      unfold digs
      rw [← List.map_take, List.range'_eq_map_range, ← List.map_take, List.take_range, Nat.min_eq_left htl, ← List.range'_eq_map_range]
    · exact ⟨by rw [nI_toInt (by omega)]; omega, by rw [nI_toInt (by omega)]; omega, by omega⟩
