/-! NUMBERS AS TEXTS: both sides lay the same characters. -/
/-- a line of the class holds xs, with room to spare -/
def CLn (L : LnS) (xs : List Int32) : Prop := lnL L = xs ∧ lnOK 160 L.2
theorem lnOK_0 (room : Nat) (h : room < 1073741824) : lnOK room 0 := ⟨by decide, by rw [l_0]; omega, h⟩
theorem fixL_len (Y : Nat → Nat) (places : Nat) (sh : Int32) (z : Nat) : (fixL Y places sh z).length ≤ 20 + places := by
  have := dotL_len places sh
  unfold fixL
  simp only [List.length_append, dcs_len]
  omega
theorem exL_len (Y : Nat → Nat) (places : Nat) (sh : Int32) (z : Nat) : (exL Y z places sh).length ≤ 2 + places := by
  have := dotL_len places sh
  unfold exL
  simp only [List.length_append, dcs_len]
  omega
theorem put_fix {row : Nat → Int32} {Y : Nat → Nat} (hr : RowC row Y) (hY : okX Y) {z places : Nat} (hz : isFst Y z) (hp : places < 120) (sh : Int32) (f : Nat → Int32) : CLn (dgPut row 160 19 (nI places) sh (f, 0)) (fixL Y places sh z) := by
  obtain ⟨a, b⟩ := dgPut_X hr hY (room := 160) (P := 19) hz (by omega) (by omega) (by omega : places < 10000) sh (L := (f, 0)) (lnOK_0 160 (by omega))
  refine ⟨?_, b⟩
  rw [show (19 : Int32) = nI 19 from rfl, a, lnL_zero, List.nil_append]
  refine List.take_of_length_le ?_
  have := fixL_len Y places sh z
  exact Nat.le_trans this (by omega)
theorem put_ex {row : Nat → Int32} {Y : Nat → Nat} (hr : RowC row Y) (hY : okX Y) {z places : Nat} (hz : isFst Y z) (hp : places < 120) (sh : Int32) (f : Nat → Int32) : CLn (dgPut row 160 (dgFst row + 1) (nI places) sh (f, 0)) (exL Y z places sh) := by
  have h31 := hz.lt
  obtain ⟨a, b⟩ := dgPut_X hr hY (room := 160) (P := z + 1) hz (by omega) (by omega) (by omega : places < 10000) sh (L := (f, 0)) (lnOK_0 160 (by omega))
  rw [dgFst_X hr hY hz, j_one]
  refine ⟨?_, b⟩
  rw [a, lnL_zero, List.nil_append, Nat.add_sub_cancel, Nat.min_self, show z + 1 - z = 1 by omega]
  refine List.take_of_length_le ?_
  have := exL_len Y places sh z
  exact Nat.le_trans this (by omega)
theorem put_tail {row : Nat → Int32} {Y : Nat → Nat} (hr : RowC row Y) (hY : okX Y) {z : Nat} (hz : isFst Y z) {mark : Int32} (hm : mark = 101 ∨ mark = 69) {L : LnS} {xs : List Int32} (hL : CLn L xs) (hx : xs.length < 150) : CLn (exPut row mark L) (xs ++ tailL mark z) := by
  obtain ⟨a, b⟩ := exPut_X hr hY hz hm hL.2
  refine ⟨?_, b⟩
  rw [a, hL.1]
  refine List.take_of_length_le ?_
  rw [List.length_append]
  show _ + 4 ≤ _
  omega
/-- what stands behind a value of the class: its digits -/
def NumC (bh ah : Int64) (X : Nat → Nat) : Prop := ∀ row, RowC (dgLd bh ah row) X
theorem plLine_X {bh ah : Int64} {X : Nat → Nat} (hN : NumC bh ah X) (hX : okX X) {pr sh : Int32} {places z : Nat} (hp : fiOr pr 6 = nI places) (hp1 : places < 118) (hz : isFst (rdX X (19 + places)) z) (row f : Nat → Int32) :
    CLn (plLine bh ah pr sh row (f, 0)) (fixL (rdX X (19 + places)) places sh z) := by
  have h1 := dgRound_X (hN row) hX (K := 19 + places) (by omega) (by omega)
  unfold plLine plRow
  rw [hp, show (19 : Int32) + nI places = nI (19 + places) from j_add 19 places]
  exact put_fix h1 (rdX_ok hX _) hz (by omega) sh f
theorem exRow_X {bh ah : Int64} {X : Nat → Nat} (hN : NumC bh ah X) (hX : okX X) {pr : Int32} {places z : Nat} (hp : fiOr pr 6 = nI places) (hp1 : places < 118) (hz : isFst X z) (row : Nat → Int32) : RowC (exRow bh ah pr row) (rdX X (z + 1 + places)) := by
  unfold exRow
  have := hz.lt
  rw [dgFst_X (hN row) hX hz, hp, j_one, j_add]
  exact dgRound_X (hN row) hX (by omega) (by omega)
theorem exLine_X {bh ah : Int64} {X : Nat → Nat} (hN : NumC bh ah X) (hX : okX X) {pr sh le : Int32} {places z z' : Nat} (hle : le = 101 ∨ le = 69) (hp : fiOr pr 6 = nI places) (hp1 : places < 118) (hz : isFst X z) (hz' : isFst (rdX X (z + 1 + places)) z') (row f : Nat → Int32) :
    CLn (exLine bh ah pr sh le row (f, 0)) (exL (rdX X (z + 1 + places)) z' places sh ++ tailL le z') := by
  have h1 := exRow_X hN hX hp hp1 hz row
  have h2 := put_ex h1 (rdX_ok hX _) hz' (by omega : places < 120) sh f
  have h3 := exL_len (rdX X (z + 1 + places)) places sh z'
  unfold exLine
  rw [hp]
  exact put_tail h1 (rdX_ok hX _) hz' hle h2 (by omega)
/-- the reference's exponential -/
theorem pnExp_X {dg : Nat → Int32} {v : Int32} {a b places : Nat} {d : Nat → Nat} (h : DigOK dg v a b d) (hp : places < 100) :
    ∃ z z', isFst (digX d a b) z ∧ isFst (rdX (digX d a b) (z + 1 + places)) z' ∧ (z' = z ∨ rdX (digX d a b) (z + 1 + places) = rdX (digX d a b) (z' + 1 + places)) ∧
      ∀ row : Nat → Int32, eoExp (liAll dg (nI a) (nI b) v 0 row) (nI a + 1) (nI places) = 18 - nI z' ∧
      ∀ (sh le : Int32) (B : LnS) (n : Nat), Len B n → n < 1000 → 
        (lnL (pnExp dg (nI a) (nI b) v row (nI places) sh 0 le B) = lnL B ++ (exL (rdX (digX d a b) (z + 1 + places)) z' places sh ++ tailL (if le = 69 then 69 else if le = 71 then 69 else 101) z') ∧ Len (pnExp dg (nI a) (nI b) v row (nI places) sh 0 le B) (n + ((exL (rdX (digX d a b) (z + 1 + places)) z' places sh).length + 4))) ∧
        ∃ R : LnS, lnL R = lnL B ++ exL (rdX (digX d a b) (z + 1 + places)) z' places sh ∧ Len R (n + (exL (rdX (digX d a b) (z + 1 + places)) z' places sh).length) ∧
          pnExp dg (nI a) (nI b) v row (nI places) sh 1 le B = exTail (18 - nI z') le (R.1, cuAll R.1 (nI places) R.2) := by
  have h1 := h.a1
  have h18 := h.a18
  have h12 := h.b12
  have hX := digX_ok h.d10 h18 h12
  have hli : ∀ row, RowR (liAll dg (nI a) (nI b) v 0 row) (1 + (a + b)) (digX d a b) (18 - a) := by
    intro row
    have := liAll_X (dg := dg) (row := row) (v := v) (d := d) h18 h12 (places := 0) (by omega) h.at'
    rw [show max (1 + (a + b)) (a + 1 + 0) = 1 + (a + b) by omega] at this
    exact this
  have eo := fun row => eo_X (places := places) (hli row) hX (by omega) (fun j hj => digX_lo hj) (fun j hj => digX_hi (by omega)) (by omega) (by omega) hp
  have e19 : nI (19 - (18 - a)) = nI a + 1 := by rw [j_one]; congr 1; omega
  obtain ⟨z, z', m, b1, b2, b3, b4, b5, b6, b7, b8, b9, b10⟩ := eo (fun _ => 0)
  refine ⟨z, z', b1, b2, b3, fun row => ?_⟩
  obtain ⟨y, y', m, c1, c2, c3, c4, c5, c6, c7, c8, c9, c10⟩ := eo row
  obtain rfl := b1.eq c1
  obtain rfl := b2.eq c2
  rw [e19] at c5 c6 c7 c10
  refine ⟨c6, fun sh le B n hB hn => ?_⟩
  have hd := fun (sh : Int32) => exDigits_X (Y := rdX (digX d a b) (z + 1 + places)) (s := 18 - a) (m := m) (fst := z' - (18 - a)) (places := places) (sh := sh) (B := B) c10 c8 c9 hp hB hn
  rw [show z' - (18 - a) + (18 - a) = z' by omega] at hd
  obtain ⟨d1, d2⟩ := hd sh
  have h3 := exL_len (rdX (digX d a b) (z + 1 + places)) places sh z'
  refine ⟨?_, _, d1, d2, ?_⟩
  · obtain ⟨t1, t2⟩ := exTail_X (z := z') (le := le) d2 (by omega)
    unfold pnExp exAllM
    rw [c5, c6, c7, exShort, if_pos rfl]
    refine ⟨?_, ?_⟩
    · rw [t1, d1, List.append_assoc]
    · rw [← Nat.add_assoc]; exact t2
  · unfold pnExp exAllM
    rw [c5, c6, c7, exShort, if_neg (by decide)]
