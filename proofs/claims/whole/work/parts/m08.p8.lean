theorem Len0 {B : LnS} (h : Len B 0) : lnL B = [] := List.eq_nil_of_length_eq_zero h.list
theorem l_18n (z : Nat) (hz : z < 100) : ((18 : Int32) - nI z).toInt = 18 - z := by
  have := nI_toInt (n := z) (by omega)
  rw [k_sb (by rw [l_18]; omega) (by rw [l_18]; omega), l_18, this]
theorem or_n {pr : Int32} (h0 : -1 ≤ pr.toInt) (h1 : pr.toInt ≤ 99) : ∃ o : Nat, o < 100 ∧ fiOr pr 6 = nI o := by
  obtain ⟨a, b⟩ := fiOr_b h0 h1
  exact ⟨(fiOr pr 6).toInt.toNat, by omega, j_of a⟩
theorem most_n {pr : Int32} {o : Nat} (ho : o < 100) (h : fiOr pr 6 = nI o) : gMost pr = nI (max o 1) ∧ pnQ pr = nI (max o 1) := by
  unfold gMost pnQ
  rw [h]
  constructor
  · by_cases e : 1 < o
    · rw [if_pos (by rw [n_1, j_lt (by omega) (by omega)]; exact e), show max o 1 = o by omega]
    · rw [if_neg (by rw [n_1, j_lt (by omega) (by omega)]; exact e), show max o 1 = 1 by omega]; rfl
  · by_cases e : o = 0
    · subst e; rfl
    · rw [if_pos (by rw [n_0, j_inj (by omega) (by omega)]; exact e), show max o 1 = o by omega]
theorem isFst_ex {X : Nat → Nat} (hX : okX X) : ∃ z, isFst X z := by
  obtain ⟨z, h, _⟩ := dgFirst_X (row := fun j => nI (X j)) (X := X) (fun j _ => rfl) hX 32 0 (by omega) (by omega) (fun j hj => by omega)
  exact ⟨z, h⟩
def numC (le : Int32) (bh ah : Int64) (pr sh : Int32) (row f : Nat → Int32) : LnS :=
  if le = 102 then plLine bh ah pr sh row (f, 0) else if le = 101 ∨ le = 69 then exLine bh ah pr sh le row (f, 0) else gL3 (gRow bh ah pr row) pr sh le (f, 0)
/-- the same characters, as lists; xs does not depend on what stood in the rows before -/
theorem num_both {dg : Nat → Int32} {v : Int32} {a b : Nat} {d : Nat → Nat} (h : DigOK dg v a b d) {bh ah : Int64} (hN : NumC bh ah (digX d a b)) {pr sh le : Int32} (h0 : -1 ≤ pr.toInt) (h1 : pr.toInt ≤ 99) (hle : le = 102 ∨ le = 101 ∨ le = 69 ∨ le = 103 ∨ le = 71) :
    ∃ xs : List Int32, xs.length ≤ 150 ∧ (∀ row f, CLn (numC le bh ah pr sh row f) xs) ∧ ∀ (row : Nat → Int32) (B : LnS), Len B 0 → lnL (pnAll dg (nI a) (nI b) v row pr sh le B) = xs ∧ Len (pnAll dg (nI a) (nI b) v row pr sh le B) xs.length := by
  have hX := digX_ok h.d10 h.a18 h.b12
  obtain ⟨o, ho, hor⟩ := or_n h0 h1
  by_cases e1 : le = 102
  · subst e1
    obtain ⟨z, hz⟩ := isFst_ex (rdX_ok hX (19 + o))
    have hl := fixL_len (rdX (digX d a b) (19 + o)) o sh z
    refine ⟨fixL (rdX (digX d a b) (19 + o)) o sh z, by omega, fun row f => ?_, fun row B hB => ?_⟩
    · unfold numC
      rw [if_pos rfl]
      exact plLine_X hN hX hor (by omega) hz row f
    · obtain ⟨p, q⟩ := pnFix_X (row := row) (sh := sh) h (places := o) (by omega) hB (by omega) hz
      unfold pnAll
      rw [if_neg (by decide), hor]
      rw [Len0 hB, List.nil_append] at p
      rw [Nat.zero_add] at q
      exact ⟨p, q⟩
  by_cases e2 : le = 101 ∨ le = 69
  · obtain ⟨z, z', b1, b2, b3, b4⟩ := pnExp_X h (places := o) ho
    have hmark : (if le = 69 then (69 : Int32) else if le = 71 then 69 else 101) = le := by
      rcases e2 with rfl | rfl <;> rfl
    have hl := exL_len (rdX (digX d a b) (z + 1 + o)) o sh z'
    have htl : (tailL le z').length = 4 := rfl
    refine ⟨exL (rdX (digX d a b) (z + 1 + o)) z' o sh ++ tailL le z', by rw [List.length_append]; omega, fun row f => ?_, fun row B hB => ?_⟩
    · unfold numC
      rw [if_neg e1, if_pos e2]
      exact exLine_X hN hX e2 hor (by omega) b1 b2 row f
    · obtain ⟨p, q⟩ := ((b4 row).2 sh le B 0 hB (by omega)).1
      rw [Len0 hB, List.nil_append, hmark] at p
      rw [Nat.zero_add] at q
      have hpn : pnAll dg (nI a) (nI b) v row pr sh le B = pnExp dg (nI a) (nI b) v row (nI o) sh 0 le B := by
        unfold pnAll
        rw [if_pos e1, hor]
        rcases e2 with rfl | rfl
        · rw [if_pos rfl]
        · rw [if_neg (by decide), if_neg (by decide)]
      rw [hpn, List.length_append, htl]
      exact ⟨p, q⟩
  · have e3 : ¬ le = 101 := fun q => e2 (Or.inl q)
    have e4 : ¬ le = 69 := fun q => e2 (Or.inr q)
    obtain ⟨hmo, hpq⟩ := most_n ho hor
    obtain ⟨mo, hmo1, hmo2⟩ : ∃ mo, mo = max o 1 ∧ 1 ≤ mo := ⟨_, rfl, by omega⟩
    rw [← hmo1] at hmo hpq
    have hm100 : mo < 100 := by omega
    obtain ⟨z, z', b1, b2, b3, b4⟩ := pnExp_X h (places := mo - 1) (by omega)
    have hKz : z + 1 + (mo - 1) = z + mo := by omega
    have hKz' : z' + 1 + (mo - 1) = z' + mo := by omega
    rw [hKz] at b2 b3 b4
    rw [hKz'] at b3
    have hz31 := b1.lt
    have hz31' := b2.lt
    have hY := rdX_ok hX (z + mo)
    have hrowC : ∀ row, RowC (gRow bh ah pr row) (rdX (digX d a b) (z + mo)) := by
      intro row
      unfold gRow
      rw [dgFst_X (hN row) hX b1, hmo, j_add]
      exact dgRound_X (hN row) hX (by omega) (by omega)
    have hexp : ∀ row, dgExp (gRow bh ah pr row) = 18 - nI z' := by
      intro row
      unfold dgExp
      rw [dgFst_X (hrowC row) hY b2]
    have hei := l_18n z' (by omega)
    have hmi : (nI mo).toInt = mo := nI_toInt (by omega)
    have hm1 : nI mo - 1 = nI (mo - 1) := j_s1 (by omega) (by omega)
    have hnum : ∀ row f, numC le bh ah pr sh row f = gL3 (gRow bh ah pr row) pr sh le (f, 0) := by
      intro row f; unfold numC; rw [if_neg e1, if_neg e2]
    have hpn : ∀ row B, pnAll dg (nI a) (nI b) v row pr sh le B = pnG dg (nI a) (nI b) v row pr sh le B := by
      intro row B
      unfold pnAll
      rw [if_pos e1, if_neg e3, if_pos e4]
    have hle71 : (if le = 71 then (69 : Int32) else 101) = (if le = 69 then (69 : Int32) else if le = 71 then 69 else 101) := by rw [if_neg e4]
    have hmk : (if le = 71 then (69 : Int32) else 101) = 101 ∨ (if le = 71 then (69 : Int32) else 101) = 69 := by
      by_cases q : le = 71
      · rw [if_pos q]; exact Or.inr rfl
      · rw [if_neg q]; exact Or.inl rfl
    have hE : ∀ row, pnE dg (nI a) (nI b) v row pr = 18 - nI z' := by
      intro row
      unfold pnE
      rw [hpq, hm1]
      exact (b4 row).1
    by_cases hfar : (18 - (z' : Int) < -4 ∨ ¬ 18 - (z' : Int) < mo)
    · -- far
      have hF : ∀ row, gFar (gRow bh ah pr row) pr = true := by
        intro row
        unfold gFar
        rw [hexp, hmo]
        by_cases q : 18 - (z' : Int) < -4
        · rw [if_pos (by rw [k_lt, hei, l_m4]; exact q)]
        · rw [if_neg (by rw [k_lt, hei, l_m4]; exact q)]
          have : ¬ (18 : Int32) - nI z' < nI mo := by rw [k_lt, hei, hmi]; rcases hfar with w | w; exact absurd w q; exact w
          rw [decide_eq_false this]
          rfl
      have hG : ∀ row B, pnG dg (nI a) (nI b) v row pr sh le B = pnExp dg (nI a) (nI b) v (pnR dg (nI a) (nI b) v row pr) (nI (mo - 1)) sh (if ¬ sh = 0 then 0 else 1) le B := by
        intro row B
        unfold pnG
        rw [hE, hpq, hm1]
        by_cases q : (18 : Int32) - nI z' < -4
        · rw [if_pos q]
        · rw [if_neg q, if_pos]
          rw [k_lt, hei, l_m4] at q
          rw [k_lt, hei, hmi]
          rcases hfar with w | w
          · exact absurd w q
          · exact w
      have hl := exL_len (rdX (digX d a b) (z + mo)) (mo - 1) sh z'
      have hC1 : ∀ row f, CLn (gL1 (gRow bh ah pr row) pr sh (f, 0)) (exL (rdX (digX d a b) (z + mo)) z' (mo - 1) sh) := by
        intro row f
        unfold gL1 gPoint gPlaces
        rw [if_pos (hF row), if_pos (hF row), hmo, hm1]
        exact put_ex (hrowC row) hY b2 (by omega) sh f
      by_cases hsh : sh = 0
      · -- cut
        subst hsh
        have hRx : ∃ R : LnS, lnL R = exL (rdX (digX d a b) (z + mo)) z' (mo - 1) 0 ∧ 0 ≤ R.2.toInt := by
          obtain ⟨R, r1, r2, r3⟩ := ((b4 (fun _ => 0)).2 0 le ((fun _ => 0), 0) 0 ⟨rfl, by omega⟩ (by omega)).2
          exact ⟨R, by rw [r1]; rfl, by rw [r2.int]; omega⟩
        obtain ⟨R0, r01, r02⟩ := hRx
        obtain ⟨ys, hys⟩ : ∃ ys, ys = lnL (R0.1, cuAll R0.1 (nI (mo - 1)) R0.2) := ⟨_, rfl⟩
        have hboth : ∀ C : LnS, lnL C = exL (rdX (digX d a b) (z + mo)) z' (mo - 1) 0 → 0 ≤ C.2.toInt → lnL (C.1, lnDp C.1 (nI (mo - 1)) C.2) = ys ∧ ∃ q, q ≤ 1 + 1 + (mo - 1) ∧ lnDp C.1 (nI (mo - 1)) C.2 = nI q := by
          intro C c1 c2
          obtain ⟨w1, q, w2, w3, w4⟩ := cut_both hY (by omega : 0 < 1) (by omega) (by omega) c1 r01 c2 r02
          exact ⟨by rw [hys]; exact w1, q, w2, w3⟩
        have hbothR : ∀ C : LnS, lnL C = exL (rdX (digX d a b) (z + mo)) z' (mo - 1) 0 → 0 ≤ C.2.toInt → lnL (C.1, cuAll C.1 (nI (mo - 1)) C.2) = ys ∧ ∃ q, q ≤ 1 + 1 + (mo - 1) ∧ cuAll C.1 (nI (mo - 1)) C.2 = nI q := by
          intro C c1 c2
          obtain ⟨w1, q, w2, w3, w4⟩ := cut_both hY (by omega : 0 < 1) (by omega) (by omega) c1 c1 c2 c2
          exact ⟨by rw [← w1]; exact (hboth C c1 c2).1, q, w2, w4⟩
        have hyl : ys.length ≤ mo + 1 := by
          obtain ⟨w1, q, w2, w3⟩ := hbothR R0 r01 r02
          rw [← w1, lnL_length, w3, j_nat (by omega)]
          omega
        refine ⟨ys ++ tailL (if le = 71 then 69 else 101) z', ?_, fun row f => ?_, fun row B hB => ?_⟩
        · rw [List.length_append]; show _ + 4 ≤ _; omega
        · rw [hnum]
          unfold gL3
          rw [if_pos (hF row)]
          refine put_tail (hrowC row) hY b2 hmk ?_ (by omega)
          obtain ⟨c1, c2⟩ := hC1 row f
          obtain ⟨w1, q, w2, w3⟩ := hboth _ c1 c2.1
          unfold gL2 gPlaces
          rw [if_pos rfl, if_pos (hF row), hmo, hm1]
          refine ⟨w1, ?_⟩
          show lnOK 160 (lnDp _ _ _)
          rw [w3]
          exact ⟨by rw [nI_toInt (by omega)]; omega, by rw [nI_toInt (by omega)]; omega, by omega⟩
        · rw [hpn, hG, if_neg (by simp)]
          obtain ⟨R, r1, r2, r3⟩ := ((b4 (pnR dg (nI a) (nI b) v row pr)).2 0 le B 0 hB (by omega)).2
          rw [Len0 hB, List.nil_append] at r1
          obtain ⟨w1, q, w2, w3⟩ := hbothR R r1 (by rw [r2.int]; omega)
          have hlen : Len (R.1, cuAll R.1 (nI (mo - 1)) R.2) q := ⟨w3, by omega⟩
          obtain ⟨t1, t2⟩ := exTail_X (z := z') (le := le) hlen (by omega)
          have hq : q = ys.length := by rw [← w1, lnL_length, w3, j_nat (by omega)]
          rw [r3]
          refine ⟨?_, ?_⟩
          · rw [t1, w1, ← hle71]
          · rw [List.length_append, ← hq]; exact t2
      · -- no cut
        refine ⟨exL (rdX (digX d a b) (z + mo)) z' (mo - 1) sh ++ tailL (if le = 71 then 69 else 101) z', ?_, fun row f => ?_, fun row B hB => ?_⟩
        · rw [List.length_append]; show _ + 4 ≤ _; omega
        · rw [hnum]
          unfold gL3
          rw [if_pos (hF row)]
          refine put_tail (hrowC row) hY b2 hmk ?_ (by omega)
          unfold gL2
          rw [if_neg hsh]
          exact hC1 row f
        · rw [hpn, hG, if_pos hsh]
          obtain ⟨p, q⟩ := ((b4 (pnR dg (nI a) (nI b) v row pr)).2 sh le B 0 hB (by omega)).1
          rw [Len0 hB, List.nil_append, ← hle71] at p
          rw [Nat.zero_add] at q
          refine ⟨p, ?_⟩
          rw [List.length_append]
          exact q
    · -- near
      have hn1 : ¬ 18 - (z' : Int) < -4 := fun q => hfar (Or.inl q)
      have hn2 : 18 - (z' : Int) < mo := by
        by_cases w : 18 - (z' : Int) < mo
        · exact w
        · exact absurd (Or.inr w) hfar
      have hF : ∀ row, gFar (gRow bh ah pr row) pr = false := by
        intro row
        unfold gFar
        rw [hexp, hmo, if_neg (by rw [k_lt, hei, l_m4]; exact hn1)]
        have : (18 : Int32) - nI z' < nI mo := by rw [k_lt, hei, hmi]; exact hn2
        rw [decide_eq_true this]
        rfl
      obtain ⟨pl, hpl⟩ : ∃ pl : Nat, (pl : Int) = mo - 1 - (18 - z') := ⟨((mo : Int) - 1 - (18 - z')).toNat, by omega⟩
      have hplI : nI mo - 1 - ((18 : Int32) - nI z') = nI pl := by
        refine Int32.toInt_inj.mp ?_
        have e5 : (nI mo - 1).toInt = mo - 1 := by rw [hm1, nI_toInt (by omega)]; omega
        rw [k_sb (by omega) (by omega), e5, hei, nI_toInt (by omega)]
        omega
      have hpl1 : pl < 118 := by omega
      have hK : rdX (digX d a b) (z + mo) = rdX (digX d a b) (19 + pl) := by
        rcases b3 with w | w
        · rw [show 19 + pl = z + mo by omega]
        · rw [show 19 + pl = z' + mo by omega]; exact w
      have hl := fixL_len (rdX (digX d a b) (z + mo)) pl sh z'
      have hC1 : ∀ row f, CLn (gL1 (gRow bh ah pr row) pr sh (f, 0)) (fixL (rdX (digX d a b) (z + mo)) pl sh z') := by
        intro row f
        unfold gL1 gPoint gPlaces
        rw [if_neg (by rw [hF row]; decide), if_neg (by rw [hF row]; decide), hmo, hexp, hplI]
        exact put_fix (hrowC row) hY b2 (by omega) sh f
      have hG : ∀ row B, pnG dg (nI a) (nI b) v row pr sh le B = pnCut sh (nI pl) (pnFix dg (nI a) (nI b) v (pnR dg (nI a) (nI b) v row pr) (nI pl) sh B) := by
        intro row B
        unfold pnG
        rw [hE, hpq, hplI, if_neg (by rw [k_lt, hei, l_m4]; exact hn1), if_neg]
        rw [k_lt, hei, hmi]
        omega
      have hR1 : ∀ row B, Len B 0 → lnL (pnFix dg (nI a) (nI b) v row (nI pl) sh B) = fixL (rdX (digX d a b) (z + mo)) pl sh z' ∧ Len (pnFix dg (nI a) (nI b) v row (nI pl) sh B) (fixL (rdX (digX d a b) (z + mo)) pl sh z').length := by
        intro row B hB
        obtain ⟨p, q⟩ := pnFix_X (row := row) (sh := sh) h (places := pl) hpl1 hB (by omega) (z := z') (by rw [← hK]; exact b2)
        rw [Len0 hB, List.nil_append, ← hK] at p
        rw [Nat.zero_add, ← hK] at q
        exact ⟨p, q⟩
      by_cases hsh : sh = 0
      · subst hsh
        obtain ⟨r01, r02⟩ := hR1 (fun _ => 0) ((fun _ => 0), 0) ⟨rfl, by omega⟩
        generalize pnFix dg (nI a) (nI b) v (fun _ => 0) (nI pl) 0 (fun _ => 0, 0) = R0 at r01 r02
        have r03 : 0 ≤ R0.2.toInt := by rw [r02.int]; omega
        obtain ⟨ys, hys⟩ : ∃ ys, ys = lnL (R0.1, cuAll R0.1 (nI pl) R0.2) := ⟨_, rfl⟩
        have hboth : ∀ C : LnS, lnL C = fixL (rdX (digX d a b) (z + mo)) pl 0 z' → 0 ≤ C.2.toInt → lnL (C.1, lnDp C.1 (nI pl) C.2) = ys ∧ ∃ q, q ≤ 19 - min z' 18 + 1 + pl ∧ lnDp C.1 (nI pl) C.2 = nI q := by
          intro C c1 c2
          obtain ⟨w1, q, w2, w3, w4⟩ := cut_both hY (by omega : 0 < 19 - min z' 18) (by omega) (by omega) c1 r01 c2 r03
          exact ⟨by rw [hys]; exact w1, q, w2, w3⟩
        have hbothR : ∀ C : LnS, lnL C = fixL (rdX (digX d a b) (z + mo)) pl 0 z' → 0 ≤ C.2.toInt → lnL (C.1, cuAll C.1 (nI pl) C.2) = ys ∧ ∃ q, q ≤ 19 - min z' 18 + 1 + pl ∧ cuAll C.1 (nI pl) C.2 = nI q := by
          intro C c1 c2
          obtain ⟨w1, q, w2, w3, w4⟩ := cut_both hY (by omega : 0 < 19 - min z' 18) (by omega) (by omega) c1 c1 c2 c2
          exact ⟨by rw [← w1]; exact (hboth C c1 c2).1, q, w2, w4⟩
        have hyl : ys.length ≤ 20 + pl := by
          obtain ⟨w1, q, w2, w3⟩ := hbothR R0 r01 r03
          rw [← w1, lnL_length, w3, j_nat (by omega)]
          omega
        refine ⟨ys, by omega, fun row f => ?_, fun row B hB => ?_⟩
        · rw [hnum]
          unfold gL3
          rw [if_neg (by rw [hF row]; decide)]
          obtain ⟨c1, c2⟩ := hC1 row f
          obtain ⟨w1, q, w2, w3⟩ := hboth _ c1 c2.1
          unfold gL2 gPlaces
          rw [if_pos rfl, if_neg (by rw [hF row]; decide), hmo, hexp, hplI]
          refine ⟨w1, ?_⟩
          show lnOK 160 (lnDp _ _ _)
          rw [w3]
          exact ⟨by rw [nI_toInt (by omega)]; omega, by rw [nI_toInt (by omega)]; omega, by omega⟩
        · rw [hpn, hG, pnCut, if_neg (by simp)]
          obtain ⟨r1, r2⟩ := hR1 (pnR dg (nI a) (nI b) v row pr) B hB
          obtain ⟨w1, q, w2, w3⟩ := hbothR _ r1 (by rw [r2.int]; omega)
          have hq : q = ys.length := by rw [← w1, lnL_length, w3, j_nat (by omega)]
          refine ⟨w1, ?_⟩
          rw [← hq]
          exact ⟨w3, by omega⟩
      · refine ⟨fixL (rdX (digX d a b) (z + mo)) pl sh z', by omega, fun row f => ?_, fun row B hB => ?_⟩
        · rw [hnum]
          unfold gL3 gL2
          rw [if_neg (by rw [hF row]; decide), if_neg hsh]
          exact hC1 row f
        · rw [hpn, hG, pnCut, if_pos hsh]
          exact hR1 (pnR dg (nI a) (nI b) v row pr) B hB
