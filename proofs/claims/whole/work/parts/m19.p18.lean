/-! NEW VALUES are the same on both sides. -/
theorem isBeg_ex {d : Nat → Nat} {A : Nat} (h1 : 1 ≤ A) : ∃ z, isBeg d A z := by
  have key : ∀ k z, A - 1 - z < k → z ≤ A - 1 → (∀ i, i < z → d i = 0) → ∃ y, isBeg d A y := by
    intro k
    induction k with
    | zero => intro z h; omega
    | succ k ih =>
      intro z h hz hlo
      by_cases e : z < A - 1
      · by_cases g : d z = 0
        · refine ih (z + 1) (by omega) (by omega) (fun i hi => ?_)
          by_cases w : i = z
          · subst w; exact g
          · exact hlo i (by omega)
        · exact ⟨z, hz, hlo, fun _ => g⟩
      · exact ⟨z, hz, hlo, fun q => absurd q e⟩
  exact key (A + 1) 0 (by omega) (by omega) (fun i hi => by omega)
theorem wp_st {g : Nat → Int32} {bel : Int32} {bh : Int64} {f : Nat → Int32} {n s p e : Int32} : stab (wpLine g bel bh f n s p e) := by
  have h1 : stab (wpL1 g bel) := by
    unfold wpL1
    split
    · exact stab_0 _
    · exact lnAdd_st (stab_0 _)
  have h2 : stab (wpL2 g bel f n s p) := lnPt_st h1
  unfold wpLine
  split
  · exact h2
  · exact dp_st (lnPt_st h2)
theorem bh_tz {f : Nat → Int32} {N S A B : Nat} {T : Bool} (h : Rd f N S A B T) (hN : N ≤ 200) : rdBh f (nI N) = 0 ↔ tzD (tpD f S A) A B = 0 := by
  have h2 := h.bh hN
  have z : (0 : Int64).toInt = 0 := by decide
  rw [tzD_0, ← numOf_0 (d := fun i => tpD f S A (A + i)), ← Int64.toInt_inj, h2, z]
  constructor
  · intro q
    have : numOf (fun i => tpD f S A (A + i)) B * 10 ^ (12 - B) = 0 := by omega
    rcases Nat.mul_eq_zero.mp this with w | w
    · exact w
    · exact absurd w (Nat.ne_of_gt (Nat.pow_pos (by omega)))
  · intro q; rw [q, Nat.zero_mul]; rfl
theorem VR_dec {f : Nat → Int32} {N : Nat} (hN : N ≤ 200) (hok : rdOK f (nI N) = true) (g : Nat → Int32) (tl : Int32) (tx dg : Nat → Int32) {v mn : Int32} (hv : 0 ≤ v.toInt ∧ v.toInt < 12)
    (dA : digAt dg f (30 * v.toNatClampNeg) (rdS f (nI N)).toInt.toNat (lnDg f (nI N) (rdS f (nI N))).toInt) (dB : digAt dg f (30 * v.toNatClampNeg + (lnDg f (nI N) (rdS f (nI N))).toInt.toNat) ((rdP f (nI N)).toInt.toNat + 1) (rdL f (nI N)).toInt)
    (hmn : mn = (if rdS f (nI N) = 0 then 0 else if roMore (fun j => dg (30 * v.toNatClampNeg + j)) (lnDg f (nI N) (rdS f (nI N)) + rdL f (nI N)) 31 0 0 = 0 then 0 else 1)) {fw : Nat → Int32} {nw : Int32} (hw : (fw, nw) = wpLine g (rdBl f (nI N)) (rdBh f (nI N)) f (nI N) (rdS f (nI N)) (rdP f (nI N)) (rdE f (nI N))) :
    VR (1, rdBl f (nI N), rdAh f (nI N), rdBh f (nI N), fw, nw) 0 tl tx dg (lnDg f (nI N) (rdS f (nI N))) (rdL f (nI N)) mn v := by
  obtain ⟨S, A, B, T, h⟩ := rd_X hN hok
  have a1 := h.a1
  have a18 := h.a18
  have b12 := h.b12
  have s1 := h.s1
  have hDg : lnDg f (nI N) (rdS f (nI N)) = nI A := by
    rw [← rdP_sub, h.p, h.s, j_sub (by omega) (by omega)]
    refine congrArg nI ?_
    omega
  rw [hDg, nI_toInt (by omega)] at dA dB
  rw [h.s, nI_toInt (by omega)] at dA
  rw [h.p, h.l, nI_toInt (by omega), nI_toInt (by omega)] at dB
  have hdg : ∀ i, i < A + B → tpD f S A i < 10 ∧ dg (30 * v + nI i).toNatClampNeg = nI (tpD f S A i) := by
    intro i hi
    refine ⟨h.d10 i hi, ?_⟩
    rw [ix30 hv (by rw [nI_toInt (by omega)]; omega), nI_toInt (by omega)]
    unfold tpD
    by_cases e : i < A
    · rw [if_pos e]
      have q := dA i (by omega)
      rw [show ((S : Int)).toNat = S by omega] at q
      rw [show ((i : Int)).toNat = i by omega, q]
      exact (dv_X (h.da i e)).2.2.1
    · rw [if_neg e]
      have q := dB (i - A) (by omega)
      rw [show ((A : Int)).toNat = A by omega, show (((S + A : Nat) : Int)).toNat = S + A by omega, show 30 * v.toNatClampNeg + A + (i - A) = 30 * v.toNatClampNeg + i by omega] at q
      rw [show ((i : Int)).toNat = i by omega, q]
      exact (dv_X (h.db (i - A) (by omega))).2.2.1
  have hmore : roMore (fun j => dg (30 * v.toNatClampNeg + j)) (lnDg f (nI N) (rdS f (nI N)) + rdL f (nI N)) 31 0 0 = k_b (!decide (∀ i, i < A + B → tpD f S A i = 0)) := by
    rw [hDg, h.l, j_add]
    have q := roMore_X (row := fun j => dg (30 * v.toNatClampNeg + j)) (n := A + B) (X := fun i => if i < A + B then tpD f S A i else 0) (s := 0) (by omega) (fun r hr => by
      have q2 := (hdg r hr).2
      rw [ix30 hv (by rw [nI_toInt (by omega)]; omega), nI_toInt (by omega), show ((r : Int)).toNat = r by omega] at q2
      show dg (30 * v.toNatClampNeg + r) = nI (if r + 0 < A + B then tpD f S A (r + 0) else 0)
      rw [Nat.add_zero, if_pos hr]
      exact q2) (fun j => by
        show (if j < A + B then tpD f S A j else 0) < 10
        split
        · rename_i w; exact (hdg j w).1
        · omega) 31 0 false (by omega) (by omega)
    rw [k_b_false, Bool.false_or, show nI 0 = 0 from rfl] at q
    rw [q]
    refine congrArg k_b ?_
    rw [Bool.eq_iff_iff, List.any_eq_true]
    constructor
    · rintro ⟨r, w1, w2⟩
      rw [List.mem_range'_1] at w1
      have w3 : ¬ tpD f S A r = 0 := by
        intro w
        have : (if r + 0 < A + B then tpD f S A (r + 0) else 0) = 0 := by rw [Nat.add_zero, if_pos (by omega)]; exact w
        rw [this] at w2
        exact absurd w2 (by decide)
      rw [Bool.not_eq_true', decide_eq_false_iff_not]
      exact fun w => w3 (w r (by omega))
    · intro w
      rw [Bool.not_eq_true', decide_eq_false_iff_not] at w
      by_cases w2 : ∃ i, i < A + B ∧ tpD f S A i ≠ 0
      · obtain ⟨i, w3, w4⟩ := w2
        refine ⟨i, by rw [List.mem_range'_1]; omega, ?_⟩
        show (!decide ((if i + 0 < A + B then tpD f S A (i + 0) else 0) = 0)) = true
        rw [Nat.add_zero, if_pos w3, decide_eq_false w4]
        rfl
      · exfalso
        apply w
        intro i hi
        by_cases w3 : tpD f S A i = 0
        · exact w3
        · exact absurd ⟨i, hi, w3⟩ w2
  have hmn2 : mn = rdBl f (nI N) := by
    rw [hmn, h.bel hN, hmore, h.s]
    by_cases w : S = 1
    · rw [if_neg (by rw [n_0, j_inj (by omega) (by omega)]; omega), decide_eq_true w, Bool.true_and]
      cases (!decide (∀ i, i < A + B → tpD f S A i = 0)) <;> rfl
    · rw [if_pos (by rw [show S = 0 by omega]; rfl), decide_eq_false w]
      rfl
  have hD : DigOK dg v A B (tpD f S A) := ⟨a1, a18, b12, h.d10, fun i hi => (hdg i hi).2⟩
  have hVD : VD (rdBl f (nI N)) (rdAh f (nI N)) (rdBh f (nI N)) dg v (nI A) (nI B) mn A B (tpD f S A) := ⟨rfl, rfl, hD, h.ah hN, h.bh hN, hmn2.symm⟩
  obtain ⟨z, hz⟩ := isBeg_ex (d := tpD f S A) a1
  rw [h.s, h.p, h.e] at hw
  obtain ⟨w1, w2⟩ := wpLine_X (g := g) (bel := rdBl f (nI N)) h hN (bh_tz h hN) hz
  have w3 := wp_st (g := g) (bel := rdBl f (nI N)) (bh := rdBh f (nI N)) (f := f) (n := nI N) (s := nI S) (p := nI (S + A)) (e := nI N)
  rw [← hw] at w1 w2 w3
  have hlen : nw = nI (plainL (rdBl f (nI N)) (tpD f S A) z A (tzD (tpD f S A) A B)).length := by
    have q := lnL_length (fw, nw)
    rw [w1] at q
    exact (j_of (x := nw) w2.1).trans (congrArg nI q.symm)
  have hle60 : (plainL (rdBl f (nI N)) (tpD f S A) z A (tzD (tpD f S A) A B)).length ≤ 60 := by
    have q := lnL_length (fw, nw)
    rw [w1] at q
    have q2 := w2.2.1
    have q3 : nw.toNatClampNeg = nw.toInt.toNat := rfl
    dsimp only at q q2
    omega
  rw [hDg, h.l]
  have hq : ∀ fp : Nat → Int32, lnL (mpAll 0 tx tl dg (nI A) (nI B) v mn fp) = plainL (rdBl f (nI N)) (tpD f S A) z A (tzD (tpD f S A) A B) ∧ Len (mpAll 0 tx tl dg (nI A) (nI B) v mn fp) (plainL (rdBl f (nI N)) (tpD f S A) z A (tzD (tpD f S A) A B)).length := by
    intro fp
    have q := mpNum_X (mn := mn) a1 a18 b12 hdg hz fp
    have e : mpAll 0 tx tl dg (nI A) (nI B) v mn fp = mpNum dg (nI A) (nI B) v mn fp := by unfold mpAll; rw [if_pos rfl]
    rw [e, ← hmn2]
    exact q
  clear hmore hmn hdg dA dB
  generalize plainL (rdBl f (nI N)) (tpD f S A) z A (tzD (tpD f S A) A B) = xs at hq hlen hle60 w1
  clear hw w2 hmn2 h hok hD hDg
  generalize rdBl f (nI N) = bel at hVD ⊢
  generalize rdAh f (nI N) = ah at hVD ⊢
  generalize rdBh f (nI N) = bh at hVD ⊢
  refine ⟨Or.inl ⟨rfl, rfl, A, B, tpD f S A, hVD⟩, xs.length, hle60, hlen, ?_, fun fp => ?_⟩
  · show ∀ x ∈ lnL (fw, nI xs.length), chr16 x = x
    rw [← hlen]; exact w3.list
  · show lnL (mpAll 0 tx tl dg (nI A) (nI B) v mn fp) = lnL (fw, nI xs.length) ∧ _
    rw [← hlen, w1]
    exact hq fp
/-- a value does not see a change elsewhere -/
theorem VR_congr {c : VS} {it tl : Int32} {tx tx' dg dg' : Nat → Int32} {a b mn v : Int32} (hv : 0 ≤ v.toInt ∧ v.toInt < 12) (h : VR c it tl tx dg a b mn v) (ht : ∀ i, i < 60 → tx' (60 * v.toNatClampNeg + i) = tx (60 * v.toNatClampNeg + i)) (hd : ∀ i, i < 30 → dg' (30 * v.toNatClampNeg + i) = dg (30 * v.toNatClampNeg + i)) : VR c it tl tx' dg' a b mn v := by
  have ixt : ∀ i : Nat, i < 60 → (60 * v + nI i).toNatClampNeg = 60 * v.toNatClampNeg + i := by
    intro i hi
    have e1 : ((60 : Int32) * v).toInt = 60 * v.toInt := by
      rw [k_mul] <;> rw [show (60 : Int32).toInt = 60 from l_60] <;> omega
    have e0 := nI_toInt (n := i) (by omega)
    have e2 : (60 * v + nI i).toInt = 60 * v.toInt + i := by rw [k_add] <;> omega
    show (60 * v + nI i).toInt.toNat = 60 * v.toInt.toNat + i
    omega
  have ixd : ∀ i : Nat, i < 30 → (30 * v + nI i).toNatClampNeg = 30 * v.toNatClampNeg + i := by
    intro i hi
    rw [ix30 hv (by rw [nI_toInt (by omega)]; omega), nI_toInt (by omega), show ((i : Int)).toNat = i by omega]
  have hso := h.sort
  obtain ⟨n, n60, en, hch, hpl⟩ := h.plain
  rcases hso with ⟨e1, e2, A, B, d, hV⟩ | ⟨e1, e2, e3⟩
  · have hD := hV.ok
    have hD' : DigOK dg' v A B d := ⟨hD.a1, hD.a18, hD.b12, hD.d10, fun i hi => by
      have := hD.a18
      have := hD.b12
      rw [ixd i (by omega), hd i (by omega), ← ixd i (by omega)]
      exact hD.at' i hi⟩
    refine ⟨Or.inl ⟨e1, e2, A, B, d, ⟨hV.ea, hV.eb, hD', hV.ah, hV.bh, hV.bel⟩⟩, n, n60, en, hch, fun f => ?_⟩
    obtain ⟨z, hz⟩ := isBeg_ex (d := d) hD.a1
    have q1 := mpNum_X (mn := mn) hD.a1 hD.a18 hD.b12 (fun i hi => ⟨hD.d10 i hi, hD.at' i hi⟩) hz f
    have q2 := mpNum_X (mn := mn) hD.a1 hD.a18 hD.b12 (fun i hi => ⟨hD'.d10 i hi, hD'.at' i hi⟩) hz f
    have p1 : mpAll it tx tl dg a b v mn f = mpNum dg (nI A) (nI B) v mn f := by unfold mpAll; rw [if_pos e1, hV.ea, hV.eb]
    have p2 : mpAll it tx' tl dg' a b v mn f = mpNum dg' (nI A) (nI B) v mn f := by unfold mpAll; rw [if_pos e1, hV.ea, hV.eb]
    obtain ⟨r1, r2⟩ := hpl f
    rw [p1] at r1 r2
    rw [p2]
    have hlen : n = (plainL mn d z A (tzD d A B)).length := by rw [← r2.list, q1.1]
    rw [q2.1, ← r1, q1.1, hlen]
    exact ⟨rfl, q2.2⟩
  · refine ⟨Or.inr ⟨e1, e2, e3⟩, n, n60, en, hch, fun f => ?_⟩
    have hne : ¬ it = 0 := by rw [e1]; decide
    have p1 : mpAll it tx tl dg a b v mn f = mpTx tx v (nI n) 61 0 (f, 0) := by unfold mpAll; rw [if_neg hne, e3, en]
    have p2 : mpAll it tx' tl dg' a b v mn f = mpTx tx' v (nI n) 61 0 (f, 0) := by unfold mpAll; rw [if_neg hne, e3, en]
    obtain ⟨r1, r2⟩ := hpl f
    rw [p1] at r1 r2
    rw [p2]
    have hm : lnL (mpTx tx' v (nI n) 61 0 (f, 0)) = lnL (mpTx tx v (nI n) 61 0 (f, 0)) := by
      rw [mpTx_at n60, mpTx_at n60]
      refine List.map_congr_left fun j hj => ?_
      have hj := List.mem_range.mp hj
      rw [ixt j (by omega)]
      exact ht j (by omega)
    refine ⟨hm.trans r1, ?_⟩
    rw [mpTx_g]
    obtain ⟨_, q⟩ := gy_ls (fun i => tx' (60 * v + i).toNatClampNeg) (nI n) 61 0 (f, 0) (by rw [nI_toInt (by omega)]; omega) (by omega) (by show (0 : Int) ≤ (0 : Int32).toInt; rw [l_0]; omega) (by rw [nI_toInt (by omega)]; show (0 : Int32).toInt + _ < _; rw [l_0]; omega)
    refine Len.of (q.trans ?_) (by omega)
    show (0 : Int32).toInt + _ = _
    rw [l_0, nI_toInt (by omega)]
    omega
