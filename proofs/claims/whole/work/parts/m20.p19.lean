/-! TYPE, TEXT, ALIKE. -/
theorem byte_same (word : Int64) : ∀ i : Fin 8, moByte word (nI i.val) = deByte word (nI i.val) := by
  intro ⟨i, hi⟩
  have key : ∀ s : Nat, s ≤ 56 → ((word.toBitVec.sshiftRight s &&& 255#64).setWidth 32) = ((word.toBitVec >>> s).setWidth 32 &&& 255#32) := by
    intro s hs
    apply BitVec.eq_of_getLsbD_eq
    intro j hj
    have h255 : (255#64).getLsbD j = (255#32).getLsbD j := by
      have : ∀ j : Fin 32, (255#64).getLsbD j.val = (255#32).getLsbD j.val := by decide
      exact this ⟨j, hj⟩
    rw [BitVec.getLsbD_setWidth, BitVec.getLsbD_and, BitVec.getLsbD_and, BitVec.getLsbD_setWidth, BitVec.getLsbD_sshiftRight, BitVec.getLsbD_ushiftRight, h255]
    by_cases h8 : j < 8
    · rw [show decide (64 ≤ j) = false from decide_eq_false (by omega), if_pos (by omega)]
      simp [hj]
    · have : (255#32).getLsbD j = false := by
        have q : ∀ j : Fin 32, ¬ j.val < 8 → (255#32).getLsbD j.val = false := by decide
        exact q ⟨j, hj⟩ h8
      rw [this]
      simp
  have key2 : ∀ s : Nat, s ≤ 56 → ((word.toBitVec.sshiftRight s &&& 255#64).signExtend 32) = ((word.toBitVec >>> s).signExtend 32 &&& 255#32) := by
    intro s hs
    rw [BitVec.signExtend_eq_setWidth_of_le _ (by decide), BitVec.signExtend_eq_setWidth_of_le _ (by decide)]
    exact key s hs
  unfold moByte deByte
  refine Int32.toBitVec_inj.mp ?_
  rw [Int64.toBitVec_toInt32, Int64.toBitVec_and, Int64.toBitVec_shiftRight, Int32.toBitVec_and, Int64.toBitVec_toInt32]
  have e1 : ∀ i : Fin 8, (((8 * nI i.val).toInt64 &&& 63).toBitVec.smod 64).toNat = 8 * i.val := by decide +kernel
  have e2 : ∀ i : Fin 8, ((((8 * nI i.val).toInt64.toUInt64 &&& Int64.toUInt64 63)).toBitVec % 64).toNat = 8 * i.val := by decide +kernel
  have h1 : word.toBitVec.sshiftRight' (((8 * nI i).toInt64 &&& 63).toBitVec.smod 64) = word.toBitVec.sshiftRight (8 * i) := by
    show word.toBitVec.sshiftRight (((8 * nI i).toInt64 &&& 63).toBitVec.smod 64).toNat = _
    rw [e1 ⟨i, hi⟩]
  have h2 : (word.toUInt64 >>> ((8 * nI i).toInt64.toUInt64 &&& Int64.toUInt64 63)).toInt64.toBitVec = word.toBitVec >>> (8 * i) := by
    rw [UInt64.toBitVec_toInt64, UInt64.toBitVec_shiftRight, BitVec.ushiftRight_eq', e2 ⟨i, hi⟩]
    rfl
  rw [h1, h2]
  exact key2 (8 * i) (by omega)
/-- the tape on both sides -/
abbrev TapeR (f g : Nat → Int32) (N : Nat) : Prop := N ≤ 200 ∧ ∀ k, k < N → f k = g k ∧ chr16 (f k) = f k
theorem chk_same (word : Int64) (m : Int32) (hm : m.toInt ≤ 8) : ∀ (k i : Nat), i + k < 1000 → tyChk word m k (nI i) = moChk word m k (nI i) := by
  intro k
  induction k with
  | zero => intro i _; rfl
  | succ k ih =>
    intro i hik
    by_cases hi : i < 8
    · rw [tyChk, moChk, byte_same word ⟨i, hi⟩, j_one, ih (i + 1) (by omega)]
    · rw [tyChk, moChk, if_pos (by rw [k_le, nI_toInt (by omega)]; omega), if_pos (by rw [k_le, nI_toInt (by omega)]; omega)]
theorem chk_byte (word : Int64) (m : Int32) : ∀ (k i : Nat), i + k < 1000 → (m.toInt - i).toNat < k → tyChk word m k (nI i) = true → ∀ j, i ≤ j → (j : Int) < m.toInt → chr16 (deByte word (nI j)) = deByte word (nI j) := by
  intro k
  induction k with
  | zero => intro i _ h; omega
  | succ k ih =>
    intro i hik hk h j hj hjm
    rw [tyChk, if_neg (by rw [k_le, nI_toInt (by omega)]; omega)] at h
    split at h
    · exact absurd h (by decide)
    · rename_i c1
      split at h
      · exact absurd h (by decide)
      · rename_i c2
        by_cases e : j = i
        · subst e
          have c2 : deByte word (nI j) ≤ 126 := by
            by_cases w : deByte word (nI j) ≤ 126
            · exact w
            · exact absurd w c2
          rw [k_lt, show (32 : Int32).toInt = 32 from by decide] at c1
          rw [k_le, show (126 : Int32).toInt = 126 from by decide] at c2
          rw [j_of (x := deByte word (nI j)) (by omega)]
          exact chr16_n (by omega)
        · rw [j_one] at h
          exact ih (i + 1) (by omega) (by omega) h j (by omega) hjm
theorem ty_same {word : Int64} {m : Int32} {N : Nat} (hN : N ≤ 200) : tyOK word m (nI N) = moTyOK word m (nI N) := by
  unfold tyOK moTyOK
  by_cases e1 : m < 1
  · rw [if_pos e1, if_pos e1]
  · rw [if_neg e1, if_neg e1]
    by_cases e2 : 8 < m
    · rw [if_pos e2, if_pos e2]
    · rw [if_neg e2, if_neg e2]
      rw [k_lt, l_1] at e1
      rw [k_lt, l_8] at e2
      have h1 := nI_toInt (n := N) (by omega)
      have h200 := nI_toInt (n := 200) (by omega)
      have c : (m ≤ nI 200 - nI N) ↔ (nI N + m ≤ 200) := by
        rw [k_le, k_le, k_sb (by omega) (by omega), k_add (by omega) (by omega), l_200]
        omega
      have e : tyChk word m 9 0 = moChk word m 9 0 := chk_same word m (by omega) 9 0 (by omega)
      by_cases e3 : m ≤ nI 200 - nI N
      · rw [if_pos e3, if_pos (c.mp e3), e]
      · rw [if_neg e3, if_neg (fun q => e3 (c.mpr q))]
/-- typing: both tapes stay the same -/
theorem type_both {f g f2 g2 : Nat → Int32} {N : Nat} {word : Int64} {m n2 k2 : Int32} (h : TapeR f g N) (hc : (f2, n2) = (if tyOK word m (nI N) = true then tyAdd word 9 (m - 1) (f, nI N) else (f, nI N))) (hm : (g2, k2) = (if moTyOK word m (nI N) = true then moAdd word 9 (m - 1) (g, nI N) else (g, nI N))) :
    ∃ M, TapeR f2 g2 M ∧ n2 = nI M ∧ k2 = nI M := by
  obtain ⟨hN, hk⟩ := h
  rw [← ty_same hN] at hm
  by_cases e : tyOK word m (nI N) = true
  · rw [if_pos e] at hc hm
    have e' := e
    unfold tyOK at e'
    by_cases e1 : m < 1
    · rw [if_pos e1] at e'; exact absurd e' (by decide)
    rw [if_neg e1] at e'
    by_cases e2 : 8 < m
    · rw [if_pos e2] at e'; exact absurd e' (by decide)
    rw [if_neg e2] at e'
    by_cases e3 : m ≤ nI 200 - nI N
    · rw [if_pos e3] at e'
      rw [k_lt, l_1] at e1
      rw [k_lt, l_8] at e2
      have h1 := nI_toInt (n := N) (by omega)
      have h200 := nI_toInt (n := 200) (by omega)
      rw [k_le, k_sb (by omega) (by omega)] at e3
      obtain ⟨w, hw, hw8, hw1⟩ : ∃ w : Nat, m = nI w ∧ w ≤ 8 ∧ 1 ≤ w := ⟨m.toInt.toNat, j_of (by omega), by omega, by omega⟩
      subst hw
      have hwi := nI_toInt (n := w) (by omega)
      rw [tyAdd_g, Int32.sub_eq_add_neg] at hc
      rw [moAdd_g, Int32.sub_eq_add_neg] at hm
      have okN : lnOK 200 (nI N) := ⟨by omega, by omega, by omega⟩
      obtain ⟨p1, p2⟩ := gaDn_ls 200 (deByte word) 9 w (f, nI N) (by omega) (by omega) okN
      obtain ⟨q1, q2⟩ := gyDn_ls (moByte word) 9 w (g, nI N) (by omega) (by omega) (by show 0 ≤ (nI N).toInt; omega) (by show (nI N).toInt + _ < _; omega)
      rw [← hc] at p1 p2
      rw [← hm] at q1 q2
      have hbytes : (List.range w).reverse.map (fun j => chr16 (deByte word (nI j))) = (List.range w).reverse.map (fun j => moByte word (nI j)) := by
        refine List.map_congr_left fun j hj => ?_
        have hj := List.mem_range.mp (List.mem_reverse.mp hj)
        rw [byte_same word ⟨j, by omega⟩]
        exact chk_byte word (nI w) 9 0 (by omega) (by omega) e' j (by omega) (by omega)
      have hfg : lnL (f, nI N) = lnL (g, nI N) := lnL_eq rfl (fun k hk2 => (hk k (by rw [← j_nat (n := N) (by omega)]; exact hk2)).1)
      have hflen : (lnL (f, nI N)).length = N := by rw [lnL_length]; exact j_nat (by omega)
      have hlists : lnL (f2, n2) = lnL (g2, k2) := by
        rw [p1, q1, hbytes, hfg, List.take_of_length_le]
        rw [← hfg, List.length_append, hflen, List.length_map, List.length_reverse, List.length_range]
        omega
      have hk2 : k2 = nI (N + w) := by
        have : k2.toInt = (N + w : Nat) := by
          have q3 : k2.toInt = (nI N).toInt + w := q2
          omega
        rw [j_of (x := k2) (by omega), this]
        rfl
      have hn2 : n2 = nI (N + w) := by
        have r1 := lnL_length (f2, n2)
        have r2 := lnL_length (g2, k2)
        rw [hlists, r2, hk2] at r1
        have r3 : (nI (N + w)).toNatClampNeg = n2.toNatClampNeg := r1
        rw [j_nat (by omega)] at r3
        have r4 := p2.1
        rw [j_of (x := n2) r4]
        exact congrArg nI r3.symm
      refine ⟨N + w, ⟨by omega, fun k hkk => ?_⟩, hn2, hk2⟩
      have l1 : (lnL (f2, n2)).length = N + w := by rw [lnL_length, hn2]; exact j_nat (by omega)
      have l2 : (lnL (g2, k2)).length = N + w := by rw [lnL_length, hk2]; exact j_nat (by omega)
      have g1 := lnL_get (L := (f2, n2)) (k := k) (by omega)
      have g3 := lnL_get (L := (g2, k2)) (k := k) (by omega)
      have hsame : f2 k = g2 k := by
        rw [← show (lnL (f2, n2))[k]'(by omega) = f2 k from g1, ← show (lnL (g2, k2))[k]'(by omega) = g2 k from g3]
        simp only [hlists]
      refine ⟨hsame, ?_⟩
      have hst : stab (f2, n2) := by
        rw [hc]
        refine gaDn_st _ _ _ (fun q hq => (hk q ?_).2)
        have : q < (nI N).toNatClampNeg := hq
        rw [j_nat (by omega)] at this
        exact this
      refine hst k ?_
      show k < n2.toNatClampNeg
      rw [hn2, j_nat (by omega)]
      exact hkk
    · rw [if_neg e3] at e'; exact absurd e' (by decide)
  · rw [if_neg e] at hc hm
    obtain ⟨rfl, rfl⟩ := Prod.mk.inj hc
    obtain ⟨rfl, rfl⟩ := Prod.mk.inj hm
    exact ⟨N, ⟨hN, hk⟩, rfl, rfl⟩
/-! text -/
theorem ix60 {v : Int32} {i : Nat} (hv : 0 ≤ v.toInt ∧ v.toInt < 12) (hi : i < 61) : (60 * v + nI i).toNatClampNeg = 60 * v.toNatClampNeg + i := by
  have e1 : ((60 : Int32) * v).toInt = 60 * v.toInt := by
    rw [k_mul] <;> rw [show (60 : Int32).toInt = 60 from l_60] <;> omega
  have e0 := nI_toInt (n := i) (by omega)
  have e2 : (60 * v + nI i).toInt = 60 * v.toInt + i := by rw [k_add] <;> omega
  show (60 * v + nI i).toInt.toNat = 60 * v.toInt.toNat + i
  omega
theorem moTx_at {tp : Nat → Int32} {N : Nat} {v : Int32} (hN : N ≤ 60) (hv : 0 ≤ v.toInt ∧ v.toInt < 12) : ∀ (k i : Nat) (tx : Nat → Int32), N - i < k → i ≤ N → ∀ q, moTx tp (nI N) v k (nI i) tx q = if 60 * v.toNatClampNeg + i ≤ q ∧ q < 60 * v.toNatClampNeg + N then tp (q - 60 * v.toNatClampNeg) else tx q := by
  intro k
  induction k with
  | zero => intro i tx h; omega
  | succ k ih =>
    intro i tx h hi q
    rw [moTx]
    split
    · rename_i h1
      rw [j_le (by omega) (by omega)] at h1
      rw [if_neg (by omega)]
    · rename_i h1
      rw [j_le (by omega) (by omega)] at h1
      rw [ix60 hv (by omega), j_nat (by omega), j_one, ih (i + 1) _ (by omega) (by omega) q]
      by_cases e : q = 60 * v.toNatClampNeg + i
      · rw [if_neg (by omega), e, pk_us, if_pos (by omega)]
        congr 1
        omega
      · rw [pk_un e]
        by_cases g : 60 * v.toNatClampNeg + i ≤ q ∧ q < 60 * v.toNatClampNeg + N
        · rw [if_pos g, if_pos (by omega)]
        · rw [if_neg g, if_neg (by omega)]
theorem VR_text {f g fV : Nat → Int32} {N : Nat} (h : TapeR f g N) (hN : N ≤ 60) {bel : Int32} {ah bh : Int64} {fw : Nat → Int32} {nw : Int32} (hw : (fw, nw) = lnPt 60 f (nI N) 0 (nI N) (fV, 0)) (tx dg : Nat → Int32) (a b mn : Int32) {v : Int32} (hv : 0 ≤ v.toInt ∧ v.toInt < 12) :
    VR (0, bel, ah, bh, fw, nw) 1 (nI N) (moTx g (nI N) v 61 0 tx) dg a b mn v := by
  have hst : stab (fw, nw) := by rw [hw]; exact lnPt_st (stab_0 _)
  have hc : ∀ x ∈ lnL (f, nI N), chr16 x = x := by
    intro x hx
    unfold lnL at hx
    obtain ⟨k, hk, rfl⟩ := List.mem_map.mp hx
    have hk := List.mem_range.mp hk
    have hk : k < (nI N).toNatClampNeg := hk
    rw [j_nat (by omega)] at hk
    exact (h.2 k hk).2
  obtain ⟨p, q⟩ := lnPt_X (room := 60) (L := (fV, 0)) (by omega : N < 5000) hc (lnOK_0 60 (by omega))
  have hlen : (lnL (f, nI N)).length = N := by rw [lnL_length]; exact j_nat (by omega)
  rw [← hw, lnL_zero, List.nil_append, List.take_of_length_le (by omega)] at p
  rw [← hw] at q
  have hnw : nw = nI N := by
    have r1 := lnL_length (fw, nw)
    rw [p, hlen] at r1
    rw [j_of (x := nw) q.1]
    exact congrArg nI r1.symm
  subst hnw
  refine ⟨Or.inr ⟨rfl, rfl, rfl⟩, N, hN, rfl, hst.list, fun fp => ?_⟩
  have e : mpAll 1 (moTx g (nI N) v 61 0 tx) (nI N) dg a b v mn fp = mpTx (moTx g (nI N) v 61 0 tx) v (nI N) 61 0 (fp, 0) := by unfold mpAll; rw [if_neg (by decide)]
  rw [e]
  refine ⟨?_, ?_⟩
  · rw [mpTx_at hN]
    show _ = lnL (fw, nI N)
    rw [p]
    unfold lnL
    dsimp only
    rw [j_nat (by omega)]
    refine List.map_congr_left fun j hj => ?_
    have hj := List.mem_range.mp hj
    rw [ix60 hv (by omega), show (0 : Int32) = nI 0 from rfl, moTx_at hN hv 61 0 tx (by omega) (by omega), if_pos (by omega), show 60 * v.toNatClampNeg + j - 60 * v.toNatClampNeg = j by omega]
    exact (h.2 j hj).1.symm
  · rw [mpTx_g]
    obtain ⟨_, q⟩ := gy_ls (fun i => (moTx g (nI N) v 61 0 tx) (60 * v + i).toNatClampNeg) (nI N) 61 0 (fp, 0) (by rw [nI_toInt (by omega)]; omega) (by omega) (by show (0 : Int) ≤ (0 : Int32).toInt; rw [l_0]; omega) (by rw [nI_toInt (by omega)]; show (0 : Int32).toInt + _ < _; rw [l_0]; omega)
    refine Len.of (q.trans ?_) (by omega)
    show (0 : Int32).toInt + _ = _
    rw [l_0, nI_toInt (by omega)]
    omega
