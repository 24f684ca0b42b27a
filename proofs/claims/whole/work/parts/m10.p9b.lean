/-- the characters of a whole number: zeros up to the precision, then the digits -/
def whL (le : Int32) (D : List Nat) (pr : Int32) : List Int32 := List.replicate (pr.toInt - D.length).toNat 48 ++ (D.map fun x => pwC le (nI x)).reverse
theorem pwC_rng {le : Int32} : ∀ x : Fin 16, chr16 (pwC 88 (nI x.val)) = pwC 88 (nI x.val) := by decide +kernel
theorem pwC_rng2 : ∀ x : Fin 16, chr16 (pwC 0 (nI x.val)) = pwC 0 (nI x.val) := by decide +kernel
theorem pwC_chr {le : Int32} {x : Nat} (h : x < 16) : chr16 (pwC le (nI x)) = pwC le (nI x) := by
  by_cases e : le = 88
  · subst e; exact pwC_rng (le := 0) ⟨x, h⟩
  · have : pwC le (nI x) = pwC 0 (nI x) := by
      unfold pwC
      rw [if_pos e, if_pos (by decide : ¬ (0 : Int32) = 88)]
    rw [this]
    exact pwC_rng2 ⟨x, h⟩
theorem whCh_same (le d : Int32) : whCh (whTen le) d = pwC le d := by
  unfold whCh whTen pwC
  by_cases e : le = 88
  · rw [if_pos e, if_neg (fun q : ¬ le = 88 => q e)]
  · rw [if_neg e, if_pos e]
theorem rev_range {α : Type} (f : Nat → α) (xs : List α) (h : ∀ i (hi : i < xs.length), f i = xs[i]) : (List.range xs.length).reverse.map f = xs.reverse := by
  rw [List.map_reverse]
  congr 1
  refine List.ext_getElem (by simp) fun i h1 h2 => ?_
  simp
  exact h i h2
theorem rep_map (i n : Nat) (c : Int32) : (List.range' i n).map (fun _ => c) = List.replicate n c := by
  rw [List.map_const', List.length_range']
theorem whLine_X {ah : Int64} {Y : Nat} (hy : ah.toInt = Y) (hY : Y < 2 ^ 60) {radix le pr : Int32} {r : Nat} (hrx : radix.toInt = r) (hr : 2 ≤ r) (hr2 : r ≤ 16) (h0 : -1 ≤ pr.toInt) (h1 : pr.toInt ≤ 99) (lo f : Nat → Int32) : CLn (whLine ah radix le pr lo (f, 0)) (whL le (ldg r 60 Y) pr) ∧ (whL le (ldg r 60 Y) pr).length ≤ 159 := by
  have hb : radix.toInt64.toInt = r := by rw [Int32.toInt_toInt64, hrx]
  have hlen := ldg_len r 60 Y
  have hlt := ldg_lt r hr 60 Y
  obtain ⟨a, b, c⟩ := spGo_ls hb hr (by omega) 60 65 0 Y ah lo hy hY (by omega) (by omega) (by omega) (Or.inl rfl)
  generalize ldg r 60 Y = D at *
  have hll : (whL le D pr).length ≤ 159 := by
    unfold whL
    simp only [List.length_append, List.length_replicate, List.length_reverse, List.length_map]
    omega
  refine ⟨?_, hll⟩
  unfold whLine spAll
  rw [show (0 : Int32) = nI 0 from rfl, a, Nat.zero_add]
  generalize hS : (spGo radix.toInt64 65 (nI 0) ah lo).1 = lo' at c ⊢
  obtain ⟨nd, hnd⟩ : ∃ nd, nd = D.length := ⟨_, rfl⟩
  rw [← hnd]
  have hsub : (pr - nI nd).toInt = pr.toInt - nd := by
    have := nI_toInt (n := nd) (by omega)
    rw [k_sb (by omega) (by omega), this]
  have g1 : lnL (lnRp 160 48 (pr - nI nd) (f, nI 0)) = List.replicate (pr.toInt - nd).toNat 48 ∧ lnOK 160 (lnRp 160 48 (pr - nI nd) (f, nI 0)).2 := by
    obtain ⟨F, hF⟩ : ∃ F, F = (pr - nI nd).toInt.toNat + 1 := ⟨_, rfl⟩
    unfold lnRp
    rw [← hF, lnRep_g]
    obtain ⟨p, q⟩ := ga_ls 160 (fun _ => 48) (pr - nI nd) F 0 (f, nI 0) (by omega) (by omega) (lnOK_0 160 (by omega))
    refine ⟨?_, q⟩
    rw [show (0 : Int32) = nI 0 from rfl, p, show lnL (f, nI 0) = [] from rfl, List.nil_append, rep_map, hsub, show (pr.toInt - (nd : Int) - (0 : Nat)).toNat = (pr.toInt - nd).toNat by omega]
    rw [List.take_of_length_le (by rw [List.length_replicate]; omega)]
    rfl
  obtain ⟨g1, g2⟩ := g1
  rw [whGo_g, Int32.sub_eq_add_neg (nI nd) 1]
  obtain ⟨p, q⟩ := gaDn_ls 160 (fun i => whCh (whTen le) (lo' i.toNatClampNeg)) 65 nd _ (by omega) (by omega) g2
  refine ⟨?_, q⟩
  refine p.trans ?_
  have hm : (List.range nd).reverse.map (fun j => chr16 (whCh (whTen le) (lo' (nI j).toNatClampNeg))) = (D.map fun x => pwC le (nI x)).reverse := by
    have hnd2 : nd = (D.map fun x => pwC le (nI x)).length := by rw [List.length_map]; exact hnd
    rw [hnd2]
    refine rev_range _ _ fun i hi => ?_
    rw [List.length_map] at hi
    rw [j_nat (by omega), List.getElem_map, whCh_same]
    have := c i hi
    rw [Nat.zero_add] at this
    rw [this]
    have hx : D[i] < r := hlt _ (List.getElem_mem hi)
    exact pwC_chr (by omega)
  rw [hm, g1]
  show List.take 160 (List.replicate (pr.toInt - (nd : Int)).toNat 48 ++ _) = _
  rw [hnd]
  exact List.take_of_length_le (by have := hll; unfold whL at this; omega)
theorem pwBody_X {x : Int64} {Y : Nat} (hy : (pwAbs x).toInt = Y) (hY : Y < 2 ^ 60) {le pr : Int32} {r : Nat} (hrx : (pwB le).toInt = r) (hr : 2 ≤ r) (hr2 : r ≤ 16) (h0 : -1 ≤ pr.toInt) (h1 : pr.toInt ≤ 99) (rv : Nat → Int32) {B : LnS} (hB : Len B 0) :
    lnL (pwBody (pwNum le x rv) pr B) = whL le (ldg r 60 Y) pr ∧ Len (pwBody (pwNum le x rv) pr B) (whL le (ldg r 60 Y) pr).length ∧ pwOK (pwB le).toInt64 64 (pwAbs x) = true := by
  have hb : (pwB le).toInt64.toInt = r := by rw [Int32.toInt_toInt64, hrx]
  have hlen := ldg_len r 60 Y
  obtain ⟨a, b, c, hok⟩ := pwRev_ls le hb hr (by omega) 60 64 0 Y (pwAbs x) rv hy hY (by omega) (by omega) (by omega)
  generalize ldg r 60 Y = D at *
  have hll : (whL le D pr).length = (pr.toInt - D.length).toNat + D.length := by
    unfold whL
    simp only [List.length_append, List.length_replicate, List.length_reverse, List.length_map]
  rw [hll]
  have hnum : pwNum le x rv = pwRev le (pwB le).toInt64 64 (nI 0) (pwAbs x) rv := by rw [pwNum, n_0]
  unfold pwBody
  rw [hnum, a, Nat.zero_add]
  generalize hS : (pwRev le (pwB le).toInt64 64 (nI 0) (pwAbs x) rv).1 = lo' at c ⊢
  obtain ⟨nd, hnd⟩ : ∃ nd, nd = D.length := ⟨_, rfl⟩
  rw [← hnd]
  have hm : (List.range nd).reverse.map (fun j => lo' (nI j).toNatClampNeg) = (D.map fun x => pwC le (nI x)).reverse := by
    have hnd2 : nd = (D.map fun x => pwC le (nI x)).length := by rw [List.length_map]; exact hnd
    rw [hnd2]
    refine rev_range _ _ fun i hi => ?_
    rw [List.length_map] at hi
    rw [j_nat (by omega), List.getElem_map]
    have := c i hi
    rw [Nat.zero_add] at this
    exact this
  have hB2 := hB.int
  obtain ⟨p, q⟩ := gy_ls (fun _ => 48) pr 101 nd B (by omega) (by omega) (by omega) (by omega)
  rw [← pwZr_g, Len0 hB, List.nil_append, rep_map] at p
  rw [← pwZr_g] at q
  generalize pwZr pr 101 (nI nd) B = Z at p q ⊢
  rw [pwD_g, Int32.sub_eq_add_neg (nI nd) 1]
  obtain ⟨p2, q2⟩ := gyDn_ls (fun i => lo' i.toNatClampNeg) 65 nd Z (by omega) (by omega) (by omega) (by omega)
  generalize gyDn (fun i => lo' i.toNatClampNeg) 65 (nI nd + -1) Z = T at p2 q2 ⊢
  refine ⟨?_, ?_, hok⟩
  · rw [p2, hm, p, whL, hnd]
  · exact Len.of (by omega) (by omega)
