/-! PADDING. -/
def PPs (S : PS) (ft fp bg : Int32) (out : List Int32) : Prop :=
  (out.length ≤ 600 → S.1 = 1 ∧ S.2.1 = ft ∧ S.2.2.1 = fp ∧ lnL S.2.2.2 = out ∧ Len S.2.2.2 out.length) ∧ (¬ out.length ≤ 600 → S.1 = 0 ∧ S.2.1 = 5 ∧ S.2.2.1 = bg)
theorem ppGo_0 (ch : Int32 → Int32) (lim : Int32) (stop : Bool) (bg : Int32) (k : Nat) (i ft fp : Int32) (L : LnS) : ppGo ch lim stop bg k i 0 ft fp L = (0, ft, fp, L) := by
  cases k with
  | zero => rfl
  | succ k =>
    rw [ppGo]
    split
    · rfl
    · split
      · rfl
      · rw [if_pos rfl]
theorem n_600 : (600 : Int32) = nI 600 := rfl
theorem ppGo_X (ch : Int32 → Int32) (lim bg ft fp : Int32) : ∀ (k i n : Nat) (L : LnS), (lim.toInt - i).toNat < k → i < 2147483648 → Len L n → n ≤ 600 →
    PPs (ppGo ch lim false bg k (nI i) 1 ft fp L) ft fp bg (lnL L ++ (List.range' i (lim.toInt - i).toNat).map fun j => ch (nI j)) := by
  intro k
  induction k with
  | zero => intro i n L h; omega
  | succ k ih =>
    intro i n L h hi hL hn
    have hl := hL.list
    have hlim := Int32.toInt_lt lim
    rw [ppGo]
    split
    · rename_i h1
      rw [k_le, nI_toInt (by omega)] at h1
      rw [show (lim.toInt - i).toNat = 0 by omega, List.range'_zero, List.map_nil, List.append_nil]
      exact ⟨fun _ => ⟨rfl, rfl, rfl, rfl, by rw [hl]; exact hL⟩, fun q => absurd (by omega) q⟩
    · rename_i h1
      rw [k_le, nI_toInt (by omega)] at h1
      rw [if_neg (by decide), if_neg (by decide), j_one]
      have hsplit : (List.range' i (lim.toInt - i).toNat).map (fun j => ch (nI j)) = ch (nI i) :: (List.range' (i + 1) (lim.toInt - (i + 1 : Nat)).toNat).map (fun j => ch (nI j)) := by
        rw [show (lim.toInt - i).toNat = (lim.toInt - (i + 1 : Nat)).toNat + 1 by omega, List.range'_succ, List.map_cons]
      rw [hsplit]
      by_cases e : n = 600
      · have hm : moPut (ch (nI i)) bg ft fp L = (0, 5, bg, L) := by
          unfold moPut
          rw [if_pos (by rw [hL.1, e]; rfl)]
        rw [hm, ppGo_0]
        refine ⟨fun q => ?_, fun _ => ⟨rfl, rfl, rfl⟩⟩
        rw [List.length_append, List.length_cons] at q
        omega
      · have hm : moPut (ch (nI i)) bg ft fp L = (1, ft, fp, lyAdd L (ch (nI i))) := by
          unfold moPut
          rw [if_neg (by rw [hL.1, n_600, j_inj (by omega) (by omega)]; exact e)]
        rw [hm]
        obtain ⟨a, b⟩ := hL.ly (c := ch (nI i)) (by omega)
        have := ih (i + 1) (n + 1) (lyAdd L (ch (nI i))) (by omega) (by omega) b (by omega)
        rw [a, List.append_assoc] at this
        exact this
theorem ppRun_X {ch : Int32 → Int32} {lim : Int32} {stop : Bool} {bg ft fp : Int32} {fuel : Nat} {S : PS} {out : List Int32} (h : PPs S ft fp bg out) (hf : lim.toInt.toNat < fuel) :
    PPs (ppRun ch lim stop bg fuel S) ft fp bg (out ++ if stop = true then [] else (List.range lim.toInt.toNat).map fun j => ch (nI j)) := by
  obtain ⟨g, f1, f2, L⟩ := S
  unfold ppRun
  cases stop with
  | true =>
    rw [if_pos rfl, List.append_nil]
    have : ppGo ch lim true bg fuel 0 g f1 f2 L = (g, f1, f2, L) := by
      cases fuel with
      | zero => rfl
      | succ k =>
        rw [ppGo]
        split
        · rfl
        · rw [if_pos rfl]
    show PPs (ppGo ch lim true bg fuel 0 g f1 f2 L) ft fp bg out
    rw [this]
    exact h
  | false =>
    rw [if_neg (by decide)]
    by_cases e : out.length ≤ 600
    · obtain ⟨a, b, c, d, f⟩ := h.1 e
      dsimp only at a b c d f
      subst a; subst b; subst c
      have := ppGo_X ch lim bg f1 f2 fuel 0 out.length L (by omega) (by omega) f e
      rw [d, show (lim.toInt - (0 : Nat)).toNat = lim.toInt.toNat by omega, ← List.range_eq_range'] at this
      exact this
    · obtain ⟨a, b, c⟩ := h.2 e
      dsimp only at a b c
      subst a; subst b; subst c
      show PPs (ppGo ch lim false f2 fuel 0 0 5 f2 L) ft fp f2 _
      rw [ppGo_0]
      refine ⟨fun q => ?_, fun _ => ⟨rfl, rfl, rfl⟩⟩
      rw [List.length_append] at q
      omega
def padL (wi : Nat) (z mi : Bool) (hd bd : List Int32) : List Int32 :=
  (if (mi || z) = true then [] else List.replicate (wi - (hd.length + bd.length)) 32) ++ (hd ++ ((if z = true then List.replicate (wi - (hd.length + bd.length)) 48 else []) ++ (bd ++ (if mi = true then List.replicate (wi - (hd.length + bd.length)) 32 else []))))
theorem lnL_map {f : Nat → Int32} {n : Int32} : (List.range n.toInt.toNat).map (fun j => f (nI j).toNatClampNeg) = lnL (f, n) := by
  unfold lnL
  have h := Int32.toInt_lt n
  refine List.map_congr_left fun j hj => ?_
  have hj := List.mem_range.mp hj
  rw [j_nat (by omega)]
theorem rep_map0 (n : Nat) (c : Int32) : (List.range n).map (fun _ => c) = List.replicate n c := by
  rw [List.map_const', List.length_range]
theorem ppAll_X {wi hl bl : Int32} {left z : Int32} {hd bd : Nat → Int32} {bg ft fp : Int32} {L : LnS} {n : Nat} (hL : Len L n) (hn : n ≤ 600) {hs bs : List Int32} (hh : lnL (hd, hl) = hs) (hh2 : Len (hd, hl) hs.length) (hb : lnL (bd, bl) = bs) (hb2 : Len (bd, bl) bs.length)
    (h4 : hs.length ≤ 4) (hbs : bs.length ≤ 200) (hw0 : 0 ≤ wi.toInt) (hw1 : wi.toInt ≤ 99) : PPs (ppAll (wi - hl - bl) left z hd hl bd bl bg (1, ft, fp, L)) ft fp bg (lnL L ++ padL wi.toInt.toNat (!decide (z = 0)) (!decide (left = 0)) hs bs) := by
  have e1 : hl.toInt = hs.length := hh2.int
  have e2 : bl.toInt = bs.length := hb2.int
  have er : (wi - hl - bl).toInt = wi.toInt - hs.length - bs.length := by
    have : (wi - hl).toInt = wi.toInt - hs.length := by rw [k_sb (by omega) (by omega), e1]
    rw [k_sb (by omega) (by omega), this, e2]
  have hgap : (wi - hl - bl).toInt.toNat = wi.toInt.toNat - (hs.length + bs.length) := by omega
  have p0 : PPs ((1 : Int32), ft, fp, L) ft fp bg (lnL L) := ⟨fun _ => ⟨rfl, rfl, rfl, rfl, by rw [hL.list]; exact hL⟩, fun q => absurd (by rw [hL.list]; exact hn) q⟩
  have p1 := ppRun_X (ch := fun _ => 32) (lim := wi - hl - bl) (stop := !decide (left = 0) || !decide (z = 0)) (fuel := 101) p0 (by omega)
  have p2 := ppRun_X (ch := fun i => hd i.toNatClampNeg) (lim := hl) (stop := false) (fuel := 5) p1 (by omega)
  have p3 := ppRun_X (ch := fun _ => 48) (lim := wi - hl - bl) (stop := decide (z = 0)) (fuel := 101) p2 (by omega)
  have p4 := ppRun_X (ch := fun i => bd i.toNatClampNeg) (lim := bl) (stop := false) (fuel := 901) p3 (by omega)
  have p5 := ppRun_X (ch := fun _ => 32) (lim := wi - hl - bl) (stop := decide (left = 0)) (fuel := 101) p4 (by omega)
  unfold ppAll
  refine Eq.mp (congrArg _ ?_) p5
  clear p0 p1 p2 p3 p4 p5
  simp only [Bool.false_eq_true, if_false, lnL_map, hh, hb, rep_map0, hgap]
  unfold padL
  cases decide (z = 0) <;> cases decide (left = 0) <;> simp
/-! the class -/
def headL (sg ba : Int32) : List Int32 := (if sg = -1 then [] else [sg]) ++ (if ba = -1 then [] else [48, ba])
theorem headL_len (sg ba : Int32) : (headL sg ba).length ≤ 3 := by
  unfold headL
  rw [List.length_append]
  split <;> split <;> simp
theorem lnRp_X {room : Nat} {mark times : Int32} {L : LnS} (hm : chr16 mark = mark) (hL : lnOK room L.2) : lnL (lnRp room mark times L) = (lnL L ++ List.replicate times.toInt.toNat mark).take room ∧ lnOK room (lnRp room mark times L).2 := by
  unfold lnRp
  obtain ⟨F, hF⟩ : ∃ F, F = times.toInt.toNat + 1 := ⟨_, rfl⟩
  rw [← hF, lnRep_g]
  obtain ⟨p, q⟩ := ga_ls room (fun _ => mark) times F 0 L (by omega) (by omega) hL
  rw [show nI 0 = 0 from rfl] at p q
  refine ⟨?_, q⟩
  rw [p, rep_map, hm, show (times.toInt - (0 : Nat)).toNat = times.toInt.toNat by omega]
theorem lnPt_X {room : Nat} {f : Nat → Int32} {n : Nat} {L : LnS} (hn : n < 5000) (hc : ∀ x ∈ lnL (f, nI n), chr16 x = x) (hL : lnOK room L.2) : lnL (lnPt room f (nI n) 0 (nI n) L) = (lnL L ++ lnL (f, nI n)).take room ∧ lnOK room (lnPt room f (nI n) 0 (nI n) L).2 := by
  unfold lnPt
  obtain ⟨F, hF⟩ : ∃ F, F = ((nI n).toInt - (0 : Int32).toInt).toNat + 1 := ⟨_, rfl⟩
  rw [← hF, lnPart_g]
  rw [nI_toInt (by omega), l_0] at hF
  obtain ⟨p, q⟩ := ga_ls room (lnAt f (nI n)) (nI n) F 0 L (by rw [nI_toInt (by omega)]; omega) (by omega) hL
  rw [show nI 0 = 0 from rfl] at p q
  refine ⟨?_, q⟩
  rw [p, nI_toInt (by omega), show ((n : Int) - (0 : Nat)).toNat = n by omega, ← List.range_eq_range']
  congr 2
  unfold lnL
  dsimp only
  rw [j_nat (by omega)]
  refine List.map_congr_left fun j hj => ?_
  have hj := List.mem_range.mp hj
  rw [lnAt_n hj (by omega)]
  refine hc _ ?_
  unfold lnL
  dsimp only
  rw [j_nat (by omega)]
  exact List.mem_map.mpr ⟨j, List.mem_range.mpr hj, rfl⟩
theorem chr_32 : chr16 32 = 32 := by decide
theorem chr_48 : chr16 48 = 48 := by decide
theorem piSize_n {n : Nat} {sg ba : Int32} (hn : n < 5000) : piSize (nI n) sg ba = nI ((headL sg ba).length + n) := by
  unfold piSize headL
  rw [List.length_append]
  by_cases e : sg = -1 <;> by_cases g : ba = -1
  · rw [if_pos e, if_pos g, if_pos e, if_pos g, n_0, j_add, j_add]; congr 1; simp
  · rw [if_pos e, if_neg g, if_pos e, if_neg g, show (2 : Int32) = nI 2 from rfl, n_0, j_add, j_add]; congr 1; simp; omega
  · rw [if_neg e, if_pos g, if_neg e, if_pos g, n_1, n_0, j_add, j_add]; congr 1; simp; omega
  · rw [if_neg e, if_neg g, if_neg e, if_neg g, show (2 : Int32) = nI 2 from rfl, n_1, j_add, j_add]; congr 1; simp; omega
theorem piGap_n {wi : Int32} {m : Nat} (hm : m < 5000) (hw0 : 0 ≤ wi.toInt) (hw1 : wi.toInt ≤ 99) : piGap wi (nI m) = nI (wi.toInt.toNat - m) := by
  have e : (wi - nI m).toInt = wi.toInt - m := by
    have := nI_toInt (n := m) (by omega)
    rw [k_sb (by omega) (by omega), this]
  unfold piGap
  by_cases g : 0 < wi - nI m
  · rw [if_pos g]
    rw [k_lt, l_0, e] at g
    rw [j_of (x := wi - nI m) (by omega), e]
    congr 1
    omega
  · rw [if_neg g]
    rw [k_lt, l_0, e] at g
    rw [show wi.toInt.toNat - m = 0 by omega]
    rfl
theorem padL_len (wi : Nat) (z mi : Bool) (hd bd : List Int32) (hz : z = true → mi = false) : (padL wi z mi hd bd).length = hd.length + bd.length + (wi - (hd.length + bd.length)) := by
  unfold padL
  cases z <;> cases mi
  · simp; omega
  · simp; omega
  · simp; omega
  · exact absurd (hz rfl) (by decide)
theorem zeros_mi {ze mi so : Int32} : fiZeros ze mi so = true → (!decide (mi = 0)) = false := by
  unfold fiZeros
  intro h
  split at h
  · exact absurd h (by decide)
  · split at h
    · exact absurd h (by decide)
    · rename_i q
      simpa using q
theorem piLine_X {f : Nat → Int32} {n : Nat} {sg ba wi ze mi so : Int32} {L : LnS} {m : Nat} (hL : Len L m) (hm : m ≤ 600) (hn : n ≤ 200) (hc : ∀ x ∈ lnL (f, nI n), chr16 x = x) (hsg : chr16 sg = sg ∨ sg = -1) (hba : chr16 ba = ba ∨ ba = -1) (hw0 : 0 ≤ wi.toInt) (hw1 : wi.toInt ≤ 99) :
    piOK 600 L.2 (nI n) sg ba wi = decide ((lnL L ++ padL wi.toInt.toNat (fiZeros ze mi so) (!decide (mi = 0)) (headL sg ba) (lnL (f, nI n))).length ≤ 600) ∧
      ((lnL L ++ padL wi.toInt.toNat (fiZeros ze mi so) (!decide (mi = 0)) (headL sg ba) (lnL (f, nI n))).length ≤ 600 → lnL (piLine 600 f (nI n) sg ba wi ze mi so L) = lnL L ++ padL wi.toInt.toNat (fiZeros ze mi so) (!decide (mi = 0)) (headL sg ba) (lnL (f, nI n)) ∧
        Len (piLine 600 f (nI n) sg ba wi ze mi so L) (lnL L ++ padL wi.toInt.toNat (fiZeros ze mi so) (!decide (mi = 0)) (headL sg ba) (lnL (f, nI n))).length) := by
  have hbl : (lnL (f, nI n)).length = n := by rw [lnL_length]; exact j_nat (by omega)
  have hhl := headL_len sg ba
  have hpl := padL_len wi.toInt.toNat (fiZeros ze mi so) (!decide (mi = 0)) (headL sg ba) (lnL (f, nI n)) zeros_mi
  have hLl := hL.list
  have hz := piSize_n (sg := sg) (ba := ba) (n := n) (by omega)
  have hg := piGap_n (wi := wi) (m := (headL sg ba).length + n) (by omega) hw0 hw1
  obtain ⟨gap, hgap⟩ : ∃ gap, gap = wi.toInt.toNat - ((headL sg ba).length + n) := ⟨_, rfl⟩
  rw [← hgap] at hg
  have hgl : gap ≤ 99 := by omega
  refine ⟨?_, fun hfit => ?_⟩
  · unfold piOK
    rw [hz, hg, j_add, hL.1, j_sub (by omega) (by omega), List.length_append, hpl, hLl, hbl, ← hgap]
    refine decide_eq_decide.mpr ?_
    rw [j_le (by omega) (by omega)]
    omega
  · have hok : lnOK 600 L.2 := ⟨by rw [hL.int]; omega, by rw [hL.int]; omega, by omega⟩
    unfold piLine
    rw [hz, hg]
    have hgi : (nI gap).toInt.toNat = gap := by rw [nI_toInt (by omega)]; omega
    -- A
    have hA : lnL (piA 600 (nI gap) (k_b (fiZeros ze mi so)) mi L) = (lnL L ++ (if (!decide (mi = 0) || fiZeros ze mi so) = true then [] else List.replicate gap 32)).take 600 ∧ lnOK 600 (piA 600 (nI gap) (k_b (fiZeros ze mi so)) mi L).2 := by
      have same : lnL L = (lnL L ++ []).take 600 := by rw [List.append_nil, List.take_of_length_le (by omega)]
      unfold piA
      cases hzz : fiZeros ze mi so
      · rw [k_b_false, if_neg (by decide)]
        by_cases e : mi = 0
        · rw [if_neg (fun q : ¬ mi = 0 => q e), if_neg (by simp [e])]
          have := lnRp_X (room := 600) (times := nI gap) chr_32 hok
          rw [hgi] at this
          exact this
        · rw [if_pos e, if_pos (by simp [e])]
          exact ⟨same, hok⟩
      · rw [k_b_true, if_pos (by decide), if_pos (by simp)]
        exact ⟨same, hok⟩
    obtain ⟨a1, a2⟩ := hA
    generalize piA 600 (nI gap) (k_b (fiZeros ze mi so)) mi L = LA at a1 a2 ⊢
    -- B, C
    have hB : lnL (piC 600 ba (piB 600 sg LA)) = (lnL LA ++ headL sg ba).take 600 ∧ lnOK 600 (piC 600 ba (piB 600 sg LA)).2 := by
      have b : lnL (piB 600 sg LA) = (lnL LA ++ (if sg = -1 then [] else [sg])).take 600 ∧ lnOK 600 (piB 600 sg LA).2 := by
        unfold piB
        by_cases e : sg = -1
        · rw [if_pos e, if_pos e, List.append_nil, a1, List.take_take, Nat.min_self]
          exact ⟨rfl, a2⟩
        · rw [if_neg e, if_neg e]
          have := ln_ls (c := sg) a2
          rw [hsg.resolve_right e] at this
          exact this
      obtain ⟨b1, b2⟩ := b
      generalize piB 600 sg LA = LB at b1 b2 ⊢
      unfold piC headL
      by_cases e : ba = -1
      · rw [if_pos e, if_pos e, List.append_nil]
        exact ⟨b1, b2⟩
      · rw [if_neg e, if_neg e]
        obtain ⟨c1, c2⟩ := ln_ls (c := 48) b2
        obtain ⟨d1, d2⟩ := ln_ls (c := ba) c2
        refine ⟨?_, d2⟩
        rw [d1, c1, take_app, b1, List.append_assoc, take_app, hba.resolve_right e, chr_48, List.append_assoc]
        rfl
    obtain ⟨b1, b2⟩ := hB
    generalize piC 600 ba (piB 600 sg LA) = LC at b1 b2 ⊢
    have hD : lnL (piD 600 (nI gap) (k_b (fiZeros ze mi so)) LC) = (lnL LC ++ (if fiZeros ze mi so = true then List.replicate gap 48 else [])).take 600 ∧ lnOK 600 (piD 600 (nI gap) (k_b (fiZeros ze mi so)) LC).2 := by
      unfold piD
      cases hzz : fiZeros ze mi so
      · rw [k_b_false, if_pos rfl, if_neg (by decide), List.append_nil, b1, List.take_take, Nat.min_self]
        exact ⟨rfl, b2⟩
      · rw [k_b_true, if_neg (by decide), if_pos rfl]
        have := lnRp_X (room := 600) (times := nI gap) chr_48 b2
        rw [hgi] at this
        exact this
    obtain ⟨d1, d2⟩ := hD
    generalize piD 600 (nI gap) (k_b (fiZeros ze mi so)) LC = LD at d1 d2 ⊢
    obtain ⟨e1, e2⟩ := lnPt_X (room := 600) (L := LD) (by omega : n < 5000) hc d2
    generalize lnPt 600 f (nI n) 0 (nI n) LD = LE at e1 e2 ⊢
    have hE : lnL (piE 600 (nI gap) mi LE) = (lnL LE ++ (if (!decide (mi = 0)) = true then List.replicate gap 32 else [])).take 600 ∧ lnOK 600 (piE 600 (nI gap) mi LE).2 := by
      unfold piE
      by_cases e : mi = 0
      · rw [if_pos e, if_neg (by simp [e]), List.append_nil, e1, List.take_take, Nat.min_self]
        exact ⟨rfl, e2⟩
      · rw [if_neg e, if_pos (by simp [e])]
        have := lnRp_X (room := 600) (times := nI gap) chr_32 e2
        rw [hgi] at this
        exact this
    obtain ⟨f1, f2⟩ := hE
    generalize piE 600 (nI gap) mi LE = LF at f1 f2 ⊢
    have hfin : lnL LF = lnL L ++ padL wi.toInt.toNat (fiZeros ze mi so) (!decide (mi = 0)) (headL sg ba) (lnL (f, nI n)) := by
      rw [f1, e1, take_app, d1, List.append_assoc, take_app, b1, List.append_assoc, take_app, a1, List.append_assoc, take_app]
      have hp : padL wi.toInt.toNat (fiZeros ze mi so) (!decide (mi = 0)) (headL sg ba) (lnL (f, nI n)) = (if (!decide (mi = 0) || fiZeros ze mi so) = true then [] else List.replicate gap 32) ++ (headL sg ba ++ ((if fiZeros ze mi so = true then List.replicate gap 48 else []) ++ (lnL (f, nI n) ++ (if (!decide (mi = 0)) = true then List.replicate gap 32 else [])))) := by
        unfold padL
        rw [hbl, ← hgap]
      rw [hp] at hfit ⊢
      rw [List.append_assoc]
      exact List.take_of_length_le hfit
    refine ⟨hfin, ?_⟩
    rw [← hfin, lnL_length]
    refine Len.of ?_ ?_
    · have := f2.1
      show LF.2.toInt = (LF.2.toInt.toNat : Int)
      omega
    · have := f2.2.1
      show LF.2.toInt.toNat < 5000
      omega
