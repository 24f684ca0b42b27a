/-! THE RELATION of both objects' states, and that each call keeps it. -/
abbrev RelT (ft g : Nat → Int32) (nt ip : Int32) : Prop := ∃ N, TapeR ft g N ∧ nt = nI N ∧ ip = nI N
abbrev Bnd (ar br tl : Nat → Int32) : Prop := ∀ j, j < 12 → (0 ≤ (ar j).toInt ∧ (ar j).toInt ≤ 18) ∧ (0 ≤ (br j).toInt ∧ (br j).toInt ≤ 12) ∧ (0 ≤ (tl j).toInt ∧ (tl j).toInt ≤ 60)
theorem relT_ok {ft g : Nat → Int32} {nt ip : Int32} (h : RelT ft g nt ip) : lnOK 200 nt ∧ 0 ≤ ip.toInt ∧ ip.toInt ≤ 200 ∧ ip = nt ∧ (∀ k : Nat, (k : Int) < nt.toInt → chr16 (ft k) = ft k) ∧ (∀ i, lnAt ft nt i = lnAt g nt i) := by
  obtain ⟨N, h1, rfl, rfl⟩ := h
  have hN := h1.1
  have e := nI_toInt (n := N) (by omega)
  refine ⟨⟨by omega, by omega, by decide⟩, by omega, by omega, rfl, fun k hk => ?_, tape_at h1⟩
  rw [e] at hk
  exact (h1.2 k (by omega)).2
theorem relT_zero (ft g : Nat → Int32) : RelT ft g 0 0 := ⟨0, ⟨by omega, fun k hk => absurd hk (Nat.not_lt_zero _)⟩, rfl, rfl⟩
theorem rel_type {ft g f2 g2 : Nat → Int32} {nt ip n2 k2 m : Int32} {word : Int64} (h : RelT ft g nt ip) (hc : (f2, n2) = (if tyOK word m nt = true then tyAdd word 9 (m - 1) (ft, nt) else (ft, nt))) (hm : (g2, k2) = (if moTyOK word m ip = true then moAdd word 9 (m - 1) (g, ip) else (g, ip))) :
    RelT f2 g2 n2 k2 ∧ k_b (tyOK word m nt) = k_b (moTyOK word m ip) := by
  obtain ⟨N, h1, rfl, rfl⟩ := h
  exact ⟨type_both h1 hc hm, by rw [ty_same h1.1]⟩
theorem moTx_keep {tp : Nat → Int32} {nt v : Int32} (hv : 0 ≤ v.toInt ∧ v.toInt < 12) (hn : nt.toInt ≤ 60) : ∀ (k : Nat) (i : Int32) (tx : Nat → Int32) (q : Nat), 0 ≤ i.toInt → (q < 60 * v.toNatClampNeg ∨ 60 * v.toNatClampNeg + 60 ≤ q) → moTx tp nt v k i tx q = tx q := by
  intro k
  induction k with
  | zero => intro i tx q _ _; rfl
  | succ k ih =>
    intro i tx q hi hq
    rw [moTx]
    by_cases e : nt ≤ i
    · rw [if_pos e]
    · rw [if_neg e]
      rw [k_le] at e
      have e1 : ((60 : Int32) * v).toInt = 60 * v.toInt := by
        rw [k_mul] <;> rw [show (60 : Int32).toInt = 60 from l_60] <;> omega
      have e2 : (60 * v + i).toInt = 60 * v.toInt + i.toInt := by rw [k_add] <;> omega
      have e3 : v.toNatClampNeg = v.toInt.toNat := rfl
      have e4 : (60 * v + i).toNatClampNeg = (60 * v + i).toInt.toNat := rfl
      rw [ih _ _ _ (by rw [k_inct (by omega)]; omega) hq, pk_un]
      omega
theorem clampJ {v : Int32} (h : 0 ≤ v.toInt ∧ v.toInt < 12) : v.toNatClampNeg = v.toInt.toNat ∧ v.toNatClampNeg < 12 ∧ nI v.toNatClampNeg = v := by
  refine ⟨rfl, ?_, (j_of h.1).symm⟩
  show v.toInt.toNat < 12
  omega
theorem vsOK_up {SS : Nat → VS} {j : Nat} {v : VS} (h : vsOK SS) (h1 : v.1 = 0 ∨ v.1 = 1) (h2 : lnOK 60 v.2.2.2.2.2) : vsOK (va_up SS j v) := by
  intro i hi
  unfold va_up
  by_cases e : i = j
  · rw [if_pos e]; exact ⟨h1, h2⟩
  · rw [if_neg e]; exact h i hi
theorem upS {α : Type} (f : Nat → α) (k : Nat) (v : α) : va_up f k v k = v := if_pos rfl
theorem upN {α : Type} (f : Nat → α) {k j : Nat} (v : α) (h : j ≠ k) : va_up f k v j = f j := if_neg h
theorem rel_text {ft g : Nat → Int32} {nt ip cnt : Int32} {SS : Nat → VS} {it tl tx dg ar br mn : Nat → Int32} (hT : RelT ft g nt ip) (h60 : ¬ 60 < nt) (hc : 0 ≤ cnt.toInt ∧ cnt.toInt < 12) (hV : refVals SS cnt it tl tx dg ar br mn) (hS : vsOK SS) (hB : Bnd ar br tl)
    {fV f2 : Nat → Int32} {n2 bel : Int32} {ah bh : Int64} (hw : (f2, n2) = lnPt 60 ft nt 0 nt (fV, 0)) (hn2 : lnOK 60 n2) :
    refVals (va_up SS cnt.toNatClampNeg (0, bel, ah, bh, f2, n2)) (cnt + 1) (upd it cnt.toNatClampNeg 1) (upd tl cnt.toNatClampNeg ip) (moTx g ip cnt 61 0 tx) dg ar br mn ∧ vsOK (va_up SS cnt.toNatClampNeg (0, bel, ah, bh, f2, n2)) ∧ Bnd ar br (upd tl cnt.toNatClampNeg ip) := by
  obtain ⟨j0, j1, j2⟩ := clampJ hc
  have hok := relT_ok hT
  obtain ⟨N, h1, rfl, rfl⟩ := hT
  have hN := h1.1
  have eN := nI_toInt (n := N) (by omega)
  have h60' : N ≤ 60 := by rw [k_lt, l_60, eN] at h60; omega
  refine ⟨fun j hj => ?_, vsOK_up hS (Or.inl rfl) hn2, fun j hj => ?_⟩
  · rw [k_inct (by omega)] at hj
    by_cases e : j = cnt.toNatClampNeg
    · subst e
      rw [upS, pk_us, pk_us, j2]
      exact VR_text h1 h60' hw tx dg _ _ _ hc
    · rw [upN _ _ e, pk_un e, pk_un e]
      have hj2 : (j : Int) < cnt.toInt := by omega
      have ej := nI_toInt (n := j) (by omega)
      have hcl : (nI j).toNatClampNeg = j := j_nat (by omega)
      refine VR_congr ⟨by omega, by omega⟩ (hV j hj2) (fun i hi => ?_) (fun i hi => rfl)
      rw [hcl]
      exact moTx_keep hc (by omega) 61 0 tx _ (by decide) (by omega)
  · refine ⟨(hB j hj).1, (hB j hj).2.1, ?_⟩
    by_cases e : j = cnt.toNatClampNeg
    · rw [e, pk_us, eN]; omega
    · rw [pk_un e]; exact (hB j hj).2.2
theorem rd_c5 {f g : Nat → Int32} {n : Int32} (h : ∀ i, lnAt f n i = lnAt g n i) : rdS f n = rdS g n ∧ rdP f n = rdP g n ∧ rdL f n = rdL g n ∧ lnDg f n (rdS f n) = lnDg g n (rdS g n) := by
  have e1 : rdS f n = rdS g n := by unfold rdS; rw [h]
  have e2 : rdP f n = rdP g n := by unfold rdP; rw [e1, lnDg_c h]
  have e3 : rdT f n = rdT g n := by unfold rdT; rw [e2, h]
  have e4 : rdL f n = rdL g n := by unfold rdL; rw [e3, e2, lnDg_c h]
  exact ⟨e1, e2, e4, by rw [e1, lnDg_c h]⟩
theorem rel_dec {ft g : Nat → Int32} {nt ip cnt : Int32} {SS : Nat → VS} {it tl tx dg dgE ar br mn : Nat → Int32} (hT : RelT ft g nt ip) (hrd : rdOK ft nt = true) (hc : 0 ≤ cnt.toInt ∧ cnt.toInt < 12) (hV : refVals SS cnt it tl tx dg ar br mn) (hS : vsOK SS) (hB : Bnd ar br tl)
    {fV f2 : Nat → Int32} {n2 : Int32} (hw : (f2, n2) = wpLine fV (rdBl ft nt) (rdBh ft nt) ft nt (rdS ft nt) (rdP ft nt) (rdE ft nt)) (hn2 : lnOK 60 n2)
    (dA : digAt dgE g (30 * cnt.toNatClampNeg) (rdS g ip).toInt.toNat (lnDg g ip (rdS g ip)).toInt) (dB : digAt dgE g (30 * cnt.toNatClampNeg + (lnDg g ip (rdS g ip)).toInt.toNat) ((rdP g ip).toInt.toNat + 1) (rdL g ip).toInt) (hkeep : digKeep dgE dg (30 * cnt.toNatClampNeg)) :
    refVals (va_up SS cnt.toNatClampNeg (1, rdBl ft nt, rdAh ft nt, rdBh ft nt, f2, n2)) (cnt + 1) (upd it cnt.toNatClampNeg 0) tl tx dgE (upd ar cnt.toNatClampNeg (lnDg g ip (rdS g ip))) (upd br cnt.toNatClampNeg (rdL g ip)) (upd mn cnt.toNatClampNeg (if rdS g ip = 0 then 0 else if roMore (fun j => dgE (30 * cnt.toNatClampNeg + j)) (lnDg g ip (rdS g ip) + rdL g ip) 31 0 0 = 0 then 0 else 1)) ∧
    vsOK (va_up SS cnt.toNatClampNeg (1, rdBl ft nt, rdAh ft nt, rdBh ft nt, f2, n2)) ∧ Bnd (upd ar cnt.toNatClampNeg (lnDg g ip (rdS g ip))) (upd br cnt.toNatClampNeg (rdL g ip)) tl := by
  obtain ⟨j0, j1, j2⟩ := clampJ hc
  have hok := relT_ok hT
  obtain ⟨N, h1, rfl, rfl⟩ := hT
  have hN := h1.1
  obtain ⟨c1, c2, c3, c4⟩ := rd_c5 hok.2.2.2.2.2
  rw [← c4] at dA dB ⊢
  rw [← c1] at dA ⊢
  rw [← c2] at dB
  rw [← c3] at dB ⊢
  obtain ⟨S, A, B, T, h⟩ := rd_X hN hrd
  have a18 := h.a18
  have b12 := h.b12
  have s1 := h.s1
  have hn := h.n
  have hDg : lnDg ft (nI N) (rdS ft (nI N)) = nI A := by
    rw [← rdP_sub, h.p, h.s, j_sub (by omega) (by omega)]
    refine congrArg nI ?_
    omega
  have eA := nI_toInt (n := A) (by omega)
  have eB := nI_toInt (n := B) (by omega)
  have eS := nI_toInt (n := S) (by omega)
  have eP := nI_toInt (n := S + A) (by omega)
  have tb := h.tb
  refine ⟨fun j hj => ?_, vsOK_up hS (Or.inr rfl) hn2, fun j hj => ?_⟩
  · rw [k_inct (by omega)] at hj
    by_cases e : j = cnt.toNatClampNeg
    · subst e
      rw [upS, pk_us, pk_us, pk_us, pk_us, j2]
      refine VR_dec hN hrd fV _ _ _ hc ?_ ?_ rfl hw
      · intro i hi
        rw [hDg, eA] at hi
        rw [dA i (by rw [hDg, eA]; exact hi), h.s, eS, Int.toNat_natCast, (h1.2 (S + i) (by split at hn <;> omega)).1]
      · intro i hi
        rw [h.l, eB] at hi
        rw [dB i (by rw [h.l, eB]; exact hi), h.p, eP, Int.toNat_natCast]
        have hTt : T = true := by
          cases hT2 : T with
          | true => rfl
          | false => have := tb.2 hT2; omega
        rw [if_pos hTt] at hn
        rw [(h1.2 (S + A + 1 + i) (by omega)).1]
    · rw [upN _ _ e, pk_un e, pk_un e, pk_un e, pk_un e]
      have hj2 : (j : Int) < cnt.toInt := by omega
      have ej := nI_toInt (n := j) (by omega)
      have hcl : (nI j).toNatClampNeg = j := j_nat (by omega)
      refine VR_congr ⟨by omega, by omega⟩ (hV j hj2) (fun i hi => rfl) (fun i hi => ?_)
      rw [hcl]
      exact hkeep _ (by omega)
  · refine ⟨?_, ?_, (hB j hj).2.2⟩
    · by_cases e : j = cnt.toNatClampNeg
      · rw [e, pk_us, hDg, eA]; omega
      · rw [pk_un e]; exact (hB j hj).1
    · by_cases e : j = cnt.toNatClampNeg
      · rw [e, pk_us, h.l, eB]; omega
      · rw [pk_un e]; exact (hB j hj).2.1
theorem rel_bad {cnt : Int32} {SS : Nat → VS} {it tl tx dg dgE ar br mn : Nat → Int32} (hc : 0 ≤ cnt.toInt ∧ cnt.toInt < 12) (hV : refVals SS cnt it tl tx dg ar br mn) (hS : vsOK SS) {f2 : Nat → Int32} {n2 bel : Int32} {ah bh : Int64} (hn2 : lnOK 60 n2) (hkeep : digKeep dgE dg (30 * cnt.toNatClampNeg)) :
    refVals (va_up SS cnt.toNatClampNeg ((SS cnt.toNatClampNeg).1, bel, ah, bh, f2, n2)) cnt it tl tx dgE ar br mn ∧ vsOK (va_up SS cnt.toNatClampNeg ((SS cnt.toNatClampNeg).1, bel, ah, bh, f2, n2)) := by
  obtain ⟨j0, j1, j2⟩ := clampJ hc
  refine ⟨fun j hj => ?_, vsOK_up hS (hS _ j1).1 hn2⟩
  have e : j ≠ cnt.toNatClampNeg := by omega
  rw [upN _ _ e]
  have ej := nI_toInt (n := j) (by omega)
  have hcl : (nI j).toNatClampNeg = j := j_nat (by omega)
  refine VR_congr ⟨by omega, by omega⟩ (hV j hj) (fun i hi => rfl) (fun i hi => ?_)
  rw [hcl]
  exact hkeep _ (by omega)
theorem rel_rd {ft g : Nat → Int32} {nt ip : Int32} (h : RelT ft g nt ip) : rdOK g ip = rdOK ft nt := by
  have hok := relT_ok h
  rw [hok.2.2.2.1]
  exact (rd_c hok.2.2.2.2.2).symm
theorem rel_fill {ft g : Nat → Int32} {nt ip : Int32} (h : RelT ft g nt ip) (cnt : Int32) (SS : Nat → VS) : abFill g ip cnt SS = abFill ft nt cnt SS := by
  have hok := relT_ok h
  rw [hok.2.2.2.1]
  exact (abFill_c hok.2.2.2.2.2).symm
theorem rel_line {f g : Nat → Int32} {n m : Int32} (h : lnL (f, n) = lnL (g, m)) (hn : lnOK 600 n) (h0 : 0 ≤ m.toInt) : m = n ∧ ∀ k : Nat, (k : Int) < n.toInt → f k = g k := by
  have hn0 := hn.1
  have e := congrArg List.length h
  rw [lnL_length, lnL_length] at e
  have e1 : n.toInt.toNat = m.toInt.toNat := e
  refine ⟨Int32.toInt_inj.mp (by omega), fun k hk => ?_⟩
  have k1 : k < (lnL (f, n)).length := by rw [lnL_length]; show k < n.toInt.toNat; omega
  have k2 : k < (lnL (g, m)).length := by rw [← h]; exact k1
  have a := lnL_get (L := (f, n)) (k := k) k1
  have b := lnL_get (L := (g, m)) (k := k) k2
  have ea : f k = (lnL (f, n))[k] := a.symm
  have eb : g k = (lnL (g, m))[k] := b.symm
  rw [ea, eb]
  simp only [h]
theorem rel_vals0 (SS : Nat → VS) (it tl tx dg ar br mn : Nat → Int32) : refVals SS 0 it tl tx dg ar br mn := fun j hj => by
  rw [l_0] at hj; omega
theorem alk_no {a b cnt : Int32} {it : Nat → Int32} (h : a < 0 ∨ cnt ≤ a ∨ b < 0 ∨ ¬ b < cnt) : ¬ alIn a b cnt it = true := by
  unfold alIn
  rcases h with h | h | h | h
  · rw [if_pos h]; decide
  · by_cases e : a < 0
    · rw [if_pos e]; decide
    · rw [if_neg e, if_pos h]; decide
  · by_cases e : a < 0
    · rw [if_pos e]; decide
    · rw [if_neg e]
      by_cases e2 : cnt ≤ a
      · rw [if_pos e2]; decide
      · rw [if_neg e2, if_pos h]; decide
  · have h' : cnt ≤ b := by rw [k_lt] at h; rw [k_le]; omega
    by_cases e : a < 0
    · rw [if_pos e]; decide
    · rw [if_neg e]
      by_cases e2 : cnt ≤ a
      · rw [if_pos e2]; decide
      · rw [if_neg e2]
        by_cases e3 : b < 0
        · rw [if_pos e3]; decide
        · rw [if_neg e3, if_pos h']; decide
theorem alk_yes {a b cnt : Int32} {SS : Nat → VS} {it tl tx dg ar br mn : Nat → Int32} (hV : refVals SS cnt it tl tx dg ar br mn) (h1 : ¬ a < 0) (h2 : ¬ cnt ≤ a) (h3 : ¬ b < 0) (h4 : b < cnt) (f1 f2 rv : Nat → Int32) :
    k_b (vaSame (SS a.toNatClampNeg).1 (SS b.toNatClampNeg).1 (SS a.toNatClampNeg).2.2.2.2.1 (SS a.toNatClampNeg).2.2.2.2.2 (SS b.toNatClampNeg).2.2.2.2.1 (SS b.toNatClampNeg).2.2.2.2.2) =
      (if alIn a b cnt it = true then alSame (mpAll (it a.toNatClampNeg) tx (tl a.toNatClampNeg) dg (ar a.toNatClampNeg) (br a.toNatClampNeg) a (mn a.toNatClampNeg) f1) (mpAll (it b.toNatClampNeg) tx (tl b.toNatClampNeg) dg (ar b.toNatClampNeg) (br b.toNatClampNeg) b (mn b.toNatClampNeg) f2) rv else 0) := by
  have h5 : ¬ cnt ≤ b := by rw [k_lt] at h4; rw [k_le]; omega
  have ha := h1
  have hb := h3
  have h2' := h2
  rw [k_lt, l_0] at ha hb
  rw [k_le] at h2'
  rw [k_lt] at h4
  have ja : nI a.toNatClampNeg = a := (j_of (by omega)).symm
  have jb : nI b.toNatClampNeg = b := (j_of (by omega)).symm
  have va := hV a.toNatClampNeg (by show ((a.toInt.toNat : Nat) : Int) < _; omega)
  have vb := hV b.toNatClampNeg (by show ((b.toInt.toNat : Nat) : Int) < _; omega)
  rw [ja] at va
  rw [jb] at vb
  rw [alike_both va vb f1 f2 rv]
  unfold alIn
  rw [if_neg h1, if_neg h2, if_neg h3, if_neg h5]
  by_cases e : it a.toNatClampNeg = it b.toNatClampNeg
  · rw [if_pos e, if_pos (decide_eq_true e)]
  · rw [if_neg e, if_neg (fun q => e (of_decide_eq_true q))]
theorem in12 {a cnt : Int32} (h1 : ¬ a < 0) (h2 : a.toInt < cnt.toInt) (hc : cnt.toInt ≤ 12) : vp_in a 12 ∧ a.toNatClampNeg < 12 := by
  rw [k_lt, l_0] at h1
  refine ⟨vp_in_iff.mpr ⟨by omega, by omega⟩, ?_⟩
  show a.toInt.toNat < 12
  omega
theorem cnt12 {cnt : Int32} (h : cnt.toInt ≤ 12) (hn : ¬ cnt < 12) : cnt = 12 := by
  rw [k_lt, l_12] at hn
  exact Int32.toInt_inj.mp (by rw [l_12]; omega)
theorem i64_of {x y : Int32} (h : x = y) : x.toInt64 = y.toInt64 := by rw [h]
theorem fp0 {f : Nat → Int32} {n cnt : Int32} {SS : Nat → VS} : ∀ (k : Nat) (p tk : Int32) (out : List Int32), (fpGo f n cnt SS k p tk out).1 = 0 → (fpGo f n cnt SS k p tk out).2.1 = 0 := by
  have base : ∀ (tk : Int32) (out : List Int32), ((if tk < cnt then (4, n, out) else (0, 0, out) : Int32 × Int32 × List Int32)).1 = 0 → ((if tk < cnt then (4, n, out) else (0, 0, out) : Int32 × Int32 × List Int32)).2.1 = 0 := by
    intro tk out
    by_cases e : tk < cnt
    · rw [if_pos e]; intro h; exact absurd h (by decide : ¬ (4 : Int32) = 0)
    · rw [if_neg e]; intro _; rfl
  intro k
  induction k with
  | zero => intro p tk out; rw [fpGo]; exact base tk out
  | succ k ih =>
    intro p tk out
    rw [fpGo]
    by_cases e : n ≤ p
    · rw [if_pos e]; exact base tk out
    · rw [if_neg e]
      by_cases e2 : sfIs f n p = true ∧ ¬ frSo (fiRead f n p) = 0
      · rw [if_pos e2]
        generalize fieldA cnt SS (fiRead f n p) tk out = F
        by_cases e3 : ¬ F.1 = 0
        · rw [if_pos e3]; intro h; exact absurd h e3
        · rw [if_neg e3]; exact ih _ _ _
      · rw [if_neg e2]
        by_cases e3 : ¬ out.length < 600
        · rw [if_pos e3]; intro h; exact absurd h (by decide : ¬ (5 : Int32) = 0)
        · rw [if_neg e3]; exact ih _ _ _
theorem abF0 {f : Nat → Int32} {n cnt : Int32} {SS : Nat → VS} (h : (abFill f n cnt SS).1 = 0) : (abFill f n cnt SS).2.1 = 0 := by
  unfold abFill at h ⊢
  by_cases e : ¬ fnAll f n = -1
  · rw [if_pos e] at h; exact absurd h (by decide : ¬ (1 : Int32) = 0)
  · rw [if_neg e] at h ⊢; exact fp0 _ _ _ _ h
