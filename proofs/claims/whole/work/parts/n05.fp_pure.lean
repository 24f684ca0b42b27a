/-! THE CLASS's fillPattern: one step of it. -/
theorem len_of_ok {room : Nat} {L : LnS} (h : lnOK room L.2) (hr : room ≤ 600) : Len L L.2.toInt.toNat ∧ L.2.toInt.toNat ≤ room ∧ (lnL L).length = L.2.toInt.toNat := by
  obtain ⟨a, b, c⟩ := h
  have h1 : Len L L.2.toInt.toNat := Len.of (by omega) (by omega)
  exact ⟨h1, by omega, h1.list⟩
theorem field_C {f : Nat → Int32} {N p : Nat} {cnt : Int32} {SS : Nat → VS} (hN : N ≤ 200) (hp : p < N) (hval : ∀ j : Nat, (j : Int) < cnt.toInt → valOK (SS j)) {mi pl ze sh bl sw sp wi pr le so nx tk : Int32} (hR : ((mi, pl, ze, sh, bl), sw, sp, wi, pr, le, so, nx) = fiRead f (nI N) (nI p)) (hso : ¬ so = 0) (ht : 0 ≤ tk.toInt)
    {L L2 : LnS} (hL : lnOK 600 L.2) {row lo fb : Nat → Int32} {r tk2 : Int32} (h : (r, tk2, L2) = ffOf cnt SS (stAB cnt SS sw sp tk mi wi pr) le so ze pl bl sh row lo fb L) :
    r = (fieldA cnt SS (fiRead f (nI N) (nI p)) tk (lnL L)).1 ∧ tk2 = (fieldA cnt SS (fiRead f (nI N) (nI p)) tk (lnL L)).2.1 ∧ lnL L2 = (fieldA cnt SS (fiRead f (nI N) (nI p)) tk (lnL L)).2.2 := by
  obtain ⟨q, a1, a2, a3, a4, a5, a6⟩ := fiRead_X (f := f) hN hp
  rw [← hR] at a4 a5 a6 ⊢
  have hval2 : ∀ t : Int32, 0 ≤ t.toInt → t < cnt → valOK (SS t.toNatClampNeg) := fun t h1 h2 => hval _ (by rw [k_lt] at h2; show ((t.toInt.toNat : Nat) : Int) < _; omega)
  obtain ⟨⟨s1, s2⟩, s3⟩ := stA_rng (cnt := cnt) (SS := SS) (sw := sw) (sp := sp) (tk := tk) (mi := mi) (wi := wi) (pr := pr) hval2 ht a4 a5
  have hLen := (len_of_ok hL (Nat.le_refl _))
  have ha6 : so = soOf le := a6
  unfold fieldA abOf
  unfold ffOf at h
  dsimp only at a6 ⊢
  have hX := ffAll_X (cnt := cnt) (SS := SS) (r := (stAB cnt SS sw sp tk mi wi pr).1) (tk := (stAB cnt SS sw sp tk mi wi pr).2.1) (mi := (stAB cnt SS sw sp tk mi wi pr).2.2.1) (wi := (stAB cnt SS sw sp tk mi wi pr).2.2.2.1) (pr := (stAB cnt SS sw sp tk mi wi pr).2.2.2.2) (le := le) (so := so) (ze := ze) (pl := pl) (bl := bl) (sh := sh) (row := row) (lo := lo) (f := fb) hLen.1 hLen.2.1 ha6 hso (hval2 _ s3) (fun _ => ⟨s2, s1⟩)
  rw [← h] at hX
  exact ⟨hX.1, hX.2.1, hX.2.2.1⟩
theorem mark_C {L : LnS} (hL : lnOK 600 L.2) {c : Int32} (hc : chr16 c = c) : (1 ≤ nI 600 - L.2 ↔ (lnL L).length < 600) ∧ ((lnL L).length < 600 → lnL (lnAdd 600 L c) = lnL L ++ [c]) := by
  obtain ⟨h1, h2, h3⟩ := len_of_ok hL (Nat.le_refl _)
  obtain ⟨a, b, d⟩ := hL
  have e : (nI 600 - L.2).toInt = 600 - L.2.toInt := by
    have q := nI_toInt (n := 600) (by omega)
    rw [k_sb (by omega) (by omega), q]
    rfl
  refine ⟨?_, fun q => ?_⟩
  · rw [k_le, l_1, e, h3]
    omega
  · rw [(ln_ls (c := c) ⟨a, b, d⟩).1, hc, List.take_of_length_le]
    rw [List.length_append, List.length_singleton]
    omega
/-- the filling, one step on -/
theorem fp_end {f : Nat → Int32} {n cnt : Int32} {SS : Nat → VS} {p tk : Int32} {out : List Int32} (k : Nat) (h : k = 0 ∨ n ≤ p) : fpGo f n cnt SS k p tk out = if tk < cnt then (4, n, out) else (0, 0, out) := by
  cases k with
  | zero => rfl
  | succ k => rw [fpGo, if_pos (h.resolve_left (by omega))]
theorem fp_field {f : Nat → Int32} {n cnt : Int32} {SS : Nat → VS} {p tk : Int32} {out : List Int32} (k : Nat) (h : ¬ n ≤ p) (hs : sfIs f n p = true) (hso : ¬ frSo (fiRead f n p) = 0) :
    fpGo f n cnt SS (k + 1) p tk out = if ¬ (fieldA cnt SS (fiRead f n p) tk out).1 = 0 then ((fieldA cnt SS (fiRead f n p) tk out).1, p, out) else fpGo f n cnt SS k (frNx (fiRead f n p)) (fieldA cnt SS (fiRead f n p) tk out).2.1 (fieldA cnt SS (fiRead f n p) tk out).2.2 := by
  rw [fpGo, if_neg h, if_pos ⟨hs, hso⟩]
theorem fp_mark {f : Nat → Int32} {n cnt : Int32} {SS : Nat → VS} {p tk : Int32} {out : List Int32} (k : Nat) (h : ¬ n ≤ p) (hs : ¬ (sfIs f n p = true ∧ ¬ frSo (fiRead f n p) = 0)) :
    fpGo f n cnt SS (k + 1) p tk out = if ¬ out.length < 600 then (5, p, out) else fpGo f n cnt SS k (bhMk f n p) tk (out ++ [lnAt f n p]) := by
  rw [fpGo, if_neg h, if_neg hs]
theorem bh_rng {f : Nat → Int32} {n p : Int32} (h0 : 0 ≤ p.toInt) (h : ¬ n ≤ p) (hn : n.toInt ≤ 200) : 0 ≤ (bhMk f n p).toInt ∧ (bhMk f n p).toInt ≤ n.toInt + 1 ∧ p.toInt < (bhMk f n p).toInt := by
  rw [k_le] at h
  unfold bhMk
  split
  · rw [k_add (by rw [l_2]; omega) (by rw [l_2]; omega), l_2]; omega
  · rw [k_inct (by omega)]; omega
theorem nx_rng {f : Nat → Int32} {n p : Int32} (hn0 : 0 ≤ n.toInt) (h0 : 0 ≤ p.toInt) (h : ¬ n ≤ p) (hn : n.toInt ≤ 200) : 0 ≤ (frNx (fiRead f n p)).toInt ∧ (frNx (fiRead f n p)).toInt ≤ n.toInt + 1 ∧ p.toInt + 1 < (frNx (fiRead f n p)).toInt := by
  rw [k_le] at h
  obtain ⟨q, a1, a2, a3, _⟩ := fiRead_X (f := f) (N := n.toInt.toNat) (p := p.toInt.toNat) (by omega) (by omega)
  rw [← j_of hn0, ← j_of h0] at a1
  rw [a1, nI_toInt (by omega)]
  omega
/-- the same with the place as it stands -/
theorem field_C' {f : Nat → Int32} {n p : Int32} {cnt : Int32} {SS : Nat → VS} (hn0 : 0 ≤ n.toInt) (hn : n.toInt ≤ 200) (h0 : 0 ≤ p.toInt) (hp : ¬ n ≤ p) (hval : ∀ j : Nat, (j : Int) < cnt.toInt → valOK (SS j)) {mi pl ze sh bl sw sp wi pr le so nx tk : Int32} (hR : ((mi, pl, ze, sh, bl), sw, sp, wi, pr, le, so, nx) = fiRead f n p) (hso : ¬ so = 0) (ht : 0 ≤ tk.toInt)
    {L L2 : LnS} (hL : lnOK 600 L.2) {row lo fb : Nat → Int32} {r tk2 : Int32} (h : (r, tk2, L2) = ffOf cnt SS (stAB cnt SS sw sp tk mi wi pr) le so ze pl bl sh row lo fb L) :
    r = (fieldA cnt SS (fiRead f n p) tk (lnL L)).1 ∧ tk2 = (fieldA cnt SS (fiRead f n p) tk (lnL L)).2.1 ∧ lnL L2 = (fieldA cnt SS (fiRead f n p) tk (lnL L)).2.2 := by
  rw [k_le] at hp
  rw [j_of hn0, j_of h0] at hR ⊢
  exact field_C (by omega) (by omega) hval hR hso ht hL h
