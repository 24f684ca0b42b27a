/-! THE REFERENCE's fill: one step of it. AB: what the whole filling gives. -/
theorem put_R {c p ft fp r ft2 fp2 n2 : Int32} {f2 : Nat → Int32} {L : LnS} (h0 : 0 ≤ L.2.toInt) (h1 : L.2.toInt ≤ 600) (h : (r, ft2, fp2, (f2, n2)) = moPut c p ft fp L) :
    ((lnL L).length < 600 → r = 1 ∧ ft2 = ft ∧ fp2 = fp ∧ lnL (f2, n2) = lnL L ++ [c]) ∧ (¬ (lnL L).length < 600 → r = 0 ∧ ft2 = 5 ∧ fp2 = p) := by
  have hl := lnL_length L
  have hl2 : L.2.toNatClampNeg = L.2.toInt.toNat := rfl
  unfold moPut at h
  by_cases e : L.2 = 600
  · rw [if_pos e] at h
    simp only [Prod.mk.injEq] at h
    obtain ⟨rfl, rfl, rfl, _⟩ := h
    refine ⟨fun q => ?_, fun _ => ⟨rfl, rfl, rfl⟩⟩
    rw [hl, hl2, e, l_600] at q
    exact absurd q (by decide)
  · rw [if_neg e] at h
    have he : ¬ L.2.toInt = 600 := fun q => e (Int32.toInt_inj.mp (by rw [q, l_600]))
    obtain ⟨a, b⟩ := ly_ls (L := L) (c := c) h0 (by omega)
    simp only [Prod.mk.injEq] at h
    obtain ⟨rfl, rfl, rfl, h4⟩ := h
    refine ⟨fun _ => ⟨rfl, rfl, rfl, ?_⟩, fun q => absurd (by omega) q⟩
    rw [h4]
    exact a
theorem mark_R {f : Nat → Int32} {n cnt : Int32} {SS : Nat → VS} {kf : Nat} {p tk c r ft2 fp2 n2 : Int32} {f2 : Nat → Int32} {L : LnS} {AB : Int32 × Int32 × List Int32} (h0 : 0 ≤ L.2.toInt) (h1 : L.2.toInt ≤ 600) (hlt : ¬ n ≤ p) (hs : ¬ sfIs f n p = true) (hc : lnAt f n p = c)
    (h : (r, ft2, fp2, (f2, n2)) = moPut c p 0 0 L) (y3 : patGo f n (kf + 1) p = -1) (y4 : fpGo f n cnt SS (kf + 1) p tk (lnL L) = AB) :
    (r = 0 ∨ r = 1) ∧ (¬ r = 0 → ft2 = 0 ∧ fp2 = 0 ∧ patGo f n kf (bhMk f n p) = -1 ∧ fpGo f n cnt SS kf (bhMk f n p) tk (lnL (f2, n2)) = AB) ∧ (r = 0 → ft2 = AB.1 ∧ fp2 = AB.2.1 ∧ ¬ AB.1 = 0) := by
  obtain ⟨a, b⟩ := put_R h0 h1 h
  rw [patGo, if_neg hlt, if_neg hs] at y3
  rw [fp_mark kf hlt (fun q => hs q.1), hc] at y4
  by_cases e : (lnL L).length < 600
  · obtain ⟨a1, a2, a3, a4⟩ := a e
    rw [if_neg (fun q => q e), ← a4] at y4
    exact ⟨Or.inr a1, fun _ => ⟨a2, a3, y3, y4⟩, fun q => absurd (a1.symm.trans q) (by decide)⟩
  · obtain ⟨b1, b2, b3⟩ := b e
    rw [if_pos e] at y4
    refine ⟨Or.inl b1, fun q => absurd b1 q, fun _ => ?_⟩
    rw [← y4]
    exact ⟨b2, b3, (by decide : ¬ (5 : Int32) = 0)⟩
theorem field_R {f : Nat → Int32} {n cnt : Int32} {SS : Nat → VS} {kf : Nat} {p tk tk2 r ft2 fp2 : Int32} {out out2 : List Int32} {AB : Int32 × Int32 × List Int32} (hlt : ¬ n ≤ p) (hs : sfIs f n p = true) (hso : ¬ frSo (fiRead f n p) = 0)
    (h1 : (fieldA cnt SS (fiRead f n p) tk out).1 = 0 → r = 1 ∧ tk2 = (fieldA cnt SS (fiRead f n p) tk out).2.1 ∧ out2 = (fieldA cnt SS (fiRead f n p) tk out).2.2 ∧ ft2 = 0 ∧ fp2 = 0) (h2 : ¬ (fieldA cnt SS (fiRead f n p) tk out).1 = 0 → r = 0 ∧ ft2 = (fieldA cnt SS (fiRead f n p) tk out).1 ∧ fp2 = p)
    (y3 : patGo f n (kf + 1) p = -1) (y4 : fpGo f n cnt SS (kf + 1) p tk out = AB) :
    (r = 0 ∨ r = 1) ∧ (¬ r = 0 → ft2 = 0 ∧ fp2 = 0 ∧ patGo f n kf (frNx (fiRead f n p)) = -1 ∧ fpGo f n cnt SS kf (frNx (fiRead f n p)) tk2 out2 = AB) ∧ (r = 0 → ft2 = AB.1 ∧ fp2 = AB.2.1 ∧ ¬ AB.1 = 0) := by
  rw [patGo, if_neg hlt, if_pos hs, if_neg hso] at y3
  rw [fp_field kf hlt hs hso] at y4
  generalize fieldA cnt SS (fiRead f n p) tk out = A at h1 h2 y4
  by_cases e : A.1 = 0
  · obtain ⟨a1, a2, a3, a4, a5⟩ := h1 e
    rw [if_neg (fun q => q e), ← a2, ← a3] at y4
    exact ⟨Or.inr a1, fun _ => ⟨a4, a5, y3, y4⟩, fun q => absurd (a1.symm.trans q) (by decide)⟩
  · obtain ⟨b1, b2, b3⟩ := h2 e
    rw [if_pos e] at y4
    refine ⟨Or.inl b1, fun q => absurd b1 q, fun _ => ?_⟩
    subst y4
    exact ⟨b2, b3, e⟩
theorem mrW_eq (f : Nat → Int32) (n x : Int32) : mrW f n x = (if rwS f n x = 0 then rwW f n x else -2) := by
  unfold mrW rwS rwW
  by_cases e : lnAt f n x = 42
  · rw [if_pos e, decide_eq_true e, if_neg (by decide)]
  · rw [if_neg e, decide_eq_false e, if_pos (by decide), if_neg e]
theorem mrP_eq (f : Nat → Int32) (n x : Int32) : mrP f n x = (if rpS f n x = 0 then rpP f n x else -2) := by
  unfold mrP rpS rpP
  by_cases e : lnAt f n x = 46
  · rw [if_pos e, if_pos e, if_pos e]
    by_cases g : lnAt f n (x + 1) = 42
    · rw [if_pos g, decide_eq_true g, if_neg (by decide)]
    · rw [if_neg g, decide_eq_false g, if_pos (by decide), if_neg g]
  · rw [if_neg e, if_neg e, if_neg e, if_pos rfl]
theorem flGo_01 {f : Nat → Int32} {n : Int32} : ∀ (k : Nat) (F : FG) (x : Int32), (F.1 = 0 ∨ F.1 = 1) → ((flGo f n k F x).1.1 = 0 ∨ (flGo f n k F x).1.1 = 1) := by
  intro k
  induction k with
  | zero => intro F x h; exact h
  | succ k ih =>
    intro F x h
    rw [flGo]
    split
    · exact h
    · split
      · refine ih _ _ ?_
        obtain ⟨a, b, c, d, e⟩ := F
        rw [fl_fb]
        exact fb_01 h
      · exact h
theorem flAll_01 (f : Nat → Int32) (n x : Int32) : (flAll f n x).1.1 = 0 ∨ (flAll f n x).1.1 = 1 := flGo_01 _ _ _ (Or.inl rfl)
theorem copy_all {ff fn : Nat → Int32} {n : Int32} (h : ∀ j : Nat, (j : Int) < n.toInt → ff j = fn j) (h0 : 0 ≤ n.toInt) : lnL (ff, n) = lnL (fn, n) := by
  refine lnL_eq rfl (fun k hk => h k ?_)
  have hk : k < n.toInt.toNat := hk
  omega
theorem ab_pat {f : Nat → Int32} {n cnt : Int32} {SS : Nat → VS} (h : fnAll f n = -1) : abFill f n cnt SS = fpGo f n cnt SS 200 0 0 [] ∧ patGo f n 200 0 = -1 := by
  refine ⟨?_, by rw [← fnAll_pat]; exact h⟩
  unfold abFill
  rw [if_neg (fun q => q h)]
theorem ab_nopat {f : Nat → Int32} {n cnt : Int32} {SS : Nat → VS} (h : ¬ fnAll f n = -1) : abFill f n cnt SS = (1, fnAll f n, []) := by
  unfold abFill
  rw [if_pos h]
theorem fa_tup (cnt : Int32) (SS : Nat → VS) (g : FG) (a b c d x so nx tk : Int32) (out : List Int32) : fieldA cnt SS (g, a, b, c, d, x, so, nx) tk out = abOf cnt SS (stAB cnt SS a b tk g.1 c d) x so g.2.2.1 g.2.1 g.2.2.2.2 g.2.2.2.1 out := rfl
theorem fa_eq (cnt : Int32) (SS : Nat → VS) (f : Nat → Int32) (n p tk : Int32) (out : List Int32) : fieldA cnt SS (fiRead f n p) tk out = abOf cnt SS (stAB cnt SS (rwS f n (flAll f n (p + 1)).2) (rpS f n (rwN f n (flAll f n (p + 1)).2)) tk (flAll f n (p + 1)).1.1 (rwW f n (flAll f n (p + 1)).2) (rpP f n (rwN f n (flAll f n (p + 1)).2)))
    (lnAt f n (rpN f n (rwN f n (flAll f n (p + 1)).2))) (soOf (lnAt f n (rpN f n (rwN f n (flAll f n (p + 1)).2)))) (flAll f n (p + 1)).1.2.2.1 (flAll f n (p + 1)).1.2.1 (flAll f n (p + 1)).1.2.2.2.2 (flAll f n (p + 1)).1.2.2.2.1 out := by
  unfold fiRead
  rw [fa_tup]
theorem fr_w (f : Nat → Int32) (n p : Int32) : (fiRead f n p).2.2.2.1 = rwW f n (flAll f n (p + 1)).2 := by unfold fiRead; dsimp only
theorem fr_p (f : Nat → Int32) (n p : Int32) : (fiRead f n p).2.2.2.2.1 = rpP f n (rwN f n (flAll f n (p + 1)).2) := by unfold fiRead; dsimp only
theorem rf_all {f : Nat → Int32} {n p x l2 p2 z2 s2 b2 wi3 pr3 le2 a2 : Int32} {kf : Nat} (hn0 : 0 ≤ n.toInt) (hn1 : n.toInt ≤ 200) (hp0 : 0 ≤ p.toInt) (hlt : ¬ n ≤ p) (hsf : sfIs f n p = true) (y3 : patGo f n (kf + 1) p = -1) (hx : x = p + 1)
    (hb : (l2, p2, z2, s2, b2) = (flAll f n x).1) (hc : wi3 = mrW f n (flAll f n x).2) (hd : pr3 = mrP f n (rwN f n (flAll f n x).2)) (he : le2 = moSee f n (rpN f n (rwN f n (flAll f n x).2))) (hf : a2 = rpN f n (rwN f n (flAll f n x).2) + 1) (hg : x.toInt < a2.toInt) (hh : a2.toInt ≤ n.toInt + 1) :
    a2 = frNx (fiRead f n p) ∧ ¬ frSo (fiRead f n p) = 0 ∧ ¬ soOf le2 = 0 ∧ wi3 = (if rwS f n (flAll f n (p + 1)).2 = 0 then rwW f n (flAll f n (p + 1)).2 else -2) ∧ pr3 = (if rpS f n (rwN f n (flAll f n (p + 1)).2) = 0 then rpP f n (rwN f n (flAll f n (p + 1)).2) else -2) ∧
    (0 ≤ (rwW f n (flAll f n (p + 1)).2).toInt ∧ (rwW f n (flAll f n (p + 1)).2).toInt ≤ 99) ∧ (-1 ≤ (rpP f n (rwN f n (flAll f n (p + 1)).2)).toInt ∧ (rpP f n (rwN f n (flAll f n (p + 1)).2)).toInt ≤ 99) ∧ (l2 = 0 ∨ l2 = 1) ∧
    (∀ (cnt : Int32) (SS : Nat → VS) (tk : Int32) (out : List Int32), abOf cnt SS (stAB cnt SS (rwS f n (flAll f n (p + 1)).2) (rpS f n (rwN f n (flAll f n (p + 1)).2)) tk l2 (rwW f n (flAll f n (p + 1)).2) (rpP f n (rwN f n (flAll f n (p + 1)).2))) le2 (soOf le2) z2 p2 b2 s2 out = fieldA cnt SS (fiRead f n p) tk out) ∧
    0 ≤ a2.toInt ∧ a2.toInt ≤ n.toInt + 1 ∧ p.toInt + 1 < a2.toInt := by
  have hlt' := hlt
  rw [k_le] at hlt'
  have hxi : x.toInt = p.toInt + 1 := by rw [hx]; exact k_inct (by omega)
  subst hx
  have hx3 : 0 ≤ (rpN f n (rwN f n (flAll f n (p + 1)).2)).toInt := rp_nonneg hf (by omega) (by omega)
  have hnx : a2 = frNx (fiRead f n p) := by rw [fr_nx]; exact hf
  have hso2 : ¬ frSo (fiRead f n p) = 0 := by
    intro q
    rw [patGo, if_neg hlt, if_pos hsf, if_pos q] at y3
    rw [y3] at hp0
    exact absurd hp0 (by decide)
  have hso3 := hso2
  rw [fr_so] at hso3
  have hle : le2 = lnAt f n (rpN f n (rwN f n (flAll f n (p + 1)).2)) := by rw [he]; exact see_le hx3 hso3
  obtain ⟨nq, r1, r2, r3, r4, r5, r6⟩ := fiRead_X (f := f) (N := n.toInt.toNat) (p := p.toInt.toNat) (by omega) (by omega)
  rw [← j_of hn0, ← j_of hp0] at r4 r5
  rw [fr_w] at r4
  rw [fr_p] at r5
  have q1 := congrArg (fun z : FG => z.1) hb
  have q2 := congrArg (fun z : FG => z.2.1) hb
  have q3 := congrArg (fun z : FG => z.2.2.1) hb
  have q4 := congrArg (fun z : FG => z.2.2.2.1) hb
  have q5 := congrArg (fun z : FG => z.2.2.2.2) hb
  dsimp only at q1 q2 q3 q4 q5
  refine ⟨hnx, hso2, by rw [hle]; exact hso3, hc.trans (mrW_eq _ _ _), hd.trans (mrP_eq _ _ _), r4, r5, by rw [q1]; exact flAll_01 _ _ _, fun cnt SS tk out => ?_, by omega, hh, by omega⟩
  rw [hle, q1, q2, q3, q4, q5]
  exact (fa_eq _ _ _ _ _ _ _).symm
