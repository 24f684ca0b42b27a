/-! ONE FIELD: the function that both sides compute, over lists. -/
def valOK (c : VS) : Prop := ∃ (it tl : Int32) (tx dg : Nat → Int32) (a b mn v : Int32), VR c it tl tx dg a b mn v
def abBody (v : VS) (le pr sh : Int32) : List Int32 := lnL (ffBd v le pr sh (fun _ => 0) (fun _ => 0) (fun _ => 0))
def abOut (v : VS) (le pl bl sh pr wi ze mi so : Int32) (out : List Int32) : List Int32 := out ++ padL wi.toInt.toNat (fiZeros ze mi so) (!decide (mi = 0)) (headL (ffSg v le pl bl) (foBase le sh)) (abBody v le pr sh)
def abAll (cnt : Int32) (SS : Nat → VS) (r tk mi wi pr le so ze pl bl sh : Int32) (out : List Int32) : Int32 × Int32 × List Int32 :=
  if ¬ r = 0 then (r, tk, out) else if ¬ tk < cnt then (2, tk, out) else if ffTk (SS tk.toNatClampNeg) le so = 0 then (3, tk + 1, out) else
  if (abOut (SS tk.toNatClampNeg) le pl bl sh pr wi ze mi so out).length ≤ 600 then (0, tk + 1, abOut (SS tk.toNatClampNeg) le pl bl sh pr wi ze mi so out) else (5, tk + 1, out)
def abOf (cnt : Int32) (SS : Nat → VS) (q : ST) (le so ze pl bl sh : Int32) (out : List Int32) : Int32 × Int32 × List Int32 := abAll cnt SS q.1 q.2.1 q.2.2.1 q.2.2.2.1 q.2.2.2.2 le so ze pl bl sh out
theorem so_letter {le : Int32} (h : ¬ soOf le = 0) : isWords le ∨ le = 99 ∨ isFloat le ∨ isWhole le := by
  unfold soOf at h
  split at h
  · rename_i w
    exact Or.inr (Or.inr (Or.inr w))
  · split at h
    · rename_i f
      exact Or.inr (Or.inr (Or.inl f))
    · split at h
      · rename_i q
        rcases q with q | q | q
        · exact Or.inl (Or.inl q)
        · exact Or.inl (Or.inr q)
        · exact Or.inr (Or.inl q)
      · exact absurd rfl h
theorem le_chr {le : Int32} (h : isWords le ∨ le = 99 ∨ isFloat le ∨ isWhole le) : chr16 le = le := by
  unfold isWords isFloat isWhole at h
  rcases h with (rfl | rfl) | rfl | (rfl | rfl | rfl | rfl | rfl) | (rfl | rfl | rfl | rfl | rfl) <;> decide
theorem ite_all' {α : Type} {P : α → Prop} {p : Prop} [Decidable p] {a b : α} (ha : P a) (hb : P b) : P (if p then a else b) := by
  by_cases h : p
  · rw [if_pos h]; exact ha
  · rw [if_neg h]; exact hb
theorem foPick_all' {α : Type} {P : α → Prop} (le : Int32) {e g x b c d f o q s g2 x2 e2 : α} (h1 : P e) (h2 : P g) (h3 : P x) (h4 : P b) (h5 : P c) (h6 : P d) (h7 : P f) (h8 : P o) (h9 : P q) (h10 : P s) (h11 : P g2) (h12 : P x2) (h13 : P e2) : P (foPick le e g x b c d f o q s g2 x2 e2) :=
  ite_all' h1 (ite_all' h2 (ite_all' h3 (ite_all' h4 (ite_all' h5 (ite_all' h6 (ite_all' h13 (ite_all' h7 (ite_all' h11 (ite_all' h8 (ite_all' h9 (ite_all' h12 h10)))))))))))
theorem base_chr {le sh : Int32} (h : isWords le ∨ le = 99 ∨ isFloat le ∨ isWhole le) : chr16 (foBase le sh) = foBase le sh ∨ foBase le sh = -1 := by
  have hc := le_chr h
  have key : ∀ r : Int32, chr16 (whBase sh r le (-1)) = whBase sh r le (-1) ∨ whBase sh r le (-1) = -1 := by
    intro r
    unfold whBase
    split
    · exact Or.inr rfl
    · split
      · exact Or.inr rfl
      · exact Or.inl hc
  have := foPick_all' (P := fun x : Int32 => chr16 x = x ∨ x = -1) le (Or.inr rfl) (Or.inr rfl) (key 16) (key 2) (Or.inr rfl) (key 10) (Or.inr rfl) (key 8) (Or.inr rfl) (Or.inr rfl) (Or.inr rfl) (key 16) (Or.inr rfl)
  exact this
theorem fiSign_chr (b p k : Int32) : chr16 (fiSign b p k) = fiSign b p k ∨ fiSign b p k = -1 := by
  unfold fiSign
  split
  · split
    · split
      · exact Or.inr rfl
      · exact Or.inl (by decide)
    · exact Or.inl (by decide)
  · exact Or.inl (by decide)
theorem sign_chr (le bel : Int32) (ah : Int64) (pl bl : Int32) : chr16 (foSign le bel ah pl bl) = foSign le bel ah pl bl ∨ foSign le bel ah pl bl = -1 := by
  have f := fiSign_chr bel pl bl
  have w : chr16 (whSign bel ah pl bl) = whSign bel ah pl bl ∨ whSign bel ah pl bl = -1 := fiSign_chr _ _ _
  exact foPick_all' (P := fun x : Int32 => chr16 x = x ∨ x = -1) le f f w w (Or.inr rfl) w f w (Or.inr rfl) (Or.inr rfl) f w f
/-- the class's fillField, as lists -/
theorem ffAll_X {cnt : Int32} {SS : Nat → VS} {r tk mi wi pr le so ze pl bl sh : Int32} {row lo f : Nat → Int32} {L : LnS} {m : Nat} (hL : Len L m) (hm : m ≤ 600) (hso : so = soOf le) (hs0 : ¬ so = 0) (hv : tk < cnt → valOK (SS tk.toNatClampNeg)) (hr : r = 0 → (-1 ≤ pr.toInt ∧ pr.toInt ≤ 99) ∧ 0 ≤ wi.toInt ∧ wi.toInt ≤ 99) :
    (ffAll cnt SS r tk mi wi pr le so ze pl bl sh row lo f L).1 = (abAll cnt SS r tk mi wi pr le so ze pl bl sh (lnL L)).1 ∧ (ffAll cnt SS r tk mi wi pr le so ze pl bl sh row lo f L).2.1 = (abAll cnt SS r tk mi wi pr le so ze pl bl sh (lnL L)).2.1 ∧
    lnL (ffAll cnt SS r tk mi wi pr le so ze pl bl sh row lo f L).2.2 = (abAll cnt SS r tk mi wi pr le so ze pl bl sh (lnL L)).2.2 ∧ ∃ q, q ≤ 600 ∧ Len (ffAll cnt SS r tk mi wi pr le so ze pl bl sh row lo f L).2.2 q := by
  unfold ffAll abAll
  by_cases e1 : r = 0
  · rw [if_neg (fun q : ¬ r = 0 => q e1), if_neg (fun q : ¬ r = 0 => q e1)]
    by_cases e2 : tk < cnt
    · rw [if_neg (fun q : ¬ tk < cnt => q e2), if_neg (fun q : ¬ tk < cnt => q e2)]
      by_cases e3 : ffTk (SS tk.toNatClampNeg) le so = 0
      · rw [if_pos e3, if_pos e3]
        exact ⟨rfl, rfl, rfl, m, hm, hL⟩
      · rw [if_neg e3, if_neg e3]
        obtain ⟨⟨hp0, hp1⟩, hw0, hw1⟩ := hr e1
        obtain ⟨it, tl, tx, dg, a, b, mn, v, hV⟩ := hv e2
        have hlet := so_letter (by rw [← hso]; exact hs0)
        obtain ⟨xs, x1, x2, x3⟩ := body_both hV (pr := pr) (sh := sh) hp0 hp1 hlet (by rw [← hso]; exact e3)
        have hab : abBody (SS tk.toNatClampNeg) le pr sh = xs := (x2 _ _ _).1
        have hbd := x2 row lo f
        have hst := (ffBd_st (SS tk.toNatClampNeg) le pr sh row lo f).list
        obtain ⟨b1, b2⟩ := hbd
        obtain ⟨fB, nB⟩ : ∃ z, z = ffBd (SS tk.toNatClampNeg) le pr sh row lo f := ⟨_, rfl⟩
        unfold ffFit ffLn
        generalize hB : ffBd (SS tk.toNatClampNeg) le pr sh row lo f = Bd at b1 b2 hst ⊢
        have hlen : Bd.2 = nI xs.length := by
          have := lnL_length Bd
          rw [b1] at this
          have h0 := b2.1
          rw [j_of h0]
          congr 1
          exact this.symm
        obtain ⟨fb, nb⟩ := Bd
        dsimp only at hlen
        subst hlen
        have hpi := piLine_X (f := fb) (n := xs.length) (sg := ffSg (SS tk.toNatClampNeg) le pl bl) (ba := foBase le sh) (wi := wi) (ze := ze) (mi := mi) (so := so) hL hm (by omega) hst (sign_chr _ _ _ _ _) (base_chr hlet) hw0 hw1
        rw [b1, ← hab] at hpi
        obtain ⟨p1, p2⟩ := hpi
        have hout : abOut (SS tk.toNatClampNeg) le pl bl sh pr wi ze mi so (lnL L) = lnL L ++ padL wi.toInt.toNat (fiZeros ze mi so) (!decide (mi = 0)) (headL (ffSg (SS tk.toNatClampNeg) le pl bl) (foBase le sh)) (abBody (SS tk.toNatClampNeg) le pr sh) := rfl
        rw [hout]
        dsimp only
        rw [hab] at p1 p2 ⊢
        by_cases g : (lnL L ++ padL wi.toInt.toNat (fiZeros ze mi so) (!decide (mi = 0)) (headL (ffSg (SS tk.toNatClampNeg) le pl bl) (foBase le sh)) xs).length ≤ 600
        · rw [if_pos (by rw [p1]; exact decide_eq_true g), if_pos g]
          obtain ⟨c1, c2⟩ := p2 g
          exact ⟨rfl, rfl, c1, _, g, c2⟩
        · rw [if_neg (by rw [p1, decide_eq_false g]; decide), if_neg g]
          exact ⟨rfl, rfl, rfl, m, hm, hL⟩
    · rw [if_pos e2, if_pos e2]
      exact ⟨rfl, rfl, rfl, m, hm, hL⟩
  · rw [if_pos e1, if_pos e1]
    exact ⟨rfl, rfl, rfl, m, hm, hL⟩
/-! stars -/
theorem star_num {c : VS} (h : valOK c) (hs : vaStar c.1 c.2.2.1 = true) : -99 ≤ (vaWhole c.2.1 c.2.2.1).toInt32.toInt ∧ (vaWhole c.2.1 c.2.2.1).toInt32.toInt ≤ 99 := by
  obtain ⟨it, tl, tx, dg, a, b, mn, v, hV⟩ := h
  rcases hV.sort with ⟨e1, e2, A, B, d, hv⟩ | ⟨e1, e2, e3⟩
  · rw [e2] at hs
    have hs : (!decide (99 < c.2.2.1)) = true := hs
    have h99 : ¬ (99 : Int64) < c.2.2.1 := by simpa using hs
    rw [Int64.lt_iff_toInt_lt, hv.ah, show (99 : Int64).toInt = 99 from by decide] at h99
    have hn := hv.neg
    have ha := hv.ah
    unfold vaWhole
    split
    · rw [Int64.toInt_toInt32, Int.bmod_eq_of_le] <;> omega
    · rw [Int64.toInt_toInt32, Int.bmod_eq_of_le] <;> omega
  · rw [e2] at hs
    exact absurd (show false = true from hs) (by decide)
theorem st_rng {cnt : Int32} {SS : Nat → VS} {fw tk mi wi pr : Int32} (hv : tk < cnt → valOK (SS tk.toNatClampNeg)) (hw : 0 ≤ wi.toInt ∧ wi.toInt ≤ 99) (hp : -1 ≤ pr.toInt ∧ pr.toInt ≤ 99) :
    (0 ≤ (stTake cnt SS fw tk mi wi pr).2.2.2.1.toInt ∧ (stTake cnt SS fw tk mi wi pr).2.2.2.1.toInt ≤ 99) ∧ (-1 ≤ (stTake cnt SS fw tk mi wi pr).2.2.2.2.toInt ∧ (stTake cnt SS fw tk mi wi pr).2.2.2.2.toInt ≤ 99) := by
  unfold stTake
  by_cases e1 : tk < cnt
  · rw [if_neg (fun q : ¬ tk < cnt => q e1)]
    by_cases e2 : vaStar (SS tk.toNatClampNeg).1 (SS tk.toNatClampNeg).2.2.1 = true
    · rw [if_pos e2]
      have hn := star_num (hv e1) e2
      have hn : -99 ≤ (stNum SS tk).toInt ∧ (stNum SS tk).toInt ≤ 99 := hn
      generalize stNum SS tk = x at hn
      by_cases e3 : fw = 0
      · rw [if_pos e3]
        refine ⟨hw, ?_⟩
        show -1 ≤ (if 0 ≤ x then x else -1).toInt ∧ (if 0 ≤ x then x else -1).toInt ≤ 99
        split
        · rename_i q
          rw [k_le, l_0] at q
          omega
        · rw [show (-1 : Int32).toInt = -1 from by decide]; omega
      · rw [if_neg e3]
        refine ⟨?_, hp⟩
        show 0 ≤ (fiAbs x).toInt ∧ (fiAbs x).toInt ≤ 99
        unfold fiAbs
        split
        · rename_i q
          rw [k_le, l_0] at q
          omega
        · rename_i q
          rw [k_le, l_0] at q
          rw [k_sb (by rw [l_0]; omega) (by rw [l_0]; omega), l_0]
          omega
    · rw [if_neg e2]
      exact ⟨hw, hp⟩
  · rw [if_pos e1]
    exact ⟨hw, hp⟩
theorem stA_rng {cnt : Int32} {SS : Nat → VS} {sw sp tk mi wi pr : Int32} (hv : ∀ t : Int32, 0 ≤ t.toInt → t < cnt → valOK (SS t.toNatClampNeg)) (ht : 0 ≤ tk.toInt) (hw : 0 ≤ wi.toInt ∧ wi.toInt ≤ 99) (hp : -1 ≤ pr.toInt ∧ pr.toInt ≤ 99) :
    ((0 ≤ (stAB cnt SS sw sp tk mi wi pr).2.2.2.1.toInt ∧ (stAB cnt SS sw sp tk mi wi pr).2.2.2.1.toInt ≤ 99) ∧ (-1 ≤ (stAB cnt SS sw sp tk mi wi pr).2.2.2.2.toInt ∧ (stAB cnt SS sw sp tk mi wi pr).2.2.2.2.toInt ≤ 99)) ∧ 0 ≤ (stAB cnt SS sw sp tk mi wi pr).2.1.toInt := by
  have tkn : ∀ (fw tk mi wi pr : Int32), 0 ≤ tk.toInt → 0 ≤ (stTake cnt SS fw tk mi wi pr).2.1.toInt := by
    intro fw tk mi wi pr ht
    unfold stTake
    by_cases e1 : tk < cnt
    · rw [if_neg (fun q : ¬ tk < cnt => q e1)]
      have := tk_up e1 ht
      split
      · split <;> exact this
      · exact this
    · rw [if_pos e1]; exact ht
  have hA : ((0 ≤ (stA cnt SS sw tk mi wi pr).2.2.2.1.toInt ∧ (stA cnt SS sw tk mi wi pr).2.2.2.1.toInt ≤ 99) ∧ (-1 ≤ (stA cnt SS sw tk mi wi pr).2.2.2.2.toInt ∧ (stA cnt SS sw tk mi wi pr).2.2.2.2.toInt ≤ 99)) ∧ 0 ≤ (stA cnt SS sw tk mi wi pr).2.1.toInt := by
    unfold stA
    split
    · exact ⟨⟨hw, hp⟩, ht⟩
    · exact ⟨st_rng (hv tk ht) hw hp, tkn _ _ _ _ _ ht⟩
  unfold stAB stB
  generalize stA cnt SS sw tk mi wi pr = q at hA ⊢
  obtain ⟨⟨h1, h2⟩, h3⟩ := hA
  unfold stB1
  split
  · exact ⟨⟨h1, h2⟩, h3⟩
  · split
    · exact ⟨⟨h1, h2⟩, h3⟩
    · exact ⟨st_rng (hv _ h3) h1 h2, tkn _ _ _ _ _ h3⟩
