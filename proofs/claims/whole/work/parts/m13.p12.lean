/-! A VALUE on both sides. -/
abbrev VD (bel : Int32) (ah bh : Int64) (dg : Nat → Int32) (v : Int32) (a b mn : Int32) (A B : Nat) (d : Nat → Nat) : Prop := (a = nI A) ∧ (b = nI B) ∧ (DigOK dg v A B d) ∧ (ah.toInt = numOf d A) ∧ (bh.toInt = (numOf (fun i => d (A + i)) B * 10 ^ (12 - B) : Nat)) ∧ (bel = mn)
theorem VD.ea {bel : Int32} {ah bh : Int64} {dg : Nat → Int32} {v : Int32} {a b mn : Int32} {A B : Nat} {d : Nat → Nat} (h : VD bel ah bh dg v a b mn A B d) : a = nI A := h.1
theorem VD.eb {bel : Int32} {ah bh : Int64} {dg : Nat → Int32} {v : Int32} {a b mn : Int32} {A B : Nat} {d : Nat → Nat} (h : VD bel ah bh dg v a b mn A B d) : b = nI B := h.2.1
theorem VD.ok {bel : Int32} {ah bh : Int64} {dg : Nat → Int32} {v : Int32} {a b mn : Int32} {A B : Nat} {d : Nat → Nat} (h : VD bel ah bh dg v a b mn A B d) : DigOK dg v A B d := h.2.2.1
theorem VD.ah {bel : Int32} {ah bh : Int64} {dg : Nat → Int32} {v : Int32} {a b mn : Int32} {A B : Nat} {d : Nat → Nat} (h : VD bel ah bh dg v a b mn A B d) : ah.toInt = numOf d A := h.2.2.2.1
theorem VD.bh {bel : Int32} {ah bh : Int64} {dg : Nat → Int32} {v : Int32} {a b mn : Int32} {A B : Nat} {d : Nat → Nat} (h : VD bel ah bh dg v a b mn A B d) : bh.toInt = (numOf (fun i => d (A + i)) B * 10 ^ (12 - B) : Nat) := h.2.2.2.2.1
theorem VD.bel {bel : Int32} {ah bh : Int64} {dg : Nat → Int32} {v : Int32} {a b mn : Int32} {A B : Nat} {d : Nat → Nat} (h : VD bel ah bh dg v a b mn A B d) : bel = mn := h.2.2.2.2.2
theorem p18 : (10 : Nat) ^ 18 = 1000000000000000000 := by decide
theorem VD.lt {bel : Int32} {ah bh : Int64} {dg : Nat → Int32} {v a b mn : Int32} {A B : Nat} {d : Nat → Nat} (h : VD bel ah bh dg v a b mn A B d) : numOf d A < 1000000000000000000 := by
  have h1 := numOf_lt (d := d) A (fun i hi => h.ok.d10 i (by omega))
  have h2 : (10 : Nat) ^ A ≤ 10 ^ 18 := Nat.pow_le_pow_right (by omega) h.ok.a18
  rw [p18] at h2
  omega
theorem moWh_X {dg : Nat → Int32} {v : Int32} {A : Nat} {d : Nat → Nat} (hA : A ≤ 18) (hd : ∀ i, i < A → d i < 10 ∧ dg (30 * v + nI i).toNatClampNeg = nI (d i)) : ∀ (k i : Nat) (x : Int64), A - i < k → i ≤ A → x.toInt = numOf d i → (moWh dg (nI A) v k (nI i) x).toInt = numOf d A := by
  intro k
  induction k with
  | zero => intro i x h; omega
  | succ k ih =>
    intro i x h hi hx
    rw [moWh]
    split
    · rename_i h1
      rw [j_le (by omega) (by omega)] at h1
      rw [hx, show i = A by omega]
    · rename_i h1
      rw [j_le (by omega) (by omega)] at h1
      obtain ⟨h10, he⟩ := hd i (by omega)
      rw [he, j_one]
      refine ih (i + 1) _ (by omega) (by omega) ?_
      have hlt := numOf_lt (d := d) i (fun j hj => (hd j (by omega)).1)
      have hp : (10 : Nat) ^ i ≤ 10 ^ 17 := Nat.pow_le_pow_right (by omega) (by omega)
      rw [show (10 : Nat) ^ 17 = 100000000000000000 from by decide] at hp
      have e1 : (10 * x).toInt = 10 * numOf d i := by
        rw [Int64.toInt_mul, hx, show (10 : Int64).toInt = 10 from by decide, Int.bmod_eq_of_le] <;> omega
      have e2 : (nI (d i)).toInt64.toInt = d i := by rw [Int32.toInt_toInt64, nI_toInt (by omega)]
      rw [Int64.toInt_add, e1, e2, numOf, Int.bmod_eq_of_le] <;> omega
theorem VD.whole {bel : Int32} {ah bh : Int64} {dg : Nat → Int32} {v a b mn : Int32} {A B : Nat} {d : Nat → Nat} (h : VD bel ah bh dg v a b mn A B d) : moWhole dg a v mn = vaWhole bel ah := by
  have h1 : moWh dg a v 19 0 0 = ah := by
    refine Int64.toInt_inj.mp ?_
    rw [h.ea, h.ah]
    have := h.ok.a18
    exact moWh_X (dg := dg) (v := v) h.ok.a18 (fun i hi => ⟨h.ok.d10 i (by omega), h.ok.at' i (by omega)⟩) 19 0 0 (by omega) (by omega) (show (0 : Int64).toInt = ((0 : Nat) : Int) from by decide)
  unfold moWhole vaWhole
  rw [h1, h.bel]
theorem VD.neg {bel : Int32} {ah bh : Int64} {dg : Nat → Int32} {v a b mn : Int32} {A B : Nat} {d : Nat → Nat} (h : VD bel ah bh dg v a b mn A B d) : (-ah).toInt = -(numOf d A : Int) := by
  have := h.lt
  have h2 := h.ah
  rw [Int64.toInt_neg, h2, Int.bmod_eq_of_le] <;> omega
theorem VD.abs {bel : Int32} {ah bh : Int64} {dg : Nat → Int32} {v a b mn : Int32} {A B : Nat} {d : Nat → Nat} (h : VD bel ah bh dg v a b mn A B d) : (pwAbs (vaWhole bel ah)).toInt = numOf d A := by
  have hlt := h.lt
  have hn := h.neg
  have ha := h.ah
  have z : (0 : Int64).toInt = 0 := by decide
  unfold pwAbs vaWhole
  by_cases e : bel = 0
  · rw [if_pos e, if_pos (by rw [Int64.le_iff_toInt_le, z]; omega)]; exact ha
  · rw [if_neg e]
    by_cases g : (0 : Int64) ≤ -ah
    · rw [if_pos g]
      rw [Int64.le_iff_toInt_le, z] at g
      omega
    · rw [if_neg g, Int64.toInt_neg, hn, Int.bmod_eq_of_le] <;> omega
/-- a value of the class and one of the reference are the same -/
abbrev VR (c : VS) (it tl : Int32) (tx dg : Nat → Int32) (a b mn v : Int32) : Prop := ((it = 0 ∧ c.1 = 1 ∧ ∃ A B d, VD c.2.1 c.2.2.1 c.2.2.2.1 dg v a b mn A B d) ∨ (it = 1 ∧ c.1 = 0 ∧ tl = c.2.2.2.2.2)) ∧ (∃ n, n ≤ 60 ∧ c.2.2.2.2.2 = nI n ∧ (∀ x ∈ lnL (c.2.2.2.2.1, nI n), chr16 x = x) ∧ ∀ f, lnL (mpAll it tx tl dg a b v mn f) = lnL (c.2.2.2.2.1, nI n) ∧ Len (mpAll it tx tl dg a b v mn f) n)
theorem VR.sort {c : VS} {it tl : Int32} {tx dg : Nat → Int32} {a b mn v : Int32} (h : VR c it tl tx dg a b mn v) : (it = 0 ∧ c.1 = 1 ∧ ∃ A B d, VD c.2.1 c.2.2.1 c.2.2.2.1 dg v a b mn A B d) ∨ (it = 1 ∧ c.1 = 0 ∧ tl = c.2.2.2.2.2) := h.1
theorem VR.plain {c : VS} {it tl : Int32} {tx dg : Nat → Int32} {a b mn v : Int32} (h : VR c it tl tx dg a b mn v) : ∃ n, n ≤ 60 ∧ c.2.2.2.2.2 = nI n ∧ (∀ x ∈ lnL (c.2.2.2.2.1, nI n), chr16 x = x) ∧ ∀ f, lnL (mpAll it tx tl dg a b v mn f) = lnL (c.2.2.2.2.1, nI n) ∧ Len (mpAll it tx tl dg a b v mn f) n := h.2
def isWords (le : Int32) : Prop := le = 115 ∨ le = 113
def isFloat (le : Int32) : Prop := le = 102 ∨ le = 101 ∨ le = 69 ∨ le = 103 ∨ le = 71
def isWhole (le : Int32) : Prop := le = 100 ∨ le = 120 ∨ le = 88 ∨ le = 111 ∨ le = 98
/-- what the reference lays into its body for a letter -/
def refBody (it tl : Int32) (tx dg : Nat → Int32) (a b mn v le pr sh : Int32) (xs : List Int32) : Prop :=
  (isWords le → ∀ (f : Nat → Int32) (B : LnS), Len B 0 → lnL (pwAll (mpAll it tx tl dg a b v mn f).1 (mpAll it tx tl dg a b v mn f).2 le pr B) = xs ∧ Len (pwAll (mpAll it tx tl dg a b v mn f).1 (mpAll it tx tl dg a b v mn f).2 le pr B) xs.length) ∧
  (le = 99 → xs = [if it = 0 then (moWhole dg a v mn).toInt32 else tx (60 * v).toNatClampNeg]) ∧
  (isFloat le → ∀ (row : Nat → Int32) (B : LnS), Len B 0 → lnL (pnAll dg a b v row pr sh le B) = xs ∧ Len (pnAll dg a b v row pr sh le B) xs.length) ∧
  (isWhole le → pwOK (pwB le).toInt64 64 (pwAbs (moWhole dg a v mn)) = true ∧ ∀ (rv : Nat → Int32) (B : LnS), Len B 0 → lnL (pwBody (pwNum le (moWhole dg a v mn) rv) pr B) = xs ∧ Len (pwBody (pwNum le (moWhole dg a v mn) rv) pr B) xs.length)
theorem chr_mark {x : Int64} (h1 : ¬ x < 32) (h2 : ¬ 126 < x) : chr16 x.toInt32 = x.toInt32 := by
  rw [Int64.lt_iff_toInt_lt, show (32 : Int64).toInt = 32 from by decide] at h1
  rw [Int64.lt_iff_toInt_lt, show (126 : Int64).toInt = 126 from by decide] at h2
  have e : x.toInt32.toInt = x.toInt := by rw [Int64.toInt_toInt32, Int.bmod_eq_of_le] <;> omega
  rw [j_of (x := x.toInt32) (by omega)]
  exact chr16_n (by omega)
theorem one_C {x : Int32} (hx : chr16 x = x) (f : Nat → Int32) : CLn (lnAdd 160 (f, 0) x) [x] := by
  obtain ⟨a, b⟩ := ln_ls (room := 160) (L := (f, (0 : Int32))) (c := x) (lnOK_0 160 (by omega))
  refine ⟨?_, b⟩
  rw [a, hx, lnL_zero]
  rfl
theorem mpTx_at {tx : Nat → Int32} {v : Int32} {n : Nat} (hn : n ≤ 60) (f : Nat → Int32) : lnL (mpTx tx v (nI n) 61 0 (f, 0)) = (List.range n).map fun j => tx (60 * v + nI j).toNatClampNeg := by
  rw [mpTx_g]
  obtain ⟨p, q⟩ := gy_ls (fun i => tx (60 * v + i).toNatClampNeg) (nI n) 61 0 (f, 0) (by rw [nI_toInt (by omega)]; omega) (by omega) (by show (0 : Int) ≤ (0 : Int32).toInt; rw [l_0]; omega) (by rw [nI_toInt (by omega)]; show (0 : Int32).toInt + _ < _; rw [l_0]; omega)
  refine p.trans ?_
  rw [lnL_zero, List.nil_append, nI_toInt (by omega), show ((n : Int) - (0 : Nat)).toNat = n by omega, ← List.range_eq_range']
theorem fo_69 {α : Type} (e g x b c d f o q s g2 x2 e2 : α) : foPick 69 e g x b c d f o q s g2 x2 e2 = e := rfl
theorem fo_71 {α : Type} (e g x b c d f o q s g2 x2 e2 : α) : foPick 71 e g x b c d f o q s g2 x2 e2 = g := rfl
theorem fo_88 {α : Type} (e g x b c d f o q s g2 x2 e2 : α) : foPick 88 e g x b c d f o q s g2 x2 e2 = x := rfl
theorem fo_98 {α : Type} (e g x b c d f o q s g2 x2 e2 : α) : foPick 98 e g x b c d f o q s g2 x2 e2 = b := rfl
theorem fo_99 {α : Type} (e g x b c d f o q s g2 x2 e2 : α) : foPick 99 e g x b c d f o q s g2 x2 e2 = c := rfl
theorem fo_100 {α : Type} (e g x b c d f o q s g2 x2 e2 : α) : foPick 100 e g x b c d f o q s g2 x2 e2 = d := rfl
theorem fo_101 {α : Type} (e g x b c d f o q s g2 x2 e2 : α) : foPick 101 e g x b c d f o q s g2 x2 e2 = e2 := rfl
theorem fo_102 {α : Type} (e g x b c d f o q s g2 x2 e2 : α) : foPick 102 e g x b c d f o q s g2 x2 e2 = f := rfl
theorem fo_103 {α : Type} (e g x b c d f o q s g2 x2 e2 : α) : foPick 103 e g x b c d f o q s g2 x2 e2 = g2 := rfl
theorem fo_111 {α : Type} (e g x b c d f o q s g2 x2 e2 : α) : foPick 111 e g x b c d f o q s g2 x2 e2 = o := rfl
theorem fo_113 {α : Type} (e g x b c d f o q s g2 x2 e2 : α) : foPick 113 e g x b c d f o q s g2 x2 e2 = q := rfl
theorem fo_120 {α : Type} (e g x b c d f o q s g2 x2 e2 : α) : foPick 120 e g x b c d f o q s g2 x2 e2 = x2 := rfl
theorem fo_115 {α : Type} (e g x b c d f o q s g2 x2 e2 : α) : foPick 115 e g x b c d f o q s g2 x2 e2 = s := rfl
theorem body_both {c : VS} {it tl : Int32} {tx dg : Nat → Int32} {a b mn v : Int32} (h : VR c it tl tx dg a b mn v) {le pr sh : Int32} (h0 : -1 ≤ pr.toInt) (h1 : pr.toInt ≤ 99) (hle : isWords le ∨ le = 99 ∨ isFloat le ∨ isWhole le) (ht : ¬ ffTk c le (soOf le) = 0) :
    ∃ xs : List Int32, xs.length ≤ 159 ∧ (∀ row lo f, CLn (ffBd c le pr sh row lo f) xs) ∧ refBody it tl tx dg a b mn v le pr sh xs := by
  obtain ⟨dec, bel, ah, bh, fV, nV⟩ := c
  obtain ⟨n, hn, en, hch, hpl⟩ := h.plain
  obtain rfl : nV = nI n := en
  have hso := h.sort
  dsimp only at hso hch hpl
  rcases hle with w | w | w | w
  · -- words
    have hpm : ∀ f, (mpAll it tx tl dg a b v mn f).2 = nI n := fun f => (hpl f).2.1
    have hn1 : ¬ le = 99 ∧ ¬ isFloat le ∧ ¬ isWhole le := by
      rcases w with rfl | rfl <;> (unfold isFloat isWhole; decide)
    have hll : ((lnL (fV, nI n)).take (pwNn pr n)).length ≤ 60 := by
      rw [List.length_take, lnL_length]
      show min _ (nI n).toNatClampNeg ≤ 60
      rw [j_nat (by omega)]
      omega
    have hR : ∀ (f : Nat → Int32) (B : LnS), Len B 0 → (lnL (pwAll (mpAll it tx tl dg a b v mn f).1 (mpAll it tx tl dg a b v mn f).2 le pr B) = if le = 113 then quoL ((lnL (fV, nI n)).take (pwNn pr n)) else (lnL (fV, nI n)).take (pwNn pr n)) ∧ ∃ m, Len (pwAll (mpAll it tx tl dg a b v mn f).1 (mpAll it tx tl dg a b v mn f).2 le pr B) m ∧ m ≤ 130 := by
      intro f B hB
      have h2 := words_R (pl := (mpAll it tx tl dg a b v mn f).1) hn (pr := pr) (le := le) h0 hB
      rw [hpm f]
      have h3 : lnL ((mpAll it tx tl dg a b v mn f).1, nI n) = lnL (fV, nI n) := by
        rw [← (hpl f).1, ← hpm f]
      rw [h3] at h2
      exact h2
    have hR2 : ∀ xs, xs = (if le = 113 then quoL ((lnL (fV, nI n)).take (pwNn pr n)) else (lnL (fV, nI n)).take (pwNn pr n)) → refBody it tl tx dg a b mn v le pr sh xs := by
      intro xs hxs
      refine ⟨fun _ f B hB => ?_, fun q => absurd q hn1.1, fun q => absurd q hn1.2.1, fun q => absurd q hn1.2.2⟩
      obtain ⟨p, m, q, _⟩ := hR f B hB
      rw [← hxs] at p
      refine ⟨p, ?_⟩
      have := q.list
      rw [p] at this
      rw [this]
      exact q
    rcases w with rfl | rfl
    · exact ⟨(lnL (fV, nI n)).take (pwNn pr n), by omega, fun row lo f => by unfold ffBd foLine; rw [fo_115]; exact words_C hn hch h0 f, hR2 _ (by rw [if_neg (by decide)])⟩
    · refine ⟨quoL ((lnL (fV, nI n)).take (pwNn pr n)), ?_, fun row lo f => by unfold ffBd foLine; rw [fo_113]; exact quote_C hn hch h0 f, hR2 _ (by rw [if_pos rfl])⟩
      have := quoL_len ((lnL (fV, nI n)).take (pwNn pr n))
      omega
  · -- one character
    subst w
    have hn1 : ¬ isWords 99 ∧ ¬ isFloat 99 ∧ ¬ isWhole 99 := by unfold isWords isFloat isWhole; decide
    have hmk : vaMark dec bel ah (nI n) = true := by
      have : ffTk (dec, bel, ah, bh, fV, nI n) 99 (soOf 99) = k_b (vaMark dec bel ah (nI n)) := rfl
      rw [this] at ht
      cases hh : vaMark dec bel ah (nI n)
      · rw [hh] at ht; exact absurd rfl ht
      · rfl
    have hbd : ∀ row lo f, ffBd (dec, bel, ah, bh, fV, nI n) 99 pr sh row lo f = lnAdd 160 (f, 0) (vaChar dec bel ah fV (nI n)) := fun row lo f => by unfold ffBd foLine; rw [fo_99]
    have hchr : chr16 (vaChar dec bel ah fV (nI n)) = vaChar dec bel ah fV (nI n) ∧ vaChar dec bel ah fV (nI n) = (if it = 0 then (moWhole dg a v mn).toInt32 else tx (60 * v).toNatClampNeg) := by
      rcases hso with ⟨e1, e2, A, B, d, hv⟩ | ⟨e1, e2, e3⟩
      · subst e2
        have hw : vaChar 1 bel ah fV (nI n) = (vaWhole bel ah).toInt32 := rfl
        have hm2 : vaMark 1 bel ah (nI n) = if vaWhole bel ah < 32 then false else !decide (126 < vaWhole bel ah) := rfl
        rw [hm2] at hmk
        rw [hw, if_pos e1, hv.whole]
        refine ⟨?_, rfl⟩
        split at hmk
        · exact absurd hmk (by decide)
        · rename_i q
          refine chr_mark q ?_
          simpa using hmk
      · subst e2
        have hm2 : vaMark 0 bel ah (nI n) = decide (nI n = 1) := rfl
        rw [hm2] at hmk
        have h1n := of_decide_eq_true hmk
        rw [n_1, j_inj (by omega) (by omega)] at h1n
        subst h1n
        have hw : vaChar 0 bel ah fV (nI 1) = fV 0 := by
          show lnAt fV (nI 1) 0 = fV 0
          exact lnAt_n (i := 0) (by omega) (by omega)
        have hone : lnL (fV, nI 1) = [fV 0] := rfl
        rw [hw, if_neg (by rw [e1]; decide)]
        refine ⟨hch _ (by rw [hone]; exact List.mem_singleton_self _), ?_⟩
        have h2 := (hpl (fun _ => 0)).1
        have h3 : mpAll it tx tl dg a b v mn (fun _ => 0) = mpTx tx v (nI 1) 61 0 ((fun _ => 0), 0) := by
          unfold mpAll
          rw [if_neg (by rw [e1]; decide), e3]
        rw [h3, mpTx_at (by omega), hone] at h2
        have h4 : tx (60 * v + nI 0).toNatClampNeg = fV 0 := by
          have := List.head_eq_of_cons_eq h2
          exact this
        rw [← h4, show nI 0 = 0 from rfl, Int32.add_zero]
    refine ⟨[vaChar dec bel ah fV (nI n)], by simp, fun row lo f => ?_, fun q => absurd q hn1.1, fun _ => by rw [hchr.2], fun q => absurd q hn1.2.1, fun q => absurd q hn1.2.2⟩
    rw [hbd]
    exact one_C hchr.1 f
  · -- decimals with places
    have hn1 : ¬ isWords le ∧ ¬ le = 99 ∧ ¬ isWhole le ∧ soOf le = 2 := by
      rcases w with rfl | rfl | rfl | rfl | rfl <;> (unfold isWords isWhole; decide)
    rcases hso with ⟨e1, e2, A, B, d, hv⟩ | ⟨e1, e2, e3⟩
    · obtain ⟨xs, x1, x2, x3⟩ := num_both hv.ok (numC_X hv.ok.a1 hv.ok.a18 hv.ok.b12 hv.ok.d10 hv.ah hv.bh) (sh := sh) h0 h1 w
      refine ⟨xs, by omega, fun row lo f => ?_, fun q => absurd q hn1.1, fun q => absurd q hn1.2.1, fun _ row B' hB => ?_, fun q => absurd q hn1.2.2.1⟩
      · have : ffBd (dec, bel, ah, bh, fV, nI n) le pr sh row lo f = numC le bh ah pr sh row f := by
          unfold ffBd foLine numC
          rcases w with rfl | rfl | rfl | rfl | rfl
          · rw [fo_102, if_pos rfl]
          · rw [fo_101, if_neg (by decide), if_pos (by decide)]
          · rw [fo_69, if_neg (by decide), if_pos (by decide)]
          · rw [fo_103, if_neg (by decide), if_neg (by decide)]
          · rw [fo_71, if_neg (by decide), if_neg (by decide)]
        rw [this]
        exact x2 row f
      · rw [hv.ea, hv.eb]
        exact x3 row B' hB
    · exfalso
      apply ht
      subst e2
      rw [hn1.2.2.2]
      rfl
  · -- whole numbers
    have hn1 : ¬ isWords le ∧ ¬ le = 99 ∧ ¬ isFloat le ∧ soOf le = 1 := by
      rcases w with rfl | rfl | rfl | rfl | rfl <;> (unfold isWords isFloat; decide)
    rcases hso with ⟨e1, e2, A, B, d, hv⟩ | ⟨e1, e2, e3⟩
    · have hlt := hv.lt
      have h60 : numOf d A < 2 ^ 60 := Nat.lt_of_lt_of_le hlt (by decide)
      obtain ⟨r, hr1, hr2, hr3, hr4⟩ : ∃ r : Nat, (pwB le).toInt = r ∧ 2 ≤ r ∧ r ≤ 16 ∧ ∀ row lo f, ffBd (dec, bel, ah, bh, fV, nI n) le pr sh row lo f = whLine ah (pwB le) le pr lo (f, 0) := by
        rcases w with rfl | rfl | rfl | rfl | rfl
        · exact ⟨10, by decide, by decide, by decide, fun _ _ _ => by unfold ffBd foLine; rw [fo_100, show pwB 100 = 10 from by decide]⟩
        · exact ⟨16, by decide, by decide, by decide, fun _ _ _ => by unfold ffBd foLine; rw [fo_120, show pwB 120 = 16 from by decide]⟩
        · exact ⟨16, by decide, by decide, by decide, fun _ _ _ => by unfold ffBd foLine; rw [fo_88, show pwB 88 = 16 from by decide]⟩
        · exact ⟨8, by decide, by decide, by decide, fun _ _ _ => by unfold ffBd foLine; rw [fo_111, show pwB 111 = 8 from by decide]⟩
        · exact ⟨2, by decide, by decide, by decide, fun _ _ _ => by unfold ffBd foLine; rw [fo_98, show pwB 98 = 2 from by decide]⟩
      have hC := fun lo f => whLine_X (le := le) hv.ah h60 hr1 hr2 hr3 h0 h1 lo f
      have hR := fun rv (B' : LnS) (hB : Len B' 0) => pwBody_X (le := le) hv.abs h60 hr1 hr2 hr3 h0 h1 rv hB
      refine ⟨whL le (ldg r 60 (numOf d A)) pr, (hC (fun _ => 0) (fun _ => 0)).2, fun row lo f => ?_, fun q => absurd q hn1.1, fun q => absurd q hn1.2.1, fun q => absurd q hn1.2.2.1, fun _ => ⟨?_, fun rv B' hB => ?_⟩⟩
      · rw [hr4]
        exact (hC lo f).1
      · rw [hv.whole]
        exact (hR (fun _ => 0) ((fun _ => 0), 0) ⟨rfl, by omega⟩).2.2
      · rw [hv.whole]
        obtain ⟨p, q, _⟩ := hR rv B' hB
        exact ⟨p, q⟩
    · exfalso
      apply ht
      subst e2
      rw [hn1.2.2.2]
      rfl
