/-! THE REFERENCE's fillField: its pieces. -/
abbrev refVals (SS : Nat → VS) (cnt : Int32) (it tl tx dg ar br mn : Nat → Int32) : Prop := ∀ j : Nat, (j : Int) < cnt.toInt → VR (SS j) (it j) (tl j) tx dg (ar j) (br j) (mn j) (nI j)
theorem star_same {c : VS} {it tl : Int32} {tx dg : Nat → Int32} {a b mn v : Int32} (h : VR c it tl tx dg a b mn v) : tsGood it (moWhole dg a v mn) = vaStar c.1 c.2.2.1 := by
  rcases h.sort with ⟨e1, e2, A, B, d, hv⟩ | ⟨e1, e2, e3⟩
  · rw [e1, e2, hv.whole]
    have hn := hv.neg
    have ha := hv.ah
    unfold tsGood vaStar vaWhole
    rw [if_neg (fun q : ¬ (0 : Int32) = 0 => q rfl), if_neg (by decide : ¬ (1 : Int32) = 0)]
    have t99 : (99 : Int64).toInt = 99 := by decide
    have m99 : (-99 : Int64).toInt = -99 := by decide
    by_cases e : c.2.1 = 0
    · rw [if_pos e, if_neg (by rw [Int64.lt_iff_toInt_lt, ha, m99]; omega)]
    · rw [if_neg e]
      by_cases g : -c.2.2.1 < -99
      · rw [if_pos g]
        rw [Int64.lt_iff_toInt_lt, hn, m99] at g
        rw [decide_eq_true (by rw [Int64.lt_iff_toInt_lt, ha, t99]; omega)]
        rfl
      · rw [if_neg g]
        rw [Int64.lt_iff_toInt_lt, hn, m99] at g
        rw [decide_eq_false (by rw [Int64.lt_iff_toInt_lt, hn, t99]; omega), decide_eq_false (by rw [Int64.lt_iff_toInt_lt, ha, t99]; omega)]
  · rw [e1, e2]
    rfl
theorem tk_nI {tk : Int32} (h : 0 ≤ tk.toInt) : nI tk.toNatClampNeg = tk := (j_of h).symm
/-- a star: the two sides agree -/
theorem ts_both {SS : Nat → VS} {cnt tk bg ft fp sr : Int32} {it tl tx dg ar br mn : Nat → Int32} (hV : refVals SS cnt it tl tx dg ar br mn) (h0 : 0 ≤ tk.toInt) (h1 : tk.toInt ≤ cnt.toInt) {r ft2 fp2 sr2 tk2 : Int32}
    (h : (r, ft2, fp2, sr2, tk2) = tsAll tk cnt (it tk.toNatClampNeg) bg ft fp sr (moWhole dg (ar tk.toNatClampNeg) tk (mn tk.toNatClampNeg))) (fw mi wi pr : Int32) :
    (¬ r = 0 → ft2 = ft ∧ fp2 = fp ∧ tk2 = tk + 1 ∧ sr2 = stNum SS tk ∧ tk.toInt < cnt.toInt ∧ stTake cnt SS fw tk mi wi pr = (if fw = 0 then (0, tk + 1, mi, wi, if 0 ≤ stNum SS tk then stNum SS tk else -1) else (0, tk + 1, if 0 ≤ stNum SS tk then mi else 1, fiAbs (stNum SS tk), pr))) ∧
    (r = 0 → fp2 = bg ∧ ft2 = (stTake cnt SS fw tk mi wi pr).1 ∧ ¬ (stTake cnt SS fw tk mi wi pr).1 = 0) := by
  by_cases e : tk = cnt
  · rw [tsAll, if_neg (fun q : ¬ tk = cnt => q e)] at h
    obtain ⟨rfl, rfl, rfl, rfl, rfl⟩ : r = 0 ∧ ft2 = 2 ∧ fp2 = bg ∧ sr2 = sr ∧ tk2 = tk := by
      simp only [Prod.mk.injEq] at h; exact h
    refine ⟨fun q => absurd rfl q, fun _ => ?_⟩
    have : stTake cnt SS fw tk2 mi wi pr = (2, tk2, mi, wi, pr) := by
      unfold stTake
      rw [if_pos (by rw [e, k_lt]; omega)]
    rw [this]
    exact ⟨rfl, rfl, (by decide : ¬ (2 : Int32) = 0)⟩
  · rw [tsAll, if_pos e] at h
    have hlt : tk.toInt < cnt.toInt := by
      have : ¬ tk.toInt = cnt.toInt := fun q => e (Int32.toInt_inj.mp q)
      omega
    have hv := hV tk.toNatClampNeg (by show ((tk.toInt.toNat : Nat) : Int) < _; omega)
    rw [tk_nI h0] at hv
    have hs := star_same hv
    have hnum : (moWhole dg (ar tk.toNatClampNeg) tk (mn tk.toNatClampNeg)).toInt32 = stNum SS tk ∨ ¬ vaStar (SS tk.toNatClampNeg).1 (SS tk.toNatClampNeg).2.2.1 = true := by
      rcases hv.sort with ⟨e1, e2, A, B, d, hd⟩ | ⟨e1, e2, e3⟩
      · left; unfold stNum; rw [hd.whole]
      · right; rw [e2]; exact fun q => absurd (show false = true from q) (by decide)
    by_cases g : vaStar (SS tk.toNatClampNeg).1 (SS tk.toNatClampNeg).2.2.1 = true
    · rw [if_pos (by rw [hs]; exact g)] at h
      simp only [Prod.mk.injEq] at h
      obtain ⟨rfl, rfl, rfl, h4, rfl⟩ := h
      refine ⟨fun _ => ⟨rfl, rfl, rfl, ?_, hlt, ?_⟩, fun q => absurd q (by decide)⟩
      · rw [h4]; exact hnum.resolve_right (fun q => q g)
      · unfold stTake
        rw [if_neg (fun q : ¬ tk < cnt => q (by rw [k_lt]; exact hlt)), if_pos g]
    · rw [if_neg (by rw [hs]; exact g)] at h
      simp only [Prod.mk.injEq] at h
      obtain ⟨rfl, rfl, rfl, rfl, rfl⟩ := h
      refine ⟨fun q => absurd rfl q, fun _ => ?_⟩
      have : stTake cnt SS fw tk2 mi wi pr = (3, tk2 + 1, mi, wi, pr) := by
        unfold stTake
        rw [if_neg (fun q : ¬ tk2 < cnt => q (by rw [k_lt]; exact hlt)), if_neg g]
      rw [this]
      exact ⟨rfl, rfl, (by decide : ¬ (3 : Int32) = 0)⟩
/-- whether a field takes a value -/
theorem takes_C {c : VS} {it tl : Int32} {tx dg : Nat → Int32} {a b mn v : Int32} (h : VR c it tl tx dg a b mn v) : ffTk c 99 (soOf 99) = k_b (if it = 0 then (if moWhole dg a v mn < 32 then false else !decide (126 < moWhole dg a v mn)) else decide (tl = 1)) := by
  have e : ffTk c 99 (soOf 99) = k_b (vaMark c.1 c.2.1 c.2.2.1 c.2.2.2.2.2) := rfl
  rw [e]
  refine congrArg k_b ?_
  unfold vaMark
  rcases h.sort with ⟨e1, e2, A, B, d, hv⟩ | ⟨e1, e2, e3⟩
  · rw [e1, e2, if_neg (by decide), if_pos rfl, hv.whole]
  · rw [e1, e2, if_pos rfl, if_neg (by decide), e3]
theorem takes_O {c : VS} {it tl : Int32} {tx dg : Nat → Int32} {a b mn v le : Int32} (h : VR c it tl tx dg a b mn v) (h3 : ¬ soOf le = 3) : ffTk c le (soOf le) = (if it = 0 then 1 else 0) := by
  unfold ffTk fiTakes
  rw [if_neg h3]
  rcases h.sort with ⟨e1, e2, A, B, d, hv⟩ | ⟨e1, e2, e3⟩
  · rw [e1, e2, if_pos rfl]
  · rw [e1, e2, if_neg (by decide)]
theorem so_3 {le : Int32} (hs : ¬ soOf le = 0) : soOf le = 3 ↔ (isWords le ∨ le = 99) := by
  rcases so_letter hs with w | w | w | w
  · have : soOf le = 3 := by rcases w with rfl | rfl <;> decide
    exact ⟨fun _ => Or.inl w, fun _ => this⟩
  · subst w; exact ⟨fun _ => Or.inr rfl, fun _ => by decide⟩
  · have : soOf le = 2 ∧ ¬ (isWords le ∨ le = 99) := by unfold isWords; rcases w with rfl | rfl | rfl | rfl | rfl <;> decide
    rw [this.1]
    exact ⟨fun q => absurd q (by decide), fun q => absurd q this.2⟩
  · have : soOf le = 1 ∧ ¬ (isWords le ∨ le = 99) := by unfold isWords; rcases w with rfl | rfl | rfl | rfl | rfl <;> decide
    rw [this.1]
    exact ⟨fun q => absurd q (by decide), fun q => absurd q this.2⟩
theorem takes_W {c : VS} {le : Int32} (h : isWords le) : ffTk c le (soOf le) = 1 := by
  unfold ffTk fiTakes
  rcases h with rfl | rfl <;> rfl
theorem zeros_same {ze mi le wd : Int32} (hs : ¬ soOf le = 0) (hw : wd = k_b (decide (soOf le = 3))) : (!decide (ppZ ze mi wd = 0)) = fiZeros ze mi (soOf le) := by
  unfold ppZ fiZeros
  by_cases e1 : ze = 0
  · rw [if_pos e1, if_pos e1]; rfl
  · rw [if_neg e1, if_neg e1]
    by_cases e2 : mi = 0
    · rw [if_neg (fun q : ¬ mi = 0 => q e2), if_neg (fun q : ¬ mi = 0 => q e2)]
      by_cases e3 : soOf le = 3
      · rw [if_pos (by rw [hw, decide_eq_true e3]; decide), decide_eq_true e3]; rfl
      · rw [if_neg (by rw [hw, decide_eq_false e3]; decide), decide_eq_false e3]; rfl
    · rw [if_pos e2, if_pos e2]; rfl
/-- the head on the reference's side -/
theorem sign_X {b p k : Int32} {L : LnS} (hL : Len L 0) : lnL (moSign b p k L) = headL (fiSign b p k) (-1) ∧ Len (moSign b p k L) (headL (fiSign b p k) (-1)).length := by
  unfold moSign headL
  by_cases e : fiSign b p k = -1
  · rw [if_pos e, if_pos e, if_pos rfl]
    exact ⟨Len0 hL, hL⟩
  · rw [if_neg e, if_neg e, if_pos rfl]
    obtain ⟨q1, q2⟩ := hL.ly (c := fiSign b p k) (by omega)
    rw [Len0 hL] at q1
    exact ⟨q1, q2⟩
theorem head_X {b p k sh base le : Int32} {L : LnS} (hL : Len L 0) (hle : ¬ le = -1) : lnL (pwHead sh base le (moSign b p k L)) = headL (fiSign b p k) (whBase sh base le (-1)) ∧ Len (pwHead sh base le (moSign b p k L)) (headL (fiSign b p k) (whBase sh base le (-1))).length := by
  obtain ⟨q1, q2⟩ := sign_X (b := b) (p := p) (k := k) hL
  unfold pwHead whBase
  by_cases e : sh = 0
  · rw [if_pos e, if_pos e]; exact ⟨q1, q2⟩
  · rw [if_neg e, if_neg e]
    by_cases g : base = 10
    · rw [if_pos g, if_pos g]; exact ⟨q1, q2⟩
    · rw [if_neg g, if_neg g]
      generalize moSign b p k L = M at q1 q2 ⊢
      have hl3 := headL_len (fiSign b p k) (-1)
      obtain ⟨r1, r2⟩ := q2.ly (c := 48) (by omega)
      obtain ⟨t1, t2⟩ := r2.ly (c := le) (by omega)
      have e2 : (upd (upd M.1 M.2.toNatClampNeg 48) (M.2 + 1).toNatClampNeg le, M.2 + 2) = lyAdd (lyAdd M 48) le := by
        unfold lyAdd
        dsimp only
        rw [Int32.add_assoc]
        rfl
      rw [e2]
      have hh : headL (fiSign b p k) le = headL (fiSign b p k) (-1) ++ [48, le] := by
        unfold headL
        rw [if_neg hle, if_pos rfl, List.append_nil]
      rw [hh]
      refine ⟨?_, ?_⟩
      · rw [t1, r1, q1, List.append_assoc]; rfl
      · rw [List.length_append]; exact t2
/-- the end of it: what putPadded says -/
theorem pad_end {SS : Nat → VS} {cnt r0 tk mi wi pr le ze pl bl sh : Int32} {L : LnS} {n : Nat} (hL : Len L n) (hn : n ≤ 600) (hr0 : r0 = 0) (hlt : tk < cnt) (htk : ¬ ffTk (SS tk.toNatClampNeg) le (soOf le) = 0) (hs : ¬ soOf le = 0)
    {hd bd : Nat → Int32} {hl bl2 : Int32} (hh : lnL (hd, hl) = headL (ffSg (SS tk.toNatClampNeg) le pl bl) (foBase le sh)) (hh2 : Len (hd, hl) (headL (ffSg (SS tk.toNatClampNeg) le pl bl) (foBase le sh)).length) (hb : lnL (bd, bl2) = abBody (SS tk.toNatClampNeg) le pr sh) (hb2 : Len (bd, bl2) (abBody (SS tk.toNatClampNeg) le pr sh).length) (hbl : (abBody (SS tk.toNatClampNeg) le pr sh).length ≤ 200)
    (hw0 : 0 ≤ wi.toInt) (hw1 : wi.toInt ≤ 99) {wd bg ft fp r ft2 fp2 n2 : Int32} {f2 : Nat → Int32} (hwd : wd = k_b (decide (soOf le = 3))) (h : (r, ft2, fp2, (f2, n2)) = ppAll (wi - hl - bl2) mi (ppZ ze mi wd) hd hl bd bl2 bg (1, ft, fp, L)) :
    ((abAll cnt SS r0 tk mi wi pr le (soOf le) ze pl bl sh (lnL L)).1 = 0 → r = 1 ∧ tk + 1 = (abAll cnt SS r0 tk mi wi pr le (soOf le) ze pl bl sh (lnL L)).2.1 ∧ lnL (f2, n2) = (abAll cnt SS r0 tk mi wi pr le (soOf le) ze pl bl sh (lnL L)).2.2 ∧ ft2 = ft ∧ fp2 = fp) ∧
    (¬ (abAll cnt SS r0 tk mi wi pr le (soOf le) ze pl bl sh (lnL L)).1 = 0 → r = 0 ∧ ft2 = (abAll cnt SS r0 tk mi wi pr le (soOf le) ze pl bl sh (lnL L)).1 ∧ fp2 = bg) := by
  have hP := ppAll_X (wi := wi) (left := mi) (z := ppZ ze mi wd) (bg := bg) (ft := ft) (fp := fp) hL hn hh hh2 hb hb2 (by have := headL_len (ffSg (SS tk.toNatClampNeg) le pl bl) (foBase le sh); omega) hbl hw0 hw1
  rw [← h, zeros_same hs hwd] at hP
  have hout : abOut (SS tk.toNatClampNeg) le pl bl sh pr wi ze mi (soOf le) (lnL L) = lnL L ++ padL wi.toInt.toNat (fiZeros ze mi (soOf le)) (!decide (mi = 0)) (headL (ffSg (SS tk.toNatClampNeg) le pl bl) (foBase le sh)) (abBody (SS tk.toNatClampNeg) le pr sh) := rfl
  rw [← hout] at hP
  unfold abAll
  rw [if_neg (fun q : ¬ r0 = 0 => q hr0), if_neg (fun q : ¬ tk < cnt => q hlt), if_neg htk]
  by_cases g : (abOut (SS tk.toNatClampNeg) le pl bl sh pr wi ze mi (soOf le) (lnL L)).length ≤ 600
  · rw [if_pos g]
    obtain ⟨a1, a2, a3, a4, a5⟩ := hP.1 g
    exact ⟨fun _ => ⟨a1, rfl, a4, a2, a3⟩, fun q => absurd rfl q⟩
  · rw [if_neg g]
    obtain ⟨a1, a2, a3⟩ := hP.2 g
    exact ⟨fun q => absurd q (by decide : ¬ (5 : Int32) = 0), fun _ => ⟨a1, a2, a3⟩⟩
theorem left_star {l sr lv : Int32} (h : l = 0 ∨ l = 1) (c : (¬ l = 0 ∧ lv = 1) ∨ (¬ 0 ≤ sr ∧ lv = 1) ∨ (l = 0 ∧ 0 ≤ sr ∧ lv = 0)) : lv = (if 0 ≤ sr then l else 1) := by
  rcases c with ⟨a, b⟩ | ⟨a, b⟩ | ⟨a, b, c⟩
  · rw [b]
    split
    · exact (h.resolve_left a).symm
    · rfl
  · rw [b, if_neg a]
  · rw [c, if_pos b, a]
theorem abs_rng {x : Int32} (h : -99 ≤ x.toInt ∧ x.toInt ≤ 99) : 0 ≤ (fiAbs x).toInt ∧ (fiAbs x).toInt ≤ 99 := by
  unfold fiAbs
  split
  · rename_i q
    rw [k_le, l_0] at q
    omega
  · rename_i q
    rw [k_le, l_0] at q
    rw [k_sb (by rw [l_0]; omega) (by rw [l_0]; omega), l_0]
    omega
theorem prec_rng {x : Int32} (h : -99 ≤ x.toInt ∧ x.toInt ≤ 99) : -1 ≤ (if 0 ≤ x then x else -1).toInt ∧ (if 0 ≤ x then x else -1).toInt ≤ 99 := by
  split
  · rename_i q
    rw [k_le, l_0] at q
    omega
  · rw [show (-1 : Int32).toInt = -1 from by decide]
    omega
theorem hd_words {SS : Nat → VS} {tk le pl bl sh : Int32} (h : isWords le ∨ le = 99) : headL (ffSg (SS tk.toNatClampNeg) le pl bl) (foBase le sh) = [] ∧ True := by
  refine ⟨?_, trivial⟩
  unfold ffSg foSign foBase
  rcases h with (rfl | rfl) | rfl
  · rw [fo_115, fo_115]; rfl
  · rw [fo_113, fo_113]; rfl
  · rw [fo_99, fo_99]; rfl
theorem hd_float {SS : Nat → VS} {tk le mn : Int32} (h : isFloat le) (hb : (SS tk.toNatClampNeg).2.1 = mn) (pl bl sh : Int32) {L : LnS} (hL : Len L 0) : lnL (moSign mn pl bl L) = headL (ffSg (SS tk.toNatClampNeg) le pl bl) (foBase le sh) ∧ Len (moSign mn pl bl L) (headL (ffSg (SS tk.toNatClampNeg) le pl bl) (foBase le sh)).length := by
  have e1 : ffSg (SS tk.toNatClampNeg) le pl bl = fiSign mn pl bl := by
    unfold ffSg foSign
    rw [hb]
    rcases h with rfl | rfl | rfl | rfl | rfl
    · rw [fo_102]
    · rw [fo_101]
    · rw [fo_69]
    · rw [fo_103]
    · rw [fo_71]
  have e2 : foBase le sh = -1 := by
    unfold foBase
    rcases h with rfl | rfl | rfl | rfl | rfl
    · rw [fo_102]
    · rw [fo_101]
    · rw [fo_69]
    · rw [fo_103]
    · rw [fo_71]
  rw [e1, e2]
  exact sign_X hL
theorem hd_whole {SS : Nat → VS} {tk le : Int32} {X : Int64} (h : isWhole le) (hw : X = vaWhole (SS tk.toNatClampNeg).2.1 (SS tk.toNatClampNeg).2.2.1) (pl bl sh : Int32) {L : LnS} (hL : Len L 0) :
    lnL (pwHead sh (pwB le) le (moSign (k_b (!decide (0 ≤ X))) pl bl L)) = headL (ffSg (SS tk.toNatClampNeg) le pl bl) (foBase le sh) ∧ Len (pwHead sh (pwB le) le (moSign (k_b (!decide (0 ≤ X))) pl bl L)) (headL (ffSg (SS tk.toNatClampNeg) le pl bl) (foBase le sh)).length := by
  have e1 : ffSg (SS tk.toNatClampNeg) le pl bl = fiSign (k_b (!decide (0 ≤ X))) pl bl := by
    unfold ffSg foSign
    rw [hw]
    rcases h with rfl | rfl | rfl | rfl | rfl
    · rw [fo_100]; rfl
    · rw [fo_120]; rfl
    · rw [fo_88]; rfl
    · rw [fo_111]; rfl
    · rw [fo_98]; rfl
  have e2 : foBase le sh = whBase sh (pwB le) le (-1) := by
    unfold foBase
    rcases h with rfl | rfl | rfl | rfl | rfl
    · rw [fo_100, show pwB 100 = 10 from by decide]
    · rw [fo_120, show pwB 120 = 16 from by decide]
    · rw [fo_88, show pwB 88 = 16 from by decide]
    · rw [fo_111, show pwB 111 = 8 from by decide]
    · rw [fo_98, show pwB 98 = 2 from by decide]
  rw [e1, e2]
  exact head_X hL (by rcases h with rfl | rfl | rfl | rfl | rfl <;> decide)
theorem one_R {xs : List Int32} {c : Int32} {L : LnS} (h : xs = [c]) (hL : Len L 0) : lnL (lyAdd L c) = xs ∧ Len (lyAdd L c) xs.length := by
  obtain ⟨a, b⟩ := hL.ly (c := c) (by omega)
  rw [Len0 hL] at a
  rw [h]
  exact ⟨a, b⟩
theorem dec_of {c : VS} {it tl : Int32} {tx dg : Nat → Int32} {a b mn v le : Int32} (h : VR c it tl tx dg a b mn v) (h3 : ¬ soOf le = 3) (ht : ¬ ffTk c le (soOf le) = 0) : ∃ A B d, VD c.2.1 c.2.2.1 c.2.2.2.1 dg v a b mn A B d := by
  rw [takes_O h h3] at ht
  rcases h.sort with ⟨e1, e2, A, B, d, hv⟩ | ⟨e1, e2, e3⟩
  · exact ⟨A, B, d, hv⟩
  · rw [e1, if_neg (by decide)] at ht
    exact absurd rfl ht
theorem float_V {c : VS} {it tl : Int32} {tx dg : Nat → Int32} {a b mn v le : Int32} (h : VR c it tl tx dg a b mn v) (hf : isFloat le) (ht : ¬ ffTk c le (soOf le) = 0) : c.2.1 = mn ∧ 1 ≤ a.toInt ∧ a.toInt ≤ 18 := by
  obtain ⟨A, B, d, hv⟩ := dec_of h (by rcases hf with rfl | rfl | rfl | rfl | rfl <;> decide) ht
  have h1 := hv.ok.a1
  have h2 := hv.ok.a18
  refine ⟨hv.bel, ?_⟩
  rw [hv.ea, nI_toInt (by omega)]
  omega
theorem whole_V {c : VS} {it tl : Int32} {tx dg : Nat → Int32} {a b mn v le : Int32} (h : VR c it tl tx dg a b mn v) (hf : isWhole le) (ht : ¬ ffTk c le (soOf le) = 0) : moWhole dg a v mn = vaWhole c.2.1 c.2.2.1 := by
  obtain ⟨A, B, d, hv⟩ := dec_of h (by rcases hf with rfl | rfl | rfl | rfl | rfl <;> decide) ht
  exact hv.whole
theorem tx0_in {v : Int32} (hv : 0 ≤ v.toInt ∧ v.toInt < 12) : vp_in (60 * v) 720 := by
  have := tx_in (v := v) (i := 0) hv (by rw [l_0]; omega)
  rw [Int32.add_zero] at this
  exact this
theorem pad_01 {r : Int32} {P Q S : Prop} (h : (P → r = 1 ∧ Q) ∧ (¬ P → r = 0 ∧ S)) : r = 0 ∨ r = 1 := by
  by_cases p : P
  · exact Or.inr (h.1 p).1
  · exact Or.inl (h.2 p).1
theorem ite_t {s x a : Int32} (h : x = (if s = 0 then a else -2)) (c : ¬ x = -2) : s = 0 := by
  by_cases q : s = 0
  · exact q
  · rw [if_neg q] at h; exact (c h).elim
theorem ite_f {s x a : Int32} (h : x = (if s = 0 then a else -2)) (c : x = -2) (k : -1 ≤ a.toInt) : ¬ s = 0 := by
  intro q
  rw [if_pos q, c] at h
  rw [← h, show (-2 : Int32).toInt = -2 from by decide] at k
  exact absurd k (by decide)
theorem ite_v {s x a b : Int32} (h : x = (if s = 0 then a else b)) (c : s = 0) : x = a := by rw [h, if_pos c]
theorem stAB_0 {cnt : Int32} {SS : Nat → VS} {sw sp tk mi wi pr tk2 l2 wi2 : Int32} (h : stA cnt SS sw tk mi wi pr = (0, tk2, l2, wi2, pr)) (hs : sp = 0) : stAB cnt SS sw sp tk mi wi pr = (0, tk2, l2, wi2, pr) := by
  unfold stAB stB
  rw [h]
  unfold stB1
  rw [if_neg (fun q : ¬ (0 : Int32) = 0 => q rfl), if_pos hs]
theorem stAB_1 {cnt : Int32} {SS : Nat → VS} {sw sp tk mi wi pr tk2 l2 wi2 : Int32} (h : stA cnt SS sw tk mi wi pr = (0, tk2, l2, wi2, pr)) (hs : ¬ sp = 0) : stAB cnt SS sw sp tk mi wi pr = stTake cnt SS 0 tk2 l2 wi2 pr := by
  unfold stAB stB
  rw [h]
  unfold stB1
  rw [if_neg (fun q : ¬ (0 : Int32) = 0 => q rfl), if_neg hs]
theorem stAB_F {cnt : Int32} {SS : Nat → VS} {sw sp tk mi wi pr : Int32} (h : ¬ sw = 0) (g : ¬ (stTake cnt SS 1 tk mi wi pr).1 = 0) : (stAB cnt SS sw sp tk mi wi pr).1 = (stTake cnt SS 1 tk mi wi pr).1 := by
  unfold stAB stB stA
  rw [if_neg h]
  unfold stB1
  rw [if_pos g]
theorem stA_0 {cnt : Int32} {SS : Nat → VS} {sw tk mi wi pr : Int32} (h : sw = 0) : stA cnt SS sw tk mi wi pr = (0, tk, mi, wi, pr) := by
  unfold stA; rw [if_pos h]
theorem stA_1 {cnt : Int32} {SS : Nat → VS} {sw tk mi wi pr : Int32} (h : ¬ sw = 0) : stA cnt SS sw tk mi wi pr = stTake cnt SS 1 tk mi wi pr := by
  unfold stA; rw [if_neg h]
theorem abOf_F {cnt : Int32} {SS : Nat → VS} {q : ST} {le so ze pl bl sh : Int32} {out : List Int32} (h : ¬ q.1 = 0) : (abOf cnt SS q le so ze pl bl sh out).1 = q.1 := by
  unfold abOf abAll; rw [if_pos h]
theorem abOf_0 {cnt : Int32} {SS : Nat → VS} {q : ST} {tk mi wi pr le so ze pl bl sh : Int32} {out : List Int32} (h : q = (0, tk, mi, wi, pr)) : abOf cnt SS q le so ze pl bl sh out = abAll cnt SS 0 tk mi wi pr le so ze pl bl sh out := by
  rw [h]; rfl
theorem abAll_2 {cnt : Int32} {SS : Nat → VS} {tk mi wi pr le so ze pl bl sh : Int32} {out : List Int32} (h : ¬ tk < cnt) : (abAll cnt SS 0 tk mi wi pr le so ze pl bl sh out).1 = 2 := by
  unfold abAll; rw [if_neg (fun q : ¬ (0 : Int32) = 0 => q rfl), if_pos h]
theorem abAll_3 {cnt : Int32} {SS : Nat → VS} {tk mi wi pr le so ze pl bl sh : Int32} {out : List Int32} (h : tk < cnt) (g : ffTk (SS tk.toNatClampNeg) le so = 0) : (abAll cnt SS 0 tk mi wi pr le so ze pl bl sh out).1 = 3 := by
  unfold abAll; rw [if_neg (fun q : ¬ (0 : Int32) = 0 => q rfl), if_neg (fun q => q h), if_pos g]
theorem stTk_num {cnt : Int32} {SS : Nat → VS} {b tk mi wi pr : Int32} (hv : ∀ t : Int32, 0 ≤ t.toInt → t < cnt → valOK (SS t.toNatClampNeg)) (h0 : 0 ≤ tk.toInt) (h1 : tk.toInt < cnt.toInt) (g : (stTake cnt SS b tk mi wi pr).1 = 0) : -99 ≤ (stNum SS tk).toInt ∧ (stNum SS tk).toInt ≤ 99 := by
  have hlt : tk < cnt := by rw [k_lt]; exact h1
  refine star_num (hv tk h0 hlt) ?_
  unfold stTake at g
  rw [if_neg (fun z : ¬ tk < cnt => z hlt)] at g
  by_cases z : vaStar (SS tk.toNatClampNeg).1 (SS tk.toNatClampNeg).2.2.1 = true
  · exact z
  · rw [if_neg z] at g; exact absurd g (by decide : ¬ (3 : Int32) = 0)
theorem ts_W {SS : Nat → VS} {cnt tk bg ft fp sr : Int32} {it tl tx dg ar br mn : Nat → Int32} (hV : refVals SS cnt it tl tx dg ar br mn) (hv : ∀ t : Int32, 0 ≤ t.toInt → t < cnt → valOK (SS t.toNatClampNeg)) (h0 : 0 ≤ tk.toInt) (h1 : tk.toInt ≤ cnt.toInt) {r ft2 fp2 sr2 tk2 : Int32}
    (h : (r, ft2, fp2, sr2, tk2) = tsAll tk cnt (it tk.toNatClampNeg) bg ft fp sr (moWhole dg (ar tk.toNatClampNeg) tk (mn tk.toNatClampNeg))) (mi wi pr : Int32) (hr : ¬ r = 0) :
    ft2 = ft ∧ fp2 = fp ∧ tk2 = tk + 1 ∧ stTake cnt SS 1 tk mi wi pr = (0, tk2, if 0 ≤ sr2 then mi else 1, fiAbs sr2, pr) ∧ (-99 ≤ sr2.toInt ∧ sr2.toInt ≤ 99) ∧ tk.toInt < cnt.toInt := by
  obtain ⟨g1, g2, g3, g4, g5, g6⟩ := (ts_both hV h0 h1 h 1 mi wi pr).1 hr
  rw [if_neg (by decide : ¬ (1 : Int32) = 0)] at g6
  have hn := stTk_num (b := 1) (mi := mi) (wi := wi) (pr := pr) hv h0 g5 (by rw [g6])
  rw [← g4] at g6 hn
  rw [← g3] at g6
  exact ⟨g1, g2, g3, g6, hn, g5⟩
theorem ts_P {SS : Nat → VS} {cnt tk bg ft fp sr : Int32} {it tl tx dg ar br mn : Nat → Int32} (hV : refVals SS cnt it tl tx dg ar br mn) (hv : ∀ t : Int32, 0 ≤ t.toInt → t < cnt → valOK (SS t.toNatClampNeg)) (h0 : 0 ≤ tk.toInt) (h1 : tk.toInt ≤ cnt.toInt) {r ft2 fp2 sr2 tk2 : Int32}
    (h : (r, ft2, fp2, sr2, tk2) = tsAll tk cnt (it tk.toNatClampNeg) bg ft fp sr (moWhole dg (ar tk.toNatClampNeg) tk (mn tk.toNatClampNeg))) (mi wi pr : Int32) (hr : ¬ r = 0) :
    ft2 = ft ∧ fp2 = fp ∧ tk2 = tk + 1 ∧ stTake cnt SS 0 tk mi wi pr = (0, tk2, mi, wi, if 0 ≤ sr2 then sr2 else -1) ∧ (-99 ≤ sr2.toInt ∧ sr2.toInt ≤ 99) ∧ tk.toInt < cnt.toInt := by
  obtain ⟨g1, g2, g3, g4, g5, g6⟩ := (ts_both hV h0 h1 h 0 mi wi pr).1 hr
  rw [if_pos (rfl : (0 : Int32) = 0)] at g6
  have hn := stTk_num (b := 0) (mi := mi) (wi := wi) (pr := pr) hv h0 g5 (by rw [g6])
  rw [← g4] at g6 hn
  rw [← g3] at g6
  exact ⟨g1, g2, g3, g6, hn, g5⟩
theorem inc_rng {tk tk2 cnt : Int32} (h : tk2 = tk + 1) (h0 : 0 ≤ tk.toInt) (h1 : tk.toInt < cnt.toInt) (hc : cnt.toInt ≤ 12) : 0 ≤ tk2.toInt ∧ tk2.toInt ≤ cnt.toInt := by
  rw [h, k_inct (by omega)]; omega
