/-! THE REFERENCE: putPadded. State: good, fault, its place, what is laid so far. -/
abbrev PS : Type := Int32 × Int32 × Int32 × LnS
def ppGo (ch : Int32 → Int32) (lim : Int32) (stop : Bool) (bg : Int32) : Nat → Int32 → Int32 → Int32 → Int32 → LnS → PS
  | 0, _, g, ft, fp, L => (g, ft, fp, L)
  | k + 1, i, g, ft, fp, L => if lim ≤ i then (g, ft, fp, L) else if stop = true then (g, ft, fp, L) else if g = 0 then (g, ft, fp, L) else
      ppGo ch lim stop bg k (i + 1) (moPut (ch i) bg ft fp L).1 (moPut (ch i) bg ft fp L).2.1 (moPut (ch i) bg ft fp L).2.2.1 (moPut (ch i) bg ft fp L).2.2.2
def ppRun (ch : Int32 → Int32) (lim : Int32) (stop : Bool) (bg : Int32) (fuel : Nat) (S : PS) : PS := ppGo ch lim stop bg fuel 0 S.1 S.2.1 S.2.2.1 S.2.2.2
def ppZ (zero left words : Int32) : Int32 := if zero = 0 then 0 else if ¬ left = 0 then 0 else if ¬ words = 0 then 0 else 1
def ppAll (rest left z : Int32) (hd : Nat → Int32) (hl : Int32) (bd : Nat → Int32) (bl bg : Int32) (S : PS) : PS :=
  ppRun (fun _ => 32) rest (decide (left = 0)) bg 101 (ppRun (fun i => bd i.toNatClampNeg) bl false bg 901 (ppRun (fun _ => 48) rest (decide (z = 0)) bg 101 (ppRun (fun i => hd i.toNatClampNeg) hl false bg 5
    (ppRun (fun _ => 32) rest (!decide (left = 0) || !decide (z = 0)) bg 101 S))))
theorem pp_bool (ch : Int32 → Int32) (lim : Int32) (stop : Bool) (bg : Int32) : ∀ (k : Nat) (i g ft fp : Int32) (L : LnS), (g = 0 ∨ g = 1) → ((ppGo ch lim stop bg k i g ft fp L).1 = 0 ∨ (ppGo ch lim stop bg k i g ft fp L).1 = 1) := by
  intro k
  induction k with
  | zero => intro i g ft fp L h; exact h
  | succ k ih =>
    intro i g ft fp L h
    rw [ppGo]
    split
    · exact h
    · split
      · exact h
      · split
        · exact h
        · refine ih _ _ _ _ _ ?_
          unfold moPut
          split
          · exact Or.inl rfl
          · exact Or.inr rfl
theorem pp_run (ch : Int32 → Int32) (lim : Int32) (stop : Bool) (bg : Int32) (k : Nat) (S : PS) (h : S.1 = 0 ∨ S.1 = 1) : (ppRun ch lim stop bg k S).1 = 0 ∨ (ppRun ch lim stop bg k S).1 = 1 := pp_bool ch lim stop bg k 0 S.1 S.2.1 S.2.2.1 S.2.2.2 h
theorem gd_nar {g : Int32} (h : g = 0 ∨ g = 1) : narrow .boolean (.int g) = .int g := by rcases h with rfl | rfl <;> rfl
theorem pp_fst {g ft fp n : Int32} {f : Nat → Int32} {S : PS} (e : (g, ft, fp, (f, n)) = S) (h : S.1 = 0 ∨ S.1 = 1) : g = 0 ∨ g = 1 := by subst e; exact h
