/-! THE REFERENCE: readField, said with what the class's own reading says. -/
theorem moSee_at {f : Nat → Int32} {n k K : Int32} (h0 : 0 ≤ k.toInt) (hK : ¬ K = 0) (h : moSee f n k = K) : ¬ n ≤ k ∧ lnAt f n k = K := by
  unfold moSee at h
  by_cases e : n ≤ k
  · rw [if_pos e] at h
    exact absurd h.symm hK
  · rw [if_neg e] at h
    exact ⟨e, by rw [lnAt_of h0 e]; exact h⟩
theorem moSee_ne {f : Nat → Int32} {n k K : Int32} (h0 : 0 ≤ k.toInt) (hK : ¬ K = -1) (h : ¬ moSee f n k = K) : ¬ lnAt f n k = K := by
  intro q
  by_cases e : n ≤ k
  · rw [lnAt_end h0 e] at q
    exact hK q.symm
  · rw [lnAt_of h0 e] at q
    exact h (by rw [moSee, if_neg e]; exact q)
theorem moSee_dig {f : Nat → Int32} {n k : Int32} (h0 : 0 ≤ k.toInt) (h : isDig (moSee f n k) = true) : ¬ n ≤ k ∧ moSee f n k = lnAt f n k ∧ isDig (lnAt f n k) = true := by
  by_cases e : n ≤ k
  · rw [moSee, if_pos e] at h
    exact absurd h (by decide)
  · have : moSee f n k = lnAt f n k := by rw [moSee, if_neg e, lnAt_of h0 e]
    exact ⟨e, this, by rw [← this]; exact h⟩
theorem moSee_nodig {f : Nat → Int32} {n k : Int32} (h0 : 0 ≤ k.toInt) (h : ¬ isDig (moSee f n k) = true) : ¬ isDig (lnAt f n k) = true := by
  intro q
  by_cases e : n ≤ k
  · rw [lnAt_end h0 e] at q
    exact absurd q (by decide)
  · rw [lnAt_of h0 e] at q
    exact h (by rw [moSee, if_neg e]; exact q)
def fb (x ch c : Int32) : Int32 := if ch = c then 1 else x
theorem fl_fb (mi pl ze sh bl ch : Int32) : flSet (mi, pl, ze, sh, bl) ch = (fb mi ch 45, fb pl ch 43, fb ze ch 48, fb sh ch 35, fb bl ch 32) := by
  by_cases h1 : ch = 32
  · subst h1; rfl
  · by_cases h2 : ch = 35
    · subst h2; rfl
    · by_cases h3 : ch = 43
      · subst h3; rfl
      · by_cases h4 : ch = 45
        · subst h4; rfl
        · by_cases h5 : ch = 48
          · subst h5; rfl
          · simp only [flSet, fb, if_neg h1, if_neg h2, if_neg h3, if_neg h4, if_neg h5]
theorem fb_01 {x ch c : Int32} (h : x = 0 ∨ x = 1) : fb x ch c = 0 ∨ fb x ch c = 1 := by
  unfold fb
  split
  · exact Or.inr rfl
  · exact h
theorem fb_1 {x ch c : Int32} (h : x = 0 ∨ x = 1) (hx : ¬ x = 0) : (1 : Int32) = fb x ch c := by
  unfold fb
  split
  · rfl
  · rcases h with h | h
    · exact absurd h hx
    · exact h.symm
theorem fb_s {x ch c : Int32} (hx : ch = c) : (1 : Int32) = fb x ch c := by rw [fb, if_pos hx]
theorem fb_0 {x ch c : Int32} (h : x = 0) (hx : ¬ ch = c) : (0 : Int32) = fb x ch c := by rw [fb, if_neg hx]; exact h.symm
theorem fl_none {x : Int32} (h1 : ¬ x = 45) (h2 : ¬ x = 43) (h3 : ¬ x = 48) (h4 : ¬ x = 35) (h5 : ¬ x = 32) : ¬ flIs x = true := by simp [flIs, h1, h2, h3, h4, h5]
theorem fl_stop {f : Nat → Int32} {n at9 : Int32} {F : FG} {k : Nat} (h0 : 0 ≤ at9.toInt) (h : ¬ flIs (moSee f n at9) = true) : flGo f n (k + 1) F at9 = (F, at9) := by
  rw [flGo]
  by_cases e : n ≤ at9
  · rw [if_pos e]
  · rw [if_neg e, lnAt_of h0 e, if_neg]
    rw [moSee, if_neg e] at h
    exact h
theorem fl_one {f : Nat → Int32} {n at9 K : Int32} (h0 : 0 ≤ at9.toInt) (h : moSee f n at9 = K) (hK : ¬ K = 0) (hf : flIs K = true) : ¬ n ≤ at9 ∧ flIs (lnAt f n at9) = true ∧ lnAt f n at9 = moSee f n at9 := by
  obtain ⟨a, b⟩ := moSee_at h0 hK h
  exact ⟨a, by rw [b]; exact hf, by rw [b, h]⟩
def ndGo (f : Nat → Int32) (n : Int32) : Nat → Int32 → Int32 → Int32 → Int32 × Int32
  | 0, _, x, w => (w, x)
  | k + 1, i, x, w => if 2 ≤ i then (w, x) else if isDig (lnAt f n x) = true then ndGo f n k (i + 1) (x + 1) (10 * w + lnAt f n x - 48) else (w, x)
def mrW (f : Nat → Int32) (n x : Int32) : Int32 := if lnAt f n x = 42 then -2 else rnVal f n x
def mrP (f : Nat → Int32) (n x : Int32) : Int32 := if lnAt f n x = 46 then (if lnAt f n (x + 1) = 42 then -2 else rnVal f n (x + 1)) else -1
theorem lnAt_dig {f : Nat → Int32} {n x : Int32} (h : isDig (lnAt f n x) = true) : ¬ n ≤ x := by
  intro q
  unfold lnAt at h
  by_cases e : x < 0
  · rw [if_pos e] at h; exact absurd h (by decide)
  · rw [if_neg e, if_pos q] at h; exact absurd h (by decide)
theorem lnDig_mono (f : Nat → Int32) (n : Int32) : ∀ (k : Nat) (i m : Int32), 0 ≤ m.toInt → m.toInt + k < 2147483647 → m.toInt ≤ (lnDig f n k i m).toInt ∧ (lnDig f n k i m).toInt ≤ m.toInt + k := by
  intro k
  induction k with
  | zero => intro i m h0 h; exact ⟨Int.le_refl _, by rw [lnDig]; omega⟩
  | succ k ih =>
    intro i m h0 h
    rw [lnDig]
    split
    · exact ⟨Int.le_refl _, by omega⟩
    · split
      · have e : (m + 1).toInt = m.toInt + 1 := by rw [k_add] <;> rw [l_1] <;> omega
        have := ih (i + 1) (m + 1) (by omega) (by omega)
        exact ⟨by omega, by omega⟩
      · exact ⟨Int.le_refl _, by omega⟩
theorem nd_all {f : Nat → Int32} {n x : Int32} (h0 : 0 ≤ x.toInt) (h1 : x.toInt ≤ 300) (hn : n.toInt ≤ 200) : ndGo f n 3 0 x 0 = (rnVal f n x, x + rnMany f n x) := by
  have e1 : (x + 1).toInt = x.toInt + 1 := k_inct (by omega)
  have z32 : ((0 : Int64)).toInt32 = 0 := by decide
  have t10 : ((10 : Int64)).toInt32 = 10 := by decide
  rw [ndGo, if_neg (by decide)]
  by_cases d1 : isDig (lnAt f n x) = true
  · have n1 := lnAt_dig d1
    rw [if_pos d1, ndGo, if_neg (by decide)]
    obtain ⟨F, hF⟩ : ∃ F, (n.toInt - x.toInt).toNat = F + 1 := ⟨(n.toInt - x.toInt).toNat - 1, by rw [k_le] at n1; omega⟩
    have hF2 : (F : Int) ≤ 200 := by omega
    by_cases d2 : isDig (lnAt f n (x + 1)) = true
    · have n2 := lnAt_dig d2
      have hm : rnMany f n x = 2 := by
        unfold rnMany lnDg
        obtain ⟨G, hG⟩ : ∃ G, F = G + 1 := ⟨F - 1, by rw [k_le, e1] at n2; omega⟩
        rw [hF, hG, lnDig, if_neg n1, if_pos d1, lnDig, if_neg n2, if_pos d2]
        have q := lnDig_mono f n (G + 1) (x + 1 + 1) (0 + 1 + 1) (by decide) (by rw [show ((0 : Int32) + 1 + 1).toInt = 2 from by decide]; omega)
        rw [show ((0 : Int32) + 1 + 1).toInt = 2 from by decide] at q
        rw [if_neg (by rw [k_lt, l_2]; omega)]
      rw [if_pos d2, ndGo, if_pos (by decide), hm]
      refine Prod.ext ?_ ?_
      · show _ = rnVal f n x
        unfold rnVal
        rw [hm]
        unfold lnNb
        rw [show (2 : Int32).toInt.toNat + 1 = 3 from rfl, lnNum, if_neg (by decide), lnNum, if_neg (by decide), lnNum, if_pos (by decide), Int32.add_zero, show (0 : Int32) + 1 = 1 from by decide]
        rw [Int64.toInt32_add, Int64.toInt32_mul, Int64.toInt32_add, Int64.toInt32_mul, Int32.toInt32_toInt64, Int32.toInt32_toInt64, z32, t10]
        rw [show (10 : Int32) * 0 = 0 from by decide, show (0 : Int32) * 10 = 0 from by decide, Int32.zero_add, Int32.zero_add, Int32.mul_comm, Int32.sub_eq_add_neg, Int32.sub_eq_add_neg, Int32.sub_eq_add_neg, Int32.add_assoc]
      · show x + 1 + 1 = x + 2
        rw [Int32.add_assoc]
        rfl
    · have hm : rnMany f n x = 1 := by
        unfold rnMany lnDg
        rw [hF, lnDig, if_neg n1, if_pos d1]
        have : lnDig f n (F + 1) (x + 1) (0 + 1) = 1 := by
          rw [lnDig]
          split
          · decide
          · first | decide | (rw [if_neg d2]; decide)
        rw [this, if_pos (by decide)]
      rw [if_neg d2, hm]
      refine Prod.ext ?_ rfl
      show _ = rnVal f n x
      unfold rnVal
      rw [hm]
      unfold lnNb
      rw [show (1 : Int32).toInt.toNat + 1 = 2 from rfl, lnNum, if_neg (by decide), lnNum, if_pos (by decide), Int32.add_zero]
      rw [Int64.toInt32_add, Int64.toInt32_mul, Int32.toInt32_toInt64, z32, t10, show (10 : Int32) * 0 = 0 from by decide, show (0 : Int32) * 10 = 0 from by decide, Int32.zero_add, Int32.zero_add]
  · have hm : rnMany f n x = 0 := by
      unfold rnMany lnDg
      have : lnDig f n ((n.toInt - x.toInt).toNat + 1) x 0 = 0 := by
        rw [lnDig]
        split
        · rfl
        · first | rfl | rw [if_neg d1]
      rw [this, if_pos (by decide)]
    rw [if_neg d1, hm, Int32.add_zero]
    refine Prod.ext ?_ rfl
    show _ = rnVal f n x
    unfold rnVal
    rw [hm]
    rfl
