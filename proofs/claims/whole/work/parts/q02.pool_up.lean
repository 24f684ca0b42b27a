/-! The pool, one of its values changed. -/
theorem va3_up (cC : ClassId) (AA : AS) (SS : Nat → VS) (j : Nat) (v : VS) : va3 cC AA (va_up SS j v) j =
    [((AA j).1, .inr (4, [.ref (AA j).2.1, .int v.1, .int v.2.1, .long v.2.2.1, .long v.2.2.2.1])), ((AA j).2.1, .inr (2, [.ref (AA j).2.2, .int v.2.2.2.2.2])), ((AA j).2.2, .inl (cC, 60, .inl v.2.2.2.2.1))] := by
  unfold va3
  rw [va_up_self]
theorem unf_upP {D : va_G} {cl : List vw_C} {X : va_W} {H : Heap} {cC : ClassId} {AA : AS} {SS : Nat → VS} {j : Nat} (v : VS) (hj : j < 12)
    (h : va_P D cl ((X ++ [((AA j).1, .inr (4, [.ref (AA j).2.1, .int v.1, .int v.2.1, .long v.2.2.1, .long v.2.2.2.1])), ((AA j).2.1, .inr (2, [.ref (AA j).2.2, .int v.2.2.2.2.2])), ((AA j).2.2, .inl (cC, 60, .inl v.2.2.2.2.1))]) ++ poolR cC AA SS j) H) : va_P D cl (X ++ poolW cC AA (va_up SS j v)) H :=
  unf_P hj (by rw [va3_up, poolR_up]; exact h)
theorem unf_upD {A : Nat → Prop} {X : va_W} {cC : ClassId} {AA : AS} {SS : Nat → VS} {j : Nat} (v : VS) (hj : j < 12)
    (h : va_D A ((X ++ [((AA j).1, .inr (4, [.ref (AA j).2.1, .int v.1, .int v.2.1, .long v.2.2.1, .long v.2.2.2.1])), ((AA j).2.1, .inr (2, [.ref (AA j).2.2, .int v.2.2.2.2.2])), ((AA j).2.2, .inl (cC, 60, .inl v.2.2.2.2.1))]) ++ poolR cC AA SS j)) : va_D A (X ++ poolW cC AA (va_up SS j v)) :=
  unf_D hj (by rw [va3_up, poolR_up]; exact h)
/-! Two of the pool's values out. -/
def poolRR (cC : ClassId) (AA : AS) (SS : Nat → VS) (i j : Nat) : va_W := (((List.range 12).erase i).erase j).flatMap (va3 cC AA SS)
theorem two_perm (X : va_W) (cC : ClassId) (AA : AS) (SS : Nat → VS) {i j : Nat} (hi : i < 12) (hj : j < 12) (hne : i ≠ j) : (X ++ poolW cC AA SS).Perm ((X ++ (va3 cC AA SS i ++ va3 cC AA SS j)) ++ poolRR cC AA SS i j) := by
  have h1 : (List.range 12).Perm (i :: (List.range 12).erase i) := List.perm_cons_erase (List.mem_range.mpr hi)
  have h2 : ((List.range 12).erase i).Perm (j :: ((List.range 12).erase i).erase j) := List.perm_cons_erase ((List.mem_erase_of_ne (Ne.symm hne)).mpr (List.mem_range.mpr hj))
  have h3 : (List.range 12).Perm (i :: j :: ((List.range 12).erase i).erase j) := h1.trans (h2.cons i)
  have h4 := h3.flatMap_right (va3 cC AA SS)
  rw [List.append_assoc]
  refine List.Perm.append_left X ?_
  unfold poolW poolRR
  rw [List.append_assoc]
  exact h4
theorem two_P {D : va_G} {cl : List vw_C} {X : va_W} {H : Heap} {cC : ClassId} {AA : AS} {SS : Nat → VS} {i j : Nat} (hi : i < 12) (hj : j < 12) (hne : i ≠ j) (h : va_P D cl (X ++ poolW cC AA SS) H) : va_P D cl ((X ++ (va3 cC AA SS i ++ va3 cC AA SS j)) ++ poolRR cC AA SS i j) H := h.perm (two_perm X cC AA SS hi hj hne)
theorem two_D {A : Nat → Prop} {X : va_W} {cC : ClassId} {AA : AS} {SS : Nat → VS} {i j : Nat} (hi : i < 12) (hj : j < 12) (hne : i ≠ j) (h : va_D A (X ++ poolW cC AA SS)) : va_D A ((X ++ (va3 cC AA SS i ++ va3 cC AA SS j)) ++ poolRR cC AA SS i j) := h.perm (two_perm X cC AA SS hi hj hne)
theorem unt_P {D : va_G} {cl : List vw_C} {X : va_W} {H : Heap} {cC : ClassId} {AA : AS} {SS : Nat → VS} {i j : Nat} (hi : i < 12) (hj : j < 12) (hne : i ≠ j) (h : va_P D cl ((X ++ (va3 cC AA SS i ++ va3 cC AA SS j)) ++ poolRR cC AA SS i j) H) : va_P D cl (X ++ poolW cC AA SS) H := h.perm (two_perm X cC AA SS hi hj hne).symm
theorem unt_D {A : Nat → Prop} {X : va_W} {cC : ClassId} {AA : AS} {SS : Nat → VS} {i j : Nat} (hi : i < 12) (hj : j < 12) (hne : i ≠ j) (h : va_D A ((X ++ (va3 cC AA SS i ++ va3 cC AA SS j)) ++ poolRR cC AA SS i j)) : va_D A (X ++ poolW cC AA SS) := h.perm (two_perm X cC AA SS hi hj hne).symm
/-! small words of letter -/
theorem let_T {ev n i : Int32} (h : moLet ev n i = true) : ¬ ev = 0 ∧ ¬ i < 0 ∧ i < n := by
  unfold moLet at h
  split at h
  · cases h
  · split at h
    · cases h
    · rename_i a b
      exact ⟨a, b, of_decide_eq_true h⟩
theorem let_at {f : Nat → Int32} {n i : Int32} (h0 : ¬ i < 0) (h1 : i < n) : lnAt f n i = f i.toNatClampNeg := by
  rw [k_lt, l_0] at h0
  exact lnAt_of (by omega) (by rw [k_lt] at h1; rw [k_le]; omega)
