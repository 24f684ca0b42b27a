/-! THE POOL of the twelve values: for each its three addresses (AA) and its state (SS). One of them may be taken out (focus) and put back. -/
abbrev VS : Type := Int32 × Int32 × Int64 × Int64 × (Nat → Int32) × Int32
abbrev AS : Type := Nat → Nat × Nat × Nat
def va3 (cC : ClassId) (AA : AS) (SS : Nat → VS) (j : Nat) : va_W :=
  [((AA j).1, .inr (4, [.ref (AA j).2.1, .int (SS j).1, .int (SS j).2.1, .long (SS j).2.2.1, .long (SS j).2.2.2.1])), ((AA j).2.1, .inr (2, [.ref (AA j).2.2, .int (SS j).2.2.2.2.2])), ((AA j).2.2, .inl (cC, 60, .inl (SS j).2.2.2.2.1))]
def poolW (cC : ClassId) (AA : AS) (SS : Nat → VS) : va_W := (List.range 12).flatMap (va3 cC AA SS)
def poolR (cC : ClassId) (AA : AS) (SS : Nat → VS) (j : Nat) : va_W := ((List.range 12).erase j).flatMap (va3 cC AA SS)
theorem va_P_iff {D : va_G} {cl : List vw_C} {ws : va_W} {H : Heap} : va_P D cl ws H ↔ ∀ q ∈ ws, va_at D cl q H := by
  constructor
  · intro h q hq
    obtain ⟨k, hk⟩ := List.mem_iff_getElem?.mp hq
    exact h k q hk
  · intro h k q hk
    exact h q (List.mem_of_getElem? hk)
theorem va_D_iff {A : Nat → Prop} {ws : va_W} : va_D A ws ↔ (ws.map Prod.fst).Nodup ∧ ∀ q ∈ ws, A q.1 := by
  constructor
  · rintro ⟨h1, h2⟩
    refine ⟨?_, fun q hq => ?_⟩
    · refine List.pairwise_iff_getElem.mpr ?_
      intro i j hi hj hij e
      have hj' : j < ws.length := by simpa using hj
      have hi' : i < ws.length := by simpa using hi
      rw [List.getElem_map, List.getElem_map] at e
      have := h1 i j _ _ (List.getElem?_eq_getElem hi') (List.getElem?_eq_getElem hj') e
      omega
    · obtain ⟨k, hk⟩ := List.mem_iff_getElem?.mp hq
      exact h2 k q hk
  · rintro ⟨h1, h2⟩
    refine ⟨fun i j p q hp hq e => ?_, fun k q hk => h2 q (List.mem_of_getElem? hk)⟩
    have h1 := List.pairwise_iff_getElem.mp h1
    obtain ⟨hi, ei⟩ := List.getElem?_eq_some_iff.mp hp
    obtain ⟨hj, ej⟩ := List.getElem?_eq_some_iff.mp hq
    rcases Nat.lt_trichotomy i j with h | h | h
    · exact absurd (by rw [List.getElem_map, List.getElem_map, ei, ej]; exact e) (h1 i j (by simpa using hi) (by simpa using hj) h)
    · exact h
    · exact absurd (by rw [List.getElem_map, List.getElem_map, ei, ej]; exact e.symm) (h1 j i (by simpa using hj) (by simpa using hi) h)
theorem va_P.perm {D : va_G} {cl : List vw_C} {ws ws' : va_W} {H : Heap} (p : ws.Perm ws') (h : va_P D cl ws H) : va_P D cl ws' H := va_P_iff.mpr fun q hq => va_P_iff.mp h q (p.mem_iff.mpr hq)
theorem va_D.perm {A : Nat → Prop} {ws ws' : va_W} (p : ws.Perm ws') (h : va_D A ws) : va_D A ws' := by
  obtain ⟨h1, h2⟩ := va_D_iff.mp h
  exact va_D_iff.mpr ⟨(p.map Prod.fst).nodup_iff.mp h1, fun q hq => h2 q (p.mem_iff.mpr hq)⟩
theorem pool_perm (cC : ClassId) (AA : AS) (SS : Nat → VS) {j : Nat} (hj : j < 12) : (poolW cC AA SS).Perm (va3 cC AA SS j ++ poolR cC AA SS j) := by
  have h : (List.range 12).Perm (j :: (List.range 12).erase j) := List.perm_cons_erase (List.mem_range.mpr hj)
  exact h.flatMap_right (va3 cC AA SS)
theorem foc_perm (X : va_W) (cC : ClassId) (AA : AS) (SS : Nat → VS) {j : Nat} (hj : j < 12) : (X ++ poolW cC AA SS).Perm ((X ++ va3 cC AA SS j) ++ poolR cC AA SS j) := by
  rw [List.append_assoc]
  exact (pool_perm cC AA SS hj).append_left X
theorem foc_P {D : va_G} {cl : List vw_C} {X : va_W} {H : Heap} {cC : ClassId} {AA : AS} {SS : Nat → VS} {j : Nat} (hj : j < 12) (h : va_P D cl (X ++ poolW cC AA SS) H) : va_P D cl ((X ++ va3 cC AA SS j) ++ poolR cC AA SS j) H := h.perm (foc_perm X cC AA SS hj)
theorem foc_D {A : Nat → Prop} {X : va_W} {cC : ClassId} {AA : AS} {SS : Nat → VS} {j : Nat} (hj : j < 12) (h : va_D A (X ++ poolW cC AA SS)) : va_D A ((X ++ va3 cC AA SS j) ++ poolR cC AA SS j) := h.perm (foc_perm X cC AA SS hj)
theorem unf_P {D : va_G} {cl : List vw_C} {X : va_W} {H : Heap} {cC : ClassId} {AA : AS} {SS : Nat → VS} {j : Nat} (hj : j < 12) (h : va_P D cl ((X ++ va3 cC AA SS j) ++ poolR cC AA SS j) H) : va_P D cl (X ++ poolW cC AA SS) H := h.perm (foc_perm X cC AA SS hj).symm
theorem unf_D {A : Nat → Prop} {X : va_W} {cC : ClassId} {AA : AS} {SS : Nat → VS} {j : Nat} (hj : j < 12) (h : va_D A ((X ++ va3 cC AA SS j) ++ poolR cC AA SS j)) : va_D A (X ++ poolW cC AA SS) := h.perm (foc_perm X cC AA SS hj).symm
/-- the rest of the pool does not see a change of the one that is out -/
theorem poolR_up (cC : ClassId) (AA : AS) (SS : Nat → VS) (j : Nat) (v : VS) : poolR cC AA (va_up SS j v) j = poolR cC AA SS j := by
  unfold poolR
  have hnd : (List.range 12).Nodup := List.nodup_range
  have : ∀ i ∈ (List.range 12).erase j, va3 cC AA (va_up SS j v) i = va3 cC AA SS i := by
    intro i hi
    have hne : i ≠ j := fun e => by
      subst e
      exact hnd.not_mem_erase hi
    unfold va3
    rw [va_up_ne _ _ hne]
  rw [List.flatMap_def, List.flatMap_def, List.map_congr_left this]
/-- what every value in the row keeps to -/
def vsOK (SS : Nat → VS) : Prop := ∀ j, j < 12 → ((SS j).1 = 0 ∨ (SS j).1 = 1) ∧ lnOK 60 (SS j).2.2.2.2.2
theorem tk_in {tk cnt : Int32} (h0 : 0 ≤ tk.toInt) (h1 : tk < cnt) (h2 : cnt.toInt ≤ 12) : vp_in tk 12 ∧ tk.toNatClampNeg < 12 := by
  rw [k_lt] at h1
  refine ⟨vp_in_iff.mpr ⟨h0, by omega⟩, ?_⟩
  rw [k_clamp h0]
  omega
/-- takeStar: answer, taken, minus, width, precision -/
abbrev ST : Type := Int32 × Int32 × Int32 × Int32 × Int32
def stNum (SS : Nat → VS) (tk : Int32) : Int32 := (vaWhole (SS tk.toNatClampNeg).2.1 (SS tk.toNatClampNeg).2.2.1).toInt32
def stTake (cnt : Int32) (SS : Nat → VS) (fw tk mi wi pr : Int32) : ST :=
  if ¬ tk < cnt then (2, tk, mi, wi, pr) else
  if vaStar (SS tk.toNatClampNeg).1 (SS tk.toNatClampNeg).2.2.1 = true then
    (if fw = 0 then (0, tk + 1, mi, wi, if 0 ≤ stNum SS tk then stNum SS tk else -1) else (0, tk + 1, if 0 ≤ stNum SS tk then mi else 1, fiAbs (stNum SS tk), pr))
  else (3, tk + 1, mi, wi, pr)
theorem tk_up {tk cnt : Int32} (h : tk < cnt) (h0 : 0 ≤ tk.toInt) : 0 ≤ (tk + 1).toInt := by
  rw [k_lt] at h
  rw [k_inc (b := cnt) h]
  omega
