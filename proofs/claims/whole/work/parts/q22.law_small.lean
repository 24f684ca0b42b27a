/-- an array's sort, out of its word -/
theorem th_arr {s : State} {args : Array Value} {ty : FieldType} (h : (Cond.arrayClass ty).before args s = true) : ∃ cA : ClassId, ArrOfT s cA ty ∧ s.vm.findClass ("[" ++ ty.toString) = some cA := by
  obtain ⟨c, k, comp, h1, h2, h3⟩ := Cond.arrayClass_spec h
  exact ⟨c, fun n z => ⟨fun k h => VmData.noConfusion h, k, h2, comp, h3⟩, h1⟩
/-- what the throws need, out of what the Statement gives -/
theorem kT_of {s : State} {b : Nat} (hts : ∀ w ∈ lw_tbl, w.before #[Value.ref b] s = true) (hgv : (Jvm.Cond.and given_1 narrow_1).before #[Value.ref b] s = true) : kT s := by
  have hf := flat_of_before _ hgv
  have f0 : (.declares (Bundle.initS "java/lang/RuntimeException") : Cond).before #[Value.ref b] s = true := hts _ (List.mem_append_right _ (List.mem_of_getElem? (i := 300) (by decide +kernel)))
  have f1 : (.declares (Bundle.initS "java/lang/Exception") : Cond).before #[Value.ref b] s = true := hts _ (List.mem_append_right _ (List.mem_of_getElem? (i := 302) (by decide +kernel)))
  have f2 : (.declares (Bundle.initS "java/lang/Throwable") : Cond).before #[Value.ref b] s = true := hts _ (List.mem_append_right _ (List.mem_of_getElem? (i := 304) (by decide +kernel)))
  have f3 : (.castable xIAE xIAE : Cond).before #[Value.ref b] s = true := hts _ (List.mem_append_right _ (List.mem_of_getElem? (i := 298) (by decide +kernel)))
  have f4 : (.castable xISE xISE : Cond).before #[Value.ref b] s = true := hts _ (List.mem_append_right _ (List.mem_of_getElem? (i := 366) (by decide +kernel)))
  have f5 : (.castable xNSE xNSE : Cond).before #[Value.ref b] s = true := hts _ (List.mem_append_right _ (List.mem_of_getElem? (i := 602) (by decide +kernel)))
  have g0 : (.stringRef R_De 81 "the tape is no decimal" : Cond).before #[Value.ref b] s = true := hts _ (List.mem_append_right _ (List.mem_of_getElem? (i := 337) (by decide +kernel)))
  have g1 : (.stringRef R_De 88 "there are 12 values" : Cond).before #[Value.ref b] s = true := hts _ (List.mem_append_right _ (List.mem_of_getElem? (i := 373) (by decide +kernel)))
  have g2 : (.stringRef R_De 107 "the pattern has a fault" : Cond).before #[Value.ref b] s = true := hts _ (List.mem_append_right _ (List.mem_of_getElem? (i := 591) (by decide +kernel)))
  have g3 : (.stringRef R_De 115 "no such character was filled" : Cond).before #[Value.ref b] s = true := hts _ (List.mem_append_right _ (List.mem_of_getElem? (i := 609) (by decide +kernel)))
  have s0 : (.isRef (.static Bundle.tN "UNASSIGNED_STACK" Bundle.steD) : Cond).before #[Value.ref b] s = true := hf _ (by decide +kernel)
  have s1 : (.isRef (.static Bundle.tN "SUPPRESSED_SENTINEL" Bundle.listD) : Cond).before #[Value.ref b] s = true := hf _ (by decide +kernel)
  have s2 : (.laysStatic Bundle.tN "UNASSIGNED_STACK" Bundle.steD : Cond).before #[Value.ref b] s = true := hts _ (List.mem_append_right _ (List.mem_of_getElem? (i := 323) (by decide +kernel)))
  have s3 : (.laysStatic Bundle.tN "SUPPRESSED_SENTINEL" Bundle.listD : Cond).before #[Value.ref b] s = true := hts _ (List.mem_append_right _ (List.mem_of_getElem? (i := 325) (by decide +kernel)))
  refine ⟨fun args w hw => ?_, fun args q hq => ?_, fun args w hw => ?_, va_Nc.of (hf (.not (.castable xISE xIAE)) (by decide +kernel))⟩
  · simp only [thF, List.mem_cons, List.not_mem_nil, or_false] at hw
    rcases hw with rfl | rfl | rfl | rfl | rfl | rfl
    · exact f0
    · exact f1
    · exact f2
    · exact f3
    · exact f4
    · exact f5
  · simp only [thG, List.mem_cons, List.not_mem_nil, or_false] at hq
    rcases hq with rfl | rfl | rfl | rfl
    · exact g0
    · exact g1
    · exact g2
    · exact g3
  · simp only [thS, List.mem_cons, List.not_mem_nil, or_false] at hw
    rcases hw with rfl | rfl | rfl | rfl
    · exact th_isRef s0 rfl (fun _ _ h _ => h)
    · exact th_isRef s1 rfl (fun _ _ h _ => h)
    · exact th_laysS s2 rfl (fun _ _ h _ => h)
    · exact th_laysS s3 rfl (fun _ _ h _ => h)
/-- a new cell goes ahead of the pool -/
theorem rot_perm (X Y pl : va_W) : ((X ++ pl) ++ Y).Perm ((X ++ Y) ++ pl) := by
  rw [List.append_assoc, List.append_assoc]
  exact List.Perm.append_left X List.perm_append_comm
theorem rotP {D : va_G} {cl : List vw_C} {X Y pl : va_W} {H : Heap} (h : va_P D cl ((X ++ pl) ++ Y) H) : va_P D cl ((X ++ Y) ++ pl) H := h.perm (rot_perm X Y pl)
theorem rotD {A : Nat → Prop} {X Y pl : va_W} (h : va_D A ((X ++ pl) ++ Y)) : va_D A ((X ++ Y) ++ pl) := h.perm (rot_perm X Y pl)
theorem vs0 : vsOK SS0 := fun j hj => ⟨Or.inl rfl, (by decide : (0 : Int) ≤ (0 : Int32).toInt), (by decide : (0 : Int32).toInt ≤ ((60 : Nat) : Int)), by decide⟩
theorem bd0 : Bnd (fun _ => 0) (fun _ => 0) (fun _ => 0) := fun j hj => ⟨⟨(by decide : (0 : Int) ≤ (0 : Int32).toInt), (by decide : (0 : Int32).toInt ≤ 18)⟩, ⟨(by decide : (0 : Int) ≤ (0 : Int32).toInt), (by decide : (0 : Int32).toInt ≤ 12)⟩, (by decide : (0 : Int) ≤ (0 : Int32).toInt), (by decide : (0 : Int32).toInt ≤ 60)⟩
