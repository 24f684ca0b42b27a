theorem t_2 : (.initialized R_Ln : Cond) ∈ TB := tb_of 2 (by decide +kernel) (by decide +kernel)
theorem t_3 : (.initialized "java/lang/Math" : Cond) ∈ TB := tb_of 3 (by decide +kernel) (by decide +kernel)
theorem t_21 : (.instanceMethod objectInit : Cond) ∈ TB := tb_of 21 (by decide +kernel) (by decide +kernel)
theorem t_22 : (.code objectInit ⟨#[0xb1]⟩ 1 none : Cond) ∈ TB := tb_of 22 (by decide +kernel) (by decide +kernel)
theorem t_28 : (.methodLink R_Ln 3 objectInit : Cond) ∈ TB := tb_of 28 (by decide +kernel) (by decide +kernel)
theorem t_29 : (.methodLink R_Ln 9 Lib.Math.max.name : Cond) ∈ TB := tb_of 29 (by decide +kernel) (by decide +kernel)
theorem t_30 : (.static Lib.Math.max.name : Cond) ∈ TB := tb_of 30 (by decide +kernel) (by decide +kernel)
theorem t_31 : (.code Lib.Math.max.name Lib.Math.max.code 2 (some .int) : Cond) ∈ TB := tb_of 31 (by decide +kernel) (by decide +kernel)
theorem t_32 : (.fieldLink R_Ln 15 R_Ln "marks" "[C" : Cond) ∈ TB := tb_of 32 (by decide +kernel) (by decide +kernel)
theorem t_33 : (.fieldLink R_Ln 21 R_Ln "length" "I" : Cond) ∈ TB := tb_of 33 (by decide +kernel) (by decide +kernel)
theorem t_39 : (.arrayClass .char : Cond) ∈ TB := tb_of 39 (by decide +kernel) (by decide +kernel)
theorem t_206 : (.instanceMethod y_Ln_add : Cond) ∈ TB := tb_of 206 (by decide +kernel) (by decide +kernel)
theorem t_207 : (.selects R_Ln y_Ln_add y_Ln_add : Cond) ∈ TB := tb_of 207 (by decide +kernel) (by decide +kernel)
theorem t_208 : (.code y_Ln_add b_Ln_add 2 none : Cond) ∈ TB := tb_of 208 (by decide +kernel) (by decide +kernel)
theorem t_230 : (.methodLink R_Ln 29 y_Ln_at : Cond) ∈ TB := tb_of 230 (by decide +kernel) (by decide +kernel)
theorem t_231 : (.instanceMethod y_Ln_at : Cond) ∈ TB := tb_of 231 (by decide +kernel) (by decide +kernel)
theorem t_232 : (.selects R_Ln y_Ln_at y_Ln_at : Cond) ∈ TB := tb_of 232 (by decide +kernel) (by decide +kernel)
theorem t_233 : (.code y_Ln_at b_Ln_at 2 (some .int) : Cond) ∈ TB := tb_of 233 (by decide +kernel) (by decide +kernel)
theorem t_234 : (.methodLink R_Ln 25 y_Ln_add : Cond) ∈ TB := tb_of 234 (by decide +kernel) (by decide +kernel)
theorem t_278 : (.methodLink R_Ln 33 y_Ln_isDigit : Cond) ∈ TB := tb_of 278 (by decide +kernel) (by decide +kernel)
theorem t_279 : (.static y_Ln_isDigit : Cond) ∈ TB := tb_of 279 (by decide +kernel) (by decide +kernel)
theorem t_280 : (.code y_Ln_isDigit b_Ln_isDigit 1 (some .boolean) : Cond) ∈ TB := tb_of 280 (by decide +kernel) (by decide +kernel)
theorem t_285 : (.constantLong R_Ln 37 10 : Cond) ∈ TB := tb_of 285 (by decide +kernel) (by decide +kernel)
theorem g_Ln_25 : GoodIn TB (wsV R_Ln 25 R_Ln y_Ln_add w_Ln_add) := TB_V t_234 t_206 t_207 t_2 t_208
theorem g_Ln_29 : GoodIn TB (wsV R_Ln 29 R_Ln y_Ln_at w_Ln_at) := TB_V t_230 t_231 t_232 t_2 t_233
theorem g_Ln_33 : GoodIn TB (wsS R_Ln 33 y_Ln_isDigit w_Ln_isDigit) := TB_S t_278 t_279 t_2 t_280
set_option maxHeartbeats 4000000 in
set_option maxRecDepth 100000 in
theorem c_Line_size (l : Launch) (dC : Nat → ClassId) (dI : Nat → Nat → Nat) (sz : Nat) (cC : ClassId) (h : Nat) (a : Nat) (room : Nat) (f : Nat → Int32) (n : Int32)  : Met l y_Ln_size w_Ln_size ({ frames := 0, cells := 0, slots := 0, locals := 0 } : Room) (va_Pc [.ref h] (fun U => U.heap.size = sz ∧ va_P (dC, dI) CL [(h, .inr (2, [.ref a, .int n])), (a, .inl (cC, room, .inl f))] U.heap ∧ va_K (dC, dI) CL [(cC, .char)] U ∧ va_D (fun _ => True) [(h, .inr (2, [.ref a, .int n])), (a, .inl (cC, room, .inl f))])) (va_Qi (fun (r : Int32) (u : Unit) => r = n) (fun (u : Unit) (t : State) => va_P (dC, dI) CL [(h, .inr (2, [.ref a, .int n])), (a, .inl (cC, room, .inl f))] t.heap ∧ va_K (dC, dI) CL [(cC, .char)] t ∧ va_D (va_A [(h, .inr (2, [.ref a, .int n])), (a, .inl (cC, room, .inl f))] sz) [(h, .inr (2, [.ref a, .int n])), (a, .inl (cC, room, .inl f))]) (va_A [(h, .inr (2, [.ref a, .int n])), (a, .inl (cC, room, .inl f))] sz)) 0 0 (va_A [(h, .inr (2, [.ref a, .int n])), (a, .inl (cC, room, .inl f))] sz) := by
  refine Met.ofW (cc := b_Ln_size) (maxL := 1) (ret := (some .int)) (by decide) rfl ?_
  intro p e s m args below meth c s₁ B hml hv
  obtain ⟨rfl, hsz, hP, hK, hD0⟩ := hv
  have hx := B.exec
  have hb := B.bytes
  have hr := B.returns
  have hts := atoms_spec (ws := w_Ln_size) B.pre
  have hT : ∀ w ∈ TB, w.before _ s = true := fun w h => hts w (List.mem_cons_of_mem _ h)
  have hown : s.vm.findClass R_Ln = some m.cls := findClass_of_methodNamed B.named
  have hlocks := B.notSynchronized
  subst hsz
  have hD := hD0.self (sz := s.heap.size)
  generalize hAe : va_A [(h, .inr (2, [.ref a, .int n])), (a, .inl (cC, room, .inl f))] s.heap.size = A at hD ⊢
  have hA : ∀ q : Nat, s.heap.size ≤ q → A q := fun q h => by rw [← hAe]; exact Or.inr h
  have hS : va_S A s.heap s.heap [] := va_S.rf
  have hP : va_P (dC, dI) CL [(h, .inr (2, [.ref a, .int n])), (a, .inl (cC, room, .inl f))] s.heap := hP
  have hl := lv_entry ([.ref h]) (n := 1) (Nat.le_of_ble_eq_true rfl)
  rw [lg_entry_eq]
  generalize (lg_sl ([.ref h]) ++ List.replicate (1 - (lg_sl ([.ref h])).length) Slot.unset).toArray = ls at hl ⊢
  have hl : lv_has ls 1 [(0, .ref h)] := hl
  refine lv_aload_n hx hb d_Ln_size_0 rfl (lv_at hl 0 rfl) ?_
  refine va_get (D := (dC, dI)) (ci := 2) (v := .int n) (C := R_Ln) (T := F_Ln) (N := 2) hx hb hT (in_Ln) hown hK hP 0 rfl rfl 1 (by decide) (hT _ t_33) (fun _ h9 => h9) rfl d_Ln_size_1 ?_
  have hP9 := hP.sub (ws' := [(h, .inr (2, [.ref a, .int n])), (a, .inl (cC, room, .inl f))]) [0, 1] rfl
  have hD9 := hD.sub (ws' := [(h, .inr (2, [.ref a, .int n])), (a, .inl (cC, room, .inl f))]) [0, 1] (by decide) rfl
  have hK9 := hK.sub (tys' := [(cC, .char)]) [0] rfl
  have hq9 : n = n := by rfl
  exact W.iret (v := n) hx hb hr (fun t ht hW => ⟨⟨n, (), rfl, hq9, by rw [ht]; exact hP9, va_K.moved hW.alike hK9, hD9⟩, hS.F ht⟩) hS.2.2 d_Ln_size_4

set_option maxHeartbeats 4000000 in
set_option maxRecDepth 100000 in
theorem c_Line_hasRoom (l : Launch) (dC : Nat → ClassId) (dI : Nat → Nat → Nat) (sz : Nat) (cC : ClassId) (h : Nat) (a : Nat) (room : Nat) (f : Nat → Int32) (n : Int32) (many : Int32)  : Met l y_Ln_hasRoom w_Ln_hasRoom ({ frames := 0, cells := 0, slots := 0, locals := 0 } : Room) (va_Pc [.ref h, .int many] (fun U => U.heap.size = sz ∧ va_P (dC, dI) CL [(h, .inr (2, [.ref a, .int n])), (a, .inl (cC, room, .inl f))] U.heap ∧ va_K (dC, dI) CL [(cC, .char)] U ∧ va_D (fun _ => True) [(h, .inr (2, [.ref a, .int n])), (a, .inl (cC, room, .inl f))])) (va_Qi (fun (r : Int32) (u : Unit) => r = k_b (decide (many ≤ nI room - n))) (fun (u : Unit) (t : State) => va_P (dC, dI) CL [(h, .inr (2, [.ref a, .int n])), (a, .inl (cC, room, .inl f))] t.heap ∧ va_K (dC, dI) CL [(cC, .char)] t ∧ va_D (va_A [(h, .inr (2, [.ref a, .int n])), (a, .inl (cC, room, .inl f))] sz) [(h, .inr (2, [.ref a, .int n])), (a, .inl (cC, room, .inl f))]) (va_A [(h, .inr (2, [.ref a, .int n])), (a, .inl (cC, room, .inl f))] sz)) 0 0 (va_A [(h, .inr (2, [.ref a, .int n])), (a, .inl (cC, room, .inl f))] sz) := by
  refine Met.ofW (cc := b_Ln_hasRoom) (maxL := 2) (ret := (some .boolean)) (by decide) rfl ?_
  intro p e s m args below meth c s₁ B hml hv
  obtain ⟨rfl, hsz, hP, hK, hD0⟩ := hv
  have hx := B.exec
  have hb := B.bytes
  have hr := B.returns
  have hts := atoms_spec (ws := w_Ln_hasRoom) B.pre
  have hT : ∀ w ∈ TB, w.before _ s = true := fun w h => hts w (List.mem_cons_of_mem _ h)
  have hown : s.vm.findClass R_Ln = some m.cls := findClass_of_methodNamed B.named
  have hlocks := B.notSynchronized
  subst hsz
  have hD := hD0.self (sz := s.heap.size)
  generalize hAe : va_A [(h, .inr (2, [.ref a, .int n])), (a, .inl (cC, room, .inl f))] s.heap.size = A at hD ⊢
  have hA : ∀ q : Nat, s.heap.size ≤ q → A q := fun q h => by rw [← hAe]; exact Or.inr h
  have hS : va_S A s.heap s.heap [] := va_S.rf
  have hP : va_P (dC, dI) CL [(h, .inr (2, [.ref a, .int n])), (a, .inl (cC, room, .inl f))] s.heap := hP
  have hl := lv_entry ([.ref h, .int many]) (n := 2) (Nat.le_of_ble_eq_true rfl)
  rw [lg_entry_eq]
  generalize (lg_sl ([.ref h, .int many]) ++ List.replicate (2 - (lg_sl ([.ref h, .int many])).length) Slot.unset).toArray = ls at hl ⊢
  have hl : lv_has ls 2 [(0, .ref h), (1, .int many)] := hl
  refine lv_iload_n hx hb d_Ln_hasRoom_0 rfl (lv_at hl 1 rfl) ?_
  refine lv_aload_n hx hb d_Ln_hasRoom_1 rfl (lv_at hl 0 rfl) ?_
  refine va_get (D := (dC, dI)) (ci := 2) (v := .ref a) (C := R_Ln) (T := F_Ln) (N := 2) hx hb hT (in_Ln) hown hK hP 0 rfl rfl 0 (by decide) (hT _ t_32) (fun _ h9 => h9) rfl d_Ln_hasRoom_2 ?_
  refine va_alen (v := nI room) hx hb hK hP 1 0 rfl rfl rfl d_Ln_hasRoom_5 ?_
  refine lv_aload_n hx hb d_Ln_hasRoom_6 rfl (lv_at hl 0 rfl) ?_
  refine va_get (D := (dC, dI)) (ci := 2) (v := .int n) (C := R_Ln) (T := F_Ln) (N := 2) hx hb hT (in_Ln) hown hK hP 0 rfl rfl 1 (by decide) (hT _ t_33) (fun _ h9 => h9) rfl d_Ln_hasRoom_7 ?_
  refine lv_isub hx hb d_Ln_hasRoom_10 ?_
  refine lv_topi (fun x1 ex1 => ?_)
  refine lv_icmp_gt (tgt := 18) hx hb d_Ln_hasRoom_11 (by decide) (fun c11_2 => ?_) (fun c11_2 => ?_)
  · skip
    refine lv_iconst (v := 0) hx hb d_Ln_hasRoom_18 (by decide) ?_
    have hP9 := hP.sub (ws' := [(h, .inr (2, [.ref a, .int n])), (a, .inl (cC, room, .inl f))]) [0, 1] rfl
    have hD9 := hD.sub (ws' := [(h, .inr (2, [.ref a, .int n])), (a, .inl (cC, room, .inl f))]) [0, 1] (by decide) rfl
    have hK9 := hK.sub (tys' := [(cC, .char)]) [0] rfl
    have hq9 : (0 : Int32) = k_b (decide (many ≤ nI room - n)) := by subst ex1; simp [k_b, c11_2]
    exact W.zret (v := 0) hx hb hr rfl (fun t ht hW => ⟨⟨0, (), rfl, hq9, by rw [ht]; exact hP9, va_K.moved hW.alike hK9, hD9⟩, hS.F ht⟩) hS.2.2 d_Ln_hasRoom_19
  · skip
    refine lv_iconst (v := 1) hx hb d_Ln_hasRoom_14 (by decide) ?_
    refine lv_goto (tgt := 19) hx hb d_Ln_hasRoom_15 (by decide) ?_
    have hP9 := hP.sub (ws' := [(h, .inr (2, [.ref a, .int n])), (a, .inl (cC, room, .inl f))]) [0, 1] rfl
    have hD9 := hD.sub (ws' := [(h, .inr (2, [.ref a, .int n])), (a, .inl (cC, room, .inl f))]) [0, 1] (by decide) rfl
    have hK9 := hK.sub (tys' := [(cC, .char)]) [0] rfl
    have hq9 : (1 : Int32) = k_b (decide (many ≤ nI room - n)) := by subst ex1; simp [k_b, c11_2]
    exact W.zret (v := 1) hx hb hr rfl (fun t ht hW => ⟨⟨1, (), rfl, hq9, by rw [ht]; exact hP9, va_K.moved hW.alike hK9, hD9⟩, hS.F ht⟩) hS.2.2 d_Ln_hasRoom_19

set_option maxHeartbeats 4000000 in
set_option maxRecDepth 100000 in
theorem c_Line_at (l : Launch) (dC : Nat → ClassId) (dI : Nat → Nat → Nat) (sz : Nat) (cC : ClassId) (h : Nat) (a : Nat) (room : Nat) (f : Nat → Int32) (n : Int32) (i : Int32) (hn : lnOK room n) : Met l y_Ln_at w_Ln_at ({ frames := 0, cells := 0, slots := 0, locals := 0 } : Room) (va_Pc [.ref h, .int i] (fun U => U.heap.size = sz ∧ va_P (dC, dI) CL [(h, .inr (2, [.ref a, .int n])), (a, .inl (cC, room, .inl f))] U.heap ∧ va_K (dC, dI) CL [(cC, .char)] U ∧ va_D (fun _ => True) [(h, .inr (2, [.ref a, .int n])), (a, .inl (cC, room, .inl f))])) (va_Qi (fun (r : Int32) (u : Unit) => r = lnAt f n i) (fun (u : Unit) (t : State) => va_P (dC, dI) CL [(h, .inr (2, [.ref a, .int n])), (a, .inl (cC, room, .inl f))] t.heap ∧ va_K (dC, dI) CL [(cC, .char)] t ∧ va_D (va_A [(h, .inr (2, [.ref a, .int n])), (a, .inl (cC, room, .inl f))] sz) [(h, .inr (2, [.ref a, .int n])), (a, .inl (cC, room, .inl f))]) (va_A [(h, .inr (2, [.ref a, .int n])), (a, .inl (cC, room, .inl f))] sz)) 0 0 (va_A [(h, .inr (2, [.ref a, .int n])), (a, .inl (cC, room, .inl f))] sz) := by
  refine Met.ofW (cc := b_Ln_at) (maxL := 2) (ret := (some .int)) (by decide) rfl ?_
  intro p e s m args below meth c s₁ B hml hv
  obtain ⟨rfl, hsz, hP, hK, hD0⟩ := hv
  have hx := B.exec
  have hb := B.bytes
  have hr := B.returns
  have hts := atoms_spec (ws := w_Ln_at) B.pre
  have hT : ∀ w ∈ TB, w.before _ s = true := fun w h => hts w (List.mem_cons_of_mem _ h)
  have hown : s.vm.findClass R_Ln = some m.cls := findClass_of_methodNamed B.named
  have hlocks := B.notSynchronized
  subst hsz
  have hD := hD0.self (sz := s.heap.size)
  generalize hAe : va_A [(h, .inr (2, [.ref a, .int n])), (a, .inl (cC, room, .inl f))] s.heap.size = A at hD ⊢
  have hA : ∀ q : Nat, s.heap.size ≤ q → A q := fun q h => by rw [← hAe]; exact Or.inr h
  have hS : va_S A s.heap s.heap [] := va_S.rf
  have hP : va_P (dC, dI) CL [(h, .inr (2, [.ref a, .int n])), (a, .inl (cC, room, .inl f))] s.heap := hP
  have hl := lv_entry ([.ref h, .int i]) (n := 2) (Nat.le_of_ble_eq_true rfl)
  rw [lg_entry_eq]
  generalize (lg_sl ([.ref h, .int i]) ++ List.replicate (2 - (lg_sl ([.ref h, .int i])).length) Slot.unset).toArray = ls at hl ⊢
  have hl : lv_has ls 2 [(0, .ref h), (1, .int i)] := hl
  refine lv_iload_n hx hb d_Ln_at_0 rfl (lv_at hl 1 rfl) ?_
  refine lv_if_lt (tgt := 21) hx hb d_Ln_at_1 (by decide) (fun c1_1 => ?_) (fun c1_1 => ?_)
  · skip
    refine lv_iconst (v := (-1)) hx hb d_Ln_at_21 (by decide) ?_
    have hP9 := hP.sub (ws' := [(h, .inr (2, [.ref a, .int n])), (a, .inl (cC, room, .inl f))]) [0, 1] rfl
    have hD9 := hD.sub (ws' := [(h, .inr (2, [.ref a, .int n])), (a, .inl (cC, room, .inl f))]) [0, 1] (by decide) rfl
    have hK9 := hK.sub (tys' := [(cC, .char)]) [0] rfl
    have hq9 : (-1 : Int32) = lnAt f n i := by simp [lnAt, c1_1]
    exact W.iret (v := (-1)) hx hb hr (fun t ht hW => ⟨⟨(-1), (), rfl, hq9, by rw [ht]; exact hP9, va_K.moved hW.alike hK9, hD9⟩, hS.F ht⟩) hS.2.2 d_Ln_at_22
  · skip
    refine lv_iload_n hx hb d_Ln_at_4 rfl (lv_at hl 1 rfl) ?_
    refine lv_aload_n hx hb d_Ln_at_5 rfl (lv_at hl 0 rfl) ?_
    refine va_get (D := (dC, dI)) (ci := 2) (v := .int n) (C := R_Ln) (T := F_Ln) (N := 2) hx hb hT (in_Ln) hown hK hP 0 rfl rfl 1 (by decide) (hT _ t_33) (fun _ h9 => h9) rfl d_Ln_at_6 ?_
    refine lv_icmp_ge (tgt := 21) hx hb d_Ln_at_9 (by decide) (fun c9_2 => ?_) (fun c9_2 => ?_)
    · skip
      refine lv_iconst (v := (-1)) hx hb d_Ln_at_21 (by decide) ?_
      have hP9 := hP.sub (ws' := [(h, .inr (2, [.ref a, .int n])), (a, .inl (cC, room, .inl f))]) [0, 1] rfl
      have hD9 := hD.sub (ws' := [(h, .inr (2, [.ref a, .int n])), (a, .inl (cC, room, .inl f))]) [0, 1] (by decide) rfl
      have hK9 := hK.sub (tys' := [(cC, .char)]) [0] rfl
      have hq9 : (-1 : Int32) = lnAt f n i := by simp [lnAt, c1_1, c9_2]
      exact W.iret (v := (-1)) hx hb hr (fun t ht hW => ⟨⟨(-1), (), rfl, hq9, by rw [ht]; exact hP9, va_K.moved hW.alike hK9, hD9⟩, hS.F ht⟩) hS.2.2 d_Ln_at_22
    · skip
      refine lv_aload_n hx hb d_Ln_at_12 rfl (lv_at hl 0 rfl) ?_
      refine va_get (D := (dC, dI)) (ci := 2) (v := .ref a) (C := R_Ln) (T := F_Ln) (N := 2) hx hb hT (in_Ln) hown hK hP 0 rfl rfl 0 (by decide) (hT _ t_32) (fun _ h9 => h9) rfl d_Ln_at_13 ?_
      refine lv_iload_n hx hb d_Ln_at_16 rfl (lv_at hl 1 rfl) ?_
      refine va_cald hx hb hK hP 1 0 rfl rfl (lnAt_in hn c1_1 c9_2) d_Ln_at_17 ?_
      refine lv_topi (fun x3 ex3 => ?_)
      refine lv_goto (tgt := 22) hx hb d_Ln_at_18 (by decide) ?_
      have hP9 := hP.sub (ws' := [(h, .inr (2, [.ref a, .int n])), (a, .inl (cC, room, .inl f))]) [0, 1] rfl
      have hD9 := hD.sub (ws' := [(h, .inr (2, [.ref a, .int n])), (a, .inl (cC, room, .inl f))]) [0, 1] (by decide) rfl
      have hK9 := hK.sub (tys' := [(cC, .char)]) [0] rfl
      have hq9 : x3 = lnAt f n i := by subst ex3; simp [lnAt, c1_1, c9_2]
      exact W.iret (v := x3) hx hb hr (fun t ht hW => ⟨⟨x3, (), rfl, hq9, by rw [ht]; exact hP9, va_K.moved hW.alike hK9, hD9⟩, hS.F ht⟩) hS.2.2 d_Ln_at_22

set_option maxHeartbeats 4000000 in
set_option maxRecDepth 100000 in
theorem c_Line_empty (l : Launch) (dC : Nat → ClassId) (dI : Nat → Nat → Nat) (sz : Nat) (cC : ClassId) (h : Nat) (a : Nat) (room : Nat) (f : Nat → Int32) (n : Int32)  : Met l y_Ln_empty w_Ln_empty ({ frames := 0, cells := 0, slots := 0, locals := 0 } : Room) (va_Pc [.ref h] (fun U => U.heap.size = sz ∧ va_P (dC, dI) CL [(h, .inr (2, [.ref a, .int n])), (a, .inl (cC, room, .inl f))] U.heap ∧ va_K (dC, dI) CL [(cC, .char)] U ∧ va_D (fun _ => True) [(h, .inr (2, [.ref a, .int n])), (a, .inl (cC, room, .inl f))])) (va_Qv (fun (u : Unit) => True) (fun (u : Unit) (t : State) => va_P (dC, dI) CL [(h, .inr (2, [.ref a, .int 0])), (a, .inl (cC, room, .inl f))] t.heap ∧ va_K (dC, dI) CL [(cC, .char)] t ∧ va_D (va_A [(h, .inr (2, [.ref a, .int n])), (a, .inl (cC, room, .inl f))] sz) [(h, .inr (2, [.ref a, .int 0])), (a, .inl (cC, room, .inl f))]) (va_A [(h, .inr (2, [.ref a, .int n])), (a, .inl (cC, room, .inl f))] sz)) 0 0 (va_A [(h, .inr (2, [.ref a, .int n])), (a, .inl (cC, room, .inl f))] sz) := by
  refine Met.ofW (cc := b_Ln_empty) (maxL := 1) (ret := none) (by decide) rfl ?_
  intro p e s m args below meth c s₁ B hml hv
  obtain ⟨rfl, hsz, hP, hK, hD0⟩ := hv
  have hx := B.exec
  have hb := B.bytes
  have hr := B.returns
  have hts := atoms_spec (ws := w_Ln_empty) B.pre
  have hT : ∀ w ∈ TB, w.before _ s = true := fun w h => hts w (List.mem_cons_of_mem _ h)
  have hown : s.vm.findClass R_Ln = some m.cls := findClass_of_methodNamed B.named
  have hlocks := B.notSynchronized
  subst hsz
  have hD := hD0.self (sz := s.heap.size)
  generalize hAe : va_A [(h, .inr (2, [.ref a, .int n])), (a, .inl (cC, room, .inl f))] s.heap.size = A at hD ⊢
  have hA : ∀ q : Nat, s.heap.size ≤ q → A q := fun q h => by rw [← hAe]; exact Or.inr h
  have hS : va_S A s.heap s.heap [] := va_S.rf
  have hP : va_P (dC, dI) CL [(h, .inr (2, [.ref a, .int n])), (a, .inl (cC, room, .inl f))] s.heap := hP
  have hl := lv_entry ([.ref h]) (n := 1) (Nat.le_of_ble_eq_true rfl)
  rw [lg_entry_eq]
  generalize (lg_sl ([.ref h]) ++ List.replicate (1 - (lg_sl ([.ref h])).length) Slot.unset).toArray = ls at hl ⊢
  have hl : lv_has ls 1 [(0, .ref h)] := hl
  refine lv_aload_n hx hb d_Ln_empty_0 rfl (lv_at hl 0 rfl) ?_
  refine lv_iconst (v := 0) hx hb d_Ln_empty_1 (by decide) ?_
  refine va_put (D := (dC, dI)) (ci := 2) (v := .int 0) (ty := .int) (C := R_Ln) (T := F_Ln) (N := 2) hx hb hT (in_Ln) t_Ln t_Ln_ok n_Ln hown hK hP hD hS 0 rfl rfl 1 (by decide) (hT _ t_33) (fun _ h9 => h9) rfl (by decide +kernel) rfl rfl (Nat.le_of_ble_eq_true rfl) d_Ln_empty_2 (fun H locs hP hD hS => ?_)
  have hP : va_P (dC, dI) CL [(h, .inr (2, [.ref a, .int 0])), (a, .inl (cC, room, .inl f))] H := hP
  have hD : va_D A [(h, .inr (2, [.ref a, .int 0])), (a, .inl (cC, room, .inl f))] := hD
  have hP9 := hP.sub (ws' := [(h, .inr (2, [.ref a, .int 0])), (a, .inl (cC, room, .inl f))]) [0, 1] rfl
  have hD9 := hD.sub (ws' := [(h, .inr (2, [.ref a, .int 0])), (a, .inl (cC, room, .inl f))]) [0, 1] (by decide) rfl
  have hK9 := hK.sub (tys' := [(cC, .char)]) [0] rfl
  have hq9 : True := True.intro
  exact W.vret hx hb hr (fun t ht hW => ⟨⟨(), rfl, hq9, by rw [ht]; exact hP9, va_K.moved hW.alike hK9, hD9⟩, hS.F ht⟩) hS.2.2 d_Ln_empty_5

set_option maxHeartbeats 4000000 in
set_option maxRecDepth 100000 in
theorem c_Line_add (l : Launch) (dC : Nat → ClassId) (dI : Nat → Nat → Nat) (sz : Nat) (cC : ClassId) (h : Nat) (a : Nat) (room : Nat) (f : Nat → Int32) (n : Int32) (ch : Int32) (hn : lnOK room n) : Met l y_Ln_add w_Ln_add ({ frames := 0, cells := 0, slots := 0, locals := 0 } : Room) (va_Pc [.ref h, .int ch] (fun U => U.heap.size = sz ∧ va_P (dC, dI) CL [(h, .inr (2, [.ref a, .int n])), (a, .inl (cC, room, .inl f))] U.heap ∧ va_K (dC, dI) CL [(cC, .char)] U ∧ va_D (fun _ => True) [(h, .inr (2, [.ref a, .int n])), (a, .inl (cC, room, .inl f))])) (va_Qv (fun (u : (Nat → Int32) × Int32) => match u with | (f2, n2) => (f2, n2) = lnAdd room (f, n) ch ∧ lnOK room n2) (fun (u : (Nat → Int32) × Int32) (t : State) => match u with | (f2, n2) => va_P (dC, dI) CL [(h, .inr (2, [.ref a, .int n2])), (a, .inl (cC, room, .inl f2))] t.heap ∧ va_K (dC, dI) CL [(cC, .char)] t ∧ va_D (va_A [(h, .inr (2, [.ref a, .int n])), (a, .inl (cC, room, .inl f))] sz) [(h, .inr (2, [.ref a, .int n2])), (a, .inl (cC, room, .inl f2))]) (va_A [(h, .inr (2, [.ref a, .int n])), (a, .inl (cC, room, .inl f))] sz)) 0 0 (va_A [(h, .inr (2, [.ref a, .int n])), (a, .inl (cC, room, .inl f))] sz) := by
  refine Met.ofW (cc := b_Ln_add) (maxL := 2) (ret := none) (by decide) rfl ?_
  intro p e s m args below meth c s₁ B hml hv
  obtain ⟨rfl, hsz, hP, hK, hD0⟩ := hv
  have hx := B.exec
  have hb := B.bytes
  have hr := B.returns
  have hts := atoms_spec (ws := w_Ln_add) B.pre
  have hT : ∀ w ∈ TB, w.before _ s = true := fun w h => hts w (List.mem_cons_of_mem _ h)
  have hown : s.vm.findClass R_Ln = some m.cls := findClass_of_methodNamed B.named
  have hlocks := B.notSynchronized
  subst hsz
  have hD := hD0.self (sz := s.heap.size)
  generalize hAe : va_A [(h, .inr (2, [.ref a, .int n])), (a, .inl (cC, room, .inl f))] s.heap.size = A at hD ⊢
  have hA : ∀ q : Nat, s.heap.size ≤ q → A q := fun q h => by rw [← hAe]; exact Or.inr h
  have hS : va_S A s.heap s.heap [] := va_S.rf
  have hP : va_P (dC, dI) CL [(h, .inr (2, [.ref a, .int n])), (a, .inl (cC, room, .inl f))] s.heap := hP
  have hl := lv_entry ([.ref h, .int ch]) (n := 2) (Nat.le_of_ble_eq_true rfl)
  rw [lg_entry_eq]
  generalize (lg_sl ([.ref h, .int ch]) ++ List.replicate (2 - (lg_sl ([.ref h, .int ch])).length) Slot.unset).toArray = ls at hl ⊢
  have hl : lv_has ls 2 [(0, .ref h), (1, .int ch)] := hl
  refine lv_aload_n hx hb d_Ln_add_0 rfl (lv_at hl 0 rfl) ?_
  refine va_get (D := (dC, dI)) (ci := 2) (v := .int n) (C := R_Ln) (T := F_Ln) (N := 2) hx hb hT (in_Ln) hown hK hP 0 rfl rfl 1 (by decide) (hT _ t_33) (fun _ h9 => h9) rfl d_Ln_add_1 ?_
  refine lv_aload_n hx hb d_Ln_add_4 rfl (lv_at hl 0 rfl) ?_
  refine va_get (D := (dC, dI)) (ci := 2) (v := .ref a) (C := R_Ln) (T := F_Ln) (N := 2) hx hb hT (in_Ln) hown hK hP 0 rfl rfl 0 (by decide) (hT _ t_32) (fun _ h9 => h9) rfl d_Ln_add_5 ?_
  refine va_alen (v := nI room) hx hb hK hP 1 0 rfl rfl rfl d_Ln_add_8 ?_
  refine lv_icmp_ge (tgt := 33) hx hb d_Ln_add_9 (by decide) (fun c9_1 => ?_) (fun c9_1 => ?_)
  · skip
    have hP9 := hP.sub (ws' := [(h, .inr (2, [.ref a, .int n])), (a, .inl (cC, room, .inl f))]) [0, 1] rfl
    have hD9 := hD.sub (ws' := [(h, .inr (2, [.ref a, .int n])), (a, .inl (cC, room, .inl f))]) [0, 1] (by decide) rfl
    have hK9 := hK.sub (tys' := [(cC, .char)]) [0] rfl
    have hq9 : (f, n) = lnAdd room (f, n) ch ∧ lnOK room n := by
      have h9 : (f, n) = lnAdd room (f, n) ch := by simp [lnAdd, chr16, pk_vc, c9_1]
      refine ⟨h9, ?_⟩; have h8 := lnAdd_ok (c := ch) (L := (f, n)) hn; rw [← h9] at h8; exact h8
    exact W.vret hx hb hr (fun t ht hW => ⟨⟨(f, n), rfl, hq9, by rw [ht]; exact hP9, va_K.moved hW.alike hK9, hD9⟩, hS.F ht⟩) hS.2.2 d_Ln_add_33
  · skip
    refine lv_aload_n hx hb d_Ln_add_12 rfl (lv_at hl 0 rfl) ?_
    refine va_get (D := (dC, dI)) (ci := 2) (v := .ref a) (C := R_Ln) (T := F_Ln) (N := 2) hx hb hT (in_Ln) hown hK hP 0 rfl rfl 0 (by decide) (hT _ t_32) (fun _ h9 => h9) rfl d_Ln_add_13 ?_
    refine lv_aload_n hx hb d_Ln_add_16 rfl (lv_at hl 0 rfl) ?_
    refine va_get (D := (dC, dI)) (ci := 2) (v := .int n) (C := R_Ln) (T := F_Ln) (N := 2) hx hb hT (in_Ln) hown hK hP 0 rfl rfl 1 (by decide) (hT _ t_33) (fun _ h9 => h9) rfl d_Ln_add_17 ?_
    refine lv_iload_n hx hb d_Ln_add_20 rfl (lv_at hl 1 rfl) ?_
    refine lv_i2c (v := (ch.toUInt32 % 65536).toInt32) hx hb d_Ln_add_21 rfl ?_
    refine lv_topi (fun x2 ex2 => ?_)
    refine va_cast hx hb hK hP hD hS 1 0 rfl rfl (lnAdd_in hn c9_1) d_Ln_add_22 (fun H locs hP hD hS => ?_)
    have hP : va_P (dC, dI) CL [(h, .inr (2, [.ref a, .int n])), (a, .inl (cC, room, .inl (upd f n.toNatClampNeg (vp_nar .char x2))))] H := hP
    have hD : va_D A [(h, .inr (2, [.ref a, .int n])), (a, .inl (cC, room, .inl (upd f n.toNatClampNeg (vp_nar .char x2))))] := hD
    refine lv_aload_n hx hb d_Ln_add_23 rfl (lv_at hl 0 rfl) ?_
    refine lv_dup hx hb d_Ln_add_24 rfl ?_
    refine va_get (D := (dC, dI)) (ci := 2) (v := .int n) (C := R_Ln) (T := F_Ln) (N := 2) hx hb hT (in_Ln) hown hK hP 0 rfl rfl 1 (by decide) (hT _ t_33) (fun _ h9 => h9) rfl d_Ln_add_25 ?_
    refine lv_iconst (v := 1) hx hb d_Ln_add_28 (by decide) ?_
    refine lv_iadd hx hb d_Ln_add_29 ?_
    refine lv_topi (fun x3 ex3 => ?_)
    refine va_put (D := (dC, dI)) (ci := 2) (v := .int x3) (ty := .int) (C := R_Ln) (T := F_Ln) (N := 2) hx hb hT (in_Ln) t_Ln t_Ln_ok n_Ln hown hK hP hD hS 0 rfl rfl 1 (by decide) (hT _ t_33) (fun _ h9 => h9) rfl (by decide +kernel) rfl rfl (Nat.le_of_ble_eq_true rfl) d_Ln_add_30 (fun H locs hP hD hS => ?_)
    have hP : va_P (dC, dI) CL [(h, .inr (2, [.ref a, .int x3])), (a, .inl (cC, room, .inl (upd f n.toNatClampNeg (vp_nar .char x2))))] H := hP
    have hD : va_D A [(h, .inr (2, [.ref a, .int x3])), (a, .inl (cC, room, .inl (upd f n.toNatClampNeg (vp_nar .char x2))))] := hD
    have hP9 := hP.sub (ws' := [(h, .inr (2, [.ref a, .int x3])), (a, .inl (cC, room, .inl (upd f n.toNatClampNeg (vp_nar .char x2))))]) [0, 1] rfl
    have hD9 := hD.sub (ws' := [(h, .inr (2, [.ref a, .int x3])), (a, .inl (cC, room, .inl (upd f n.toNatClampNeg (vp_nar .char x2))))]) [0, 1] (by decide) rfl
    have hK9 := hK.sub (tys' := [(cC, .char)]) [0] rfl
    have hq9 : ((upd f n.toNatClampNeg (vp_nar .char x2)), x3) = lnAdd room (f, n) ch ∧ lnOK room x3 := by
      have h9 : ((upd f n.toNatClampNeg (vp_nar .char x2)), x3) = lnAdd room (f, n) ch := by subst ex2 ex3; simp [lnAdd, chr16, pk_vc, c9_1]
      refine ⟨h9, ?_⟩; have h8 := lnAdd_ok (c := ch) (L := (f, n)) hn; rw [← h9] at h8; exact h8
    exact W.vret hx hb hr (fun t ht hW => ⟨⟨(upd f n.toNatClampNeg (vp_nar .char x2), x3), rfl, hq9, by rw [ht]; exact hP9, va_K.moved hW.alike hK9, hD9⟩, hS.F ht⟩) hS.2.2 d_Ln_add_33

set_option maxHeartbeats 4000000 in
set_option maxRecDepth 100000 in
theorem c_Line_repeat (l : Launch) (dC : Nat → ClassId) (dI : Nat → Nat → Nat) (sz : Nat) (cC : ClassId) (h : Nat) (a : Nat) (room : Nat) (f : Nat → Int32) (n : Int32) (mark : Int32) (times : Int32) (hn : lnOK room n) : Met l y_Ln_repeat w_Ln_repeat ({ frames := 1, cells := 0, slots := 0, locals := 21 } : Room) (va_Pc [.ref h, .int mark, .int times] (fun U => U.heap.size = sz ∧ va_P (dC, dI) CL [(h, .inr (2, [.ref a, .int n])), (a, .inl (cC, room, .inl f))] U.heap ∧ va_K (dC, dI) CL [(cC, .char)] U ∧ va_D (fun _ => True) [(h, .inr (2, [.ref a, .int n])), (a, .inl (cC, room, .inl f))])) (va_Qv (fun (u : (Nat → Int32) × Int32) => match u with | (f2, n2) => (f2, n2) = lnRp room mark times (f, n) ∧ lnOK room n2) (fun (u : (Nat → Int32) × Int32) (t : State) => match u with | (f2, n2) => va_P (dC, dI) CL [(h, .inr (2, [.ref a, .int n2])), (a, .inl (cC, room, .inl f2))] t.heap ∧ va_K (dC, dI) CL [(cC, .char)] t ∧ va_D (va_A [(h, .inr (2, [.ref a, .int n])), (a, .inl (cC, room, .inl f))] sz) [(h, .inr (2, [.ref a, .int n2])), (a, .inl (cC, room, .inl f2))]) (va_A [(h, .inr (2, [.ref a, .int n])), (a, .inl (cC, room, .inl f))] sz)) 0 0 (va_A [(h, .inr (2, [.ref a, .int n])), (a, .inl (cC, room, .inl f))] sz) := by
  refine Met.ofW (cc := b_Ln_repeat) (maxL := 4) (ret := none) (by decide) rfl ?_
  intro p e s m args below meth c s₁ B hml hv
  obtain ⟨rfl, hsz, hP, hK, hD0⟩ := hv
  have hx := B.exec
  have hb := B.bytes
  have hr := B.returns
  have hts := atoms_spec (ws := w_Ln_repeat) B.pre
  have hT : ∀ w ∈ TB, w.before _ s = true := fun w h => hts w (List.mem_cons_of_mem _ h)
  have hown : s.vm.findClass R_Ln = some m.cls := findClass_of_methodNamed B.named
  have hlocks := B.notSynchronized
  subst hsz
  have hD := hD0.self (sz := s.heap.size)
  generalize hAe : va_A [(h, .inr (2, [.ref a, .int n])), (a, .inl (cC, room, .inl f))] s.heap.size = A at hD ⊢
  have hA : ∀ q : Nat, s.heap.size ≤ q → A q := fun q h => by rw [← hAe]; exact Or.inr h
  have hS : va_S A s.heap s.heap [] := va_S.rf
  have hP : va_P (dC, dI) CL [(h, .inr (2, [.ref a, .int n])), (a, .inl (cC, room, .inl f))] s.heap := hP
  have hl := lv_entry ([.ref h, .int mark, .int times]) (n := 4) (Nat.le_of_ble_eq_true rfl)
  rw [lg_entry_eq]
  generalize (lg_sl ([.ref h, .int mark, .int times]) ++ List.replicate (4 - (lg_sl ([.ref h, .int mark, .int times])).length) Slot.unset).toArray = ls at hl ⊢
  have hl : lv_has ls 4 [(0, .ref h), (1, .int mark), (2, .int times)] := hl
  refine k_Q (fun Q hQ => ?_)
  refine lv_iconst (v := 0) hx hb d_Ln_repeat_0 (by decide) ?_
  refine lv_istore_n (lv' := [(3, .int 0), (0, .ref h), (1, .int mark), (2, .int times)]) hx hb d_Ln_repeat_1 rfl hl (by decide) rfl (fun ls hl => ?_)
  have loop2 : ∀ (fuel : Nat) (i : Int32) (n1 : Int32) (f1 : Nat → Int32) (H : Heap) (locs : List Loc) (ls : Array Slot), ((times.toInt - i.toInt).toNat < fuel) → (lnOK room n1) → (lnRep room mark times fuel i (f1, n1) = lnRep room mark times (times.toInt.toNat + 1) 0 (f, n)) → va_P (dC, dI) CL [(h, .inr (2, [.ref a, .int n1])), (a, .inl (cC, room, .inl f1))] H → va_D A [(h, .inr (2, [.ref a, .int n1])), (a, .inl (cC, room, .inl f1))] → va_S A s.heap H locs → lv_has ls 4 [(3, .int i), (0, .ref h), (1, .int mark), (2, .int times)] → W p l e (headSpec w_Ln_repeat ({ frames := 1, cells := 0, slots := 0, locals := 21 } : Room)).room s m ([.ref h, .int mark, .int times] : List Value).toArray below meth c H locs 0 0 Q (F0 m 2 ls []) := by
    intro fuel
    induction fuel with
    | zero =>
      intro i n1 f1 H locs ls hk hn hF hP hD hS hl
      exact absurd hk (Nat.not_lt_zero _)
    | succ fuel ih =>
      intro i n1 f1 H locs ls hk hn hF hP hD hS hl
      refine lv_iload_n hx hb d_Ln_repeat_2 rfl (lv_at hl 0 rfl) ?_
      refine lv_iload_n hx hb d_Ln_repeat_3 rfl (lv_at hl 3 rfl) ?_
      refine lv_icmp_ge (tgt := 18) hx hb d_Ln_repeat_4 (by decide) (fun c4_1 => ?_) (fun c4_1 => ?_)
      · skip
        have hP9 := hP.sub (ws' := [(h, .inr (2, [.ref a, .int n1])), (a, .inl (cC, room, .inl f1))]) [0, 1] rfl
        have hD9 := hD.sub (ws' := [(h, .inr (2, [.ref a, .int n1])), (a, .inl (cC, room, .inl f1))]) [0, 1] (by decide) rfl
        have hK9 := hK.sub (tys' := [(cC, .char)]) [0] rfl
        have hq9 : (f1, n1) = lnRp room mark times (f, n) ∧ lnOK room n1 := by have h9 := hF; rw [lnRep, if_pos c4_1] at h9; exact ⟨h9, hn⟩
        subst hQ
        exact W.vret hx hb hr (fun t ht hW => ⟨⟨(f1, n1), rfl, hq9, by rw [ht]; exact hP9, va_K.moved hW.alike hK9, hD9⟩, hS.F ht⟩) hS.2.2 d_Ln_repeat_18
      · skip
        refine lv_aload_n hx hb d_Ln_repeat_7 rfl (lv_at hl 1 rfl) ?_
        refine lv_iload_n hx hb d_Ln_repeat_8 rfl (lv_at hl 2 rfl) ?_
        have hPc := hP.sub (ws' := [(h, .inr (2, [.ref a, .int n1])), (a, .inl (cC, room, .inl f1))]) [0, 1] rfl
        have hDc := hD.sub (ws' := [(h, .inr (2, [.ref a, .int n1])), (a, .inl (cC, room, .inl f1))]) [0, 1] (by decide) rfl
        have hKc := hK.sub (tys' := [(cC, .char)]) [0] rfl
        have hFc := va_free (wc := [(h, .inr (2, [.ref a, .int n1])), (a, .inl (cC, room, .inl f1))]) hD hS hA [0, 1] rfl
        refine va_callv (va_runV (As := [.int mark]) (rest := []) ⟨hx, hb, hml, hown, hT⟩ (c_Line_add l dC dI H.size cC h a room f1 n1 mark (by first | assumption | omega)) (cwV 1 hT g_Ln_25 rfl rfl rfl (by decide +kernel) ⟨Nat.le_of_ble_eq_true rfl, Nat.le_of_ble_eq_true rfl⟩) ⟨fun a U g mk q => by obtain ⟨q0, q1, qP, qK, qD⟩ := q; exact ⟨q0, q1, qP, va_K.moved (u := U) (U := U.calling g mk a) (Vm.Alike.refl U.vm) qK, qD⟩, va_recv hKc hPc (ci := 2) (q0 := 0) rfl rfl, fun U hU hW => ⟨rfl, by rw [hU], by rw [hU]; exact hPc, va_K.moved hW.alike hKc, hDc.weaken (fun _ _ _ _ => trivial)⟩⟩ rfl rfl hl.1 rfl (lv_room (Nat.le_of_ble_eq_true rfl)) d_Ln_repeat_9 ⟨Nat.le_of_ble_eq_true rfl, Nat.le_of_ble_eq_true rfl⟩) hS (fun q _ h => hFc q h) hFc (fun u t H1 locs ht hvm w9_3 hB hz1 hk1 hS => ?_)
        obtain ⟨f_2, n_3⟩ := u
        obtain ⟨hP1, hK1, hD1⟩ := hB
        rw [ht] at hP1
        try dsimp only at w9_3
        obtain ⟨w9_3, w9_3b⟩ := w9_3
        obtain ⟨hP, hD⟩ := va_join (wr := []) (w1 := [(h, .inr (2, [.ref a, .int n_3])), (a, .inl (cC, room, .inl f_2))]) hP hD [0, 1] [] rfl rfl (by decide) (by decide) hk1 hFc hP1 hD1
        generalize H1 = H at hP hS ⊢
        have hP : va_P (dC, dI) CL [(h, .inr (2, [.ref a, .int n_3])), (a, .inl (cC, room, .inl f_2))] H := hP
        have hD : va_D A [(h, .inr (2, [.ref a, .int n_3])), (a, .inl (cC, room, .inl f_2))] := hD
        obtain ⟨x4, ex4⟩ : ∃ y : Int32, y = i + 1 := ⟨_, rfl⟩
        refine lv_iinc (v := x4) (lv' := [(3, .int x4), (0, .ref h), (1, .int mark), (2, .int times)]) hx hb d_Ln_repeat_12 hl (k := 0) rfl (by rw [ex4]; rfl) (by decide) rfl (fun ls hl => ?_)
        refine lv_goto (tgt := 2) hx hb d_Ln_repeat_15 (by decide) ?_
        exact ih x4 n_3 f_2 _ _ _ (by rw [ex4]; exact k_fuel c4_1 hk) (w9_3b) (by have h9 := hF; rw [lnRep, if_neg c4_1] at h9; rw [ex4, w9_3]; exact h9) (hP.sub [0, 1] rfl) (hD.sub [0, 1] (by decide) rfl) hS (lv_sub hl [0, 1, 2, 3] rfl)
  exact loop2 (times.toInt.toNat + 1) 0 n f _ _ _ (by rw [show (0 : Int32).toInt = 0 from by decide]; omega) (hn) (rfl) hP hD hS (lv_sub hl [0, 1, 2, 3] rfl)

set_option maxHeartbeats 4000000 in
set_option maxRecDepth 100000 in
theorem c_Line_addPart (l : Launch) (dC : Nat → ClassId) (dI : Nat → Nat → Nat) (sz : Nat) (cC : ClassId) (h : Nat) (a : Nat) (room : Nat) (f : Nat → Int32) (n : Int32) (hF : Nat) (aF : Nat) (roomF : Nat) (fF : Nat → Int32) (nF : Int32) (b : Int32) (e9 : Int32) (hn : lnOK room n) (hn2 : lnOK roomF nF) : Met l y_Ln_addPart w_Ln_addPart ({ frames := 1, cells := 0, slots := 0, locals := 21 } : Room) (va_Pc [.ref h, .ref hF, .int b, .int e9] (fun U => U.heap.size = sz ∧ va_P (dC, dI) CL [(h, .inr (2, [.ref a, .int n])), (a, .inl (cC, room, .inl f)), (hF, .inr (2, [.ref aF, .int nF])), (aF, .inl (cC, roomF, .inl fF))] U.heap ∧ va_K (dC, dI) CL [(cC, .char)] U ∧ va_D (fun _ => True) [(h, .inr (2, [.ref a, .int n])), (a, .inl (cC, room, .inl f)), (hF, .inr (2, [.ref aF, .int nF])), (aF, .inl (cC, roomF, .inl fF))])) (va_Qv (fun (u : (Nat → Int32) × Int32) => match u with | (f2, n2) => (f2, n2) = lnPt room fF nF b e9 (f, n) ∧ lnOK room n2) (fun (u : (Nat → Int32) × Int32) (t : State) => match u with | (f2, n2) => va_P (dC, dI) CL [(h, .inr (2, [.ref a, .int n2])), (a, .inl (cC, room, .inl f2)), (hF, .inr (2, [.ref aF, .int nF])), (aF, .inl (cC, roomF, .inl fF))] t.heap ∧ va_K (dC, dI) CL [(cC, .char)] t ∧ va_D (va_A [(h, .inr (2, [.ref a, .int n])), (a, .inl (cC, room, .inl f)), (hF, .inr (2, [.ref aF, .int nF])), (aF, .inl (cC, roomF, .inl fF))] sz) [(h, .inr (2, [.ref a, .int n2])), (a, .inl (cC, room, .inl f2)), (hF, .inr (2, [.ref aF, .int nF])), (aF, .inl (cC, roomF, .inl fF))]) (va_A [(h, .inr (2, [.ref a, .int n])), (a, .inl (cC, room, .inl f)), (hF, .inr (2, [.ref aF, .int nF])), (aF, .inl (cC, roomF, .inl fF))] sz)) 0 0 (va_A [(h, .inr (2, [.ref a, .int n])), (a, .inl (cC, room, .inl f)), (hF, .inr (2, [.ref aF, .int nF])), (aF, .inl (cC, roomF, .inl fF))] sz) := by
  refine Met.ofW (cc := b_Ln_addPart) (maxL := 5) (ret := none) (by decide) rfl ?_
  intro p e s m args below meth c s₁ B hml hv
  obtain ⟨rfl, hsz, hP, hK, hD0⟩ := hv
  have hx := B.exec
  have hb := B.bytes
  have hr := B.returns
  have hts := atoms_spec (ws := w_Ln_addPart) B.pre
  have hT : ∀ w ∈ TB, w.before _ s = true := fun w h => hts w (List.mem_cons_of_mem _ h)
  have hown : s.vm.findClass R_Ln = some m.cls := findClass_of_methodNamed B.named
  have hlocks := B.notSynchronized
  subst hsz
  have hD := hD0.self (sz := s.heap.size)
  generalize hAe : va_A [(h, .inr (2, [.ref a, .int n])), (a, .inl (cC, room, .inl f)), (hF, .inr (2, [.ref aF, .int nF])), (aF, .inl (cC, roomF, .inl fF))] s.heap.size = A at hD ⊢
  have hA : ∀ q : Nat, s.heap.size ≤ q → A q := fun q h => by rw [← hAe]; exact Or.inr h
  have hS : va_S A s.heap s.heap [] := va_S.rf
  have hP : va_P (dC, dI) CL [(h, .inr (2, [.ref a, .int n])), (a, .inl (cC, room, .inl f)), (hF, .inr (2, [.ref aF, .int nF])), (aF, .inl (cC, roomF, .inl fF))] s.heap := hP
  have hl := lv_entry ([.ref h, .ref hF, .int b, .int e9]) (n := 5) (Nat.le_of_ble_eq_true rfl)
  rw [lg_entry_eq]
  generalize (lg_sl ([.ref h, .ref hF, .int b, .int e9]) ++ List.replicate (5 - (lg_sl ([.ref h, .ref hF, .int b, .int e9])).length) Slot.unset).toArray = ls at hl ⊢
  have hl : lv_has ls 5 [(0, .ref h), (1, .ref hF), (2, .int b), (3, .int e9)] := hl
  refine k_Q (fun Q hQ => ?_)
  refine lv_iload_n hx hb d_Ln_addPart_0 rfl (lv_at hl 2 rfl) ?_
  refine lv_istore (lv' := [(4, .int b), (0, .ref h), (1, .ref hF), (2, .int b), (3, .int e9)]) hx hb d_Ln_addPart_1 hl (by decide) rfl (fun ls hl => ?_)
  have loop3 : ∀ (fuel : Nat) (i : Int32) (n1 : Int32) (f1 : Nat → Int32) (H : Heap) (locs : List Loc) (ls : Array Slot), ((e9.toInt - i.toInt).toNat < fuel) → (lnOK room n1) → (lnPart room fF nF e9 fuel i (f1, n1) = lnPart room fF nF e9 ((e9.toInt - b.toInt).toNat + 1) b (f, n)) → va_P (dC, dI) CL [(h, .inr (2, [.ref a, .int n1])), (a, .inl (cC, room, .inl f1)), (hF, .inr (2, [.ref aF, .int nF])), (aF, .inl (cC, roomF, .inl fF))] H → va_D A [(h, .inr (2, [.ref a, .int n1])), (a, .inl (cC, room, .inl f1)), (hF, .inr (2, [.ref aF, .int nF])), (aF, .inl (cC, roomF, .inl fF))] → va_S A s.heap H locs → lv_has ls 5 [(4, .int i), (0, .ref h), (1, .ref hF), (2, .int b), (3, .int e9)] → W p l e (headSpec w_Ln_addPart ({ frames := 1, cells := 0, slots := 0, locals := 21 } : Room)).room s m ([.ref h, .ref hF, .int b, .int e9] : List Value).toArray below meth c H locs 0 0 Q (F0 m 3 ls []) := by
    intro fuel
    induction fuel with
    | zero =>
      intro i n1 f1 H locs ls hk hn hG hP hD hS hl
      exact absurd hk (Nat.not_lt_zero _)
    | succ fuel ih =>
      intro i n1 f1 H locs ls hk hn hG hP hD hS hl
      refine lv_iload hx hb d_Ln_addPart_3 (lv_at hl 0 rfl) ?_
      refine lv_iload_n hx hb d_Ln_addPart_5 rfl (lv_at hl 4 rfl) ?_
      refine lv_icmp_ge (tgt := 25) hx hb d_Ln_addPart_6 (by decide) (fun c6_1 => ?_) (fun c6_1 => ?_)
      · skip
        have hP9 := hP.sub (ws' := [(h, .inr (2, [.ref a, .int n1])), (a, .inl (cC, room, .inl f1)), (hF, .inr (2, [.ref aF, .int nF])), (aF, .inl (cC, roomF, .inl fF))]) [0, 1, 2, 3] rfl
        have hD9 := hD.sub (ws' := [(h, .inr (2, [.ref a, .int n1])), (a, .inl (cC, room, .inl f1)), (hF, .inr (2, [.ref aF, .int nF])), (aF, .inl (cC, roomF, .inl fF))]) [0, 1, 2, 3] (by decide) rfl
        have hK9 := hK.sub (tys' := [(cC, .char)]) [0] rfl
        have hq9 : (f1, n1) = lnPt room fF nF b e9 (f, n) ∧ lnOK room n1 := by have h9 := hG; rw [lnPart, if_pos c6_1] at h9; exact ⟨h9, hn⟩
        subst hQ
        exact W.vret hx hb hr (fun t ht hW => ⟨⟨(f1, n1), rfl, hq9, by rw [ht]; exact hP9, va_K.moved hW.alike hK9, hD9⟩, hS.F ht⟩) hS.2.2 d_Ln_addPart_25
      · skip
        refine lv_aload_n hx hb d_Ln_addPart_9 rfl (lv_at hl 1 rfl) ?_
        refine lv_aload_n hx hb d_Ln_addPart_10 rfl (lv_at hl 2 rfl) ?_
        refine lv_iload hx hb d_Ln_addPart_11 (lv_at hl 0 rfl) ?_
        have hPc := hP.sub (ws' := [(hF, .inr (2, [.ref aF, .int nF])), (aF, .inl (cC, roomF, .inl fF))]) [2, 3] rfl
        have hDc := hD.sub (ws' := [(hF, .inr (2, [.ref aF, .int nF])), (aF, .inl (cC, roomF, .inl fF))]) [2, 3] (by decide) rfl
        have hKc := hK.sub (tys' := [(cC, .char)]) [0] rfl
        have hFc := va_free (wc := [(hF, .inr (2, [.ref aF, .int nF])), (aF, .inl (cC, roomF, .inl fF))]) hD hS hA [2, 3] rfl
        refine va_calli (va_runV (As := [.int i]) (rest := [.ref h]) ⟨hx, hb, hml, hown, hT⟩ (c_Line_at l dC dI H.size cC hF aF roomF fF nF i hn2) (cwV 1 hT g_Ln_29 rfl rfl rfl (by decide +kernel) ⟨Nat.le_of_ble_eq_true rfl, Nat.le_of_ble_eq_true rfl⟩) ⟨fun a U g mk q => by obtain ⟨q0, q1, qP, qK, qD⟩ := q; exact ⟨q0, q1, qP, va_K.moved (u := U) (U := U.calling g mk a) (Vm.Alike.refl U.vm) qK, qD⟩, va_recv hKc hPc (ci := 2) (q0 := 0) rfl rfl, fun U hU hW => ⟨rfl, by rw [hU], by rw [hU]; exact hPc, va_K.moved hW.alike hKc, hDc.weaken (fun _ _ _ _ => trivial)⟩⟩ rfl rfl hl.1 rfl (lv_room (Nat.le_of_ble_eq_true rfl)) d_Ln_addPart_13 ⟨Nat.le_of_ble_eq_true rfl, Nat.le_of_ble_eq_true rfl⟩) hS (fun q _ h => hFc q h) hFc (fun x2 u t H1 locs ht hvm w13_2 hB hz1 hk1 hS => ?_)
        obtain ⟨hP1, hK1, hD1⟩ := hB
        rw [ht] at hP1
        try dsimp only at w13_2
        obtain ⟨hP, hD⟩ := va_join (wr := [(h, .inr (2, [.ref a, .int n1])), (a, .inl (cC, room, .inl f1))]) (w1 := [(hF, .inr (2, [.ref aF, .int nF])), (aF, .inl (cC, roomF, .inl fF))]) hP hD [2, 3] [0, 1] rfl rfl (by decide) (by decide) hk1 hFc hP1 hD1
        generalize H1 = H at hP hS ⊢
        have hP : va_P (dC, dI) CL [(h, .inr (2, [.ref a, .int n1])), (a, .inl (cC, room, .inl f1)), (hF, .inr (2, [.ref aF, .int nF])), (aF, .inl (cC, roomF, .inl fF))] H := hP
        have hD : va_D A [(h, .inr (2, [.ref a, .int n1])), (a, .inl (cC, room, .inl f1)), (hF, .inr (2, [.ref aF, .int nF])), (aF, .inl (cC, roomF, .inl fF))] := hD
        have hPc := hP.sub (ws' := [(h, .inr (2, [.ref a, .int n1])), (a, .inl (cC, room, .inl f1))]) [0, 1] rfl
        have hDc := hD.sub (ws' := [(h, .inr (2, [.ref a, .int n1])), (a, .inl (cC, room, .inl f1))]) [0, 1] (by decide) rfl
        have hKc := hK.sub (tys' := [(cC, .char)]) [0] rfl
        have hFc := va_free (wc := [(h, .inr (2, [.ref a, .int n1])), (a, .inl (cC, room, .inl f1))]) hD hS hA [0, 1] rfl
        refine va_callv (va_runV (As := [.int x2]) (rest := []) ⟨hx, hb, hml, hown, hT⟩ (c_Line_add l dC dI H.size cC h a room f1 n1 x2 (by first | assumption | omega)) (cwV 1 hT g_Ln_25 rfl rfl rfl (by decide +kernel) ⟨Nat.le_of_ble_eq_true rfl, Nat.le_of_ble_eq_true rfl⟩) ⟨fun a U g mk q => by obtain ⟨q0, q1, qP, qK, qD⟩ := q; exact ⟨q0, q1, qP, va_K.moved (u := U) (U := U.calling g mk a) (Vm.Alike.refl U.vm) qK, qD⟩, va_recv hKc hPc (ci := 2) (q0 := 0) rfl rfl, fun U hU hW => ⟨rfl, by rw [hU], by rw [hU]; exact hPc, va_K.moved hW.alike hKc, hDc.weaken (fun _ _ _ _ => trivial)⟩⟩ rfl rfl hl.1 rfl (lv_room (Nat.le_of_ble_eq_true rfl)) d_Ln_addPart_16 ⟨Nat.le_of_ble_eq_true rfl, Nat.le_of_ble_eq_true rfl⟩) hS (fun q _ h => hFc q h) hFc (fun u t H1 locs ht hvm w16_4 hB hz1 hk1 hS => ?_)
        obtain ⟨f_3, n_4⟩ := u
        obtain ⟨hP1, hK1, hD1⟩ := hB
        rw [ht] at hP1
        try dsimp only at w16_4
        obtain ⟨w16_4, w16_4b⟩ := w16_4
        obtain ⟨hP, hD⟩ := va_join (wr := [(hF, .inr (2, [.ref aF, .int nF])), (aF, .inl (cC, roomF, .inl fF))]) (w1 := [(h, .inr (2, [.ref a, .int n_4])), (a, .inl (cC, room, .inl f_3))]) hP hD [0, 1] [2, 3] rfl rfl (by decide) (by decide) hk1 hFc hP1 hD1
        generalize H1 = H at hP hS ⊢
        have hP : va_P (dC, dI) CL [(hF, .inr (2, [.ref aF, .int nF])), (aF, .inl (cC, roomF, .inl fF)), (h, .inr (2, [.ref a, .int n_4])), (a, .inl (cC, room, .inl f_3))] H := hP
        have hD : va_D A [(hF, .inr (2, [.ref aF, .int nF])), (aF, .inl (cC, roomF, .inl fF)), (h, .inr (2, [.ref a, .int n_4])), (a, .inl (cC, room, .inl f_3))] := hD
        obtain ⟨x5, ex5⟩ : ∃ y : Int32, y = i + 1 := ⟨_, rfl⟩
        refine lv_iinc (v := x5) (lv' := [(4, .int x5), (0, .ref h), (1, .ref hF), (2, .int b), (3, .int e9)]) hx hb d_Ln_addPart_19 hl (k := 0) rfl (by rw [ex5]; rfl) (by decide) rfl (fun ls hl => ?_)
        refine lv_goto (tgt := 3) hx hb d_Ln_addPart_22 (by decide) ?_
        exact ih x5 n_4 f_3 _ _ _ (by rw [ex5]; exact k_fuel c6_1 hk) (w16_4b) (by have h9 := hG; rw [lnPart, if_neg c6_1] at h9; rw [ex5, w16_4, w13_2]; exact h9) (hP.sub [2, 3, 0, 1] rfl) (hD.sub [2, 3, 0, 1] (by decide) rfl) hS (lv_sub hl [0, 1, 2, 3, 4] rfl)
  exact loop3 ((e9.toInt - b.toInt).toNat + 1) b n f _ _ _ (by omega) (hn) (rfl) hP hD hS (lv_sub hl [0, 1, 2, 3, 4] rfl)

set_option maxHeartbeats 4000000 in
set_option maxRecDepth 100000 in
theorem c_Line_isDigit (l : Launch) (dC : Nat → ClassId) (dI : Nat → Nat → Nat) (sz : Nat) (ch : Int32)  : Met l y_Ln_isDigit w_Ln_isDigit ({ frames := 0, cells := 0, slots := 0, locals := 0 } : Room) (va_Pc [.int ch] (fun U => U.heap.size = sz ∧ va_P (dC, dI) CL [] U.heap ∧ va_K (dC, dI) CL [] U ∧ va_D (fun _ => True) [])) (va_Qi (fun (r : Int32) (u : Unit) => r = k_b (isDig ch)) (fun (u : Unit) (t : State) => va_P (dC, dI) CL [] t.heap ∧ va_K (dC, dI) CL [] t ∧ va_D (va_A [] sz) []) (va_A [] sz)) 0 0 (va_A [] sz) := by
  refine Met.ofW (cc := b_Ln_isDigit) (maxL := 1) (ret := (some .boolean)) (by decide) rfl ?_
  intro p e s m args below meth c s₁ B hml hv
  obtain ⟨rfl, hsz, hP, hK, hD0⟩ := hv
  have hx := B.exec
  have hb := B.bytes
  have hr := B.returns
  have hts := atoms_spec (ws := w_Ln_isDigit) B.pre
  have hT : ∀ w ∈ TB, w.before _ s = true := fun w h => hts w (List.mem_cons_of_mem _ h)
  have hown : s.vm.findClass R_Ln = some m.cls := findClass_of_methodNamed B.named
  have hlocks := B.notSynchronized
  subst hsz
  have hD := hD0.self (sz := s.heap.size)
  generalize hAe : va_A [] s.heap.size = A at hD ⊢
  have hA : ∀ q : Nat, s.heap.size ≤ q → A q := fun q h => by rw [← hAe]; exact Or.inr h
  have hS : va_S A s.heap s.heap [] := va_S.rf
  have hP : va_P (dC, dI) CL [] s.heap := hP
  have hl := lv_entry ([.int ch]) (n := 1) (Nat.le_of_ble_eq_true rfl)
  rw [lg_entry_eq]
  generalize (lg_sl ([.int ch]) ++ List.replicate (1 - (lg_sl ([.int ch])).length) Slot.unset).toArray = ls at hl ⊢
  have hl : lv_has ls 1 [(0, .int ch)] := hl
  refine lv_iload_n hx hb d_Ln_isDigit_0 rfl (lv_at hl 0 rfl) ?_
  refine lv_bipush (v := 48) hx hb d_Ln_isDigit_1 (by decide) ?_
  refine lv_icmp_lt (tgt := 16) hx hb d_Ln_isDigit_3 (by decide) (fun c3_1 => ?_) (fun c3_1 => ?_)
  · skip
    refine lv_iconst (v := 0) hx hb d_Ln_isDigit_16 (by decide) ?_
    have hP9 := hP.sub (ws' := []) [] rfl
    have hD9 := hD.sub (ws' := []) [] (by decide) rfl
    have hK9 := hK.sub (tys' := []) [] rfl
    have hq9 : (0 : Int32) = k_b (isDig ch) := by simp [k_b, isDig, c3_1]
    exact W.zret (v := 0) hx hb hr rfl (fun t ht hW => ⟨⟨0, (), rfl, hq9, by rw [ht]; exact hP9, va_K.moved hW.alike hK9, hD9⟩, hS.F ht⟩) hS.2.2 d_Ln_isDigit_17
  · skip
    refine lv_iload_n hx hb d_Ln_isDigit_6 rfl (lv_at hl 0 rfl) ?_
    refine lv_bipush (v := 57) hx hb d_Ln_isDigit_7 (by decide) ?_
    refine lv_icmp_gt (tgt := 16) hx hb d_Ln_isDigit_9 (by decide) (fun c9_2 => ?_) (fun c9_2 => ?_)
    · skip
      refine lv_iconst (v := 0) hx hb d_Ln_isDigit_16 (by decide) ?_
      have hP9 := hP.sub (ws' := []) [] rfl
      have hD9 := hD.sub (ws' := []) [] (by decide) rfl
      have hK9 := hK.sub (tys' := []) [] rfl
      have hq9 : (0 : Int32) = k_b (isDig ch) := by simp [k_b, isDig, c3_1, c9_2]
      exact W.zret (v := 0) hx hb hr rfl (fun t ht hW => ⟨⟨0, (), rfl, hq9, by rw [ht]; exact hP9, va_K.moved hW.alike hK9, hD9⟩, hS.F ht⟩) hS.2.2 d_Ln_isDigit_17
    · skip
      refine lv_iconst (v := 1) hx hb d_Ln_isDigit_12 (by decide) ?_
      refine lv_goto (tgt := 17) hx hb d_Ln_isDigit_13 (by decide) ?_
      have hP9 := hP.sub (ws' := []) [] rfl
      have hD9 := hD.sub (ws' := []) [] (by decide) rfl
      have hK9 := hK.sub (tys' := []) [] rfl
      have hq9 : (1 : Int32) = k_b (isDig ch) := by simp [k_b, isDig, c3_1, c9_2]
      exact W.zret (v := 1) hx hb hr rfl (fun t ht hW => ⟨⟨1, (), rfl, hq9, by rw [ht]; exact hP9, va_K.moved hW.alike hK9, hD9⟩, hS.F ht⟩) hS.2.2 d_Ln_isDigit_17

set_option maxHeartbeats 4000000 in
set_option maxRecDepth 100000 in
theorem c_Line_digitsFrom (l : Launch) (dC : Nat → ClassId) (dI : Nat → Nat → Nat) (sz : Nat) (cC : ClassId) (h : Nat) (a : Nat) (room : Nat) (f : Nat → Int32) (n : Int32) (b : Int32) (hn : lnOK room n) : Met l y_Ln_digitsFrom w_Ln_digitsFrom ({ frames := 1, cells := 0, slots := 0, locals := 21 } : Room) (va_Pc [.ref h, .int b] (fun U => U.heap.size = sz ∧ va_P (dC, dI) CL [(h, .inr (2, [.ref a, .int n])), (a, .inl (cC, room, .inl f))] U.heap ∧ va_K (dC, dI) CL [(cC, .char)] U ∧ va_D (fun _ => True) [(h, .inr (2, [.ref a, .int n])), (a, .inl (cC, room, .inl f))])) (va_Qi (fun (r : Int32) (u : Unit) => r = lnDg f n b) (fun (u : Unit) (t : State) => va_P (dC, dI) CL [(h, .inr (2, [.ref a, .int n])), (a, .inl (cC, room, .inl f))] t.heap ∧ va_K (dC, dI) CL [(cC, .char)] t ∧ va_D (va_A [(h, .inr (2, [.ref a, .int n])), (a, .inl (cC, room, .inl f))] sz) [(h, .inr (2, [.ref a, .int n])), (a, .inl (cC, room, .inl f))]) (va_A [(h, .inr (2, [.ref a, .int n])), (a, .inl (cC, room, .inl f))] sz)) 0 0 (va_A [(h, .inr (2, [.ref a, .int n])), (a, .inl (cC, room, .inl f))] sz) := by
  refine Met.ofW (cc := b_Ln_digitsFrom) (maxL := 4) (ret := (some .int)) (by decide) rfl ?_
  intro p e s m args below meth c s₁ B hml hv
  obtain ⟨rfl, hsz, hP, hK, hD0⟩ := hv
  have hx := B.exec
  have hb := B.bytes
  have hr := B.returns
  have hts := atoms_spec (ws := w_Ln_digitsFrom) B.pre
  have hT : ∀ w ∈ TB, w.before _ s = true := fun w h => hts w (List.mem_cons_of_mem _ h)
  have hown : s.vm.findClass R_Ln = some m.cls := findClass_of_methodNamed B.named
  have hlocks := B.notSynchronized
  subst hsz
  have hD := hD0.self (sz := s.heap.size)
  generalize hAe : va_A [(h, .inr (2, [.ref a, .int n])), (a, .inl (cC, room, .inl f))] s.heap.size = A at hD ⊢
  have hA : ∀ q : Nat, s.heap.size ≤ q → A q := fun q h => by rw [← hAe]; exact Or.inr h
  have hS : va_S A s.heap s.heap [] := va_S.rf
  have hP : va_P (dC, dI) CL [(h, .inr (2, [.ref a, .int n])), (a, .inl (cC, room, .inl f))] s.heap := hP
  have hl := lv_entry ([.ref h, .int b]) (n := 4) (Nat.le_of_ble_eq_true rfl)
  rw [lg_entry_eq]
  generalize (lg_sl ([.ref h, .int b]) ++ List.replicate (4 - (lg_sl ([.ref h, .int b])).length) Slot.unset).toArray = ls at hl ⊢
  have hl : lv_has ls 4 [(0, .ref h), (1, .int b)] := hl
  refine k_Q (fun Q hQ => ?_)
  refine lv_iconst (v := 0) hx hb d_Ln_digitsFrom_0 (by decide) ?_
  refine lv_istore_n (lv' := [(2, .int 0), (0, .ref h), (1, .int b)]) hx hb d_Ln_digitsFrom_1 rfl hl (by decide) rfl (fun ls hl => ?_)
  refine lv_iload_n hx hb d_Ln_digitsFrom_2 rfl (lv_at hl 2 rfl) ?_
  refine lv_istore_n (lv' := [(3, .int b), (2, .int 0), (0, .ref h), (1, .int b)]) hx hb d_Ln_digitsFrom_3 rfl hl (by decide) rfl (fun ls hl => ?_)
  have loop4 : ∀ (fuel : Nat) (i : Int32) (m9 : Int32) (H : Heap) (locs : List Loc) (ls : Array Slot), ((n.toInt - i.toInt).toNat < fuel) → (lnDig f n fuel i m9 = lnDig f n ((n.toInt - b.toInt).toNat + 1) b 0) → va_P (dC, dI) CL [(h, .inr (2, [.ref a, .int n])), (a, .inl (cC, room, .inl f))] H → va_D A [(h, .inr (2, [.ref a, .int n])), (a, .inl (cC, room, .inl f))] → va_S A s.heap H locs → lv_has ls 4 [(3, .int i), (2, .int m9), (0, .ref h), (1, .int b)] → W p l e (headSpec w_Ln_digitsFrom ({ frames := 1, cells := 0, slots := 0, locals := 21 } : Room)).room s m ([.ref h, .int b] : List Value).toArray below meth c H locs 0 0 Q (F0 m 4 ls []) := by
    intro fuel
    induction fuel with
    | zero =>
      intro i m9 H locs ls hk hG hP hD hS hl
      exact absurd hk (Nat.not_lt_zero _)
    | succ fuel ih =>
      intro i m9 H locs ls hk hG hP hD hS hl
      refine lv_iload_n hx hb d_Ln_digitsFrom_4 rfl (lv_at hl 0 rfl) ?_
      refine lv_aload_n hx hb d_Ln_digitsFrom_5 rfl (lv_at hl 2 rfl) ?_
      refine va_get (D := (dC, dI)) (ci := 2) (v := .int n) (C := R_Ln) (T := F_Ln) (N := 2) hx hb hT (in_Ln) hown hK hP 0 rfl rfl 1 (by decide) (hT _ t_33) (fun _ h9 => h9) rfl d_Ln_digitsFrom_6 ?_
      refine lv_icmp_ge (tgt := 32) hx hb d_Ln_digitsFrom_9 (by decide) (fun c9_1 => ?_) (fun c9_1 => ?_)
      · skip
        refine lv_iload_n hx hb d_Ln_digitsFrom_32 rfl (lv_at hl 1 rfl) ?_
        have hP9 := hP.sub (ws' := [(h, .inr (2, [.ref a, .int n])), (a, .inl (cC, room, .inl f))]) [0, 1] rfl
        have hD9 := hD.sub (ws' := [(h, .inr (2, [.ref a, .int n])), (a, .inl (cC, room, .inl f))]) [0, 1] (by decide) rfl
        have hK9 := hK.sub (tys' := [(cC, .char)]) [0] rfl
        have hq9 : m9 = lnDg f n b := by have h9 := hG; rw [lnDig, if_pos c9_1] at h9; exact h9
        subst hQ
        exact W.iret (v := m9) hx hb hr (fun t ht hW => ⟨⟨m9, (), rfl, hq9, by rw [ht]; exact hP9, va_K.moved hW.alike hK9, hD9⟩, hS.F ht⟩) hS.2.2 d_Ln_digitsFrom_33
      · skip
        refine lv_aload_n hx hb d_Ln_digitsFrom_12 rfl (lv_at hl 2 rfl) ?_
        refine lv_iload_n hx hb d_Ln_digitsFrom_13 rfl (lv_at hl 0 rfl) ?_
        have hPc := hP.sub (ws' := [(h, .inr (2, [.ref a, .int n])), (a, .inl (cC, room, .inl f))]) [0, 1] rfl
        have hDc := hD.sub (ws' := [(h, .inr (2, [.ref a, .int n])), (a, .inl (cC, room, .inl f))]) [0, 1] (by decide) rfl
        have hKc := hK.sub (tys' := [(cC, .char)]) [0] rfl
        have hFc := va_free (wc := [(h, .inr (2, [.ref a, .int n])), (a, .inl (cC, room, .inl f))]) hD hS hA [0, 1] rfl
        refine va_calli (va_runV (As := [.int i]) (rest := []) ⟨hx, hb, hml, hown, hT⟩ (c_Line_at l dC dI H.size cC h a room f n i (by first | assumption | omega)) (cwV 1 hT g_Ln_29 rfl rfl rfl (by decide +kernel) ⟨Nat.le_of_ble_eq_true rfl, Nat.le_of_ble_eq_true rfl⟩) ⟨fun a U g mk q => by obtain ⟨q0, q1, qP, qK, qD⟩ := q; exact ⟨q0, q1, qP, va_K.moved (u := U) (U := U.calling g mk a) (Vm.Alike.refl U.vm) qK, qD⟩, va_recv hKc hPc (ci := 2) (q0 := 0) rfl rfl, fun U hU hW => ⟨rfl, by rw [hU], by rw [hU]; exact hPc, va_K.moved hW.alike hKc, hDc.weaken (fun _ _ _ _ => trivial)⟩⟩ rfl rfl hl.1 rfl (lv_room (Nat.le_of_ble_eq_true rfl)) d_Ln_digitsFrom_14 ⟨Nat.le_of_ble_eq_true rfl, Nat.le_of_ble_eq_true rfl⟩) hS (fun q _ h => hFc q h) hFc (fun x2 u t H1 locs ht hvm w14_2 hB hz1 hk1 hS => ?_)
        obtain ⟨hP1, hK1, hD1⟩ := hB
        rw [ht] at hP1
        try dsimp only at w14_2
        obtain ⟨hP, hD⟩ := va_join (wr := []) (w1 := [(h, .inr (2, [.ref a, .int n])), (a, .inl (cC, room, .inl f))]) hP hD [0, 1] [] rfl rfl (by decide) (by decide) hk1 hFc hP1 hD1
        generalize H1 = H at hP hS ⊢
        have hP : va_P (dC, dI) CL [(h, .inr (2, [.ref a, .int n])), (a, .inl (cC, room, .inl f))] H := hP
        have hD : va_D A [(h, .inr (2, [.ref a, .int n])), (a, .inl (cC, room, .inl f))] := hD
        have hPc := hP.sub (ws' := []) [] rfl
        have hDc := hD.sub (ws' := []) [] (by decide) rfl
        have hKc := hK.sub (tys' := []) [] rfl
        have hFc := va_free (wc := []) hD hS hA [] rfl
        refine va_calli (va_runS (As := [.int x2]) (rest := []) ⟨hx, hb, hml, hown, hT⟩ (c_Line_isDigit l dC dI H.size x2 ) (cwS 1 hT g_Ln_33 rfl rfl rfl (by decide +kernel) ⟨Nat.le_of_ble_eq_true rfl, Nat.le_of_ble_eq_true rfl⟩) ⟨fun a U g mk q => by obtain ⟨q0, q1, qP, qK, qD⟩ := q; exact ⟨q0, q1, qP, va_K.moved (u := U) (U := U.calling g mk a) (Vm.Alike.refl U.vm) qK, qD⟩, fun U hU hW => ⟨rfl, by rw [hU], by rw [hU]; exact hPc, va_K.moved hW.alike hKc, hDc.weaken (fun _ _ _ _ => trivial)⟩⟩ rfl rfl hl.1 rfl (lv_room (Nat.le_of_ble_eq_true rfl)) d_Ln_digitsFrom_17 ⟨Nat.le_of_ble_eq_true rfl, Nat.le_of_ble_eq_true rfl⟩) hS (fun q _ h => hFc q h) hFc (fun x3 u t H1 locs ht hvm w17_3 hB hz1 hk1 hS => ?_)
        obtain ⟨hP1, hK1, hD1⟩ := hB
        rw [ht] at hP1
        try dsimp only at w17_3
        obtain ⟨hP, hD⟩ := va_join (wr := [(h, .inr (2, [.ref a, .int n])), (a, .inl (cC, room, .inl f))]) (w1 := []) hP hD [] [0, 1] rfl rfl (by decide) (by decide) hk1 hFc hP1 hD1
        generalize H1 = H at hP hS ⊢
        have hP : va_P (dC, dI) CL [(h, .inr (2, [.ref a, .int n])), (a, .inl (cC, room, .inl f))] H := hP
        have hD : va_D A [(h, .inr (2, [.ref a, .int n])), (a, .inl (cC, room, .inl f))] := hD
        refine lv_if_eq (tgt := 32) hx hb d_Ln_digitsFrom_20 (by decide) (fun c20_4 => ?_) (fun c20_4 => ?_)
        · skip
          refine lv_iload_n hx hb d_Ln_digitsFrom_32 rfl (lv_at hl 1 rfl) ?_
          have hP9 := hP.sub (ws' := [(h, .inr (2, [.ref a, .int n])), (a, .inl (cC, room, .inl f))]) [0, 1] rfl
          have hD9 := hD.sub (ws' := [(h, .inr (2, [.ref a, .int n])), (a, .inl (cC, room, .inl f))]) [0, 1] (by decide) rfl
          have hK9 := hK.sub (tys' := [(cC, .char)]) [0] rfl
          have hq9 : m9 = lnDg f n b := by have h9 := hG; rw [lnDig, if_neg c9_1, if_neg (k_bF c20_4 w17_3 w14_2)] at h9; exact h9
          subst hQ
          exact W.iret (v := m9) hx hb hr (fun t ht hW => ⟨⟨m9, (), rfl, hq9, by rw [ht]; exact hP9, va_K.moved hW.alike hK9, hD9⟩, hS.F ht⟩) hS.2.2 d_Ln_digitsFrom_33
        · skip
          obtain ⟨x5, ex5⟩ : ∃ y : Int32, y = m9 + 1 := ⟨_, rfl⟩
          refine lv_iinc (v := x5) (lv' := [(2, .int x5), (3, .int i), (0, .ref h), (1, .int b)]) hx hb d_Ln_digitsFrom_23 hl (k := 1) rfl (by rw [ex5]; rfl) (by decide) rfl (fun ls hl => ?_)
          obtain ⟨x6, ex6⟩ : ∃ y : Int32, y = i + 1 := ⟨_, rfl⟩
          refine lv_iinc (v := x6) (lv' := [(3, .int x6), (2, .int x5), (0, .ref h), (1, .int b)]) hx hb d_Ln_digitsFrom_26 hl (k := 1) rfl (by rw [ex6]; rfl) (by decide) rfl (fun ls hl => ?_)
          refine lv_goto (tgt := 4) hx hb d_Ln_digitsFrom_29 (by decide) ?_
          exact ih x6 x5 _ _ _ (by rw [ex6]; exact k_fuel c9_1 hk) (by have h9 := hG; rw [lnDig, if_neg c9_1, if_pos (k_bT c20_4 w17_3 w14_2)] at h9; rw [ex6, ex5]; exact h9) (hP.sub [0, 1] rfl) (hD.sub [0, 1] (by decide) rfl) hS (lv_sub hl [0, 1, 2, 3] rfl)
  exact loop4 ((n.toInt - b.toInt).toNat + 1) b 0 _ _ _ (by omega) (rfl) hP hD hS (lv_sub hl [0, 1, 2, 3] rfl)

set_option maxHeartbeats 4000000 in
set_option maxRecDepth 100000 in
theorem c_Line_numberAt (l : Launch) (dC : Nat → ClassId) (dI : Nat → Nat → Nat) (sz : Nat) (cC : ClassId) (h : Nat) (a : Nat) (room : Nat) (f : Nat → Int32) (n : Int32) (b : Int32) (many : Int32) (hn : lnOK room n) : Met l y_Ln_numberAt w_Ln_numberAt ({ frames := 1, cells := 0, slots := 0, locals := 21 } : Room) (va_Pc [.ref h, .int b, .int many] (fun U => U.heap.size = sz ∧ va_P (dC, dI) CL [(h, .inr (2, [.ref a, .int n])), (a, .inl (cC, room, .inl f))] U.heap ∧ va_K (dC, dI) CL [(cC, .char)] U ∧ va_D (fun _ => True) [(h, .inr (2, [.ref a, .int n])), (a, .inl (cC, room, .inl f))])) (va_Ql (fun (r : Int64) (u : Unit) => r = lnNb f n b many) (fun (u : Unit) (t : State) => va_P (dC, dI) CL [(h, .inr (2, [.ref a, .int n])), (a, .inl (cC, room, .inl f))] t.heap ∧ va_K (dC, dI) CL [(cC, .char)] t ∧ va_D (va_A [(h, .inr (2, [.ref a, .int n])), (a, .inl (cC, room, .inl f))] sz) [(h, .inr (2, [.ref a, .int n])), (a, .inl (cC, room, .inl f))]) (va_A [(h, .inr (2, [.ref a, .int n])), (a, .inl (cC, room, .inl f))] sz)) 0 0 (va_A [(h, .inr (2, [.ref a, .int n])), (a, .inl (cC, room, .inl f))] sz) := by
  refine Met.ofW (cc := b_Ln_numberAt) (maxL := 6) (ret := (some .long)) (by decide) rfl ?_
  intro p e s m args below meth c s₁ B hml hv
  obtain ⟨rfl, hsz, hP, hK, hD0⟩ := hv
  have hx := B.exec
  have hb := B.bytes
  have hr := B.returns
  have hts := atoms_spec (ws := w_Ln_numberAt) B.pre
  have hT : ∀ w ∈ TB, w.before _ s = true := fun w h => hts w (List.mem_cons_of_mem _ h)
  have hown : s.vm.findClass R_Ln = some m.cls := findClass_of_methodNamed B.named
  have hlocks := B.notSynchronized
  subst hsz
  have hD := hD0.self (sz := s.heap.size)
  generalize hAe : va_A [(h, .inr (2, [.ref a, .int n])), (a, .inl (cC, room, .inl f))] s.heap.size = A at hD ⊢
  have hA : ∀ q : Nat, s.heap.size ≤ q → A q := fun q h => by rw [← hAe]; exact Or.inr h
  have hS : va_S A s.heap s.heap [] := va_S.rf
  have hP : va_P (dC, dI) CL [(h, .inr (2, [.ref a, .int n])), (a, .inl (cC, room, .inl f))] s.heap := hP
  have hl := lv_entry ([.ref h, .int b, .int many]) (n := 6) (Nat.le_of_ble_eq_true rfl)
  rw [lg_entry_eq]
  generalize (lg_sl ([.ref h, .int b, .int many]) ++ List.replicate (6 - (lg_sl ([.ref h, .int b, .int many])).length) Slot.unset).toArray = ls at hl ⊢
  have hl : lv_has ls 6 [(0, .ref h), (1, .int b), (2, .int many)] := hl
  refine k_Q (fun Q hQ => ?_)
  refine lv_lconst (v := 0) hx hb d_Ln_numberAt_0 (by decide) ?_
  refine lv_lstore_n (lv' := [(3, .long 0), (0, .ref h), (1, .int b), (2, .int many)]) hx hb d_Ln_numberAt_1 rfl hl (by decide) rfl (fun ls hl => ?_)
  refine lv_iconst (v := 0) hx hb d_Ln_numberAt_2 (by decide) ?_
  refine lv_istore (lv' := [(5, .int 0), (3, .long 0), (0, .ref h), (1, .int b), (2, .int many)]) hx hb d_Ln_numberAt_3 hl (by decide) rfl (fun ls hl => ?_)
  have loop5 : ∀ (fuel : Nat) (i : Int32) (y9 : Int64) (H : Heap) (locs : List Loc) (ls : Array Slot), ((many.toInt - i.toInt).toNat < fuel) → (lnNum f n b many fuel i y9 = lnNum f n b many (many.toInt.toNat + 1) 0 0) → va_P (dC, dI) CL [(h, .inr (2, [.ref a, .int n])), (a, .inl (cC, room, .inl f))] H → va_D A [(h, .inr (2, [.ref a, .int n])), (a, .inl (cC, room, .inl f))] → va_S A s.heap H locs → lv_has ls 6 [(5, .int i), (3, .long y9), (0, .ref h), (1, .int b), (2, .int many)] → W p l e (headSpec w_Ln_numberAt ({ frames := 1, cells := 0, slots := 0, locals := 21 } : Room)).room s m ([.ref h, .int b, .int many] : List Value).toArray below meth c H locs 0 0 Q (F0 m 5 ls []) := by
    intro fuel
    induction fuel with
    | zero =>
      intro i y9 H locs ls hk hG hP hD hS hl
      exact absurd hk (Nat.not_lt_zero _)
    | succ fuel ih =>
      intro i y9 H locs ls hk hG hP hD hS hl
      refine lv_iload hx hb d_Ln_numberAt_5 (lv_at hl 0 rfl) ?_
      refine lv_iload_n hx hb d_Ln_numberAt_7 rfl (lv_at hl 4 rfl) ?_
      refine lv_icmp_ge (tgt := 36) hx hb d_Ln_numberAt_8 (by decide) (fun c8_1 => ?_) (fun c8_1 => ?_)
      · skip
        refine lv_lload_n hx hb d_Ln_numberAt_36 rfl (lv_at hl 1 rfl) ?_
        have hP9 := hP.sub (ws' := [(h, .inr (2, [.ref a, .int n])), (a, .inl (cC, room, .inl f))]) [0, 1] rfl
        have hD9 := hD.sub (ws' := [(h, .inr (2, [.ref a, .int n])), (a, .inl (cC, room, .inl f))]) [0, 1] (by decide) rfl
        have hK9 := hK.sub (tys' := [(cC, .char)]) [0] rfl
        have hq9 : y9 = lnNb f n b many := by have h9 := hG; rw [lnNum, if_pos c8_1] at h9; exact h9
        subst hQ
        exact W.lret (v := y9) hx hb hr (fun t ht hW => ⟨⟨y9, (), rfl, hq9, by rw [ht]; exact hP9, va_K.moved hW.alike hK9, hD9⟩, hS.F ht⟩) hS.2.2 d_Ln_numberAt_37
      · skip
        refine lv_lload_n hx hb d_Ln_numberAt_11 rfl (lv_at hl 1 rfl) ?_
        refine lv_ldc2 (v := 10) hx hb hown (hT _ t_285) d_Ln_numberAt_12 ?_
        refine lv_lmul hx hb d_Ln_numberAt_15 ?_
        refine lv_topl (fun x2 ex2 => ?_)
        refine lv_aload_n hx hb d_Ln_numberAt_16 rfl (lv_at hl 2 rfl) ?_
        refine lv_iload_n hx hb d_Ln_numberAt_17 rfl (lv_at hl 3 rfl) ?_
        refine lv_iload hx hb d_Ln_numberAt_18 (lv_at hl 0 rfl) ?_
        refine lv_iadd hx hb d_Ln_numberAt_20 ?_
        refine lv_topi (fun x3 ex3 => ?_)
        have hPc := hP.sub (ws' := [(h, .inr (2, [.ref a, .int n])), (a, .inl (cC, room, .inl f))]) [0, 1] rfl
        have hDc := hD.sub (ws' := [(h, .inr (2, [.ref a, .int n])), (a, .inl (cC, room, .inl f))]) [0, 1] (by decide) rfl
        have hKc := hK.sub (tys' := [(cC, .char)]) [0] rfl
        have hFc := va_free (wc := [(h, .inr (2, [.ref a, .int n])), (a, .inl (cC, room, .inl f))]) hD hS hA [0, 1] rfl
        refine va_calli (va_runV (As := [.int x3]) (rest := [.long x2]) ⟨hx, hb, hml, hown, hT⟩ (c_Line_at l dC dI H.size cC h a room f n x3 (by first | assumption | omega)) (cwV 1 hT g_Ln_29 rfl rfl rfl (by decide +kernel) ⟨Nat.le_of_ble_eq_true rfl, Nat.le_of_ble_eq_true rfl⟩) ⟨fun a U g mk q => by obtain ⟨q0, q1, qP, qK, qD⟩ := q; exact ⟨q0, q1, qP, va_K.moved (u := U) (U := U.calling g mk a) (Vm.Alike.refl U.vm) qK, qD⟩, va_recv hKc hPc (ci := 2) (q0 := 0) rfl rfl, fun U hU hW => ⟨rfl, by rw [hU], by rw [hU]; exact hPc, va_K.moved hW.alike hKc, hDc.weaken (fun _ _ _ _ => trivial)⟩⟩ rfl rfl hl.1 rfl (lv_room (Nat.le_of_ble_eq_true rfl)) d_Ln_numberAt_21 ⟨Nat.le_of_ble_eq_true rfl, Nat.le_of_ble_eq_true rfl⟩) hS (fun q _ h => hFc q h) hFc (fun x4 u t H1 locs ht hvm w21_4 hB hz1 hk1 hS => ?_)
        obtain ⟨hP1, hK1, hD1⟩ := hB
        rw [ht] at hP1
        try dsimp only at w21_4
        obtain ⟨hP, hD⟩ := va_join (wr := []) (w1 := [(h, .inr (2, [.ref a, .int n])), (a, .inl (cC, room, .inl f))]) hP hD [0, 1] [] rfl rfl (by decide) (by decide) hk1 hFc hP1 hD1
        generalize H1 = H at hP hS ⊢
        have hP : va_P (dC, dI) CL [(h, .inr (2, [.ref a, .int n])), (a, .inl (cC, room, .inl f))] H := hP
        have hD : va_D A [(h, .inr (2, [.ref a, .int n])), (a, .inl (cC, room, .inl f))] := hD
        refine lv_bipush (v := 48) hx hb d_Ln_numberAt_24 (by decide) ?_
        refine lv_isub hx hb d_Ln_numberAt_26 ?_
        refine lv_topi (fun x5 ex5 => ?_)
        refine lv_i2l (v := x5.toInt64) hx hb d_Ln_numberAt_27 rfl ?_
        refine lv_topl (fun x6 ex6 => ?_)
        refine lv_ladd hx hb d_Ln_numberAt_28 ?_
        refine lv_topl (fun x7 ex7 => ?_)
        refine lv_lstore_n (lv' := [(3, .long x7), (5, .int i), (0, .ref h), (1, .int b), (2, .int many)]) hx hb d_Ln_numberAt_29 rfl hl (by decide) rfl (fun ls hl => ?_)
        obtain ⟨x8, ex8⟩ : ∃ y : Int32, y = i + 1 := ⟨_, rfl⟩
        refine lv_iinc (v := x8) (lv' := [(5, .int x8), (3, .long x7), (0, .ref h), (1, .int b), (2, .int many)]) hx hb d_Ln_numberAt_30 hl (k := 1) rfl (by rw [ex8]; rfl) (by decide) rfl (fun ls hl => ?_)
        refine lv_goto (tgt := 5) hx hb d_Ln_numberAt_33 (by decide) ?_
        exact ih x8 x7 _ _ _ (by rw [ex8]; exact k_fuel c8_1 hk) (by have h9 := hG; rw [lnNum, if_neg c8_1] at h9; subst ex2 ex3 ex5 ex6 ex7 ex8; subst w21_4; exact h9) (hP.sub [0, 1] rfl) (hD.sub [0, 1] (by decide) rfl) hS (lv_sub hl [0, 1, 2, 3, 4] rfl)
  exact loop5 (many.toInt.toNat + 1) 0 0 _ _ _ (by rw [show (0 : Int32).toInt = 0 from by decide]; omega) (rfl) hP hD hS (lv_sub hl [0, 1, 2, 3, 4] rfl)

set_option maxHeartbeats 4000000 in
set_option maxRecDepth 100000 in
theorem c_Line_init200 (l : Launch) (dC : Nat → ClassId) (dI : Nat → Nat → Nat) (sz : Nat) (cC : ClassId) (h : Nat) (n : Int32)  : Met l y_Ln_init w_Ln_init ({ frames := 1, cells := 1, slots := 200, locals := 14 } : Room) (va_Pc [.ref h, .int 200] (fun U => U.heap.size = sz ∧ va_P (dC, dI) CL [(h, .inr (2, [.null, .int n]))] U.heap ∧ va_K (dC, dI) CL [(cC, .char)] U ∧ va_D (fun _ => True) [(h, .inr (2, [.null, .int n]))])) (va_Qv (fun (u : Unit) => True) (fun (u : Unit) (t : State) => ∃ a : Nat, va_P (dC, dI) CL [(h, .inr (2, [.ref a, .int n])), (a, .inl (cC, 200, .inl (fun _ => 0)))] t.heap ∧ va_K (dC, dI) CL [(cC, .char)] t ∧ va_D (va_A [(h, .inr (2, [.null, .int n]))] sz) [(h, .inr (2, [.ref a, .int n])), (a, .inl (cC, 200, .inl (fun _ => 0)))]) (va_A [(h, .inr (2, [.null, .int n]))] sz)) 1 200 (va_A [(h, .inr (2, [.null, .int n]))] sz) := by
  refine Met.ofW (cc := b_Ln_init) (maxL := 2) (ret := none) (by decide) rfl ?_
  intro p e s m args below meth c s₁ B hml hv
  obtain ⟨rfl, hsz, hP, hK, hD0⟩ := hv
  have hx := B.exec
  have hb := B.bytes
  have hr := B.returns
  have hts := atoms_spec (ws := w_Ln_init) B.pre
  have hT : ∀ w ∈ TB, w.before _ s = true := fun w h => hts w (List.mem_cons_of_mem _ h)
  have hown : s.vm.findClass R_Ln = some m.cls := findClass_of_methodNamed B.named
  have hlocks := B.notSynchronized
  have hin : meth.name = "<init>" := (name_of_methodNamed B.named B.method).1
  subst hsz
  have hD := hD0.self (sz := s.heap.size)
  generalize hAe : va_A [(h, .inr (2, [.null, .int n]))] s.heap.size = A at hD ⊢
  have hA : ∀ q : Nat, s.heap.size ≤ q → A q := fun q h => by rw [← hAe]; exact Or.inr h
  have hS : va_S A s.heap s.heap [] := va_S.rf
  have hP : va_P (dC, dI) CL [(h, .inr (2, [.null, .int n]))] s.heap := hP
  have hl := lv_entry ([.ref h, .int 200]) (n := 2) (Nat.le_of_ble_eq_true rfl)
  rw [lg_entry_eq]
  generalize (lg_sl ([.ref h, .int 200]) ++ List.replicate (2 - (lg_sl ([.ref h, .int 200])).length) Slot.unset).toArray = ls at hl ⊢
  have hl : lv_has ls 2 [(0, .ref h), (1, .int 200)] := hl
  refine lv_aload_n hx hb d_Ln_init_0 rfl (lv_at hl 0 rfl) ?_
  refine W.objInit hx hb hown (hT _ t_28) (hT _ t_21) (hT _ t_22) rfl (by rw [hml]; exact hl.1) rfl d_Ln_init_1 (Nat.le_of_ble_eq_true rfl) (Nat.le_of_ble_eq_true rfl) ?_
  refine W.eq (g2 := F0 m 4 ls []) rfl ?_
  refine lv_aload_n hx hb d_Ln_init_4 rfl (lv_at hl 0 rfl) ?_
  refine lv_iload_n hx hb d_Ln_init_5 rfl (lv_at hl 1 rfl) ?_
  refine lv_iconst (v := 0) hx hb d_Ln_init_6 (by decide) ?_
  refine va_mmax hx hb (hml.trans hl.1.symm) hown (hT _ t_29) (hT _ t_30) (hT _ t_3) (hT _ t_31) (Nat.le_of_ble_eq_true rfl) (Nat.le_of_ble_eq_true rfl) (Nat.le_of_ble_eq_true rfl) (Nat.le_of_ble_eq_true rfl) d_Ln_init_7 ?_
  refine lv_topi (fun x1 ex1 => ?_)
  obtain rfl : x1 = 200 := by rw [ex1]; decide
  refine va_newa (atype := .char) (n := 200) (N' := 200) (a0 := (200, .inl (fun _ => 0))) hx hb (hT _ t_39) (ty := .char) rfl hK hP hD hS hA (fun _ => rfl) (by decide) (by decide) (by decide) (Nat.le_of_ble_eq_true rfl) (Nat.le_of_ble_eq_true rfl) d_Ln_init_10 (fun q2 cA3 H hK hP hD hS => ?_)
  obtain rfl : cC = cA3 := k_same hK 0 1 rfl rfl
  have hK := hK.sub (tys' := [(cC, .char)]) [0] rfl
  have hP : va_P (dC, dI) CL [(h, .inr (2, [.null, .int n])), (q2, .inl (cC, 200, .inl (fun _ => 0)))] H := hP
  have hD : va_D A [(h, .inr (2, [.null, .int n])), (q2, .inl (cC, 200, .inl (fun _ => 0)))] := hD
  refine va_putF (D := (dC, dI)) (ci := 2) (v := .ref q2) (ty := (.array .char)) (C := R_Ln) (T := F_Ln) (N := 2) hx hb hT (in_Ln) t_Ln t_Ln_ok n_Ln hown hK hP hD hS 0 rfl rfl 0 (by decide) (hT _ t_32) (fun _ h9 => h9) rfl hin rfl (by decide +kernel) rfl rfl (Nat.le_of_ble_eq_true rfl) d_Ln_init_12 (fun H locs hP hD hS => ?_)
  have hP : va_P (dC, dI) CL [(h, .inr (2, [.ref q2, .int n])), (q2, .inl (cC, 200, .inl (fun _ => 0)))] H := hP
  have hD : va_D A [(h, .inr (2, [.ref q2, .int n])), (q2, .inl (cC, 200, .inl (fun _ => 0)))] := hD
  have hP9 := hP.sub (ws' := [(h, .inr (2, [.ref q2, .int n])), (q2, .inl (cC, 200, .inl (fun _ => 0)))]) [0, 1] rfl
  have hD9 := hD.sub (ws' := [(h, .inr (2, [.ref q2, .int n])), (q2, .inl (cC, 200, .inl (fun _ => 0)))]) [0, 1] (by decide) rfl
  have hK9 := hK.sub (tys' := [(cC, .char)]) [0] rfl
  have hq9 : True := True.intro
  refine W.widen (k := 1) (n := 200) (Nat.le_of_ble_eq_true rfl) (Nat.le_of_ble_eq_true rfl) ?_
  exact W.vret hx hb hr (fun t ht hW => ⟨⟨(), rfl, hq9, q2, by rw [ht]; exact hP9, va_K.moved hW.alike hK9, hD9⟩, hS.F ht⟩) hS.2.2 d_Ln_init_15

set_option maxHeartbeats 4000000 in
set_option maxRecDepth 100000 in
theorem c_Line_init60 (l : Launch) (dC : Nat → ClassId) (dI : Nat → Nat → Nat) (sz : Nat) (cC : ClassId) (h : Nat) (n : Int32)  : Met l y_Ln_init w_Ln_init ({ frames := 1, cells := 1, slots := 60, locals := 14 } : Room) (va_Pc [.ref h, .int 60] (fun U => U.heap.size = sz ∧ va_P (dC, dI) CL [(h, .inr (2, [.null, .int n]))] U.heap ∧ va_K (dC, dI) CL [(cC, .char)] U ∧ va_D (fun _ => True) [(h, .inr (2, [.null, .int n]))])) (va_Qv (fun (u : Unit) => True) (fun (u : Unit) (t : State) => ∃ a : Nat, va_P (dC, dI) CL [(h, .inr (2, [.ref a, .int n])), (a, .inl (cC, 60, .inl (fun _ => 0)))] t.heap ∧ va_K (dC, dI) CL [(cC, .char)] t ∧ va_D (va_A [(h, .inr (2, [.null, .int n]))] sz) [(h, .inr (2, [.ref a, .int n])), (a, .inl (cC, 60, .inl (fun _ => 0)))]) (va_A [(h, .inr (2, [.null, .int n]))] sz)) 1 60 (va_A [(h, .inr (2, [.null, .int n]))] sz) := by
  refine Met.ofW (cc := b_Ln_init) (maxL := 2) (ret := none) (by decide) rfl ?_
  intro p e s m args below meth c s₁ B hml hv
  obtain ⟨rfl, hsz, hP, hK, hD0⟩ := hv
  have hx := B.exec
  have hb := B.bytes
  have hr := B.returns
  have hts := atoms_spec (ws := w_Ln_init) B.pre
  have hT : ∀ w ∈ TB, w.before _ s = true := fun w h => hts w (List.mem_cons_of_mem _ h)
  have hown : s.vm.findClass R_Ln = some m.cls := findClass_of_methodNamed B.named
  have hlocks := B.notSynchronized
  have hin : meth.name = "<init>" := (name_of_methodNamed B.named B.method).1
  subst hsz
  have hD := hD0.self (sz := s.heap.size)
  generalize hAe : va_A [(h, .inr (2, [.null, .int n]))] s.heap.size = A at hD ⊢
  have hA : ∀ q : Nat, s.heap.size ≤ q → A q := fun q h => by rw [← hAe]; exact Or.inr h
  have hS : va_S A s.heap s.heap [] := va_S.rf
  have hP : va_P (dC, dI) CL [(h, .inr (2, [.null, .int n]))] s.heap := hP
  have hl := lv_entry ([.ref h, .int 60]) (n := 2) (Nat.le_of_ble_eq_true rfl)
  rw [lg_entry_eq]
  generalize (lg_sl ([.ref h, .int 60]) ++ List.replicate (2 - (lg_sl ([.ref h, .int 60])).length) Slot.unset).toArray = ls at hl ⊢
  have hl : lv_has ls 2 [(0, .ref h), (1, .int 60)] := hl
  refine lv_aload_n hx hb d_Ln_init_0 rfl (lv_at hl 0 rfl) ?_
  refine W.objInit hx hb hown (hT _ t_28) (hT _ t_21) (hT _ t_22) rfl (by rw [hml]; exact hl.1) rfl d_Ln_init_1 (Nat.le_of_ble_eq_true rfl) (Nat.le_of_ble_eq_true rfl) ?_
  refine W.eq (g2 := F0 m 4 ls []) rfl ?_
  refine lv_aload_n hx hb d_Ln_init_4 rfl (lv_at hl 0 rfl) ?_
  refine lv_iload_n hx hb d_Ln_init_5 rfl (lv_at hl 1 rfl) ?_
  refine lv_iconst (v := 0) hx hb d_Ln_init_6 (by decide) ?_
  refine va_mmax hx hb (hml.trans hl.1.symm) hown (hT _ t_29) (hT _ t_30) (hT _ t_3) (hT _ t_31) (Nat.le_of_ble_eq_true rfl) (Nat.le_of_ble_eq_true rfl) (Nat.le_of_ble_eq_true rfl) (Nat.le_of_ble_eq_true rfl) d_Ln_init_7 ?_
  refine lv_topi (fun x1 ex1 => ?_)
  obtain rfl : x1 = 60 := by rw [ex1]; decide
  refine va_newa (atype := .char) (n := 60) (N' := 60) (a0 := (60, .inl (fun _ => 0))) hx hb (hT _ t_39) (ty := .char) rfl hK hP hD hS hA (fun _ => rfl) (by decide) (by decide) (by decide) (Nat.le_of_ble_eq_true rfl) (Nat.le_of_ble_eq_true rfl) d_Ln_init_10 (fun q2 cA3 H hK hP hD hS => ?_)
  obtain rfl : cC = cA3 := k_same hK 0 1 rfl rfl
  have hK := hK.sub (tys' := [(cC, .char)]) [0] rfl
  have hP : va_P (dC, dI) CL [(h, .inr (2, [.null, .int n])), (q2, .inl (cC, 60, .inl (fun _ => 0)))] H := hP
  have hD : va_D A [(h, .inr (2, [.null, .int n])), (q2, .inl (cC, 60, .inl (fun _ => 0)))] := hD
  refine va_putF (D := (dC, dI)) (ci := 2) (v := .ref q2) (ty := (.array .char)) (C := R_Ln) (T := F_Ln) (N := 2) hx hb hT (in_Ln) t_Ln t_Ln_ok n_Ln hown hK hP hD hS 0 rfl rfl 0 (by decide) (hT _ t_32) (fun _ h9 => h9) rfl hin rfl (by decide +kernel) rfl rfl (Nat.le_of_ble_eq_true rfl) d_Ln_init_12 (fun H locs hP hD hS => ?_)
  have hP : va_P (dC, dI) CL [(h, .inr (2, [.ref q2, .int n])), (q2, .inl (cC, 60, .inl (fun _ => 0)))] H := hP
  have hD : va_D A [(h, .inr (2, [.ref q2, .int n])), (q2, .inl (cC, 60, .inl (fun _ => 0)))] := hD
  have hP9 := hP.sub (ws' := [(h, .inr (2, [.ref q2, .int n])), (q2, .inl (cC, 60, .inl (fun _ => 0)))]) [0, 1] rfl
  have hD9 := hD.sub (ws' := [(h, .inr (2, [.ref q2, .int n])), (q2, .inl (cC, 60, .inl (fun _ => 0)))]) [0, 1] (by decide) rfl
  have hK9 := hK.sub (tys' := [(cC, .char)]) [0] rfl
  have hq9 : True := True.intro
  refine W.widen (k := 1) (n := 60) (Nat.le_of_ble_eq_true rfl) (Nat.le_of_ble_eq_true rfl) ?_
  exact W.vret hx hb hr (fun t ht hW => ⟨⟨(), rfl, hq9, q2, by rw [ht]; exact hP9, va_K.moved hW.alike hK9, hD9⟩, hS.F ht⟩) hS.2.2 d_Ln_init_15

set_option maxHeartbeats 4000000 in
set_option maxRecDepth 100000 in
theorem c_Line_init600 (l : Launch) (dC : Nat → ClassId) (dI : Nat → Nat → Nat) (sz : Nat) (cC : ClassId) (h : Nat) (n : Int32)  : Met l y_Ln_init w_Ln_init ({ frames := 1, cells := 1, slots := 600, locals := 14 } : Room) (va_Pc [.ref h, .int 600] (fun U => U.heap.size = sz ∧ va_P (dC, dI) CL [(h, .inr (2, [.null, .int n]))] U.heap ∧ va_K (dC, dI) CL [(cC, .char)] U ∧ va_D (fun _ => True) [(h, .inr (2, [.null, .int n]))])) (va_Qv (fun (u : Unit) => True) (fun (u : Unit) (t : State) => ∃ a : Nat, va_P (dC, dI) CL [(h, .inr (2, [.ref a, .int n])), (a, .inl (cC, 600, .inl (fun _ => 0)))] t.heap ∧ va_K (dC, dI) CL [(cC, .char)] t ∧ va_D (va_A [(h, .inr (2, [.null, .int n]))] sz) [(h, .inr (2, [.ref a, .int n])), (a, .inl (cC, 600, .inl (fun _ => 0)))]) (va_A [(h, .inr (2, [.null, .int n]))] sz)) 1 600 (va_A [(h, .inr (2, [.null, .int n]))] sz) := by
  refine Met.ofW (cc := b_Ln_init) (maxL := 2) (ret := none) (by decide) rfl ?_
  intro p e s m args below meth c s₁ B hml hv
  obtain ⟨rfl, hsz, hP, hK, hD0⟩ := hv
  have hx := B.exec
  have hb := B.bytes
  have hr := B.returns
  have hts := atoms_spec (ws := w_Ln_init) B.pre
  have hT : ∀ w ∈ TB, w.before _ s = true := fun w h => hts w (List.mem_cons_of_mem _ h)
  have hown : s.vm.findClass R_Ln = some m.cls := findClass_of_methodNamed B.named
  have hlocks := B.notSynchronized
  have hin : meth.name = "<init>" := (name_of_methodNamed B.named B.method).1
  subst hsz
  have hD := hD0.self (sz := s.heap.size)
  generalize hAe : va_A [(h, .inr (2, [.null, .int n]))] s.heap.size = A at hD ⊢
  have hA : ∀ q : Nat, s.heap.size ≤ q → A q := fun q h => by rw [← hAe]; exact Or.inr h
  have hS : va_S A s.heap s.heap [] := va_S.rf
  have hP : va_P (dC, dI) CL [(h, .inr (2, [.null, .int n]))] s.heap := hP
  have hl := lv_entry ([.ref h, .int 600]) (n := 2) (Nat.le_of_ble_eq_true rfl)
  rw [lg_entry_eq]
  generalize (lg_sl ([.ref h, .int 600]) ++ List.replicate (2 - (lg_sl ([.ref h, .int 600])).length) Slot.unset).toArray = ls at hl ⊢
  have hl : lv_has ls 2 [(0, .ref h), (1, .int 600)] := hl
  refine lv_aload_n hx hb d_Ln_init_0 rfl (lv_at hl 0 rfl) ?_
  refine W.objInit hx hb hown (hT _ t_28) (hT _ t_21) (hT _ t_22) rfl (by rw [hml]; exact hl.1) rfl d_Ln_init_1 (Nat.le_of_ble_eq_true rfl) (Nat.le_of_ble_eq_true rfl) ?_
  refine W.eq (g2 := F0 m 4 ls []) rfl ?_
  refine lv_aload_n hx hb d_Ln_init_4 rfl (lv_at hl 0 rfl) ?_
  refine lv_iload_n hx hb d_Ln_init_5 rfl (lv_at hl 1 rfl) ?_
  refine lv_iconst (v := 0) hx hb d_Ln_init_6 (by decide) ?_
  refine va_mmax hx hb (hml.trans hl.1.symm) hown (hT _ t_29) (hT _ t_30) (hT _ t_3) (hT _ t_31) (Nat.le_of_ble_eq_true rfl) (Nat.le_of_ble_eq_true rfl) (Nat.le_of_ble_eq_true rfl) (Nat.le_of_ble_eq_true rfl) d_Ln_init_7 ?_
  refine lv_topi (fun x1 ex1 => ?_)
  obtain rfl : x1 = 600 := by rw [ex1]; decide
  refine va_newa (atype := .char) (n := 600) (N' := 600) (a0 := (600, .inl (fun _ => 0))) hx hb (hT _ t_39) (ty := .char) rfl hK hP hD hS hA (fun _ => rfl) (by decide) (by decide) (by decide) (Nat.le_of_ble_eq_true rfl) (Nat.le_of_ble_eq_true rfl) d_Ln_init_10 (fun q2 cA3 H hK hP hD hS => ?_)
  obtain rfl : cC = cA3 := k_same hK 0 1 rfl rfl
  have hK := hK.sub (tys' := [(cC, .char)]) [0] rfl
  have hP : va_P (dC, dI) CL [(h, .inr (2, [.null, .int n])), (q2, .inl (cC, 600, .inl (fun _ => 0)))] H := hP
  have hD : va_D A [(h, .inr (2, [.null, .int n])), (q2, .inl (cC, 600, .inl (fun _ => 0)))] := hD
  refine va_putF (D := (dC, dI)) (ci := 2) (v := .ref q2) (ty := (.array .char)) (C := R_Ln) (T := F_Ln) (N := 2) hx hb hT (in_Ln) t_Ln t_Ln_ok n_Ln hown hK hP hD hS 0 rfl rfl 0 (by decide) (hT _ t_32) (fun _ h9 => h9) rfl hin rfl (by decide +kernel) rfl rfl (Nat.le_of_ble_eq_true rfl) d_Ln_init_12 (fun H locs hP hD hS => ?_)
  have hP : va_P (dC, dI) CL [(h, .inr (2, [.ref q2, .int n])), (q2, .inl (cC, 600, .inl (fun _ => 0)))] H := hP
  have hD : va_D A [(h, .inr (2, [.ref q2, .int n])), (q2, .inl (cC, 600, .inl (fun _ => 0)))] := hD
  have hP9 := hP.sub (ws' := [(h, .inr (2, [.ref q2, .int n])), (q2, .inl (cC, 600, .inl (fun _ => 0)))]) [0, 1] rfl
  have hD9 := hD.sub (ws' := [(h, .inr (2, [.ref q2, .int n])), (q2, .inl (cC, 600, .inl (fun _ => 0)))]) [0, 1] (by decide) rfl
  have hK9 := hK.sub (tys' := [(cC, .char)]) [0] rfl
  have hq9 : True := True.intro
  refine W.widen (k := 1) (n := 600) (Nat.le_of_ble_eq_true rfl) (Nat.le_of_ble_eq_true rfl) ?_
  exact W.vret hx hb hr (fun t ht hW => ⟨⟨(), rfl, hq9, q2, by rw [ht]; exact hP9, va_K.moved hW.alike hK9, hD9⟩, hS.F ht⟩) hS.2.2 d_Ln_init_15

set_option maxHeartbeats 4000000 in
set_option maxRecDepth 100000 in
theorem c_Line_init160 (l : Launch) (dC : Nat → ClassId) (dI : Nat → Nat → Nat) (sz : Nat) (cC : ClassId) (h : Nat) (n : Int32)  : Met l y_Ln_init w_Ln_init ({ frames := 1, cells := 1, slots := 160, locals := 14 } : Room) (va_Pc [.ref h, .int 160] (fun U => U.heap.size = sz ∧ va_P (dC, dI) CL [(h, .inr (2, [.null, .int n]))] U.heap ∧ va_K (dC, dI) CL [(cC, .char)] U ∧ va_D (fun _ => True) [(h, .inr (2, [.null, .int n]))])) (va_Qv (fun (u : Unit) => True) (fun (u : Unit) (t : State) => ∃ a : Nat, va_P (dC, dI) CL [(h, .inr (2, [.ref a, .int n])), (a, .inl (cC, 160, .inl (fun _ => 0)))] t.heap ∧ va_K (dC, dI) CL [(cC, .char)] t ∧ va_D (va_A [(h, .inr (2, [.null, .int n]))] sz) [(h, .inr (2, [.ref a, .int n])), (a, .inl (cC, 160, .inl (fun _ => 0)))]) (va_A [(h, .inr (2, [.null, .int n]))] sz)) 1 160 (va_A [(h, .inr (2, [.null, .int n]))] sz) := by
  refine Met.ofW (cc := b_Ln_init) (maxL := 2) (ret := none) (by decide) rfl ?_
  intro p e s m args below meth c s₁ B hml hv
  obtain ⟨rfl, hsz, hP, hK, hD0⟩ := hv
  have hx := B.exec
  have hb := B.bytes
  have hr := B.returns
  have hts := atoms_spec (ws := w_Ln_init) B.pre
  have hT : ∀ w ∈ TB, w.before _ s = true := fun w h => hts w (List.mem_cons_of_mem _ h)
  have hown : s.vm.findClass R_Ln = some m.cls := findClass_of_methodNamed B.named
  have hlocks := B.notSynchronized
  have hin : meth.name = "<init>" := (name_of_methodNamed B.named B.method).1
  subst hsz
  have hD := hD0.self (sz := s.heap.size)
  generalize hAe : va_A [(h, .inr (2, [.null, .int n]))] s.heap.size = A at hD ⊢
  have hA : ∀ q : Nat, s.heap.size ≤ q → A q := fun q h => by rw [← hAe]; exact Or.inr h
  have hS : va_S A s.heap s.heap [] := va_S.rf
  have hP : va_P (dC, dI) CL [(h, .inr (2, [.null, .int n]))] s.heap := hP
  have hl := lv_entry ([.ref h, .int 160]) (n := 2) (Nat.le_of_ble_eq_true rfl)
  rw [lg_entry_eq]
  generalize (lg_sl ([.ref h, .int 160]) ++ List.replicate (2 - (lg_sl ([.ref h, .int 160])).length) Slot.unset).toArray = ls at hl ⊢
  have hl : lv_has ls 2 [(0, .ref h), (1, .int 160)] := hl
  refine lv_aload_n hx hb d_Ln_init_0 rfl (lv_at hl 0 rfl) ?_
  refine W.objInit hx hb hown (hT _ t_28) (hT _ t_21) (hT _ t_22) rfl (by rw [hml]; exact hl.1) rfl d_Ln_init_1 (Nat.le_of_ble_eq_true rfl) (Nat.le_of_ble_eq_true rfl) ?_
  refine W.eq (g2 := F0 m 4 ls []) rfl ?_
  refine lv_aload_n hx hb d_Ln_init_4 rfl (lv_at hl 0 rfl) ?_
  refine lv_iload_n hx hb d_Ln_init_5 rfl (lv_at hl 1 rfl) ?_
  refine lv_iconst (v := 0) hx hb d_Ln_init_6 (by decide) ?_
  refine va_mmax hx hb (hml.trans hl.1.symm) hown (hT _ t_29) (hT _ t_30) (hT _ t_3) (hT _ t_31) (Nat.le_of_ble_eq_true rfl) (Nat.le_of_ble_eq_true rfl) (Nat.le_of_ble_eq_true rfl) (Nat.le_of_ble_eq_true rfl) d_Ln_init_7 ?_
  refine lv_topi (fun x1 ex1 => ?_)
  obtain rfl : x1 = 160 := by rw [ex1]; decide
  refine va_newa (atype := .char) (n := 160) (N' := 160) (a0 := (160, .inl (fun _ => 0))) hx hb (hT _ t_39) (ty := .char) rfl hK hP hD hS hA (fun _ => rfl) (by decide) (by decide) (by decide) (Nat.le_of_ble_eq_true rfl) (Nat.le_of_ble_eq_true rfl) d_Ln_init_10 (fun q2 cA3 H hK hP hD hS => ?_)
  obtain rfl : cC = cA3 := k_same hK 0 1 rfl rfl
  have hK := hK.sub (tys' := [(cC, .char)]) [0] rfl
  have hP : va_P (dC, dI) CL [(h, .inr (2, [.null, .int n])), (q2, .inl (cC, 160, .inl (fun _ => 0)))] H := hP
  have hD : va_D A [(h, .inr (2, [.null, .int n])), (q2, .inl (cC, 160, .inl (fun _ => 0)))] := hD
  refine va_putF (D := (dC, dI)) (ci := 2) (v := .ref q2) (ty := (.array .char)) (C := R_Ln) (T := F_Ln) (N := 2) hx hb hT (in_Ln) t_Ln t_Ln_ok n_Ln hown hK hP hD hS 0 rfl rfl 0 (by decide) (hT _ t_32) (fun _ h9 => h9) rfl hin rfl (by decide +kernel) rfl rfl (Nat.le_of_ble_eq_true rfl) d_Ln_init_12 (fun H locs hP hD hS => ?_)
  have hP : va_P (dC, dI) CL [(h, .inr (2, [.ref q2, .int n])), (q2, .inl (cC, 160, .inl (fun _ => 0)))] H := hP
  have hD : va_D A [(h, .inr (2, [.ref q2, .int n])), (q2, .inl (cC, 160, .inl (fun _ => 0)))] := hD
  have hP9 := hP.sub (ws' := [(h, .inr (2, [.ref q2, .int n])), (q2, .inl (cC, 160, .inl (fun _ => 0)))]) [0, 1] rfl
  have hD9 := hD.sub (ws' := [(h, .inr (2, [.ref q2, .int n])), (q2, .inl (cC, 160, .inl (fun _ => 0)))]) [0, 1] (by decide) rfl
  have hK9 := hK.sub (tys' := [(cC, .char)]) [0] rfl
  have hq9 : True := True.intro
  refine W.widen (k := 1) (n := 160) (Nat.le_of_ble_eq_true rfl) (Nat.le_of_ble_eq_true rfl) ?_
  exact W.vret hx hb hr (fun t ht hW => ⟨⟨(), rfl, hq9, q2, by rw [ht]; exact hP9, va_K.moved hW.alike hK9, hD9⟩, hS.F ht⟩) hS.2.2 d_Ln_init_15

set_option maxHeartbeats 4000000 in
set_option maxRecDepth 100000 in
theorem c_Line_dropZeros (l : Launch) (dC : Nat → ClassId) (dI : Nat → Nat → Nat) (sz : Nat) (cC : ClassId) (h : Nat) (a : Nat) (room : Nat) (f : Nat → Int32) (n : Int32) (places : Int32) (hn : lnOK room n) : Met l y_Ln_dropZeros w_Ln_dropZeros ({ frames := 1, cells := 0, slots := 0, locals := 21 } : Room) (va_Pc [.ref h, .int places] (fun U => U.heap.size = sz ∧ va_P (dC, dI) CL [(h, .inr (2, [.ref a, .int n])), (a, .inl (cC, room, .inl f))] U.heap ∧ va_K (dC, dI) CL [(cC, .char)] U ∧ va_D (fun _ => True) [(h, .inr (2, [.ref a, .int n])), (a, .inl (cC, room, .inl f))])) (va_Qv (fun (n2 : Int32) => n2 = lnDp f places n ∧ lnOK room n2) (fun (n2 : Int32) (t : State) => va_P (dC, dI) CL [(h, .inr (2, [.ref a, .int n2])), (a, .inl (cC, room, .inl f))] t.heap ∧ va_K (dC, dI) CL [(cC, .char)] t ∧ va_D (va_A [(h, .inr (2, [.ref a, .int n])), (a, .inl (cC, room, .inl f))] sz) [(h, .inr (2, [.ref a, .int n2])), (a, .inl (cC, room, .inl f))]) (va_A [(h, .inr (2, [.ref a, .int n])), (a, .inl (cC, room, .inl f))] sz)) 0 0 (va_A [(h, .inr (2, [.ref a, .int n])), (a, .inl (cC, room, .inl f))] sz) := by
  refine Met.ofW (cc := b_Ln_dropZeros) (maxL := 3) (ret := none) (by decide) rfl ?_
  intro p e s m args below meth c s₁ B hml hv
  obtain ⟨rfl, hsz, hP, hK, hD0⟩ := hv
  have hx := B.exec
  have hb := B.bytes
  have hr := B.returns
  have hts := atoms_spec (ws := w_Ln_dropZeros) B.pre
  have hT : ∀ w ∈ TB, w.before _ s = true := fun w h => hts w (List.mem_cons_of_mem _ h)
  have hown : s.vm.findClass R_Ln = some m.cls := findClass_of_methodNamed B.named
  have hlocks := B.notSynchronized
  subst hsz
  have hD := hD0.self (sz := s.heap.size)
  generalize hAe : va_A [(h, .inr (2, [.ref a, .int n])), (a, .inl (cC, room, .inl f))] s.heap.size = A at hD ⊢
  have hA : ∀ q : Nat, s.heap.size ≤ q → A q := fun q h => by rw [← hAe]; exact Or.inr h
  have hS : va_S A s.heap s.heap [] := va_S.rf
  have hP : va_P (dC, dI) CL [(h, .inr (2, [.ref a, .int n])), (a, .inl (cC, room, .inl f))] s.heap := hP
  have hl := lv_entry ([.ref h, .int places]) (n := 3) (Nat.le_of_ble_eq_true rfl)
  rw [lg_entry_eq]
  generalize (lg_sl ([.ref h, .int places]) ++ List.replicate (3 - (lg_sl ([.ref h, .int places])).length) Slot.unset).toArray = ls at hl ⊢
  have hl : lv_has ls 3 [(0, .ref h), (1, .int places)] := hl
  refine k_Q (fun Q hQ => ?_)
  refine lv_iconst (v := 0) hx hb d_Ln_dropZeros_0 (by decide) ?_
  refine lv_istore_n (lv' := [(2, .int 0), (0, .ref h), (1, .int places)]) hx hb d_Ln_dropZeros_1 rfl hl (by decide) rfl (fun ls hl => ?_)
  have loop2 : ∀ (fuel : Nat) (i : Int32) (n1 : Int32) (H : Heap) (locs : List Loc) (ls : Array Slot), ((places.toInt - i.toInt).toNat < fuel) → (lnOK room n1) → (lnZeros f places fuel i n1 = lnZeros f places (places.toInt.toNat + 1) 0 n) → va_P (dC, dI) CL [(h, .inr (2, [.ref a, .int n1])), (a, .inl (cC, room, .inl f))] H → va_D A [(h, .inr (2, [.ref a, .int n1])), (a, .inl (cC, room, .inl f))] → va_S A s.heap H locs → lv_has ls 3 [(2, .int i), (0, .ref h), (1, .int places)] → W p l e (headSpec w_Ln_dropZeros ({ frames := 1, cells := 0, slots := 0, locals := 21 } : Room)).room s m ([.ref h, .int places] : List Value).toArray below meth c H locs 0 0 Q (F0 m 2 ls []) := by
    intro fuel
    induction fuel with
    | zero =>
      intro i n1 H locs ls hk hn hG hP hD hS hl
      exact absurd hk (Nat.not_lt_zero _)
    | succ fuel ih =>
      intro i n1 H locs ls hk hn hG hP hD hS hl
      refine lv_iload_n hx hb d_Ln_dropZeros_2 rfl (lv_at hl 0 rfl) ?_
      refine lv_iload_n hx hb d_Ln_dropZeros_3 rfl (lv_at hl 2 rfl) ?_
      refine lv_icmp_ge (tgt := 38) hx hb d_Ln_dropZeros_4 (by decide) (fun c4_1 => ?_) (fun c4_1 => ?_)
      · skip
        have hE : n1 = lnZeros f places (places.toInt.toNat + 1) 0 n := by have h9 := hG; rw [lnZeros, if_pos c4_1] at h9; exact h9
        refine lv_aload_n hx hb d_Ln_dropZeros_38 rfl (lv_at hl 1 rfl) ?_
        refine lv_aload_n hx hb d_Ln_dropZeros_39 rfl (lv_at hl 1 rfl) ?_
        refine va_get (D := (dC, dI)) (ci := 2) (v := .int n1) (C := R_Ln) (T := F_Ln) (N := 2) hx hb hT (in_Ln) hown hK hP 0 rfl rfl 1 (by decide) (hT _ t_33) (fun _ h9 => h9) rfl d_Ln_dropZeros_40 ?_
        refine lv_iconst (v := 1) hx hb d_Ln_dropZeros_43 (by decide) ?_
        refine lv_isub hx hb d_Ln_dropZeros_44 ?_
        refine lv_topi (fun x2 ex2 => ?_)
        have hPc := hP.sub (ws' := [(h, .inr (2, [.ref a, .int n1])), (a, .inl (cC, room, .inl f))]) [0, 1] rfl
        have hDc := hD.sub (ws' := [(h, .inr (2, [.ref a, .int n1])), (a, .inl (cC, room, .inl f))]) [0, 1] (by decide) rfl
        have hKc := hK.sub (tys' := [(cC, .char)]) [0] rfl
        have hFc := va_free (wc := [(h, .inr (2, [.ref a, .int n1])), (a, .inl (cC, room, .inl f))]) hD hS hA [0, 1] rfl
        refine va_calli (va_runV (As := [.int x2]) (rest := []) ⟨hx, hb, hml, hown, hT⟩ (c_Line_at l dC dI H.size cC h a room f n1 x2 (by first | assumption | omega)) (cwV 1 hT g_Ln_29 rfl rfl rfl (by decide +kernel) ⟨Nat.le_of_ble_eq_true rfl, Nat.le_of_ble_eq_true rfl⟩) ⟨fun a U g mk q => by obtain ⟨q0, q1, qP, qK, qD⟩ := q; exact ⟨q0, q1, qP, va_K.moved (u := U) (U := U.calling g mk a) (Vm.Alike.refl U.vm) qK, qD⟩, va_recv hKc hPc (ci := 2) (q0 := 0) rfl rfl, fun U hU hW => ⟨rfl, by rw [hU], by rw [hU]; exact hPc, va_K.moved hW.alike hKc, hDc.weaken (fun _ _ _ _ => trivial)⟩⟩ rfl rfl hl.1 rfl (lv_room (Nat.le_of_ble_eq_true rfl)) d_Ln_dropZeros_45 ⟨Nat.le_of_ble_eq_true rfl, Nat.le_of_ble_eq_true rfl⟩) hS (fun q _ h => hFc q h) hFc (fun x3 u t H1 locs ht hvm w45_3 hB hz1 hk1 hS => ?_)
        obtain ⟨hP1, hK1, hD1⟩ := hB
        rw [ht] at hP1
        try dsimp only at w45_3
        obtain ⟨hP, hD⟩ := va_join (wr := []) (w1 := [(h, .inr (2, [.ref a, .int n1])), (a, .inl (cC, room, .inl f))]) hP hD [0, 1] [] rfl rfl (by decide) (by decide) hk1 hFc hP1 hD1
        generalize H1 = H at hP hS ⊢
        have hP : va_P (dC, dI) CL [(h, .inr (2, [.ref a, .int n1])), (a, .inl (cC, room, .inl f))] H := hP
        have hD : va_D A [(h, .inr (2, [.ref a, .int n1])), (a, .inl (cC, room, .inl f))] := hD
        refine lv_bipush (v := 46) hx hb d_Ln_dropZeros_48 (by decide) ?_
        refine lv_icmp_ne (tgt := 63) hx hb d_Ln_dropZeros_50 (by decide) (fun c50_4 => ?_) (fun c50_4 => ?_)
        · skip
          have hP9 := hP.sub (ws' := [(h, .inr (2, [.ref a, .int n1])), (a, .inl (cC, room, .inl f))]) [0, 1] rfl
          have hD9 := hD.sub (ws' := [(h, .inr (2, [.ref a, .int n1])), (a, .inl (cC, room, .inl f))]) [0, 1] (by decide) rfl
          have hK9 := hK.sub (tys' := [(cC, .char)]) [0] rfl
          have hq9 : n1 = lnDp f places n ∧ lnOK room n1 := by refine ⟨?_, hn⟩; unfold lnDp lnDrop; rw [← hE, if_neg (by rw [← ex2, ← w45_3]; exact c50_4)]
          subst hQ
          exact W.vret hx hb hr (fun t ht hW => ⟨⟨n1, rfl, hq9, by rw [ht]; exact hP9, va_K.moved hW.alike hK9, hD9⟩, hS.F ht⟩) hS.2.2 d_Ln_dropZeros_63
        · skip
          refine lv_aload_n hx hb d_Ln_dropZeros_53 rfl (lv_at hl 1 rfl) ?_
          refine lv_dup hx hb d_Ln_dropZeros_54 rfl ?_
          refine va_get (D := (dC, dI)) (ci := 2) (v := .int n1) (C := R_Ln) (T := F_Ln) (N := 2) hx hb hT (in_Ln) hown hK hP 0 rfl rfl 1 (by decide) (hT _ t_33) (fun _ h9 => h9) rfl d_Ln_dropZeros_55 ?_
          refine lv_iconst (v := 1) hx hb d_Ln_dropZeros_58 (by decide) ?_
          refine lv_isub hx hb d_Ln_dropZeros_59 ?_
          refine lv_topi (fun x5 ex5 => ?_)
          refine va_put (D := (dC, dI)) (ci := 2) (v := .int x5) (ty := .int) (C := R_Ln) (T := F_Ln) (N := 2) hx hb hT (in_Ln) t_Ln t_Ln_ok n_Ln hown hK hP hD hS 0 rfl rfl 1 (by decide) (hT _ t_33) (fun _ h9 => h9) rfl (by decide +kernel) rfl rfl (Nat.le_of_ble_eq_true rfl) d_Ln_dropZeros_60 (fun H locs hP hD hS => ?_)
          have hP : va_P (dC, dI) CL [(h, .inr (2, [.ref a, .int x5])), (a, .inl (cC, room, .inl f))] H := hP
          have hD : va_D A [(h, .inr (2, [.ref a, .int x5])), (a, .inl (cC, room, .inl f))] := hD
          have hP9 := hP.sub (ws' := [(h, .inr (2, [.ref a, .int x5])), (a, .inl (cC, room, .inl f))]) [0, 1] rfl
          have hD9 := hD.sub (ws' := [(h, .inr (2, [.ref a, .int x5])), (a, .inl (cC, room, .inl f))]) [0, 1] (by decide) rfl
          have hK9 := hK.sub (tys' := [(cC, .char)]) [0] rfl
          have hq9 : x5 = lnDp f places n ∧ lnOK room x5 := by refine ⟨?_, by rw [ex5]; exact lnOK_dec hn (by rw [← ex2, ← w45_3, c50_4]; decide)⟩; unfold lnDp lnDrop; rw [← hE, if_pos (by rw [← ex2, ← w45_3]; exact c50_4)]; exact ex5
          subst hQ
          exact W.vret hx hb hr (fun t ht hW => ⟨⟨x5, rfl, hq9, by rw [ht]; exact hP9, va_K.moved hW.alike hK9, hD9⟩, hS.F ht⟩) hS.2.2 d_Ln_dropZeros_63
      · skip
        refine lv_aload_n hx hb d_Ln_dropZeros_7 rfl (lv_at hl 1 rfl) ?_
        refine lv_aload_n hx hb d_Ln_dropZeros_8 rfl (lv_at hl 1 rfl) ?_
        refine va_get (D := (dC, dI)) (ci := 2) (v := .int n1) (C := R_Ln) (T := F_Ln) (N := 2) hx hb hT (in_Ln) hown hK hP 0 rfl rfl 1 (by decide) (hT _ t_33) (fun _ h9 => h9) rfl d_Ln_dropZeros_9 ?_
        refine lv_iconst (v := 1) hx hb d_Ln_dropZeros_12 (by decide) ?_
        refine lv_isub hx hb d_Ln_dropZeros_13 ?_
        refine lv_topi (fun x6 ex6 => ?_)
        have hPc := hP.sub (ws' := [(h, .inr (2, [.ref a, .int n1])), (a, .inl (cC, room, .inl f))]) [0, 1] rfl
        have hDc := hD.sub (ws' := [(h, .inr (2, [.ref a, .int n1])), (a, .inl (cC, room, .inl f))]) [0, 1] (by decide) rfl
        have hKc := hK.sub (tys' := [(cC, .char)]) [0] rfl
        have hFc := va_free (wc := [(h, .inr (2, [.ref a, .int n1])), (a, .inl (cC, room, .inl f))]) hD hS hA [0, 1] rfl
        refine va_calli (va_runV (As := [.int x6]) (rest := []) ⟨hx, hb, hml, hown, hT⟩ (c_Line_at l dC dI H.size cC h a room f n1 x6 (by first | assumption | omega)) (cwV 1 hT g_Ln_29 rfl rfl rfl (by decide +kernel) ⟨Nat.le_of_ble_eq_true rfl, Nat.le_of_ble_eq_true rfl⟩) ⟨fun a U g mk q => by obtain ⟨q0, q1, qP, qK, qD⟩ := q; exact ⟨q0, q1, qP, va_K.moved (u := U) (U := U.calling g mk a) (Vm.Alike.refl U.vm) qK, qD⟩, va_recv hKc hPc (ci := 2) (q0 := 0) rfl rfl, fun U hU hW => ⟨rfl, by rw [hU], by rw [hU]; exact hPc, va_K.moved hW.alike hKc, hDc.weaken (fun _ _ _ _ => trivial)⟩⟩ rfl rfl hl.1 rfl (lv_room (Nat.le_of_ble_eq_true rfl)) d_Ln_dropZeros_14 ⟨Nat.le_of_ble_eq_true rfl, Nat.le_of_ble_eq_true rfl⟩) hS (fun q _ h => hFc q h) hFc (fun x7 u t H1 locs ht hvm w14_7 hB hz1 hk1 hS => ?_)
        obtain ⟨hP1, hK1, hD1⟩ := hB
        rw [ht] at hP1
        try dsimp only at w14_7
        obtain ⟨hP, hD⟩ := va_join (wr := []) (w1 := [(h, .inr (2, [.ref a, .int n1])), (a, .inl (cC, room, .inl f))]) hP hD [0, 1] [] rfl rfl (by decide) (by decide) hk1 hFc hP1 hD1
        generalize H1 = H at hP hS ⊢
        have hP : va_P (dC, dI) CL [(h, .inr (2, [.ref a, .int n1])), (a, .inl (cC, room, .inl f))] H := hP
        have hD : va_D A [(h, .inr (2, [.ref a, .int n1])), (a, .inl (cC, room, .inl f))] := hD
        refine lv_bipush (v := 48) hx hb d_Ln_dropZeros_17 (by decide) ?_
        refine lv_icmp_ne (tgt := 38) hx hb d_Ln_dropZeros_19 (by decide) (fun c19_8 => ?_) (fun c19_8 => ?_)
        · skip
          have hE : n1 = lnZeros f places (places.toInt.toNat + 1) 0 n := by have h9 := hG; rw [lnZeros, if_neg c4_1, if_neg (by rw [← ex6, ← w14_7]; exact c19_8)] at h9; exact h9
          refine lv_aload_n hx hb d_Ln_dropZeros_38 rfl (lv_at hl 1 rfl) ?_
          refine lv_aload_n hx hb d_Ln_dropZeros_39 rfl (lv_at hl 1 rfl) ?_
          refine va_get (D := (dC, dI)) (ci := 2) (v := .int n1) (C := R_Ln) (T := F_Ln) (N := 2) hx hb hT (in_Ln) hown hK hP 0 rfl rfl 1 (by decide) (hT _ t_33) (fun _ h9 => h9) rfl d_Ln_dropZeros_40 ?_
          refine lv_iconst (v := 1) hx hb d_Ln_dropZeros_43 (by decide) ?_
          refine lv_isub hx hb d_Ln_dropZeros_44 ?_
          refine lv_topi (fun x9 ex9 => ?_)
          have hPc := hP.sub (ws' := [(h, .inr (2, [.ref a, .int n1])), (a, .inl (cC, room, .inl f))]) [0, 1] rfl
          have hDc := hD.sub (ws' := [(h, .inr (2, [.ref a, .int n1])), (a, .inl (cC, room, .inl f))]) [0, 1] (by decide) rfl
          have hKc := hK.sub (tys' := [(cC, .char)]) [0] rfl
          have hFc := va_free (wc := [(h, .inr (2, [.ref a, .int n1])), (a, .inl (cC, room, .inl f))]) hD hS hA [0, 1] rfl
          refine va_calli (va_runV (As := [.int x9]) (rest := []) ⟨hx, hb, hml, hown, hT⟩ (c_Line_at l dC dI H.size cC h a room f n1 x9 (by first | assumption | omega)) (cwV 1 hT g_Ln_29 rfl rfl rfl (by decide +kernel) ⟨Nat.le_of_ble_eq_true rfl, Nat.le_of_ble_eq_true rfl⟩) ⟨fun a U g mk q => by obtain ⟨q0, q1, qP, qK, qD⟩ := q; exact ⟨q0, q1, qP, va_K.moved (u := U) (U := U.calling g mk a) (Vm.Alike.refl U.vm) qK, qD⟩, va_recv hKc hPc (ci := 2) (q0 := 0) rfl rfl, fun U hU hW => ⟨rfl, by rw [hU], by rw [hU]; exact hPc, va_K.moved hW.alike hKc, hDc.weaken (fun _ _ _ _ => trivial)⟩⟩ rfl rfl hl.1 rfl (lv_room (Nat.le_of_ble_eq_true rfl)) d_Ln_dropZeros_45 ⟨Nat.le_of_ble_eq_true rfl, Nat.le_of_ble_eq_true rfl⟩) hS (fun q _ h => hFc q h) hFc (fun x10 u t H1 locs ht hvm w45_10 hB hz1 hk1 hS => ?_)
          obtain ⟨hP1, hK1, hD1⟩ := hB
          rw [ht] at hP1
          try dsimp only at w45_10
          obtain ⟨hP, hD⟩ := va_join (wr := []) (w1 := [(h, .inr (2, [.ref a, .int n1])), (a, .inl (cC, room, .inl f))]) hP hD [0, 1] [] rfl rfl (by decide) (by decide) hk1 hFc hP1 hD1
          generalize H1 = H at hP hS ⊢
          have hP : va_P (dC, dI) CL [(h, .inr (2, [.ref a, .int n1])), (a, .inl (cC, room, .inl f))] H := hP
          have hD : va_D A [(h, .inr (2, [.ref a, .int n1])), (a, .inl (cC, room, .inl f))] := hD
          refine lv_bipush (v := 46) hx hb d_Ln_dropZeros_48 (by decide) ?_
          refine lv_icmp_ne (tgt := 63) hx hb d_Ln_dropZeros_50 (by decide) (fun c50_11 => ?_) (fun c50_11 => ?_)
          · skip
            have hP9 := hP.sub (ws' := [(h, .inr (2, [.ref a, .int n1])), (a, .inl (cC, room, .inl f))]) [0, 1] rfl
            have hD9 := hD.sub (ws' := [(h, .inr (2, [.ref a, .int n1])), (a, .inl (cC, room, .inl f))]) [0, 1] (by decide) rfl
            have hK9 := hK.sub (tys' := [(cC, .char)]) [0] rfl
            have hq9 : n1 = lnDp f places n ∧ lnOK room n1 := by refine ⟨?_, hn⟩; unfold lnDp lnDrop; rw [← hE, if_neg (by rw [← ex9, ← w45_10]; exact c50_11)]
            subst hQ
            exact W.vret hx hb hr (fun t ht hW => ⟨⟨n1, rfl, hq9, by rw [ht]; exact hP9, va_K.moved hW.alike hK9, hD9⟩, hS.F ht⟩) hS.2.2 d_Ln_dropZeros_63
          · skip
            refine lv_aload_n hx hb d_Ln_dropZeros_53 rfl (lv_at hl 1 rfl) ?_
            refine lv_dup hx hb d_Ln_dropZeros_54 rfl ?_
            refine va_get (D := (dC, dI)) (ci := 2) (v := .int n1) (C := R_Ln) (T := F_Ln) (N := 2) hx hb hT (in_Ln) hown hK hP 0 rfl rfl 1 (by decide) (hT _ t_33) (fun _ h9 => h9) rfl d_Ln_dropZeros_55 ?_
            refine lv_iconst (v := 1) hx hb d_Ln_dropZeros_58 (by decide) ?_
            refine lv_isub hx hb d_Ln_dropZeros_59 ?_
            refine lv_topi (fun x12 ex12 => ?_)
            refine va_put (D := (dC, dI)) (ci := 2) (v := .int x12) (ty := .int) (C := R_Ln) (T := F_Ln) (N := 2) hx hb hT (in_Ln) t_Ln t_Ln_ok n_Ln hown hK hP hD hS 0 rfl rfl 1 (by decide) (hT _ t_33) (fun _ h9 => h9) rfl (by decide +kernel) rfl rfl (Nat.le_of_ble_eq_true rfl) d_Ln_dropZeros_60 (fun H locs hP hD hS => ?_)
            have hP : va_P (dC, dI) CL [(h, .inr (2, [.ref a, .int x12])), (a, .inl (cC, room, .inl f))] H := hP
            have hD : va_D A [(h, .inr (2, [.ref a, .int x12])), (a, .inl (cC, room, .inl f))] := hD
            have hP9 := hP.sub (ws' := [(h, .inr (2, [.ref a, .int x12])), (a, .inl (cC, room, .inl f))]) [0, 1] rfl
            have hD9 := hD.sub (ws' := [(h, .inr (2, [.ref a, .int x12])), (a, .inl (cC, room, .inl f))]) [0, 1] (by decide) rfl
            have hK9 := hK.sub (tys' := [(cC, .char)]) [0] rfl
            have hq9 : x12 = lnDp f places n ∧ lnOK room x12 := by refine ⟨?_, by rw [ex12]; exact lnOK_dec hn (by rw [← ex9, ← w45_10, c50_11]; decide)⟩; unfold lnDp lnDrop; rw [← hE, if_pos (by rw [← ex9, ← w45_10]; exact c50_11)]; exact ex12
            subst hQ
            exact W.vret hx hb hr (fun t ht hW => ⟨⟨x12, rfl, hq9, by rw [ht]; exact hP9, va_K.moved hW.alike hK9, hD9⟩, hS.F ht⟩) hS.2.2 d_Ln_dropZeros_63
        · skip
          refine lv_aload_n hx hb d_Ln_dropZeros_22 rfl (lv_at hl 1 rfl) ?_
          refine lv_dup hx hb d_Ln_dropZeros_23 rfl ?_
          refine va_get (D := (dC, dI)) (ci := 2) (v := .int n1) (C := R_Ln) (T := F_Ln) (N := 2) hx hb hT (in_Ln) hown hK hP 0 rfl rfl 1 (by decide) (hT _ t_33) (fun _ h9 => h9) rfl d_Ln_dropZeros_24 ?_
          refine lv_iconst (v := 1) hx hb d_Ln_dropZeros_27 (by decide) ?_
          refine lv_isub hx hb d_Ln_dropZeros_28 ?_
          refine lv_topi (fun x13 ex13 => ?_)
          refine va_put (D := (dC, dI)) (ci := 2) (v := .int x13) (ty := .int) (C := R_Ln) (T := F_Ln) (N := 2) hx hb hT (in_Ln) t_Ln t_Ln_ok n_Ln hown hK hP hD hS 0 rfl rfl 1 (by decide) (hT _ t_33) (fun _ h9 => h9) rfl (by decide +kernel) rfl rfl (Nat.le_of_ble_eq_true rfl) d_Ln_dropZeros_29 (fun H locs hP hD hS => ?_)
          have hP : va_P (dC, dI) CL [(h, .inr (2, [.ref a, .int x13])), (a, .inl (cC, room, .inl f))] H := hP
          have hD : va_D A [(h, .inr (2, [.ref a, .int x13])), (a, .inl (cC, room, .inl f))] := hD
          obtain ⟨x14, ex14⟩ : ∃ y : Int32, y = i + 1 := ⟨_, rfl⟩
          refine lv_iinc (v := x14) (lv' := [(2, .int x14), (0, .ref h), (1, .int places)]) hx hb d_Ln_dropZeros_32 hl (k := 0) rfl (by rw [ex14]; rfl) (by decide) rfl (fun ls hl => ?_)
          refine lv_goto (tgt := 2) hx hb d_Ln_dropZeros_35 (by decide) ?_
          exact ih x14 x13 _ _ _ (by rw [ex14]; exact k_fuel c4_1 hk) (by rw [ex13]; exact lnOK_dec hn (by rw [← ex6, ← w14_7, c19_8]; decide)) (by have h9 := hG; rw [lnZeros, if_neg c4_1, if_pos (by rw [← ex6, ← w14_7]; exact c19_8)] at h9; rw [ex14, ex13]; exact h9) (hP.sub [0, 1] rfl) (hD.sub [0, 1] (by decide) rfl) hS (lv_sub hl [0, 1, 2] rfl)
  exact loop2 (places.toInt.toNat + 1) 0 n _ _ _ (by rw [show (0 : Int32).toInt = 0 from by decide]; omega) (hn) (rfl) hP hD hS (lv_sub hl [0, 1, 2] rfl)

set_option maxHeartbeats 4000000 in
set_option maxRecDepth 100000 in
theorem c_Line_matches (l : Launch) (dC : Nat → ClassId) (dI : Nat → Nat → Nat) (sz : Nat) (cC : ClassId) (h : Nat) (a : Nat) (room : Nat) (f : Nat → Int32) (n : Int32) (hF : Nat) (aF : Nat) (roomF : Nat) (fF : Nat → Int32) (nF : Int32) (hn : lnOK room n) (hn2 : lnOK roomF nF) : Met l y_Ln_matches w_Ln_matches ({ frames := 1, cells := 0, slots := 0, locals := 21 } : Room) (va_Pc [.ref h, .ref hF] (fun U => U.heap.size = sz ∧ va_P (dC, dI) CL [(h, .inr (2, [.ref a, .int n])), (a, .inl (cC, room, .inl f)), (hF, .inr (2, [.ref aF, .int nF])), (aF, .inl (cC, roomF, .inl fF))] U.heap ∧ va_K (dC, dI) CL [(cC, .char)] U ∧ va_D (fun _ => True) [(h, .inr (2, [.ref a, .int n])), (a, .inl (cC, room, .inl f)), (hF, .inr (2, [.ref aF, .int nF])), (aF, .inl (cC, roomF, .inl fF))])) (va_Qi (fun (r : Int32) (u : Unit) => r = k_b (lnEq f n fF nF)) (fun (u : Unit) (t : State) => va_P (dC, dI) CL [(h, .inr (2, [.ref a, .int n])), (a, .inl (cC, room, .inl f)), (hF, .inr (2, [.ref aF, .int nF])), (aF, .inl (cC, roomF, .inl fF))] t.heap ∧ va_K (dC, dI) CL [(cC, .char)] t ∧ va_D (va_A [(h, .inr (2, [.ref a, .int n])), (a, .inl (cC, room, .inl f)), (hF, .inr (2, [.ref aF, .int nF])), (aF, .inl (cC, roomF, .inl fF))] sz) [(h, .inr (2, [.ref a, .int n])), (a, .inl (cC, room, .inl f)), (hF, .inr (2, [.ref aF, .int nF])), (aF, .inl (cC, roomF, .inl fF))]) (va_A [(h, .inr (2, [.ref a, .int n])), (a, .inl (cC, room, .inl f)), (hF, .inr (2, [.ref aF, .int nF])), (aF, .inl (cC, roomF, .inl fF))] sz)) 0 0 (va_A [(h, .inr (2, [.ref a, .int n])), (a, .inl (cC, room, .inl f)), (hF, .inr (2, [.ref aF, .int nF])), (aF, .inl (cC, roomF, .inl fF))] sz) := by
  refine Met.ofW (cc := b_Ln_matches) (maxL := 3) (ret := (some .boolean)) (by decide) rfl ?_
  intro p e s m args below meth c s₁ B hml hv
  obtain ⟨rfl, hsz, hP, hK, hD0⟩ := hv
  have hx := B.exec
  have hb := B.bytes
  have hr := B.returns
  have hts := atoms_spec (ws := w_Ln_matches) B.pre
  have hT : ∀ w ∈ TB, w.before _ s = true := fun w h => hts w (List.mem_cons_of_mem _ h)
  have hown : s.vm.findClass R_Ln = some m.cls := findClass_of_methodNamed B.named
  have hlocks := B.notSynchronized
  subst hsz
  have hD := hD0.self (sz := s.heap.size)
  generalize hAe : va_A [(h, .inr (2, [.ref a, .int n])), (a, .inl (cC, room, .inl f)), (hF, .inr (2, [.ref aF, .int nF])), (aF, .inl (cC, roomF, .inl fF))] s.heap.size = A at hD ⊢
  have hA : ∀ q : Nat, s.heap.size ≤ q → A q := fun q h => by rw [← hAe]; exact Or.inr h
  have hS : va_S A s.heap s.heap [] := va_S.rf
  have hP : va_P (dC, dI) CL [(h, .inr (2, [.ref a, .int n])), (a, .inl (cC, room, .inl f)), (hF, .inr (2, [.ref aF, .int nF])), (aF, .inl (cC, roomF, .inl fF))] s.heap := hP
  have hl := lv_entry ([.ref h, .ref hF]) (n := 3) (Nat.le_of_ble_eq_true rfl)
  rw [lg_entry_eq]
  generalize (lg_sl ([.ref h, .ref hF]) ++ List.replicate (3 - (lg_sl ([.ref h, .ref hF])).length) Slot.unset).toArray = ls at hl ⊢
  have hl : lv_has ls 3 [(0, .ref h), (1, .ref hF)] := hl
  refine k_Q (fun Q hQ => ?_)
  refine lv_aload_n hx hb d_Ln_matches_0 rfl (lv_at hl 0 rfl) ?_
  refine va_get (D := (dC, dI)) (ci := 2) (v := .int n) (C := R_Ln) (T := F_Ln) (N := 2) hx hb hT (in_Ln) hown hK hP 0 rfl rfl 1 (by decide) (hT _ t_33) (fun _ h9 => h9) rfl d_Ln_matches_1 ?_
  refine lv_aload_n hx hb d_Ln_matches_4 rfl (lv_at hl 1 rfl) ?_
  refine va_get (D := (dC, dI)) (ci := 2) (v := .int nF) (C := R_Ln) (T := F_Ln) (N := 2) hx hb hT (in_Ln) hown hK hP 2 rfl rfl 1 (by decide) (hT _ t_33) (fun _ h9 => h9) rfl d_Ln_matches_5 ?_
  refine lv_icmp_eq (tgt := 13) hx hb d_Ln_matches_8 (by decide) (fun c8_1 => ?_) (fun c8_1 => ?_)
  · skip
    have c8 := c8_1
    refine lv_iconst (v := 0) hx hb d_Ln_matches_13 (by decide) ?_
    refine lv_istore_n (lv' := [(2, .int 0), (0, .ref h), (1, .ref hF)]) hx hb d_Ln_matches_14 rfl hl (by decide) rfl (fun ls hl => ?_)
    have loop15 : ∀ (fuel : Nat) (i : Int32) (H : Heap) (locs : List Loc) (ls : Array Slot), ((n.toInt - i.toInt).toNat < fuel) → (lnSame f n fF nF fuel i = lnSame f n fF nF (n.toInt.toNat + 1) 0) → va_P (dC, dI) CL [(h, .inr (2, [.ref a, .int n])), (a, .inl (cC, room, .inl f)), (hF, .inr (2, [.ref aF, .int nF])), (aF, .inl (cC, roomF, .inl fF))] H → va_D A [(h, .inr (2, [.ref a, .int n])), (a, .inl (cC, room, .inl f)), (hF, .inr (2, [.ref aF, .int nF])), (aF, .inl (cC, roomF, .inl fF))] → va_S A s.heap H locs → lv_has ls 3 [(2, .int i), (0, .ref h), (1, .ref hF)] → W p l e (headSpec w_Ln_matches ({ frames := 1, cells := 0, slots := 0, locals := 21 } : Room)).room s m ([.ref h, .ref hF] : List Value).toArray below meth c H locs 0 0 Q (F0 m 15 ls []) := by
      intro fuel
      induction fuel with
      | zero =>
        intro i H locs ls hk hG hP hD hS hl
        exact absurd hk (Nat.not_lt_zero _)
      | succ fuel ih =>
        intro i H locs ls hk hG hP hD hS hl
        refine lv_iload_n hx hb d_Ln_matches_15 rfl (lv_at hl 0 rfl) ?_
        refine lv_aload_n hx hb d_Ln_matches_16 rfl (lv_at hl 1 rfl) ?_
        refine va_get (D := (dC, dI)) (ci := 2) (v := .int n) (C := R_Ln) (T := F_Ln) (N := 2) hx hb hT (in_Ln) hown hK hP 0 rfl rfl 1 (by decide) (hT _ t_33) (fun _ h9 => h9) rfl d_Ln_matches_17 ?_
        refine lv_icmp_ge (tgt := 44) hx hb d_Ln_matches_20 (by decide) (fun c20_2 => ?_) (fun c20_2 => ?_)
        · skip
          refine lv_iconst (v := 1) hx hb d_Ln_matches_44 (by decide) ?_
          have hP9 := hP.sub (ws' := [(h, .inr (2, [.ref a, .int n])), (a, .inl (cC, room, .inl f)), (hF, .inr (2, [.ref aF, .int nF])), (aF, .inl (cC, roomF, .inl fF))]) [0, 1, 2, 3] rfl
          have hD9 := hD.sub (ws' := [(h, .inr (2, [.ref a, .int n])), (a, .inl (cC, room, .inl f)), (hF, .inr (2, [.ref aF, .int nF])), (aF, .inl (cC, roomF, .inl fF))]) [0, 1, 2, 3] (by decide) rfl
          have hK9 := hK.sub (tys' := [(cC, .char)]) [0] rfl
          have hq9 : (1 : Int32) = k_b (lnEq f n fF nF) := by unfold lnEq; rw [if_pos c8, ← hG, lnSame, if_pos c20_2]; rfl
          subst hQ
          exact W.zret (v := 1) hx hb hr rfl (fun t ht hW => ⟨⟨1, (), rfl, hq9, by rw [ht]; exact hP9, va_K.moved hW.alike hK9, hD9⟩, hS.F ht⟩) hS.2.2 d_Ln_matches_45
        · skip
          refine lv_aload_n hx hb d_Ln_matches_23 rfl (lv_at hl 1 rfl) ?_
          refine lv_iload_n hx hb d_Ln_matches_24 rfl (lv_at hl 0 rfl) ?_
          have hPc := hP.sub (ws' := [(h, .inr (2, [.ref a, .int n])), (a, .inl (cC, room, .inl f))]) [0, 1] rfl
          have hDc := hD.sub (ws' := [(h, .inr (2, [.ref a, .int n])), (a, .inl (cC, room, .inl f))]) [0, 1] (by decide) rfl
          have hKc := hK.sub (tys' := [(cC, .char)]) [0] rfl
          have hFc := va_free (wc := [(h, .inr (2, [.ref a, .int n])), (a, .inl (cC, room, .inl f))]) hD hS hA [0, 1] rfl
          refine va_calli (va_runV (As := [.int i]) (rest := []) ⟨hx, hb, hml, hown, hT⟩ (c_Line_at l dC dI H.size cC h a room f n i (by first | assumption | omega)) (cwV 1 hT g_Ln_29 rfl rfl rfl (by decide +kernel) ⟨Nat.le_of_ble_eq_true rfl, Nat.le_of_ble_eq_true rfl⟩) ⟨fun a U g mk q => by obtain ⟨q0, q1, qP, qK, qD⟩ := q; exact ⟨q0, q1, qP, va_K.moved (u := U) (U := U.calling g mk a) (Vm.Alike.refl U.vm) qK, qD⟩, va_recv hKc hPc (ci := 2) (q0 := 0) rfl rfl, fun U hU hW => ⟨rfl, by rw [hU], by rw [hU]; exact hPc, va_K.moved hW.alike hKc, hDc.weaken (fun _ _ _ _ => trivial)⟩⟩ rfl rfl hl.1 rfl (lv_room (Nat.le_of_ble_eq_true rfl)) d_Ln_matches_25 ⟨Nat.le_of_ble_eq_true rfl, Nat.le_of_ble_eq_true rfl⟩) hS (fun q _ h => hFc q h) hFc (fun x3 u t H1 locs ht hvm w25_3 hB hz1 hk1 hS => ?_)
          obtain ⟨hP1, hK1, hD1⟩ := hB
          rw [ht] at hP1
          try dsimp only at w25_3
          obtain ⟨hP, hD⟩ := va_join (wr := [(hF, .inr (2, [.ref aF, .int nF])), (aF, .inl (cC, roomF, .inl fF))]) (w1 := [(h, .inr (2, [.ref a, .int n])), (a, .inl (cC, room, .inl f))]) hP hD [0, 1] [2, 3] rfl rfl (by decide) (by decide) hk1 hFc hP1 hD1
          generalize H1 = H at hP hS ⊢
          have hP : va_P (dC, dI) CL [(hF, .inr (2, [.ref aF, .int nF])), (aF, .inl (cC, roomF, .inl fF)), (h, .inr (2, [.ref a, .int n])), (a, .inl (cC, room, .inl f))] H := hP
          have hD : va_D A [(hF, .inr (2, [.ref aF, .int nF])), (aF, .inl (cC, roomF, .inl fF)), (h, .inr (2, [.ref a, .int n])), (a, .inl (cC, room, .inl f))] := hD
          refine lv_aload_n hx hb d_Ln_matches_28 rfl (lv_at hl 2 rfl) ?_
          refine lv_iload_n hx hb d_Ln_matches_29 rfl (lv_at hl 0 rfl) ?_
          have hPc := hP.sub (ws' := [(hF, .inr (2, [.ref aF, .int nF])), (aF, .inl (cC, roomF, .inl fF))]) [0, 1] rfl
          have hDc := hD.sub (ws' := [(hF, .inr (2, [.ref aF, .int nF])), (aF, .inl (cC, roomF, .inl fF))]) [0, 1] (by decide) rfl
          have hKc := hK.sub (tys' := [(cC, .char)]) [0] rfl
          have hFc := va_free (wc := [(hF, .inr (2, [.ref aF, .int nF])), (aF, .inl (cC, roomF, .inl fF))]) hD hS hA [0, 1] rfl
          refine va_calli (va_runV (As := [.int i]) (rest := [.int x3]) ⟨hx, hb, hml, hown, hT⟩ (c_Line_at l dC dI H.size cC hF aF roomF fF nF i hn2) (cwV 1 hT g_Ln_29 rfl rfl rfl (by decide +kernel) ⟨Nat.le_of_ble_eq_true rfl, Nat.le_of_ble_eq_true rfl⟩) ⟨fun a U g mk q => by obtain ⟨q0, q1, qP, qK, qD⟩ := q; exact ⟨q0, q1, qP, va_K.moved (u := U) (U := U.calling g mk a) (Vm.Alike.refl U.vm) qK, qD⟩, va_recv hKc hPc (ci := 2) (q0 := 0) rfl rfl, fun U hU hW => ⟨rfl, by rw [hU], by rw [hU]; exact hPc, va_K.moved hW.alike hKc, hDc.weaken (fun _ _ _ _ => trivial)⟩⟩ rfl rfl hl.1 rfl (lv_room (Nat.le_of_ble_eq_true rfl)) d_Ln_matches_30 ⟨Nat.le_of_ble_eq_true rfl, Nat.le_of_ble_eq_true rfl⟩) hS (fun q _ h => hFc q h) hFc (fun x4 u t H1 locs ht hvm w30_4 hB hz1 hk1 hS => ?_)
          obtain ⟨hP1, hK1, hD1⟩ := hB
          rw [ht] at hP1
          try dsimp only at w30_4
          obtain ⟨hP, hD⟩ := va_join (wr := [(h, .inr (2, [.ref a, .int n])), (a, .inl (cC, room, .inl f))]) (w1 := [(hF, .inr (2, [.ref aF, .int nF])), (aF, .inl (cC, roomF, .inl fF))]) hP hD [0, 1] [2, 3] rfl rfl (by decide) (by decide) hk1 hFc hP1 hD1
          generalize H1 = H at hP hS ⊢
          have hP : va_P (dC, dI) CL [(h, .inr (2, [.ref a, .int n])), (a, .inl (cC, room, .inl f)), (hF, .inr (2, [.ref aF, .int nF])), (aF, .inl (cC, roomF, .inl fF))] H := hP
          have hD : va_D A [(h, .inr (2, [.ref a, .int n])), (a, .inl (cC, room, .inl f)), (hF, .inr (2, [.ref aF, .int nF])), (aF, .inl (cC, roomF, .inl fF))] := hD
          refine lv_icmp_eq (tgt := 38) hx hb d_Ln_matches_33 (by decide) (fun c33_5 => ?_) (fun c33_5 => ?_)
          · skip
            obtain ⟨x6, ex6⟩ : ∃ y : Int32, y = i + 1 := ⟨_, rfl⟩
            refine lv_iinc (v := x6) (lv' := [(2, .int x6), (0, .ref h), (1, .ref hF)]) hx hb d_Ln_matches_38 hl (k := 0) rfl (by rw [ex6]; rfl) (by decide) rfl (fun ls hl => ?_)
            refine lv_goto (tgt := 15) hx hb d_Ln_matches_41 (by decide) ?_
            exact ih x6 _ _ _ (by rw [ex6]; exact k_fuel c20_2 hk) (by have h9 := hG; rw [lnSame, if_neg c20_2, if_pos (by rw [← w25_3, ← w30_4]; exact c33_5)] at h9; rw [ex6]; exact h9) (hP.sub [0, 1, 2, 3] rfl) (hD.sub [0, 1, 2, 3] (by decide) rfl) hS (lv_sub hl [0, 1, 2] rfl)
          · skip
            refine lv_iconst (v := 0) hx hb d_Ln_matches_36 (by decide) ?_
            have hP9 := hP.sub (ws' := [(h, .inr (2, [.ref a, .int n])), (a, .inl (cC, room, .inl f)), (hF, .inr (2, [.ref aF, .int nF])), (aF, .inl (cC, roomF, .inl fF))]) [0, 1, 2, 3] rfl
            have hD9 := hD.sub (ws' := [(h, .inr (2, [.ref a, .int n])), (a, .inl (cC, room, .inl f)), (hF, .inr (2, [.ref aF, .int nF])), (aF, .inl (cC, roomF, .inl fF))]) [0, 1, 2, 3] (by decide) rfl
            have hK9 := hK.sub (tys' := [(cC, .char)]) [0] rfl
            have hq9 : (0 : Int32) = k_b (lnEq f n fF nF) := by unfold lnEq; rw [if_pos c8, ← hG, lnSame, if_neg c20_2, if_neg (by rw [← w25_3, ← w30_4]; exact c33_5)]; rfl
            subst hQ
            exact W.zret (v := 0) hx hb hr rfl (fun t ht hW => ⟨⟨0, (), rfl, hq9, by rw [ht]; exact hP9, va_K.moved hW.alike hK9, hD9⟩, hS.F ht⟩) hS.2.2 d_Ln_matches_37
    exact loop15 (n.toInt.toNat + 1) 0 _ _ _ (by rw [show (0 : Int32).toInt = 0 from by decide]; omega) (rfl) hP hD hS (lv_sub hl [0, 1, 2] rfl)
  · skip
    refine lv_iconst (v := 0) hx hb d_Ln_matches_11 (by decide) ?_
    have hP9 := hP.sub (ws' := [(h, .inr (2, [.ref a, .int n])), (a, .inl (cC, room, .inl f)), (hF, .inr (2, [.ref aF, .int nF])), (aF, .inl (cC, roomF, .inl fF))]) [0, 1, 2, 3] rfl
    have hD9 := hD.sub (ws' := [(h, .inr (2, [.ref a, .int n])), (a, .inl (cC, room, .inl f)), (hF, .inr (2, [.ref aF, .int nF])), (aF, .inl (cC, roomF, .inl fF))]) [0, 1, 2, 3] (by decide) rfl
    have hK9 := hK.sub (tys' := [(cC, .char)]) [0] rfl
    have hq9 : (0 : Int32) = k_b (lnEq f n fF nF) := by unfold lnEq; rw [if_neg c8_1]; rfl
    subst hQ
    exact W.zret (v := 0) hx hb hr rfl (fun t ht hW => ⟨⟨0, (), rfl, hq9, by rw [ht]; exact hP9, va_K.moved hW.alike hK9, hD9⟩, hS.F ht⟩) hS.2.2 d_Ln_matches_12
