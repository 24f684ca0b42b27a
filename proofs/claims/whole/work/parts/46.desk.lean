theorem t_1 : (.initialized R_De : Cond) ∈ TB := tb_of 1 (by decide +kernel) (by decide +kernel)
theorem t_157 : (.fieldLink R_De 14 R_De "tape" "LFormatDesk$Line;" : Cond) ∈ TB := tb_of 157 (by decide +kernel) (by decide +kernel)
theorem t_158 : (.fieldLink R_De 20 R_De "values" "[LFormatDesk$Value;" : Cond) ∈ TB := tb_of 158 (by decide +kernel) (by decide +kernel)
theorem t_160 : (.fieldLink R_De 32 R_De "field" "LFormatDesk$Field;" : Cond) ∈ TB := tb_of 160 (by decide +kernel) (by decide +kernel)
theorem t_162 : (.fieldLink R_De 43 R_De "filled" "LFormatDesk$Line;" : Cond) ∈ TB := tb_of 162 (by decide +kernel) (by decide +kernel)
theorem t_163 : (.fieldLink R_De 46 R_De "draft" "LFormatDesk$Line;" : Cond) ∈ TB := tb_of 163 (by decide +kernel) (by decide +kernel)
theorem t_164 : (.fieldLink R_De 109 R_De "everFilled" "Z" : Cond) ∈ TB := tb_of 164 (by decide +kernel) (by decide +kernel)
theorem t_165 : (.fieldLink R_De 64 R_De "count" "I" : Cond) ∈ TB := tb_of 165 (by decide +kernel) (by decide +kernel)
theorem t_166 : (.fieldLink R_De 139 R_De "taken" "I" : Cond) ∈ TB := tb_of 166 (by decide +kernel) (by decide +kernel)
theorem t_167 : (.fieldLink R_De 91 R_De "faultKind" "I" : Cond) ∈ TB := tb_of 167 (by decide +kernel) (by decide +kernel)
theorem t_168 : (.fieldLink R_De 94 R_De "faultPlace" "I" : Cond) ∈ TB := tb_of 168 (by decide +kernel) (by decide +kernel)
theorem t_198 : (.methodLink R_De 49 y_Ln_hasRoom : Cond) ∈ TB := tb_of 198 (by decide +kernel) (by decide +kernel)
theorem t_202 : (.methodLink R_De 53 y_De_byteOf : Cond) ∈ TB := tb_of 202 (by decide +kernel) (by decide +kernel)
theorem t_203 : (.static y_De_byteOf : Cond) ∈ TB := tb_of 203 (by decide +kernel) (by decide +kernel)
theorem t_204 : (.code y_De_byteOf b_De_byteOf 3 (some .int) : Cond) ∈ TB := tb_of 204 (by decide +kernel) (by decide +kernel)
theorem t_205 : (.methodLink R_De 57 y_Ln_add : Cond) ∈ TB := tb_of 205 (by decide +kernel) (by decide +kernel)
theorem t_213 : (.methodLink R_De 60 y_Ln_size : Cond) ∈ TB := tb_of 213 (by decide +kernel) (by decide +kernel)
theorem t_217 : (.methodLink R_De 68 y_Va_readWords : Cond) ∈ TB := tb_of 217 (by decide +kernel) (by decide +kernel)
theorem t_218 : (.instanceMethod y_Va_readWords : Cond) ∈ TB := tb_of 218 (by decide +kernel) (by decide +kernel)
theorem t_219 : (.selects R_Va y_Va_readWords y_Va_readWords : Cond) ∈ TB := tb_of 219 (by decide +kernel) (by decide +kernel)
theorem t_220 : (.code y_Va_readWords b_Va_readWords 2 none : Cond) ∈ TB := tb_of 220 (by decide +kernel) (by decide +kernel)
theorem t_235 : (.methodLink R_De 72 y_Ln_empty : Cond) ∈ TB := tb_of 235 (by decide +kernel) (by decide +kernel)
theorem t_391 : (.methodLink R_De 126 y_De_startsField : Cond) ∈ TB := tb_of 391 (by decide +kernel) (by decide +kernel)
theorem t_393 : (.instanceMethod y_De_startsField : Cond) ∈ TB := tb_of 393 (by decide +kernel) (by decide +kernel)
theorem t_394 : (.code y_De_startsField b_De_startsField 2 (some .boolean) : Cond) ∈ TB := tb_of 394 (by decide +kernel) (by decide +kernel)
theorem t_395 : (.methodLink R_De 118 y_Ln_at : Cond) ∈ TB := tb_of 395 (by decide +kernel) (by decide +kernel)
theorem t_396 : (.methodLink R_De 129 y_De_behindMark : Cond) ∈ TB := tb_of 396 (by decide +kernel) (by decide +kernel)
theorem t_398 : (.instanceMethod y_De_behindMark : Cond) ∈ TB := tb_of 398 (by decide +kernel) (by decide +kernel)
theorem t_399 : (.code y_De_behindMark b_De_behindMark 2 (some .int) : Cond) ∈ TB := tb_of 399 (by decide +kernel) (by decide +kernel)
theorem t_400 : (.methodLink R_De 132 y_Fi_read : Cond) ∈ TB := tb_of 400 (by decide +kernel) (by decide +kernel)
theorem t_401 : (.instanceMethod y_Fi_read : Cond) ∈ TB := tb_of 401 (by decide +kernel) (by decide +kernel)
theorem t_402 : (.selects R_Fi y_Fi_read y_Fi_read : Cond) ∈ TB := tb_of 402 (by decide +kernel) (by decide +kernel)
theorem t_403 : (.code y_Fi_read b_Fi_read 3 (some .boolean) : Cond) ∈ TB := tb_of 403 (by decide +kernel) (by decide +kernel)
theorem g_De_118 : GoodIn TB (wsV R_De 118 R_Ln y_Ln_at w_Ln_at) := TB_V t_395 t_231 t_232 t_2 t_233
theorem g_De_126 : GoodIn TB (wsV R_De 126 R_De y_De_startsField w_De_startsField) := TB_V t_391 t_393 (tb_sel (y := y_De_startsField) (n := 12) 3 (by decide +kernel)) t_1 t_394
theorem g_De_129 : GoodIn TB (wsV R_De 129 R_De y_De_behindMark w_De_behindMark) := TB_V t_396 t_398 (tb_sel (y := y_De_behindMark) (n := 12) 4 (by decide +kernel)) t_1 t_399
theorem g_De_132 : GoodIn TB (wsV R_De 132 R_Fi y_Fi_read w_Fi_read) := TB_V t_400 t_401 t_402 t_5 t_403
theorem g_De_49 : GoodIn TB (wsV R_De 49 R_Ln y_Ln_hasRoom w_Ln_hasRoom) := TB_V t_198 t_199 t_200 t_2 t_201
theorem g_De_53 : GoodIn TB (wsS R_De 53 y_De_byteOf w_De_byteOf) := TB_S t_202 t_203 t_1 t_204
theorem g_De_57 : GoodIn TB (wsV R_De 57 R_Ln y_Ln_add w_Ln_add) := TB_V t_205 t_206 t_207 t_2 t_208
theorem g_De_60 : GoodIn TB (wsV R_De 60 R_Ln y_Ln_size w_Ln_size) := TB_V t_213 t_214 t_215 t_2 t_216
theorem g_De_68 : GoodIn TB (wsV R_De 68 R_Va y_Va_readWords w_Va_readWords) := TB_V t_217 t_218 t_219 t_4 t_220
theorem g_De_72 : GoodIn TB (wsV R_De 72 R_Ln y_Ln_empty w_Ln_empty) := TB_V t_235 t_222 t_223 t_2 t_224
set_option maxHeartbeats 4000000 in
set_option maxRecDepth 100000 in
theorem c_De_byteOf (l : Launch) (dC : Nat → ClassId) (dI : Nat → Nat → Nat) (sz : Nat) (word : Int64) (i : Int32)  : Met l y_De_byteOf w_De_byteOf ({ frames := 0, cells := 0, slots := 0, locals := 0 } : Room) (va_Pc [.long word, .int i] (fun U => U.heap.size = sz ∧ va_P (dC, dI) CL [] U.heap ∧ va_K (dC, dI) CL [] U ∧ va_D (fun _ => True) [])) (va_Qi (fun (r : Int32) (u : Unit) => r = deByte word i) (fun (u : Unit) (t : State) => va_P (dC, dI) CL [] t.heap ∧ va_K (dC, dI) CL [] t ∧ va_D (va_A [] sz) []) (va_A [] sz)) 0 0 (va_A [] sz) := by
  refine Met.ofW (cc := b_De_byteOf) (maxL := 3) (ret := (some .int)) (by decide) rfl ?_
  intro p e s m args below meth c s₁ B hml hv
  obtain ⟨rfl, hsz, hP, hK, hD0⟩ := hv
  have hx := B.exec
  have hb := B.bytes
  have hr := B.returns
  have hts := atoms_spec (ws := w_De_byteOf) B.pre
  have hT : ∀ w ∈ TB, w.before _ s = true := fun w h => hts w (List.mem_cons_of_mem _ h)
  have hown : s.vm.findClass R_De = some m.cls := findClass_of_methodNamed B.named
  have hlocks := B.notSynchronized
  subst hsz
  have hD := hD0.self (sz := s.heap.size)
  generalize hAe : va_A [] s.heap.size = A at hD ⊢
  have hA : ∀ q : Nat, s.heap.size ≤ q → A q := fun q h => by rw [← hAe]; exact Or.inr h
  have hS : va_S A s.heap s.heap [] := va_S.rf
  have hP : va_P (dC, dI) CL [] s.heap := hP
  have hl := lv_entry ([.long word, .int i]) (n := 3) (Nat.le_of_ble_eq_true rfl)
  rw [lg_entry_eq]
  generalize (lg_sl ([.long word, .int i]) ++ List.replicate (3 - (lg_sl ([.long word, .int i])).length) Slot.unset).toArray = ls at hl ⊢
  have hl : lv_has ls 3 [(0, .long word), (2, .int i)] := hl
  refine lv_lload_n hx hb d_De_byteOf_0 rfl (lv_at hl 0 rfl) ?_
  refine lv_bipush (v := 8) hx hb d_De_byteOf_1 (by decide) ?_
  refine lv_iload_n hx hb d_De_byteOf_3 rfl (lv_at hl 1 rfl) ?_
  refine lv_imul hx hb d_De_byteOf_4 ?_
  refine lv_topi (fun x1 ex1 => ?_)
  refine lv_lushr (v := (word.toUInt64 >>> (x1.toInt64.toUInt64 &&& Int64.toUInt64 63)).toInt64) hx hb d_De_byteOf_5 rfl ?_
  refine lv_topl (fun x2 ex2 => ?_)
  refine lv_l2i (v := x2.toInt32) hx hb d_De_byteOf_6 rfl ?_
  refine lv_topi (fun x3 ex3 => ?_)
  refine lv_sipush (v := 255) hx hb d_De_byteOf_7 (by decide) ?_
  refine lv_iand hx hb d_De_byteOf_10 ?_
  refine lv_topi (fun x4 ex4 => ?_)
  have hP9 := hP.sub (ws' := []) [] rfl
  have hD9 := hD.sub (ws' := []) [] (by decide) rfl
  have hK9 := hK.sub (tys' := []) [] rfl
  have hq9 : x4 = deByte word i := by subst ex1 ex2 ex3 ex4; rfl
  exact W.iret (v := x4) hx hb hr (fun t ht hW => ⟨⟨x4, (), rfl, hq9, by rw [ht]; exact hP9, va_K.moved hW.alike hK9, hD9⟩, hS.F ht⟩) hS.2.2 d_De_byteOf_11

set_option maxHeartbeats 4000000 in
set_option maxRecDepth 100000 in
theorem c_De_noteFault (l : Launch) (dC : Nat → ClassId) (dI : Nat → Nat → Nat) (sz : Nat) (d : Nat) (tp : Nat) (vs : Nat) (sv : Nat) (fi : Nat) (sa : Nat) (fl : Nat) (dr : Nat) (ev : Int32) (cnt : Int32) (tk : Int32) (fk : Int32) (fpl : Int32) (kind9 : Int32) (place : Int32)  : Met l y_De_noteFault w_De_noteFault ({ frames := 0, cells := 0, slots := 0, locals := 0 } : Room) (va_Pc [.ref d, .int kind9, .int place] (fun U => U.heap.size = sz ∧ va_P (dC, dI) CL [(d, .inr (5, [.ref tp, .ref vs, .ref sv, .ref fi, .ref sa, .ref fl, .ref dr, .int ev, .int cnt, .int tk, .int fk, .int fpl]))] U.heap ∧ va_K (dC, dI) CL [] U ∧ va_D (fun _ => True) [(d, .inr (5, [.ref tp, .ref vs, .ref sv, .ref fi, .ref sa, .ref fl, .ref dr, .int ev, .int cnt, .int tk, .int fk, .int fpl]))])) (va_Qv (fun (u : Unit) => True) (fun (u : Unit) (t : State) => va_P (dC, dI) CL [(d, .inr (5, [.ref tp, .ref vs, .ref sv, .ref fi, .ref sa, .ref fl, .ref dr, .int ev, .int cnt, .int tk, .int kind9, .int place]))] t.heap ∧ va_K (dC, dI) CL [] t ∧ va_D (va_A [(d, .inr (5, [.ref tp, .ref vs, .ref sv, .ref fi, .ref sa, .ref fl, .ref dr, .int ev, .int cnt, .int tk, .int fk, .int fpl]))] sz) [(d, .inr (5, [.ref tp, .ref vs, .ref sv, .ref fi, .ref sa, .ref fl, .ref dr, .int ev, .int cnt, .int tk, .int kind9, .int place]))]) (va_A [(d, .inr (5, [.ref tp, .ref vs, .ref sv, .ref fi, .ref sa, .ref fl, .ref dr, .int ev, .int cnt, .int tk, .int fk, .int fpl]))] sz)) 0 0 (va_A [(d, .inr (5, [.ref tp, .ref vs, .ref sv, .ref fi, .ref sa, .ref fl, .ref dr, .int ev, .int cnt, .int tk, .int fk, .int fpl]))] sz) := by
  refine Met.ofW (cc := b_De_noteFault) (maxL := 3) (ret := none) (by decide) rfl ?_
  intro p e s m args below meth c s₁ B hml hv
  obtain ⟨rfl, hsz, hP, hK, hD0⟩ := hv
  have hx := B.exec
  have hb := B.bytes
  have hr := B.returns
  have hts := atoms_spec (ws := w_De_noteFault) B.pre
  have hT : ∀ w ∈ TB, w.before _ s = true := fun w h => hts w (List.mem_cons_of_mem _ h)
  have hown : s.vm.findClass R_De = some m.cls := findClass_of_methodNamed B.named
  have hlocks := B.notSynchronized
  subst hsz
  have hD := hD0.self (sz := s.heap.size)
  generalize hAe : va_A [(d, .inr (5, [.ref tp, .ref vs, .ref sv, .ref fi, .ref sa, .ref fl, .ref dr, .int ev, .int cnt, .int tk, .int fk, .int fpl]))] s.heap.size = A at hD ⊢
  have hA : ∀ q : Nat, s.heap.size ≤ q → A q := fun q h => by rw [← hAe]; exact Or.inr h
  have hS : va_S A s.heap s.heap [] := va_S.rf
  have hP : va_P (dC, dI) CL [(d, .inr (5, [.ref tp, .ref vs, .ref sv, .ref fi, .ref sa, .ref fl, .ref dr, .int ev, .int cnt, .int tk, .int fk, .int fpl]))] s.heap := hP
  have hl := lv_entry ([.ref d, .int kind9, .int place]) (n := 3) (Nat.le_of_ble_eq_true rfl)
  rw [lg_entry_eq]
  generalize (lg_sl ([.ref d, .int kind9, .int place]) ++ List.replicate (3 - (lg_sl ([.ref d, .int kind9, .int place])).length) Slot.unset).toArray = ls at hl ⊢
  have hl : lv_has ls 3 [(0, .ref d), (1, .int kind9), (2, .int place)] := hl
  refine lv_aload_n hx hb d_De_noteFault_0 rfl (lv_at hl 0 rfl) ?_
  refine lv_iload_n hx hb d_De_noteFault_1 rfl (lv_at hl 1 rfl) ?_
  refine va_put (D := (dC, dI)) (ci := 5) (v := .int kind9) (ty := .int) (C := R_De) (T := F_De) (N := 12) hx hb hT (in_De) t_De t_De_ok n_De hown hK hP hD hS 0 rfl rfl 10 (by decide) (hT _ t_167) (fun _ h9 => h9) rfl (by decide +kernel) rfl rfl (Nat.le_of_ble_eq_true rfl) d_De_noteFault_2 (fun H locs hP hD hS => ?_)
  have hP : va_P (dC, dI) CL [(d, .inr (5, [.ref tp, .ref vs, .ref sv, .ref fi, .ref sa, .ref fl, .ref dr, .int ev, .int cnt, .int tk, .int kind9, .int fpl]))] H := hP
  have hD : va_D A [(d, .inr (5, [.ref tp, .ref vs, .ref sv, .ref fi, .ref sa, .ref fl, .ref dr, .int ev, .int cnt, .int tk, .int kind9, .int fpl]))] := hD
  refine lv_aload_n hx hb d_De_noteFault_5 rfl (lv_at hl 0 rfl) ?_
  refine lv_iload_n hx hb d_De_noteFault_6 rfl (lv_at hl 2 rfl) ?_
  refine va_put (D := (dC, dI)) (ci := 5) (v := .int place) (ty := .int) (C := R_De) (T := F_De) (N := 12) hx hb hT (in_De) t_De t_De_ok n_De hown hK hP hD hS 0 rfl rfl 11 (by decide) (hT _ t_168) (fun _ h9 => h9) rfl (by decide +kernel) rfl rfl (Nat.le_of_ble_eq_true rfl) d_De_noteFault_7 (fun H locs hP hD hS => ?_)
  have hP : va_P (dC, dI) CL [(d, .inr (5, [.ref tp, .ref vs, .ref sv, .ref fi, .ref sa, .ref fl, .ref dr, .int ev, .int cnt, .int tk, .int kind9, .int place]))] H := hP
  have hD : va_D A [(d, .inr (5, [.ref tp, .ref vs, .ref sv, .ref fi, .ref sa, .ref fl, .ref dr, .int ev, .int cnt, .int tk, .int kind9, .int place]))] := hD
  have hP9 := hP.sub (ws' := [(d, .inr (5, [.ref tp, .ref vs, .ref sv, .ref fi, .ref sa, .ref fl, .ref dr, .int ev, .int cnt, .int tk, .int kind9, .int place]))]) [0] rfl
  have hD9 := hD.sub (ws' := [(d, .inr (5, [.ref tp, .ref vs, .ref sv, .ref fi, .ref sa, .ref fl, .ref dr, .int ev, .int cnt, .int tk, .int kind9, .int place]))]) [0] (by decide) rfl
  have hK9 := hK.sub (tys' := []) [] rfl
  have hq9 : True := True.intro
  exact W.vret hx hb hr (fun t ht hW => ⟨⟨(), rfl, hq9, by rw [ht]; exact hP9, va_K.moved hW.alike hK9, hD9⟩, hS.F ht⟩) hS.2.2 d_De_noteFault_10

set_option maxHeartbeats 4000000 in
set_option maxRecDepth 100000 in
theorem c_De_startsField (l : Launch) (dC : Nat → ClassId) (dI : Nat → Nat → Nat) (sz : Nat) (cC : ClassId) (d : Nat) (tp : Nat) (vs : Nat) (sv : Nat) (fi : Nat) (sa : Nat) (fl : Nat) (dr : Nat) (ev : Int32) (cnt : Int32) (tk : Int32) (fk : Int32) (fpl : Int32) (tpa : Nat) (ft : Nat → Int32) (nt : Int32) (place : Int32) (hnt : lnOK 200 nt) : Met l y_De_startsField w_De_startsField ({ frames := 1, cells := 0, slots := 0, locals := 21 } : Room) (va_Pc [.ref d, .int place] (fun U => U.heap.size = sz ∧ va_P (dC, dI) CL [(d, .inr (5, [.ref tp, .ref vs, .ref sv, .ref fi, .ref sa, .ref fl, .ref dr, .int ev, .int cnt, .int tk, .int fk, .int fpl])), (tp, .inr (2, [.ref tpa, .int nt])), (tpa, .inl (cC, 200, .inl ft))] U.heap ∧ va_K (dC, dI) CL [(cC, .char)] U ∧ va_D (fun _ => True) [(d, .inr (5, [.ref tp, .ref vs, .ref sv, .ref fi, .ref sa, .ref fl, .ref dr, .int ev, .int cnt, .int tk, .int fk, .int fpl])), (tp, .inr (2, [.ref tpa, .int nt])), (tpa, .inl (cC, 200, .inl ft))])) (va_Qi (fun (r : Int32) (u : Unit) => r = k_b (sfIs ft nt place)) (fun (u : Unit) (t : State) => va_P (dC, dI) CL [(d, .inr (5, [.ref tp, .ref vs, .ref sv, .ref fi, .ref sa, .ref fl, .ref dr, .int ev, .int cnt, .int tk, .int fk, .int fpl])), (tp, .inr (2, [.ref tpa, .int nt])), (tpa, .inl (cC, 200, .inl ft))] t.heap ∧ va_K (dC, dI) CL [(cC, .char)] t ∧ va_D (va_A [(d, .inr (5, [.ref tp, .ref vs, .ref sv, .ref fi, .ref sa, .ref fl, .ref dr, .int ev, .int cnt, .int tk, .int fk, .int fpl])), (tp, .inr (2, [.ref tpa, .int nt])), (tpa, .inl (cC, 200, .inl ft))] sz) [(d, .inr (5, [.ref tp, .ref vs, .ref sv, .ref fi, .ref sa, .ref fl, .ref dr, .int ev, .int cnt, .int tk, .int fk, .int fpl])), (tp, .inr (2, [.ref tpa, .int nt])), (tpa, .inl (cC, 200, .inl ft))]) (va_A [(d, .inr (5, [.ref tp, .ref vs, .ref sv, .ref fi, .ref sa, .ref fl, .ref dr, .int ev, .int cnt, .int tk, .int fk, .int fpl])), (tp, .inr (2, [.ref tpa, .int nt])), (tpa, .inl (cC, 200, .inl ft))] sz)) 0 0 (va_A [(d, .inr (5, [.ref tp, .ref vs, .ref sv, .ref fi, .ref sa, .ref fl, .ref dr, .int ev, .int cnt, .int tk, .int fk, .int fpl])), (tp, .inr (2, [.ref tpa, .int nt])), (tpa, .inl (cC, 200, .inl ft))] sz) := by
  refine Met.ofW (cc := b_De_startsField) (maxL := 2) (ret := (some .boolean)) (by decide) rfl ?_
  intro p e s m args below meth c s₁ B hml hv
  obtain ⟨rfl, hsz, hP, hK, hD0⟩ := hv
  have hx := B.exec
  have hb := B.bytes
  have hr := B.returns
  have hts := atoms_spec (ws := w_De_startsField) B.pre
  have hT : ∀ w ∈ TB, w.before _ s = true := fun w h => hts w (List.mem_cons_of_mem _ h)
  have hown : s.vm.findClass R_De = some m.cls := findClass_of_methodNamed B.named
  have hlocks := B.notSynchronized
  subst hsz
  have hD := hD0.self (sz := s.heap.size)
  generalize hAe : va_A [(d, .inr (5, [.ref tp, .ref vs, .ref sv, .ref fi, .ref sa, .ref fl, .ref dr, .int ev, .int cnt, .int tk, .int fk, .int fpl])), (tp, .inr (2, [.ref tpa, .int nt])), (tpa, .inl (cC, 200, .inl ft))] s.heap.size = A at hD ⊢
  have hA : ∀ q : Nat, s.heap.size ≤ q → A q := fun q h => by rw [← hAe]; exact Or.inr h
  have hS : va_S A s.heap s.heap [] := va_S.rf
  have hP : va_P (dC, dI) CL [(d, .inr (5, [.ref tp, .ref vs, .ref sv, .ref fi, .ref sa, .ref fl, .ref dr, .int ev, .int cnt, .int tk, .int fk, .int fpl])), (tp, .inr (2, [.ref tpa, .int nt])), (tpa, .inl (cC, 200, .inl ft))] s.heap := hP
  have hl := lv_entry ([.ref d, .int place]) (n := 2) (Nat.le_of_ble_eq_true rfl)
  rw [lg_entry_eq]
  generalize (lg_sl ([.ref d, .int place]) ++ List.replicate (2 - (lg_sl ([.ref d, .int place])).length) Slot.unset).toArray = ls at hl ⊢
  have hl : lv_has ls 2 [(0, .ref d), (1, .int place)] := hl
  refine lv_aload_n hx hb d_De_startsField_0 rfl (lv_at hl 0 rfl) ?_
  refine va_get (D := (dC, dI)) (ci := 5) (v := .ref tp) (C := R_De) (T := F_De) (N := 12) hx hb hT (in_De) hown hK hP 0 rfl rfl 0 (by decide) (hT _ t_157) (fun _ h9 => h9) rfl d_De_startsField_1 ?_
  refine lv_iload_n hx hb d_De_startsField_4 rfl (lv_at hl 1 rfl) ?_
  have hPc := hP.sub (ws' := [(tp, .inr (2, [.ref tpa, .int nt])), (tpa, .inl (cC, 200, .inl ft))]) [1, 2] rfl
  have hDc := hD.sub (ws' := [(tp, .inr (2, [.ref tpa, .int nt])), (tpa, .inl (cC, 200, .inl ft))]) [1, 2] (by decide) rfl
  have hKc := hK.sub (tys' := [(cC, .char)]) [0] rfl
  have hFc := va_free (wc := [(tp, .inr (2, [.ref tpa, .int nt])), (tpa, .inl (cC, 200, .inl ft))]) hD hS hA [1, 2] rfl
  refine va_calli (va_runV (As := [.int place]) (rest := []) ⟨hx, hb, hml, hown, hT⟩ (c_Line_at l dC dI s.heap.size cC tp tpa 200 ft nt place hnt) (cwV 1 hT g_De_118 rfl rfl rfl (by decide +kernel) ⟨Nat.le_of_ble_eq_true rfl, Nat.le_of_ble_eq_true rfl⟩) ⟨fun a U g mk q => by obtain ⟨q0, q1, qP, qK, qD⟩ := q; exact ⟨q0, q1, qP, va_K.moved (u := U) (U := U.calling g mk a) (Vm.Alike.refl U.vm) qK, qD⟩, va_recv hKc hPc (ci := 2) (q0 := 0) rfl rfl, fun U hU hW => ⟨rfl, by rw [hU], by rw [hU]; exact hPc, va_K.moved hW.alike hKc, hDc.weaken (fun _ _ _ _ => trivial)⟩⟩ rfl rfl hl.1 rfl (lv_room (Nat.le_of_ble_eq_true rfl)) d_De_startsField_5 ⟨Nat.le_of_ble_eq_true rfl, Nat.le_of_ble_eq_true rfl⟩) hS (fun q _ h => hFc q h) hFc (fun x1 u t H1 locs ht hvm w5_1 hB hz1 hk1 hS => ?_)
  obtain ⟨hP1, hK1, hD1⟩ := hB
  rw [ht] at hP1
  try dsimp only at w5_1
  obtain ⟨hP, hD⟩ := va_join (wr := [(d, .inr (5, [.ref tp, .ref vs, .ref sv, .ref fi, .ref sa, .ref fl, .ref dr, .int ev, .int cnt, .int tk, .int fk, .int fpl]))]) (w1 := [(tp, .inr (2, [.ref tpa, .int nt])), (tpa, .inl (cC, 200, .inl ft))]) hP hD [1, 2] [0] rfl rfl (by decide) (by decide) hk1 hFc hP1 hD1
  generalize H1 = H at hP hS ⊢
  have hP : va_P (dC, dI) CL [(d, .inr (5, [.ref tp, .ref vs, .ref sv, .ref fi, .ref sa, .ref fl, .ref dr, .int ev, .int cnt, .int tk, .int fk, .int fpl])), (tp, .inr (2, [.ref tpa, .int nt])), (tpa, .inl (cC, 200, .inl ft))] H := hP
  have hD : va_D A [(d, .inr (5, [.ref tp, .ref vs, .ref sv, .ref fi, .ref sa, .ref fl, .ref dr, .int ev, .int cnt, .int tk, .int fk, .int fpl])), (tp, .inr (2, [.ref tpa, .int nt])), (tpa, .inl (cC, 200, .inl ft))] := hD
  refine lv_bipush (v := 37) hx hb d_De_startsField_8 (by decide) ?_
  refine lv_icmp_ne (tgt := 32) hx hb d_De_startsField_10 (by decide) (fun c10_2 => ?_) (fun c10_2 => ?_)
  · skip
    rw [w5_1] at c10_2
    refine lv_iconst (v := 0) hx hb d_De_startsField_32 (by decide) ?_
    have hP9 := hP.sub (ws' := [(d, .inr (5, [.ref tp, .ref vs, .ref sv, .ref fi, .ref sa, .ref fl, .ref dr, .int ev, .int cnt, .int tk, .int fk, .int fpl])), (tp, .inr (2, [.ref tpa, .int nt])), (tpa, .inl (cC, 200, .inl ft))]) [0, 1, 2] rfl
    have hD9 := hD.sub (ws' := [(d, .inr (5, [.ref tp, .ref vs, .ref sv, .ref fi, .ref sa, .ref fl, .ref dr, .int ev, .int cnt, .int tk, .int fk, .int fpl])), (tp, .inr (2, [.ref tpa, .int nt])), (tpa, .inl (cC, 200, .inl ft))]) [0, 1, 2] (by decide) rfl
    have hK9 := hK.sub (tys' := [(cC, .char)]) [0] rfl
    have hq9 : (0 : Int32) = k_b (sfIs ft nt place) := by simp [k_b, sfIs, c10_2]
    exact W.zret (v := 0) hx hb hr rfl (fun t ht hW => ⟨⟨0, (), rfl, hq9, by rw [ht]; exact hP9, va_K.moved hW.alike hK9, hD9⟩, hS.F ht⟩) hS.2.2 d_De_startsField_33
  · skip
    rw [w5_1] at c10_2
    refine lv_aload_n hx hb d_De_startsField_13 rfl (lv_at hl 0 rfl) ?_
    refine va_get (D := (dC, dI)) (ci := 5) (v := .ref tp) (C := R_De) (T := F_De) (N := 12) hx hb hT (in_De) hown hK hP 0 rfl rfl 0 (by decide) (hT _ t_157) (fun _ h9 => h9) rfl d_De_startsField_14 ?_
    refine lv_iload_n hx hb d_De_startsField_17 rfl (lv_at hl 1 rfl) ?_
    refine lv_iconst (v := 1) hx hb d_De_startsField_18 (by decide) ?_
    refine lv_iadd hx hb d_De_startsField_19 ?_
    refine lv_topi (fun x3 ex3 => ?_)
    have hPc := hP.sub (ws' := [(tp, .inr (2, [.ref tpa, .int nt])), (tpa, .inl (cC, 200, .inl ft))]) [1, 2] rfl
    have hDc := hD.sub (ws' := [(tp, .inr (2, [.ref tpa, .int nt])), (tpa, .inl (cC, 200, .inl ft))]) [1, 2] (by decide) rfl
    have hKc := hK.sub (tys' := [(cC, .char)]) [0] rfl
    have hFc := va_free (wc := [(tp, .inr (2, [.ref tpa, .int nt])), (tpa, .inl (cC, 200, .inl ft))]) hD hS hA [1, 2] rfl
    refine va_calli (va_runV (As := [.int x3]) (rest := []) ⟨hx, hb, hml, hown, hT⟩ (c_Line_at l dC dI H.size cC tp tpa 200 ft nt x3 hnt) (cwV 1 hT g_De_118 rfl rfl rfl (by decide +kernel) ⟨Nat.le_of_ble_eq_true rfl, Nat.le_of_ble_eq_true rfl⟩) ⟨fun a U g mk q => by obtain ⟨q0, q1, qP, qK, qD⟩ := q; exact ⟨q0, q1, qP, va_K.moved (u := U) (U := U.calling g mk a) (Vm.Alike.refl U.vm) qK, qD⟩, va_recv hKc hPc (ci := 2) (q0 := 0) rfl rfl, fun U hU hW => ⟨rfl, by rw [hU], by rw [hU]; exact hPc, va_K.moved hW.alike hKc, hDc.weaken (fun _ _ _ _ => trivial)⟩⟩ rfl rfl hl.1 rfl (lv_room (Nat.le_of_ble_eq_true rfl)) d_De_startsField_20 ⟨Nat.le_of_ble_eq_true rfl, Nat.le_of_ble_eq_true rfl⟩) hS (fun q _ h => hFc q h) hFc (fun x4 u t H1 locs ht hvm w20_4 hB hz1 hk1 hS => ?_)
    obtain ⟨hP1, hK1, hD1⟩ := hB
    rw [ht] at hP1
    try dsimp only at w20_4
    obtain ⟨hP, hD⟩ := va_join (wr := [(d, .inr (5, [.ref tp, .ref vs, .ref sv, .ref fi, .ref sa, .ref fl, .ref dr, .int ev, .int cnt, .int tk, .int fk, .int fpl]))]) (w1 := [(tp, .inr (2, [.ref tpa, .int nt])), (tpa, .inl (cC, 200, .inl ft))]) hP hD [1, 2] [0] rfl rfl (by decide) (by decide) hk1 hFc hP1 hD1
    generalize H1 = H at hP hS ⊢
    have hP : va_P (dC, dI) CL [(d, .inr (5, [.ref tp, .ref vs, .ref sv, .ref fi, .ref sa, .ref fl, .ref dr, .int ev, .int cnt, .int tk, .int fk, .int fpl])), (tp, .inr (2, [.ref tpa, .int nt])), (tpa, .inl (cC, 200, .inl ft))] H := hP
    have hD : va_D A [(d, .inr (5, [.ref tp, .ref vs, .ref sv, .ref fi, .ref sa, .ref fl, .ref dr, .int ev, .int cnt, .int tk, .int fk, .int fpl])), (tp, .inr (2, [.ref tpa, .int nt])), (tpa, .inl (cC, 200, .inl ft))] := hD
    rw [ex3] at w20_4
    refine lv_bipush (v := 37) hx hb d_De_startsField_23 (by decide) ?_
    refine lv_icmp_eq (tgt := 32) hx hb d_De_startsField_25 (by decide) (fun c25_5 => ?_) (fun c25_5 => ?_)
    · skip
      rw [w20_4] at c25_5
      refine lv_iconst (v := 0) hx hb d_De_startsField_32 (by decide) ?_
      have hP9 := hP.sub (ws' := [(d, .inr (5, [.ref tp, .ref vs, .ref sv, .ref fi, .ref sa, .ref fl, .ref dr, .int ev, .int cnt, .int tk, .int fk, .int fpl])), (tp, .inr (2, [.ref tpa, .int nt])), (tpa, .inl (cC, 200, .inl ft))]) [0, 1, 2] rfl
      have hD9 := hD.sub (ws' := [(d, .inr (5, [.ref tp, .ref vs, .ref sv, .ref fi, .ref sa, .ref fl, .ref dr, .int ev, .int cnt, .int tk, .int fk, .int fpl])), (tp, .inr (2, [.ref tpa, .int nt])), (tpa, .inl (cC, 200, .inl ft))]) [0, 1, 2] (by decide) rfl
      have hK9 := hK.sub (tys' := [(cC, .char)]) [0] rfl
      have hq9 : (0 : Int32) = k_b (sfIs ft nt place) := by simp [k_b, sfIs, c10_2, c25_5]
      exact W.zret (v := 0) hx hb hr rfl (fun t ht hW => ⟨⟨0, (), rfl, hq9, by rw [ht]; exact hP9, va_K.moved hW.alike hK9, hD9⟩, hS.F ht⟩) hS.2.2 d_De_startsField_33
    · skip
      rw [w20_4] at c25_5
      refine lv_iconst (v := 1) hx hb d_De_startsField_28 (by decide) ?_
      refine lv_goto (tgt := 33) hx hb d_De_startsField_29 (by decide) ?_
      have hP9 := hP.sub (ws' := [(d, .inr (5, [.ref tp, .ref vs, .ref sv, .ref fi, .ref sa, .ref fl, .ref dr, .int ev, .int cnt, .int tk, .int fk, .int fpl])), (tp, .inr (2, [.ref tpa, .int nt])), (tpa, .inl (cC, 200, .inl ft))]) [0, 1, 2] rfl
      have hD9 := hD.sub (ws' := [(d, .inr (5, [.ref tp, .ref vs, .ref sv, .ref fi, .ref sa, .ref fl, .ref dr, .int ev, .int cnt, .int tk, .int fk, .int fpl])), (tp, .inr (2, [.ref tpa, .int nt])), (tpa, .inl (cC, 200, .inl ft))]) [0, 1, 2] (by decide) rfl
      have hK9 := hK.sub (tys' := [(cC, .char)]) [0] rfl
      have hq9 : (1 : Int32) = k_b (sfIs ft nt place) := by simp [k_b, sfIs, c10_2, c25_5]
      exact W.zret (v := 1) hx hb hr rfl (fun t ht hW => ⟨⟨1, (), rfl, hq9, by rw [ht]; exact hP9, va_K.moved hW.alike hK9, hD9⟩, hS.F ht⟩) hS.2.2 d_De_startsField_33

set_option maxHeartbeats 4000000 in
set_option maxRecDepth 100000 in
theorem c_De_behindMark (l : Launch) (dC : Nat → ClassId) (dI : Nat → Nat → Nat) (sz : Nat) (cC : ClassId) (d : Nat) (tp : Nat) (vs : Nat) (sv : Nat) (fi : Nat) (sa : Nat) (fl : Nat) (dr : Nat) (ev : Int32) (cnt : Int32) (tk : Int32) (fk : Int32) (fpl : Int32) (tpa : Nat) (ft : Nat → Int32) (nt : Int32) (place : Int32) (hnt : lnOK 200 nt) : Met l y_De_behindMark w_De_behindMark ({ frames := 1, cells := 0, slots := 0, locals := 21 } : Room) (va_Pc [.ref d, .int place] (fun U => U.heap.size = sz ∧ va_P (dC, dI) CL [(d, .inr (5, [.ref tp, .ref vs, .ref sv, .ref fi, .ref sa, .ref fl, .ref dr, .int ev, .int cnt, .int tk, .int fk, .int fpl])), (tp, .inr (2, [.ref tpa, .int nt])), (tpa, .inl (cC, 200, .inl ft))] U.heap ∧ va_K (dC, dI) CL [(cC, .char)] U ∧ va_D (fun _ => True) [(d, .inr (5, [.ref tp, .ref vs, .ref sv, .ref fi, .ref sa, .ref fl, .ref dr, .int ev, .int cnt, .int tk, .int fk, .int fpl])), (tp, .inr (2, [.ref tpa, .int nt])), (tpa, .inl (cC, 200, .inl ft))])) (va_Qi (fun (r : Int32) (u : Unit) => r = bhMk ft nt place) (fun (u : Unit) (t : State) => va_P (dC, dI) CL [(d, .inr (5, [.ref tp, .ref vs, .ref sv, .ref fi, .ref sa, .ref fl, .ref dr, .int ev, .int cnt, .int tk, .int fk, .int fpl])), (tp, .inr (2, [.ref tpa, .int nt])), (tpa, .inl (cC, 200, .inl ft))] t.heap ∧ va_K (dC, dI) CL [(cC, .char)] t ∧ va_D (va_A [(d, .inr (5, [.ref tp, .ref vs, .ref sv, .ref fi, .ref sa, .ref fl, .ref dr, .int ev, .int cnt, .int tk, .int fk, .int fpl])), (tp, .inr (2, [.ref tpa, .int nt])), (tpa, .inl (cC, 200, .inl ft))] sz) [(d, .inr (5, [.ref tp, .ref vs, .ref sv, .ref fi, .ref sa, .ref fl, .ref dr, .int ev, .int cnt, .int tk, .int fk, .int fpl])), (tp, .inr (2, [.ref tpa, .int nt])), (tpa, .inl (cC, 200, .inl ft))]) (va_A [(d, .inr (5, [.ref tp, .ref vs, .ref sv, .ref fi, .ref sa, .ref fl, .ref dr, .int ev, .int cnt, .int tk, .int fk, .int fpl])), (tp, .inr (2, [.ref tpa, .int nt])), (tpa, .inl (cC, 200, .inl ft))] sz)) 0 0 (va_A [(d, .inr (5, [.ref tp, .ref vs, .ref sv, .ref fi, .ref sa, .ref fl, .ref dr, .int ev, .int cnt, .int tk, .int fk, .int fpl])), (tp, .inr (2, [.ref tpa, .int nt])), (tpa, .inl (cC, 200, .inl ft))] sz) := by
  refine Met.ofW (cc := b_De_behindMark) (maxL := 2) (ret := (some .int)) (by decide) rfl ?_
  intro p e s m args below meth c s₁ B hml hv
  obtain ⟨rfl, hsz, hP, hK, hD0⟩ := hv
  have hx := B.exec
  have hb := B.bytes
  have hr := B.returns
  have hts := atoms_spec (ws := w_De_behindMark) B.pre
  have hT : ∀ w ∈ TB, w.before _ s = true := fun w h => hts w (List.mem_cons_of_mem _ h)
  have hown : s.vm.findClass R_De = some m.cls := findClass_of_methodNamed B.named
  have hlocks := B.notSynchronized
  subst hsz
  have hD := hD0.self (sz := s.heap.size)
  generalize hAe : va_A [(d, .inr (5, [.ref tp, .ref vs, .ref sv, .ref fi, .ref sa, .ref fl, .ref dr, .int ev, .int cnt, .int tk, .int fk, .int fpl])), (tp, .inr (2, [.ref tpa, .int nt])), (tpa, .inl (cC, 200, .inl ft))] s.heap.size = A at hD ⊢
  have hA : ∀ q : Nat, s.heap.size ≤ q → A q := fun q h => by rw [← hAe]; exact Or.inr h
  have hS : va_S A s.heap s.heap [] := va_S.rf
  have hP : va_P (dC, dI) CL [(d, .inr (5, [.ref tp, .ref vs, .ref sv, .ref fi, .ref sa, .ref fl, .ref dr, .int ev, .int cnt, .int tk, .int fk, .int fpl])), (tp, .inr (2, [.ref tpa, .int nt])), (tpa, .inl (cC, 200, .inl ft))] s.heap := hP
  have hl := lv_entry ([.ref d, .int place]) (n := 2) (Nat.le_of_ble_eq_true rfl)
  rw [lg_entry_eq]
  generalize (lg_sl ([.ref d, .int place]) ++ List.replicate (2 - (lg_sl ([.ref d, .int place])).length) Slot.unset).toArray = ls at hl ⊢
  have hl : lv_has ls 2 [(0, .ref d), (1, .int place)] := hl
  refine lv_aload_n hx hb d_De_behindMark_0 rfl (lv_at hl 0 rfl) ?_
  refine va_get (D := (dC, dI)) (ci := 5) (v := .ref tp) (C := R_De) (T := F_De) (N := 12) hx hb hT (in_De) hown hK hP 0 rfl rfl 0 (by decide) (hT _ t_157) (fun _ h9 => h9) rfl d_De_behindMark_1 ?_
  refine lv_iload_n hx hb d_De_behindMark_4 rfl (lv_at hl 1 rfl) ?_
  have hPc := hP.sub (ws' := [(tp, .inr (2, [.ref tpa, .int nt])), (tpa, .inl (cC, 200, .inl ft))]) [1, 2] rfl
  have hDc := hD.sub (ws' := [(tp, .inr (2, [.ref tpa, .int nt])), (tpa, .inl (cC, 200, .inl ft))]) [1, 2] (by decide) rfl
  have hKc := hK.sub (tys' := [(cC, .char)]) [0] rfl
  have hFc := va_free (wc := [(tp, .inr (2, [.ref tpa, .int nt])), (tpa, .inl (cC, 200, .inl ft))]) hD hS hA [1, 2] rfl
  refine va_calli (va_runV (As := [.int place]) (rest := []) ⟨hx, hb, hml, hown, hT⟩ (c_Line_at l dC dI s.heap.size cC tp tpa 200 ft nt place hnt) (cwV 1 hT g_De_118 rfl rfl rfl (by decide +kernel) ⟨Nat.le_of_ble_eq_true rfl, Nat.le_of_ble_eq_true rfl⟩) ⟨fun a U g mk q => by obtain ⟨q0, q1, qP, qK, qD⟩ := q; exact ⟨q0, q1, qP, va_K.moved (u := U) (U := U.calling g mk a) (Vm.Alike.refl U.vm) qK, qD⟩, va_recv hKc hPc (ci := 2) (q0 := 0) rfl rfl, fun U hU hW => ⟨rfl, by rw [hU], by rw [hU]; exact hPc, va_K.moved hW.alike hKc, hDc.weaken (fun _ _ _ _ => trivial)⟩⟩ rfl rfl hl.1 rfl (lv_room (Nat.le_of_ble_eq_true rfl)) d_De_behindMark_5 ⟨Nat.le_of_ble_eq_true rfl, Nat.le_of_ble_eq_true rfl⟩) hS (fun q _ h => hFc q h) hFc (fun x1 u t H1 locs ht hvm w5_1 hB hz1 hk1 hS => ?_)
  obtain ⟨hP1, hK1, hD1⟩ := hB
  rw [ht] at hP1
  try dsimp only at w5_1
  obtain ⟨hP, hD⟩ := va_join (wr := [(d, .inr (5, [.ref tp, .ref vs, .ref sv, .ref fi, .ref sa, .ref fl, .ref dr, .int ev, .int cnt, .int tk, .int fk, .int fpl]))]) (w1 := [(tp, .inr (2, [.ref tpa, .int nt])), (tpa, .inl (cC, 200, .inl ft))]) hP hD [1, 2] [0] rfl rfl (by decide) (by decide) hk1 hFc hP1 hD1
  generalize H1 = H at hP hS ⊢
  have hP : va_P (dC, dI) CL [(d, .inr (5, [.ref tp, .ref vs, .ref sv, .ref fi, .ref sa, .ref fl, .ref dr, .int ev, .int cnt, .int tk, .int fk, .int fpl])), (tp, .inr (2, [.ref tpa, .int nt])), (tpa, .inl (cC, 200, .inl ft))] H := hP
  have hD : va_D A [(d, .inr (5, [.ref tp, .ref vs, .ref sv, .ref fi, .ref sa, .ref fl, .ref dr, .int ev, .int cnt, .int tk, .int fk, .int fpl])), (tp, .inr (2, [.ref tpa, .int nt])), (tpa, .inl (cC, 200, .inl ft))] := hD
  refine lv_bipush (v := 37) hx hb d_De_behindMark_8 (by decide) ?_
  refine lv_icmp_ne (tgt := 19) hx hb d_De_behindMark_10 (by decide) (fun c10_2 => ?_) (fun c10_2 => ?_)
  · skip
    rw [w5_1] at c10_2
    refine lv_iload_n hx hb d_De_behindMark_19 rfl (lv_at hl 1 rfl) ?_
    refine lv_iconst (v := 1) hx hb d_De_behindMark_20 (by decide) ?_
    refine lv_iadd hx hb d_De_behindMark_21 ?_
    refine lv_topi (fun x3 ex3 => ?_)
    have hP9 := hP.sub (ws' := [(d, .inr (5, [.ref tp, .ref vs, .ref sv, .ref fi, .ref sa, .ref fl, .ref dr, .int ev, .int cnt, .int tk, .int fk, .int fpl])), (tp, .inr (2, [.ref tpa, .int nt])), (tpa, .inl (cC, 200, .inl ft))]) [0, 1, 2] rfl
    have hD9 := hD.sub (ws' := [(d, .inr (5, [.ref tp, .ref vs, .ref sv, .ref fi, .ref sa, .ref fl, .ref dr, .int ev, .int cnt, .int tk, .int fk, .int fpl])), (tp, .inr (2, [.ref tpa, .int nt])), (tpa, .inl (cC, 200, .inl ft))]) [0, 1, 2] (by decide) rfl
    have hK9 := hK.sub (tys' := [(cC, .char)]) [0] rfl
    have hq9 : x3 = bhMk ft nt place := by rw [bhMk]; simp [c10_2, ex3]
    exact W.iret (v := x3) hx hb hr (fun t ht hW => ⟨⟨x3, (), rfl, hq9, by rw [ht]; exact hP9, va_K.moved hW.alike hK9, hD9⟩, hS.F ht⟩) hS.2.2 d_De_behindMark_22
  · skip
    rw [w5_1] at c10_2
    refine lv_iload_n hx hb d_De_behindMark_13 rfl (lv_at hl 1 rfl) ?_
    refine lv_iconst (v := 2) hx hb d_De_behindMark_14 (by decide) ?_
    refine lv_iadd hx hb d_De_behindMark_15 ?_
    refine lv_topi (fun x4 ex4 => ?_)
    refine lv_goto (tgt := 22) hx hb d_De_behindMark_16 (by decide) ?_
    have hP9 := hP.sub (ws' := [(d, .inr (5, [.ref tp, .ref vs, .ref sv, .ref fi, .ref sa, .ref fl, .ref dr, .int ev, .int cnt, .int tk, .int fk, .int fpl])), (tp, .inr (2, [.ref tpa, .int nt])), (tpa, .inl (cC, 200, .inl ft))]) [0, 1, 2] rfl
    have hD9 := hD.sub (ws' := [(d, .inr (5, [.ref tp, .ref vs, .ref sv, .ref fi, .ref sa, .ref fl, .ref dr, .int ev, .int cnt, .int tk, .int fk, .int fpl])), (tp, .inr (2, [.ref tpa, .int nt])), (tpa, .inl (cC, 200, .inl ft))]) [0, 1, 2] (by decide) rfl
    have hK9 := hK.sub (tys' := [(cC, .char)]) [0] rfl
    have hq9 : x4 = bhMk ft nt place := by rw [bhMk]; simp [c10_2, ex4]
    exact W.iret (v := x4) hx hb hr (fun t ht hW => ⟨⟨x4, (), rfl, hq9, by rw [ht]; exact hP9, va_K.moved hW.alike hK9, hD9⟩, hS.F ht⟩) hS.2.2 d_De_behindMark_22

set_option maxHeartbeats 4000000 in
set_option maxRecDepth 100000 in
theorem c_De_fillMark (l : Launch) (dC : Nat → ClassId) (dI : Nat → Nat → Nat) (sz : Nat) (cC : ClassId) (d : Nat) (tp : Nat) (vs : Nat) (sv : Nat) (fi : Nat) (sa : Nat) (fl : Nat) (dr : Nat) (ev : Int32) (cnt : Int32) (tk : Int32) (fk : Int32) (fpl : Int32) (dra : Nat) (fD : Nat → Int32) (nD : Int32) (mark : Int32) (hnD : lnOK 600 nD) : Met l y_De_fillMark w_De_fillMark ({ frames := 1, cells := 0, slots := 0, locals := 21 } : Room) (va_Pc [.ref d, .int mark] (fun U => U.heap.size = sz ∧ va_P (dC, dI) CL [(d, .inr (5, [.ref tp, .ref vs, .ref sv, .ref fi, .ref sa, .ref fl, .ref dr, .int ev, .int cnt, .int tk, .int fk, .int fpl])), (dr, .inr (2, [.ref dra, .int nD])), (dra, .inl (cC, 600, .inl fD))] U.heap ∧ va_K (dC, dI) CL [(cC, .char)] U ∧ va_D (fun _ => True) [(d, .inr (5, [.ref tp, .ref vs, .ref sv, .ref fi, .ref sa, .ref fl, .ref dr, .int ev, .int cnt, .int tk, .int fk, .int fpl])), (dr, .inr (2, [.ref dra, .int nD])), (dra, .inl (cC, 600, .inl fD))])) (va_Qi (fun (r : Int32) (u : (Nat → Int32) × Int32) => match u with | (f2, n2) => r = (if 1 ≤ nI 600 - nD then 0 else 5) ∧ (f2, n2) = (if 1 ≤ nI 600 - nD then lnAdd 600 (fD, nD) mark else (fD, nD)) ∧ lnOK 600 n2) (fun (u : (Nat → Int32) × Int32) (t : State) => match u with | (f2, n2) => va_P (dC, dI) CL [(d, .inr (5, [.ref tp, .ref vs, .ref sv, .ref fi, .ref sa, .ref fl, .ref dr, .int ev, .int cnt, .int tk, .int fk, .int fpl])), (dr, .inr (2, [.ref dra, .int n2])), (dra, .inl (cC, 600, .inl f2))] t.heap ∧ va_K (dC, dI) CL [(cC, .char)] t ∧ va_D (va_A [(d, .inr (5, [.ref tp, .ref vs, .ref sv, .ref fi, .ref sa, .ref fl, .ref dr, .int ev, .int cnt, .int tk, .int fk, .int fpl])), (dr, .inr (2, [.ref dra, .int nD])), (dra, .inl (cC, 600, .inl fD))] sz) [(d, .inr (5, [.ref tp, .ref vs, .ref sv, .ref fi, .ref sa, .ref fl, .ref dr, .int ev, .int cnt, .int tk, .int fk, .int fpl])), (dr, .inr (2, [.ref dra, .int n2])), (dra, .inl (cC, 600, .inl f2))]) (va_A [(d, .inr (5, [.ref tp, .ref vs, .ref sv, .ref fi, .ref sa, .ref fl, .ref dr, .int ev, .int cnt, .int tk, .int fk, .int fpl])), (dr, .inr (2, [.ref dra, .int nD])), (dra, .inl (cC, 600, .inl fD))] sz)) 0 0 (va_A [(d, .inr (5, [.ref tp, .ref vs, .ref sv, .ref fi, .ref sa, .ref fl, .ref dr, .int ev, .int cnt, .int tk, .int fk, .int fpl])), (dr, .inr (2, [.ref dra, .int nD])), (dra, .inl (cC, 600, .inl fD))] sz) := by
  refine Met.ofW (cc := b_De_fillMark) (maxL := 2) (ret := (some .int)) (by decide) rfl ?_
  intro p e s m args below meth c s₁ B hml hv
  obtain ⟨rfl, hsz, hP, hK, hD0⟩ := hv
  have hx := B.exec
  have hb := B.bytes
  have hr := B.returns
  have hts := atoms_spec (ws := w_De_fillMark) B.pre
  have hT : ∀ w ∈ TB, w.before _ s = true := fun w h => hts w (List.mem_cons_of_mem _ h)
  have hown : s.vm.findClass R_De = some m.cls := findClass_of_methodNamed B.named
  have hlocks := B.notSynchronized
  subst hsz
  have hD := hD0.self (sz := s.heap.size)
  generalize hAe : va_A [(d, .inr (5, [.ref tp, .ref vs, .ref sv, .ref fi, .ref sa, .ref fl, .ref dr, .int ev, .int cnt, .int tk, .int fk, .int fpl])), (dr, .inr (2, [.ref dra, .int nD])), (dra, .inl (cC, 600, .inl fD))] s.heap.size = A at hD ⊢
  have hA : ∀ q : Nat, s.heap.size ≤ q → A q := fun q h => by rw [← hAe]; exact Or.inr h
  have hS : va_S A s.heap s.heap [] := va_S.rf
  have hP : va_P (dC, dI) CL [(d, .inr (5, [.ref tp, .ref vs, .ref sv, .ref fi, .ref sa, .ref fl, .ref dr, .int ev, .int cnt, .int tk, .int fk, .int fpl])), (dr, .inr (2, [.ref dra, .int nD])), (dra, .inl (cC, 600, .inl fD))] s.heap := hP
  have hl := lv_entry ([.ref d, .int mark]) (n := 2) (Nat.le_of_ble_eq_true rfl)
  rw [lg_entry_eq]
  generalize (lg_sl ([.ref d, .int mark]) ++ List.replicate (2 - (lg_sl ([.ref d, .int mark])).length) Slot.unset).toArray = ls at hl ⊢
  have hl : lv_has ls 2 [(0, .ref d), (1, .int mark)] := hl
  refine lv_aload_n hx hb d_De_fillMark_0 rfl (lv_at hl 0 rfl) ?_
  refine va_get (D := (dC, dI)) (ci := 5) (v := .ref dr) (C := R_De) (T := F_De) (N := 12) hx hb hT (in_De) hown hK hP 0 rfl rfl 6 (by decide) (hT _ t_163) (fun _ h9 => h9) rfl d_De_fillMark_1 ?_
  refine lv_iconst (v := 1) hx hb d_De_fillMark_4 (by decide) ?_
  have hPc := hP.sub (ws' := [(dr, .inr (2, [.ref dra, .int nD])), (dra, .inl (cC, 600, .inl fD))]) [1, 2] rfl
  have hDc := hD.sub (ws' := [(dr, .inr (2, [.ref dra, .int nD])), (dra, .inl (cC, 600, .inl fD))]) [1, 2] (by decide) rfl
  have hKc := hK.sub (tys' := [(cC, .char)]) [0] rfl
  have hFc := va_free (wc := [(dr, .inr (2, [.ref dra, .int nD])), (dra, .inl (cC, 600, .inl fD))]) hD hS hA [1, 2] rfl
  refine va_calli (va_runV (As := [.int 1]) (rest := []) ⟨hx, hb, hml, hown, hT⟩ (c_Line_hasRoom l dC dI s.heap.size cC dr dra 600 fD nD 1 ) (cwV 1 hT g_De_49 rfl rfl rfl (by decide +kernel) ⟨Nat.le_of_ble_eq_true rfl, Nat.le_of_ble_eq_true rfl⟩) ⟨fun a U g mk q => by obtain ⟨q0, q1, qP, qK, qD⟩ := q; exact ⟨q0, q1, qP, va_K.moved (u := U) (U := U.calling g mk a) (Vm.Alike.refl U.vm) qK, qD⟩, va_recv hKc hPc (ci := 2) (q0 := 0) rfl rfl, fun U hU hW => ⟨rfl, by rw [hU], by rw [hU]; exact hPc, va_K.moved hW.alike hKc, hDc.weaken (fun _ _ _ _ => trivial)⟩⟩ rfl rfl hl.1 rfl (lv_room (Nat.le_of_ble_eq_true rfl)) d_De_fillMark_5 ⟨Nat.le_of_ble_eq_true rfl, Nat.le_of_ble_eq_true rfl⟩) hS (fun q _ h => hFc q h) hFc (fun x1 u t H1 locs ht hvm w5_1 hB hz1 hk1 hS => ?_)
  obtain ⟨hP1, hK1, hD1⟩ := hB
  rw [ht] at hP1
  try dsimp only at w5_1
  obtain ⟨hP, hD⟩ := va_join (wr := [(d, .inr (5, [.ref tp, .ref vs, .ref sv, .ref fi, .ref sa, .ref fl, .ref dr, .int ev, .int cnt, .int tk, .int fk, .int fpl]))]) (w1 := [(dr, .inr (2, [.ref dra, .int nD])), (dra, .inl (cC, 600, .inl fD))]) hP hD [1, 2] [0] rfl rfl (by decide) (by decide) hk1 hFc hP1 hD1
  generalize H1 = H at hP hS ⊢
  have hP : va_P (dC, dI) CL [(d, .inr (5, [.ref tp, .ref vs, .ref sv, .ref fi, .ref sa, .ref fl, .ref dr, .int ev, .int cnt, .int tk, .int fk, .int fpl])), (dr, .inr (2, [.ref dra, .int nD])), (dra, .inl (cC, 600, .inl fD))] H := hP
  have hD : va_D A [(d, .inr (5, [.ref tp, .ref vs, .ref sv, .ref fi, .ref sa, .ref fl, .ref dr, .int ev, .int cnt, .int tk, .int fk, .int fpl])), (dr, .inr (2, [.ref dra, .int nD])), (dra, .inl (cC, 600, .inl fD))] := hD
  refine lv_if_ne (tgt := 13) hx hb d_De_fillMark_8 (by decide) (fun c8_2 => ?_) (fun c8_2 => ?_)
  · skip
    have hc := k_bT1 c8_2 w5_1; simp only [decide_eq_true_eq] at hc
    refine lv_aload_n hx hb d_De_fillMark_13 rfl (lv_at hl 0 rfl) ?_
    refine va_get (D := (dC, dI)) (ci := 5) (v := .ref dr) (C := R_De) (T := F_De) (N := 12) hx hb hT (in_De) hown hK hP 0 rfl rfl 6 (by decide) (hT _ t_163) (fun _ h9 => h9) rfl d_De_fillMark_14 ?_
    refine lv_iload_n hx hb d_De_fillMark_17 rfl (lv_at hl 1 rfl) ?_
    have hPc := hP.sub (ws' := [(dr, .inr (2, [.ref dra, .int nD])), (dra, .inl (cC, 600, .inl fD))]) [1, 2] rfl
    have hDc := hD.sub (ws' := [(dr, .inr (2, [.ref dra, .int nD])), (dra, .inl (cC, 600, .inl fD))]) [1, 2] (by decide) rfl
    have hKc := hK.sub (tys' := [(cC, .char)]) [0] rfl
    have hFc := va_free (wc := [(dr, .inr (2, [.ref dra, .int nD])), (dra, .inl (cC, 600, .inl fD))]) hD hS hA [1, 2] rfl
    refine va_callv (va_runV (As := [.int mark]) (rest := []) ⟨hx, hb, hml, hown, hT⟩ (c_Line_add l dC dI H.size cC dr dra 600 fD nD mark hnD) (cwV 1 hT g_De_57 rfl rfl rfl (by decide +kernel) ⟨Nat.le_of_ble_eq_true rfl, Nat.le_of_ble_eq_true rfl⟩) ⟨fun a U g mk q => by obtain ⟨q0, q1, qP, qK, qD⟩ := q; exact ⟨q0, q1, qP, va_K.moved (u := U) (U := U.calling g mk a) (Vm.Alike.refl U.vm) qK, qD⟩, va_recv hKc hPc (ci := 2) (q0 := 0) rfl rfl, fun U hU hW => ⟨rfl, by rw [hU], by rw [hU]; exact hPc, va_K.moved hW.alike hKc, hDc.weaken (fun _ _ _ _ => trivial)⟩⟩ rfl rfl hl.1 rfl (lv_room (Nat.le_of_ble_eq_true rfl)) d_De_fillMark_18 ⟨Nat.le_of_ble_eq_true rfl, Nat.le_of_ble_eq_true rfl⟩) hS (fun q _ h => hFc q h) hFc (fun u t H1 locs ht hvm w18_4 hB hz1 hk1 hS => ?_)
    obtain ⟨f_3, n_4⟩ := u
    obtain ⟨hP1, hK1, hD1⟩ := hB
    rw [ht] at hP1
    try dsimp only at w18_4
    obtain ⟨w18_4, w18_4b⟩ := w18_4
    obtain ⟨hP, hD⟩ := va_join (wr := [(d, .inr (5, [.ref tp, .ref vs, .ref sv, .ref fi, .ref sa, .ref fl, .ref dr, .int ev, .int cnt, .int tk, .int fk, .int fpl]))]) (w1 := [(dr, .inr (2, [.ref dra, .int n_4])), (dra, .inl (cC, 600, .inl f_3))]) hP hD [1, 2] [0] rfl rfl (by decide) (by decide) hk1 hFc hP1 hD1
    generalize H1 = H at hP hS ⊢
    have hP : va_P (dC, dI) CL [(d, .inr (5, [.ref tp, .ref vs, .ref sv, .ref fi, .ref sa, .ref fl, .ref dr, .int ev, .int cnt, .int tk, .int fk, .int fpl])), (dr, .inr (2, [.ref dra, .int n_4])), (dra, .inl (cC, 600, .inl f_3))] H := hP
    have hD : va_D A [(d, .inr (5, [.ref tp, .ref vs, .ref sv, .ref fi, .ref sa, .ref fl, .ref dr, .int ev, .int cnt, .int tk, .int fk, .int fpl])), (dr, .inr (2, [.ref dra, .int n_4])), (dra, .inl (cC, 600, .inl f_3))] := hD
    refine lv_iconst (v := 0) hx hb d_De_fillMark_21 (by decide) ?_
    have hP9 := hP.sub (ws' := [(d, .inr (5, [.ref tp, .ref vs, .ref sv, .ref fi, .ref sa, .ref fl, .ref dr, .int ev, .int cnt, .int tk, .int fk, .int fpl])), (dr, .inr (2, [.ref dra, .int n_4])), (dra, .inl (cC, 600, .inl f_3))]) [0, 1, 2] rfl
    have hD9 := hD.sub (ws' := [(d, .inr (5, [.ref tp, .ref vs, .ref sv, .ref fi, .ref sa, .ref fl, .ref dr, .int ev, .int cnt, .int tk, .int fk, .int fpl])), (dr, .inr (2, [.ref dra, .int n_4])), (dra, .inl (cC, 600, .inl f_3))]) [0, 1, 2] (by decide) rfl
    have hK9 := hK.sub (tys' := [(cC, .char)]) [0] rfl
    have hq9 : (0 : Int32) = (if 1 ≤ nI 600 - nD then 0 else 5) ∧ (f_3, n_4) = (if 1 ≤ nI 600 - nD then lnAdd 600 (fD, nD) mark else (fD, nD)) ∧ lnOK 600 n_4 := by rw [if_pos hc, if_pos hc]; exact ⟨rfl, w18_4, w18_4b⟩
    exact W.iret (v := 0) hx hb hr (fun t ht hW => ⟨⟨0, (f_3, n_4), rfl, hq9, by rw [ht]; exact hP9, va_K.moved hW.alike hK9, hD9⟩, hS.F ht⟩) hS.2.2 d_De_fillMark_22
  · skip
    have hc := k_bF1 c8_2 w5_1; simp only [decide_eq_true_eq] at hc
    refine lv_iconst (v := 5) hx hb d_De_fillMark_11 (by decide) ?_
    have hP9 := hP.sub (ws' := [(d, .inr (5, [.ref tp, .ref vs, .ref sv, .ref fi, .ref sa, .ref fl, .ref dr, .int ev, .int cnt, .int tk, .int fk, .int fpl])), (dr, .inr (2, [.ref dra, .int nD])), (dra, .inl (cC, 600, .inl fD))]) [0, 1, 2] rfl
    have hD9 := hD.sub (ws' := [(d, .inr (5, [.ref tp, .ref vs, .ref sv, .ref fi, .ref sa, .ref fl, .ref dr, .int ev, .int cnt, .int tk, .int fk, .int fpl])), (dr, .inr (2, [.ref dra, .int nD])), (dra, .inl (cC, 600, .inl fD))]) [0, 1, 2] (by decide) rfl
    have hK9 := hK.sub (tys' := [(cC, .char)]) [0] rfl
    have hq9 : (5 : Int32) = (if 1 ≤ nI 600 - nD then 0 else 5) ∧ (fD, nD) = (if 1 ≤ nI 600 - nD then lnAdd 600 (fD, nD) mark else (fD, nD)) ∧ lnOK 600 nD := by rw [if_neg hc, if_neg hc]; exact ⟨rfl, rfl, hnD⟩
    exact W.iret (v := 5) hx hb hr (fun t ht hW => ⟨⟨5, (fD, nD), rfl, hq9, by rw [ht]; exact hP9, va_K.moved hW.alike hK9, hD9⟩, hS.F ht⟩) hS.2.2 d_De_fillMark_12

set_option maxHeartbeats 4000000 in
set_option maxRecDepth 100000 in
theorem c_De_clear (l : Launch) (dC : Nat → ClassId) (dI : Nat → Nat → Nat) (sz : Nat) (d : Nat) (tp : Nat) (vs : Nat) (sv : Nat) (fi : Nat) (sa : Nat) (fl : Nat) (dr : Nat) (ev : Int32) (cnt : Int32) (tk : Int32) (fk : Int32) (fpl : Int32)  : Met l y_De_clear w_De_clear ({ frames := 0, cells := 0, slots := 0, locals := 0 } : Room) (va_Pc [.ref d] (fun U => U.heap.size = sz ∧ va_P (dC, dI) CL [(d, .inr (5, [.ref tp, .ref vs, .ref sv, .ref fi, .ref sa, .ref fl, .ref dr, .int ev, .int cnt, .int tk, .int fk, .int fpl]))] U.heap ∧ va_K (dC, dI) CL [] U ∧ va_D (fun _ => True) [(d, .inr (5, [.ref tp, .ref vs, .ref sv, .ref fi, .ref sa, .ref fl, .ref dr, .int ev, .int cnt, .int tk, .int fk, .int fpl]))])) (va_Qi (fun (r : Int32) (u : Unit) => r = cnt) (fun (u : Unit) (t : State) => va_P (dC, dI) CL [(d, .inr (5, [.ref tp, .ref vs, .ref sv, .ref fi, .ref sa, .ref fl, .ref dr, .int ev, .int 0, .int tk, .int fk, .int fpl]))] t.heap ∧ va_K (dC, dI) CL [] t ∧ va_D (va_A [(d, .inr (5, [.ref tp, .ref vs, .ref sv, .ref fi, .ref sa, .ref fl, .ref dr, .int ev, .int cnt, .int tk, .int fk, .int fpl]))] sz) [(d, .inr (5, [.ref tp, .ref vs, .ref sv, .ref fi, .ref sa, .ref fl, .ref dr, .int ev, .int 0, .int tk, .int fk, .int fpl]))]) (va_A [(d, .inr (5, [.ref tp, .ref vs, .ref sv, .ref fi, .ref sa, .ref fl, .ref dr, .int ev, .int cnt, .int tk, .int fk, .int fpl]))] sz)) 0 0 (va_A [(d, .inr (5, [.ref tp, .ref vs, .ref sv, .ref fi, .ref sa, .ref fl, .ref dr, .int ev, .int cnt, .int tk, .int fk, .int fpl]))] sz) := by
  refine Met.ofW (cc := b_De_clear) (maxL := 2) (ret := (some .int)) (by decide) rfl ?_
  intro p e s m args below meth c s₁ B hml hv
  obtain ⟨rfl, hsz, hP, hK, hD0⟩ := hv
  have hx := B.exec
  have hb := B.bytes
  have hr := B.returns
  have hts := atoms_spec (ws := w_De_clear) B.pre
  have hT : ∀ w ∈ TB, w.before _ s = true := fun w h => hts w (List.mem_cons_of_mem _ h)
  have hown : s.vm.findClass R_De = some m.cls := findClass_of_methodNamed B.named
  have hlocks := B.notSynchronized
  subst hsz
  have hD := hD0.self (sz := s.heap.size)
  generalize hAe : va_A [(d, .inr (5, [.ref tp, .ref vs, .ref sv, .ref fi, .ref sa, .ref fl, .ref dr, .int ev, .int cnt, .int tk, .int fk, .int fpl]))] s.heap.size = A at hD ⊢
  have hA : ∀ q : Nat, s.heap.size ≤ q → A q := fun q h => by rw [← hAe]; exact Or.inr h
  have hS : va_S A s.heap s.heap [] := va_S.rf
  have hP : va_P (dC, dI) CL [(d, .inr (5, [.ref tp, .ref vs, .ref sv, .ref fi, .ref sa, .ref fl, .ref dr, .int ev, .int cnt, .int tk, .int fk, .int fpl]))] s.heap := hP
  have hl := lv_entry ([.ref d]) (n := 2) (Nat.le_of_ble_eq_true rfl)
  rw [lg_entry_eq]
  generalize (lg_sl ([.ref d]) ++ List.replicate (2 - (lg_sl ([.ref d])).length) Slot.unset).toArray = ls at hl ⊢
  have hl : lv_has ls 2 [(0, .ref d)] := hl
  refine lv_aload_n hx hb d_De_clear_0 rfl (lv_at hl 0 rfl) ?_
  refine va_get (D := (dC, dI)) (ci := 5) (v := .int cnt) (C := R_De) (T := F_De) (N := 12) hx hb hT (in_De) hown hK hP 0 rfl rfl 8 (by decide) (hT _ t_165) (fun _ h9 => h9) rfl d_De_clear_1 ?_
  refine lv_istore_n (lv' := [(1, .int cnt), (0, .ref d)]) hx hb d_De_clear_4 rfl hl (by decide) rfl (fun ls hl => ?_)
  refine lv_aload_n hx hb d_De_clear_5 rfl (lv_at hl 1 rfl) ?_
  refine lv_iconst (v := 0) hx hb d_De_clear_6 (by decide) ?_
  refine va_put (D := (dC, dI)) (ci := 5) (v := .int 0) (ty := .int) (C := R_De) (T := F_De) (N := 12) hx hb hT (in_De) t_De t_De_ok n_De hown hK hP hD hS 0 rfl rfl 8 (by decide) (hT _ t_165) (fun _ h9 => h9) rfl (by decide +kernel) rfl rfl (Nat.le_of_ble_eq_true rfl) d_De_clear_7 (fun H locs hP hD hS => ?_)
  have hP : va_P (dC, dI) CL [(d, .inr (5, [.ref tp, .ref vs, .ref sv, .ref fi, .ref sa, .ref fl, .ref dr, .int ev, .int 0, .int tk, .int fk, .int fpl]))] H := hP
  have hD : va_D A [(d, .inr (5, [.ref tp, .ref vs, .ref sv, .ref fi, .ref sa, .ref fl, .ref dr, .int ev, .int 0, .int tk, .int fk, .int fpl]))] := hD
  refine lv_iload_n hx hb d_De_clear_10 rfl (lv_at hl 0 rfl) ?_
  have hP9 := hP.sub (ws' := [(d, .inr (5, [.ref tp, .ref vs, .ref sv, .ref fi, .ref sa, .ref fl, .ref dr, .int ev, .int 0, .int tk, .int fk, .int fpl]))]) [0] rfl
  have hD9 := hD.sub (ws' := [(d, .inr (5, [.ref tp, .ref vs, .ref sv, .ref fi, .ref sa, .ref fl, .ref dr, .int ev, .int 0, .int tk, .int fk, .int fpl]))]) [0] (by decide) rfl
  have hK9 := hK.sub (tys' := []) [] rfl
  have hq9 : cnt = cnt := rfl
  exact W.iret (v := cnt) hx hb hr (fun t ht hW => ⟨⟨cnt, (), rfl, hq9, by rw [ht]; exact hP9, va_K.moved hW.alike hK9, hD9⟩, hS.F ht⟩) hS.2.2 d_De_clear_11

set_option maxHeartbeats 4000000 in
set_option maxRecDepth 100000 in
theorem c_De_fault (l : Launch) (dC : Nat → ClassId) (dI : Nat → Nat → Nat) (sz : Nat) (d : Nat) (tp : Nat) (vs : Nat) (sv : Nat) (fi : Nat) (sa : Nat) (fl : Nat) (dr : Nat) (ev : Int32) (cnt : Int32) (tk : Int32) (fk : Int32) (fpl : Int32) (what : Int32)  : Met l y_De_fault w_De_fault ({ frames := 0, cells := 0, slots := 0, locals := 0 } : Room) (va_Pc [.ref d, .int what] (fun U => U.heap.size = sz ∧ va_P (dC, dI) CL [(d, .inr (5, [.ref tp, .ref vs, .ref sv, .ref fi, .ref sa, .ref fl, .ref dr, .int ev, .int cnt, .int tk, .int fk, .int fpl]))] U.heap ∧ va_K (dC, dI) CL [] U ∧ va_D (fun _ => True) [(d, .inr (5, [.ref tp, .ref vs, .ref sv, .ref fi, .ref sa, .ref fl, .ref dr, .int ev, .int cnt, .int tk, .int fk, .int fpl]))])) (va_Qi (fun (r : Int32) (u : Unit) => r = deFault what fk fpl) (fun (u : Unit) (t : State) => va_P (dC, dI) CL [(d, .inr (5, [.ref tp, .ref vs, .ref sv, .ref fi, .ref sa, .ref fl, .ref dr, .int ev, .int cnt, .int tk, .int fk, .int fpl]))] t.heap ∧ va_K (dC, dI) CL [] t ∧ va_D (va_A [(d, .inr (5, [.ref tp, .ref vs, .ref sv, .ref fi, .ref sa, .ref fl, .ref dr, .int ev, .int cnt, .int tk, .int fk, .int fpl]))] sz) [(d, .inr (5, [.ref tp, .ref vs, .ref sv, .ref fi, .ref sa, .ref fl, .ref dr, .int ev, .int cnt, .int tk, .int fk, .int fpl]))]) (va_A [(d, .inr (5, [.ref tp, .ref vs, .ref sv, .ref fi, .ref sa, .ref fl, .ref dr, .int ev, .int cnt, .int tk, .int fk, .int fpl]))] sz)) 0 0 (va_A [(d, .inr (5, [.ref tp, .ref vs, .ref sv, .ref fi, .ref sa, .ref fl, .ref dr, .int ev, .int cnt, .int tk, .int fk, .int fpl]))] sz) := by
  refine Met.ofW (cc := b_De_fault) (maxL := 2) (ret := (some .int)) (by decide) rfl ?_
  intro p e s m args below meth c s₁ B hml hv
  obtain ⟨rfl, hsz, hP, hK, hD0⟩ := hv
  have hx := B.exec
  have hb := B.bytes
  have hr := B.returns
  have hts := atoms_spec (ws := w_De_fault) B.pre
  have hT : ∀ w ∈ TB, w.before _ s = true := fun w h => hts w (List.mem_cons_of_mem _ h)
  have hown : s.vm.findClass R_De = some m.cls := findClass_of_methodNamed B.named
  have hlocks := B.notSynchronized
  subst hsz
  have hD := hD0.self (sz := s.heap.size)
  generalize hAe : va_A [(d, .inr (5, [.ref tp, .ref vs, .ref sv, .ref fi, .ref sa, .ref fl, .ref dr, .int ev, .int cnt, .int tk, .int fk, .int fpl]))] s.heap.size = A at hD ⊢
  have hA : ∀ q : Nat, s.heap.size ≤ q → A q := fun q h => by rw [← hAe]; exact Or.inr h
  have hS : va_S A s.heap s.heap [] := va_S.rf
  have hP : va_P (dC, dI) CL [(d, .inr (5, [.ref tp, .ref vs, .ref sv, .ref fi, .ref sa, .ref fl, .ref dr, .int ev, .int cnt, .int tk, .int fk, .int fpl]))] s.heap := hP
  have hl := lv_entry ([.ref d, .int what]) (n := 2) (Nat.le_of_ble_eq_true rfl)
  rw [lg_entry_eq]
  generalize (lg_sl ([.ref d, .int what]) ++ List.replicate (2 - (lg_sl ([.ref d, .int what])).length) Slot.unset).toArray = ls at hl ⊢
  have hl : lv_has ls 2 [(0, .ref d), (1, .int what)] := hl
  refine lv_iload_n hx hb d_De_fault_0 rfl (lv_at hl 1 rfl) ?_
  refine lv_if_ne (tgt := 9) hx hb d_De_fault_1 (by decide) (fun c1_1 => ?_) (fun c1_1 => ?_)
  · skip
    refine lv_iload_n hx hb d_De_fault_9 rfl (lv_at hl 1 rfl) ?_
    refine lv_iconst (v := 1) hx hb d_De_fault_10 (by decide) ?_
    refine lv_icmp_ne (tgt := 21) hx hb d_De_fault_11 (by decide) (fun c11_2 => ?_) (fun c11_2 => ?_)
    · skip
      refine lv_iconst (v := (-1)) hx hb d_De_fault_21 (by decide) ?_
      have hP9 := hP.sub (ws' := [(d, .inr (5, [.ref tp, .ref vs, .ref sv, .ref fi, .ref sa, .ref fl, .ref dr, .int ev, .int cnt, .int tk, .int fk, .int fpl]))]) [0] rfl
      have hD9 := hD.sub (ws' := [(d, .inr (5, [.ref tp, .ref vs, .ref sv, .ref fi, .ref sa, .ref fl, .ref dr, .int ev, .int cnt, .int tk, .int fk, .int fpl]))]) [0] (by decide) rfl
      have hK9 := hK.sub (tys' := []) [] rfl
      have hq9 : (-1 : Int32) = deFault what fk fpl := by simp [deFault, c1_1, c11_2]
      exact W.iret (v := (-1)) hx hb hr (fun t ht hW => ⟨⟨(-1), (), rfl, hq9, by rw [ht]; exact hP9, va_K.moved hW.alike hK9, hD9⟩, hS.F ht⟩) hS.2.2 d_De_fault_22
    · skip
      refine lv_aload_n hx hb d_De_fault_14 rfl (lv_at hl 0 rfl) ?_
      refine va_get (D := (dC, dI)) (ci := 5) (v := .int fpl) (C := R_De) (T := F_De) (N := 12) hx hb hT (in_De) hown hK hP 0 rfl rfl 11 (by decide) (hT _ t_168) (fun _ h9 => h9) rfl d_De_fault_15 ?_
      refine lv_goto (tgt := 22) hx hb d_De_fault_18 (by decide) ?_
      have hP9 := hP.sub (ws' := [(d, .inr (5, [.ref tp, .ref vs, .ref sv, .ref fi, .ref sa, .ref fl, .ref dr, .int ev, .int cnt, .int tk, .int fk, .int fpl]))]) [0] rfl
      have hD9 := hD.sub (ws' := [(d, .inr (5, [.ref tp, .ref vs, .ref sv, .ref fi, .ref sa, .ref fl, .ref dr, .int ev, .int cnt, .int tk, .int fk, .int fpl]))]) [0] (by decide) rfl
      have hK9 := hK.sub (tys' := []) [] rfl
      have hq9 : fpl = deFault what fk fpl := by simp [deFault, c1_1, c11_2]
      exact W.iret (v := fpl) hx hb hr (fun t ht hW => ⟨⟨fpl, (), rfl, hq9, by rw [ht]; exact hP9, va_K.moved hW.alike hK9, hD9⟩, hS.F ht⟩) hS.2.2 d_De_fault_22
  · skip
    refine lv_aload_n hx hb d_De_fault_4 rfl (lv_at hl 0 rfl) ?_
    refine va_get (D := (dC, dI)) (ci := 5) (v := .int fk) (C := R_De) (T := F_De) (N := 12) hx hb hT (in_De) hown hK hP 0 rfl rfl 10 (by decide) (hT _ t_167) (fun _ h9 => h9) rfl d_De_fault_5 ?_
    have hP9 := hP.sub (ws' := [(d, .inr (5, [.ref tp, .ref vs, .ref sv, .ref fi, .ref sa, .ref fl, .ref dr, .int ev, .int cnt, .int tk, .int fk, .int fpl]))]) [0] rfl
    have hD9 := hD.sub (ws' := [(d, .inr (5, [.ref tp, .ref vs, .ref sv, .ref fi, .ref sa, .ref fl, .ref dr, .int ev, .int cnt, .int tk, .int fk, .int fpl]))]) [0] (by decide) rfl
    have hK9 := hK.sub (tys' := []) [] rfl
    have hq9 : fk = deFault what fk fpl := by simp [deFault, c1_1]
    exact W.iret (v := fk) hx hb hr (fun t ht hW => ⟨⟨fk, (), rfl, hq9, by rw [ht]; exact hP9, va_K.moved hW.alike hK9, hD9⟩, hS.F ht⟩) hS.2.2 d_De_fault_8

set_option maxHeartbeats 4000000 in
set_option maxRecDepth 100000 in
theorem c_De_letters (l : Launch) (dC : Nat → ClassId) (dI : Nat → Nat → Nat) (sz : Nat) (cC : ClassId) (d : Nat) (tp : Nat) (vs : Nat) (sv : Nat) (fi : Nat) (sa : Nat) (fl : Nat) (dr : Nat) (ev : Int32) (cnt : Int32) (tk : Int32) (fk : Int32) (fpl : Int32) (fla : Nat) (fQ : Nat → Int32) (nQ : Int32)  : Met l y_De_letters w_De_letters ({ frames := 1, cells := 0, slots := 0, locals := 20 } : Room) (va_Pc [.ref d] (fun U => U.heap.size = sz ∧ va_P (dC, dI) CL [(d, .inr (5, [.ref tp, .ref vs, .ref sv, .ref fi, .ref sa, .ref fl, .ref dr, .int ev, .int cnt, .int tk, .int fk, .int fpl])), (fl, .inr (2, [.ref fla, .int nQ])), (fla, .inl (cC, 600, .inl fQ))] U.heap ∧ va_K (dC, dI) CL [(cC, .char)] U ∧ va_D (fun _ => True) [(d, .inr (5, [.ref tp, .ref vs, .ref sv, .ref fi, .ref sa, .ref fl, .ref dr, .int ev, .int cnt, .int tk, .int fk, .int fpl])), (fl, .inr (2, [.ref fla, .int nQ])), (fla, .inl (cC, 600, .inl fQ))])) (va_Qi (fun (r : Int32) (u : Unit) => r = deLetters ev nQ) (fun (u : Unit) (t : State) => va_P (dC, dI) CL [(d, .inr (5, [.ref tp, .ref vs, .ref sv, .ref fi, .ref sa, .ref fl, .ref dr, .int ev, .int cnt, .int tk, .int fk, .int fpl])), (fl, .inr (2, [.ref fla, .int nQ])), (fla, .inl (cC, 600, .inl fQ))] t.heap ∧ va_K (dC, dI) CL [(cC, .char)] t ∧ va_D (va_A [(d, .inr (5, [.ref tp, .ref vs, .ref sv, .ref fi, .ref sa, .ref fl, .ref dr, .int ev, .int cnt, .int tk, .int fk, .int fpl])), (fl, .inr (2, [.ref fla, .int nQ])), (fla, .inl (cC, 600, .inl fQ))] sz) [(d, .inr (5, [.ref tp, .ref vs, .ref sv, .ref fi, .ref sa, .ref fl, .ref dr, .int ev, .int cnt, .int tk, .int fk, .int fpl])), (fl, .inr (2, [.ref fla, .int nQ])), (fla, .inl (cC, 600, .inl fQ))]) (va_A [(d, .inr (5, [.ref tp, .ref vs, .ref sv, .ref fi, .ref sa, .ref fl, .ref dr, .int ev, .int cnt, .int tk, .int fk, .int fpl])), (fl, .inr (2, [.ref fla, .int nQ])), (fla, .inl (cC, 600, .inl fQ))] sz)) 0 0 (va_A [(d, .inr (5, [.ref tp, .ref vs, .ref sv, .ref fi, .ref sa, .ref fl, .ref dr, .int ev, .int cnt, .int tk, .int fk, .int fpl])), (fl, .inr (2, [.ref fla, .int nQ])), (fla, .inl (cC, 600, .inl fQ))] sz) := by
  refine Met.ofW (cc := b_De_letters) (maxL := 1) (ret := (some .int)) (by decide) rfl ?_
  intro p e s m args below meth c s₁ B hml hv
  obtain ⟨rfl, hsz, hP, hK, hD0⟩ := hv
  have hx := B.exec
  have hb := B.bytes
  have hr := B.returns
  have hts := atoms_spec (ws := w_De_letters) B.pre
  have hT : ∀ w ∈ TB, w.before _ s = true := fun w h => hts w (List.mem_cons_of_mem _ h)
  have hown : s.vm.findClass R_De = some m.cls := findClass_of_methodNamed B.named
  have hlocks := B.notSynchronized
  subst hsz
  have hD := hD0.self (sz := s.heap.size)
  generalize hAe : va_A [(d, .inr (5, [.ref tp, .ref vs, .ref sv, .ref fi, .ref sa, .ref fl, .ref dr, .int ev, .int cnt, .int tk, .int fk, .int fpl])), (fl, .inr (2, [.ref fla, .int nQ])), (fla, .inl (cC, 600, .inl fQ))] s.heap.size = A at hD ⊢
  have hA : ∀ q : Nat, s.heap.size ≤ q → A q := fun q h => by rw [← hAe]; exact Or.inr h
  have hS : va_S A s.heap s.heap [] := va_S.rf
  have hP : va_P (dC, dI) CL [(d, .inr (5, [.ref tp, .ref vs, .ref sv, .ref fi, .ref sa, .ref fl, .ref dr, .int ev, .int cnt, .int tk, .int fk, .int fpl])), (fl, .inr (2, [.ref fla, .int nQ])), (fla, .inl (cC, 600, .inl fQ))] s.heap := hP
  have hl := lv_entry ([.ref d]) (n := 1) (Nat.le_of_ble_eq_true rfl)
  rw [lg_entry_eq]
  generalize (lg_sl ([.ref d]) ++ List.replicate (1 - (lg_sl ([.ref d])).length) Slot.unset).toArray = ls at hl ⊢
  have hl : lv_has ls 1 [(0, .ref d)] := hl
  refine lv_aload_n hx hb d_De_letters_0 rfl (lv_at hl 0 rfl) ?_
  refine va_get (D := (dC, dI)) (ci := 5) (v := .int ev) (C := R_De) (T := F_De) (N := 12) hx hb hT (in_De) hown hK hP 0 rfl rfl 7 (by decide) (hT _ t_164) (fun _ h9 => h9) rfl d_De_letters_1 ?_
  refine lv_if_eq (tgt := 17) hx hb d_De_letters_4 (by decide) (fun c4_1 => ?_) (fun c4_1 => ?_)
  · skip
    refine lv_iconst (v := (-1)) hx hb d_De_letters_17 (by decide) ?_
    have hP9 := hP.sub (ws' := [(d, .inr (5, [.ref tp, .ref vs, .ref sv, .ref fi, .ref sa, .ref fl, .ref dr, .int ev, .int cnt, .int tk, .int fk, .int fpl])), (fl, .inr (2, [.ref fla, .int nQ])), (fla, .inl (cC, 600, .inl fQ))]) [0, 1, 2] rfl
    have hD9 := hD.sub (ws' := [(d, .inr (5, [.ref tp, .ref vs, .ref sv, .ref fi, .ref sa, .ref fl, .ref dr, .int ev, .int cnt, .int tk, .int fk, .int fpl])), (fl, .inr (2, [.ref fla, .int nQ])), (fla, .inl (cC, 600, .inl fQ))]) [0, 1, 2] (by decide) rfl
    have hK9 := hK.sub (tys' := [(cC, .char)]) [0] rfl
    have hq9 : (-1 : Int32) = deLetters ev nQ := by rw [deLetters, if_pos c4_1]
    exact W.iret (v := (-1)) hx hb hr (fun t ht hW => ⟨⟨(-1), (), rfl, hq9, by rw [ht]; exact hP9, va_K.moved hW.alike hK9, hD9⟩, hS.F ht⟩) hS.2.2 d_De_letters_18
  · skip
    refine lv_aload_n hx hb d_De_letters_7 rfl (lv_at hl 0 rfl) ?_
    refine va_get (D := (dC, dI)) (ci := 5) (v := .ref fl) (C := R_De) (T := F_De) (N := 12) hx hb hT (in_De) hown hK hP 0 rfl rfl 5 (by decide) (hT _ t_162) (fun _ h9 => h9) rfl d_De_letters_8 ?_
    have hPc := hP.sub (ws' := [(fl, .inr (2, [.ref fla, .int nQ])), (fla, .inl (cC, 600, .inl fQ))]) [1, 2] rfl
    have hDc := hD.sub (ws' := [(fl, .inr (2, [.ref fla, .int nQ])), (fla, .inl (cC, 600, .inl fQ))]) [1, 2] (by decide) rfl
    have hKc := hK.sub (tys' := [(cC, .char)]) [0] rfl
    have hFc := va_free (wc := [(fl, .inr (2, [.ref fla, .int nQ])), (fla, .inl (cC, 600, .inl fQ))]) hD hS hA [1, 2] rfl
    refine va_calli (va_runV (As := []) (rest := []) ⟨hx, hb, hml, hown, hT⟩ (c_Line_size l dC dI s.heap.size cC fl fla 600 fQ nQ ) (cwV 0 hT g_De_60 rfl rfl rfl (by decide +kernel) ⟨Nat.le_of_ble_eq_true rfl, Nat.le_of_ble_eq_true rfl⟩) ⟨fun a U g mk q => by obtain ⟨q0, q1, qP, qK, qD⟩ := q; exact ⟨q0, q1, qP, va_K.moved (u := U) (U := U.calling g mk a) (Vm.Alike.refl U.vm) qK, qD⟩, va_recv hKc hPc (ci := 2) (q0 := 0) rfl rfl, fun U hU hW => ⟨rfl, by rw [hU], by rw [hU]; exact hPc, va_K.moved hW.alike hKc, hDc.weaken (fun _ _ _ _ => trivial)⟩⟩ rfl rfl hl.1 rfl (lv_room (Nat.le_of_ble_eq_true rfl)) d_De_letters_11 ⟨Nat.le_of_ble_eq_true rfl, Nat.le_of_ble_eq_true rfl⟩) hS (fun q _ h => hFc q h) hFc (fun x2 u t H1 locs ht hvm w11_2 hB hz1 hk1 hS => ?_)
    obtain ⟨hP1, hK1, hD1⟩ := hB
    rw [ht] at hP1
    try dsimp only at w11_2
    obtain ⟨hP, hD⟩ := va_join (wr := [(d, .inr (5, [.ref tp, .ref vs, .ref sv, .ref fi, .ref sa, .ref fl, .ref dr, .int ev, .int cnt, .int tk, .int fk, .int fpl]))]) (w1 := [(fl, .inr (2, [.ref fla, .int nQ])), (fla, .inl (cC, 600, .inl fQ))]) hP hD [1, 2] [0] rfl rfl (by decide) (by decide) hk1 hFc hP1 hD1
    generalize H1 = H at hP hS ⊢
    have hP : va_P (dC, dI) CL [(d, .inr (5, [.ref tp, .ref vs, .ref sv, .ref fi, .ref sa, .ref fl, .ref dr, .int ev, .int cnt, .int tk, .int fk, .int fpl])), (fl, .inr (2, [.ref fla, .int nQ])), (fla, .inl (cC, 600, .inl fQ))] H := hP
    have hD : va_D A [(d, .inr (5, [.ref tp, .ref vs, .ref sv, .ref fi, .ref sa, .ref fl, .ref dr, .int ev, .int cnt, .int tk, .int fk, .int fpl])), (fl, .inr (2, [.ref fla, .int nQ])), (fla, .inl (cC, 600, .inl fQ))] := hD
    refine lv_goto (tgt := 18) hx hb d_De_letters_14 (by decide) ?_
    have hP9 := hP.sub (ws' := [(d, .inr (5, [.ref tp, .ref vs, .ref sv, .ref fi, .ref sa, .ref fl, .ref dr, .int ev, .int cnt, .int tk, .int fk, .int fpl])), (fl, .inr (2, [.ref fla, .int nQ])), (fla, .inl (cC, 600, .inl fQ))]) [0, 1, 2] rfl
    have hD9 := hD.sub (ws' := [(d, .inr (5, [.ref tp, .ref vs, .ref sv, .ref fi, .ref sa, .ref fl, .ref dr, .int ev, .int cnt, .int tk, .int fk, .int fpl])), (fl, .inr (2, [.ref fla, .int nQ])), (fla, .inl (cC, 600, .inl fQ))]) [0, 1, 2] (by decide) rfl
    have hK9 := hK.sub (tys' := [(cC, .char)]) [0] rfl
    have hq9 : x2 = deLetters ev nQ := by rw [deLetters, if_neg c4_1]; exact w11_2
    exact W.iret (v := x2) hx hb hr (fun t ht hW => ⟨⟨x2, (), rfl, hq9, by rw [ht]; exact hP9, va_K.moved hW.alike hK9, hD9⟩, hS.F ht⟩) hS.2.2 d_De_letters_18

set_option maxHeartbeats 4000000 in
set_option maxRecDepth 100000 in
theorem c_De_firstNoField (l : Launch) (dC : Nat → ClassId) (dI : Nat → Nat → Nat) (sz : Nat) (cC : ClassId) (d : Nat) (tp : Nat) (vs : Nat) (sv : Nat) (fi : Nat) (sa : Nat) (fl : Nat) (dr : Nat) (ev : Int32) (cnt : Int32) (tk : Int32) (fk : Int32) (fpl : Int32) (tpa : Nat) (ft : Nat → Int32) (nt : Int32) (mi : Int32) (pl : Int32) (ze : Int32) (sh : Int32) (bl : Int32) (sw : Int32) (sp : Int32) (wi : Int32) (pr : Int32) (le : Int32) (so : Int32) (nx : Int32) (hnt : lnOK 200 nt) : Met l y_De_firstNoField w_De_firstNoField ({ frames := 5, cells := 0, slots := 0, locals := 112 } : Room) (va_Pc [.ref d] (fun U => U.heap.size = sz ∧ va_P (dC, dI) CL [(d, .inr (5, [.ref tp, .ref vs, .ref sv, .ref fi, .ref sa, .ref fl, .ref dr, .int ev, .int cnt, .int tk, .int fk, .int fpl])), (tp, .inr (2, [.ref tpa, .int nt])), (tpa, .inl (cC, 200, .inl ft)), (fi, .inr (1, [.int mi, .int pl, .int ze, .int sh, .int bl, .int sw, .int sp, .int wi, .int pr, .int le, .int so, .int nx]))] U.heap ∧ va_K (dC, dI) CL [(cC, .char)] U ∧ va_D (fun _ => True) [(d, .inr (5, [.ref tp, .ref vs, .ref sv, .ref fi, .ref sa, .ref fl, .ref dr, .int ev, .int cnt, .int tk, .int fk, .int fpl])), (tp, .inr (2, [.ref tpa, .int nt])), (tpa, .inl (cC, 200, .inl ft)), (fi, .inr (1, [.int mi, .int pl, .int ze, .int sh, .int bl, .int sw, .int sp, .int wi, .int pr, .int le, .int so, .int nx]))] ∧ kN U)) (va_Qi (fun (r : Int32) (u : Int32 × Int32 × Int32 × Int32 × Int32 × Int32 × Int32 × Int32 × Int32 × Int32 × Int32 × Int32) => match u with | (mi2, pl2, ze2, sh2, bl2, sw2, sp2, wi2, pr2, le2, so2, nx2) => r = fnAll ft nt) (fun (u : Int32 × Int32 × Int32 × Int32 × Int32 × Int32 × Int32 × Int32 × Int32 × Int32 × Int32 × Int32) (t : State) => match u with | (mi2, pl2, ze2, sh2, bl2, sw2, sp2, wi2, pr2, le2, so2, nx2) => va_P (dC, dI) CL [(d, .inr (5, [.ref tp, .ref vs, .ref sv, .ref fi, .ref sa, .ref fl, .ref dr, .int ev, .int cnt, .int tk, .int fk, .int fpl])), (tp, .inr (2, [.ref tpa, .int nt])), (tpa, .inl (cC, 200, .inl ft)), (fi, .inr (1, [.int mi2, .int pl2, .int ze2, .int sh2, .int bl2, .int sw2, .int sp2, .int wi2, .int pr2, .int le2, .int so2, .int nx2]))] t.heap ∧ va_K (dC, dI) CL [(cC, .char)] t ∧ va_D (va_A [(d, .inr (5, [.ref tp, .ref vs, .ref sv, .ref fi, .ref sa, .ref fl, .ref dr, .int ev, .int cnt, .int tk, .int fk, .int fpl])), (tp, .inr (2, [.ref tpa, .int nt])), (tpa, .inl (cC, 200, .inl ft)), (fi, .inr (1, [.int mi, .int pl, .int ze, .int sh, .int bl, .int sw, .int sp, .int wi, .int pr, .int le, .int so, .int nx]))] sz) [(d, .inr (5, [.ref tp, .ref vs, .ref sv, .ref fi, .ref sa, .ref fl, .ref dr, .int ev, .int cnt, .int tk, .int fk, .int fpl])), (tp, .inr (2, [.ref tpa, .int nt])), (tpa, .inl (cC, 200, .inl ft)), (fi, .inr (1, [.int mi2, .int pl2, .int ze2, .int sh2, .int bl2, .int sw2, .int sp2, .int wi2, .int pr2, .int le2, .int so2, .int nx2]))]) (va_A [(d, .inr (5, [.ref tp, .ref vs, .ref sv, .ref fi, .ref sa, .ref fl, .ref dr, .int ev, .int cnt, .int tk, .int fk, .int fpl])), (tp, .inr (2, [.ref tpa, .int nt])), (tpa, .inl (cC, 200, .inl ft)), (fi, .inr (1, [.int mi, .int pl, .int ze, .int sh, .int bl, .int sw, .int sp, .int wi, .int pr, .int le, .int so, .int nx]))] sz)) 0 0 (va_A [(d, .inr (5, [.ref tp, .ref vs, .ref sv, .ref fi, .ref sa, .ref fl, .ref dr, .int ev, .int cnt, .int tk, .int fk, .int fpl])), (tp, .inr (2, [.ref tpa, .int nt])), (tpa, .inl (cC, 200, .inl ft)), (fi, .inr (1, [.int mi, .int pl, .int ze, .int sh, .int bl, .int sw, .int sp, .int wi, .int pr, .int le, .int so, .int nx]))] sz) := by
  refine Met.ofW (cc := b_De_firstNoField) (maxL := 3) (ret := (some .int)) (by decide) rfl ?_
  intro p e s m args below meth c s₁ B hml hv
  obtain ⟨rfl, hsz, hP, hK, hD0, hN⟩ := hv
  have hx := B.exec
  have hb := B.bytes
  have hr := B.returns
  have hts := atoms_spec (ws := w_De_firstNoField) B.pre
  have hT : ∀ w ∈ TB, w.before _ s = true := fun w h => hts w (List.mem_cons_of_mem _ h)
  have hown : s.vm.findClass R_De = some m.cls := findClass_of_methodNamed B.named
  have hlocks := B.notSynchronized
  subst hsz
  have hD := hD0.self (sz := s.heap.size)
  generalize hAe : va_A [(d, .inr (5, [.ref tp, .ref vs, .ref sv, .ref fi, .ref sa, .ref fl, .ref dr, .int ev, .int cnt, .int tk, .int fk, .int fpl])), (tp, .inr (2, [.ref tpa, .int nt])), (tpa, .inl (cC, 200, .inl ft)), (fi, .inr (1, [.int mi, .int pl, .int ze, .int sh, .int bl, .int sw, .int sp, .int wi, .int pr, .int le, .int so, .int nx]))] s.heap.size = A at hD ⊢
  have hA : ∀ q : Nat, s.heap.size ≤ q → A q := fun q h => by rw [← hAe]; exact Or.inr h
  have hS : va_S A s.heap s.heap [] := va_S.rf
  have hP : va_P (dC, dI) CL [(d, .inr (5, [.ref tp, .ref vs, .ref sv, .ref fi, .ref sa, .ref fl, .ref dr, .int ev, .int cnt, .int tk, .int fk, .int fpl])), (tp, .inr (2, [.ref tpa, .int nt])), (tpa, .inl (cC, 200, .inl ft)), (fi, .inr (1, [.int mi, .int pl, .int ze, .int sh, .int bl, .int sw, .int sp, .int wi, .int pr, .int le, .int so, .int nx]))] s.heap := hP
  have hl := lv_entry ([.ref d]) (n := 3) (Nat.le_of_ble_eq_true rfl)
  rw [lg_entry_eq]
  generalize (lg_sl ([.ref d]) ++ List.replicate (3 - (lg_sl ([.ref d])).length) Slot.unset).toArray = ls at hl ⊢
  have hl : lv_has ls 3 [(0, .ref d)] := hl
  refine k_Q (fun Q hQ => ?_)
  refine lv_iconst (v := 0) hx hb d_De_firstNoField_0 (by decide) ?_
  refine lv_istore_n (lv' := [(1, .int 0), (0, .ref d)]) hx hb d_De_firstNoField_1 rfl hl (by decide) rfl (fun ls hl => ?_)
  refine lv_iconst (v := 0) hx hb d_De_firstNoField_2 (by decide) ?_
  refine lv_istore_n (lv' := [(2, .int 0), (1, .int 0), (0, .ref d)]) hx hb d_De_firstNoField_3 rfl hl (by decide) rfl (fun ls hl => ?_)
  have loop4 : ∀ (fuel : Nat) (k9 : Int32) (p9 : Int32) (mi1 : Int32) (pl1 : Int32) (ze1 : Int32) (sh1 : Int32) (bl1 : Int32) (sw1 : Int32) (sp1 : Int32) (wi1 : Int32) (pr1 : Int32) (le1 : Int32) (so1 : Int32) (nx1 : Int32) (H : Heap) (locs : List Loc) (ls : Array Slot), (((200 : Int32).toInt - k9.toInt).toNat < fuel) → (fnGo ft nt fuel k9 p9 = fnAll ft nt) → va_P (dC, dI) CL [(d, .inr (5, [.ref tp, .ref vs, .ref sv, .ref fi, .ref sa, .ref fl, .ref dr, .int ev, .int cnt, .int tk, .int fk, .int fpl])), (tp, .inr (2, [.ref tpa, .int nt])), (tpa, .inl (cC, 200, .inl ft)), (fi, .inr (1, [.int mi1, .int pl1, .int ze1, .int sh1, .int bl1, .int sw1, .int sp1, .int wi1, .int pr1, .int le1, .int so1, .int nx1]))] H → va_D A [(d, .inr (5, [.ref tp, .ref vs, .ref sv, .ref fi, .ref sa, .ref fl, .ref dr, .int ev, .int cnt, .int tk, .int fk, .int fpl])), (tp, .inr (2, [.ref tpa, .int nt])), (tpa, .inl (cC, 200, .inl ft)), (fi, .inr (1, [.int mi1, .int pl1, .int ze1, .int sh1, .int bl1, .int sw1, .int sp1, .int wi1, .int pr1, .int le1, .int so1, .int nx1]))] → va_S A s.heap H locs → lv_has ls 3 [(2, .int k9), (1, .int p9), (0, .ref d)] → W p l e (headSpec w_De_firstNoField ({ frames := 5, cells := 0, slots := 0, locals := 112 } : Room)).room s m ([.ref d] : List Value).toArray below meth c H locs 0 0 Q (F0 m 4 ls []) := by
    intro fuel
    induction fuel with
    | zero =>
      intro k9 p9 mi1 pl1 ze1 sh1 bl1 sw1 sp1 wi1 pr1 le1 so1 nx1 H locs ls hk hG hP hD hS hl
      exact absurd hk (Nat.not_lt_zero _)
    | succ fuel ih =>
      intro k9 p9 mi1 pl1 ze1 sh1 bl1 sw1 sp1 wi1 pr1 le1 so1 nx1 H locs ls hk hG hP hD hS hl
      refine lv_iload_n hx hb d_De_firstNoField_4 rfl (lv_at hl 0 rfl) ?_
      refine lv_sipush (v := 200) hx hb d_De_firstNoField_5 (by decide) ?_
      refine lv_icmp_ge (tgt := 73) hx hb d_De_firstNoField_8 (by decide) (fun c8_1 => ?_) (fun c8_1 => ?_)
      · skip
        refine lv_iconst (v := (-1)) hx hb d_De_firstNoField_73 (by decide) ?_
        have hP9 := hP.sub (ws' := [(d, .inr (5, [.ref tp, .ref vs, .ref sv, .ref fi, .ref sa, .ref fl, .ref dr, .int ev, .int cnt, .int tk, .int fk, .int fpl])), (tp, .inr (2, [.ref tpa, .int nt])), (tpa, .inl (cC, 200, .inl ft)), (fi, .inr (1, [.int mi1, .int pl1, .int ze1, .int sh1, .int bl1, .int sw1, .int sp1, .int wi1, .int pr1, .int le1, .int so1, .int nx1]))]) [0, 1, 2, 3] rfl
        have hD9 := hD.sub (ws' := [(d, .inr (5, [.ref tp, .ref vs, .ref sv, .ref fi, .ref sa, .ref fl, .ref dr, .int ev, .int cnt, .int tk, .int fk, .int fpl])), (tp, .inr (2, [.ref tpa, .int nt])), (tpa, .inl (cC, 200, .inl ft)), (fi, .inr (1, [.int mi1, .int pl1, .int ze1, .int sh1, .int bl1, .int sw1, .int sp1, .int wi1, .int pr1, .int le1, .int so1, .int nx1]))]) [0, 1, 2, 3] (by decide) rfl
        have hK9 := hK.sub (tys' := [(cC, .char)]) [0] rfl
        have hq9 : (-1 : Int32) = fnAll ft nt := by have h9 := hG; rw [fnGo, if_pos c8_1] at h9; exact h9
        subst hQ
        exact W.iret (v := (-1)) hx hb hr (fun t ht hW => ⟨⟨(-1), (mi1, pl1, ze1, sh1, bl1, sw1, sp1, wi1, pr1, le1, so1, nx1), rfl, hq9, by rw [ht]; exact hP9, va_K.moved hW.alike hK9, hD9⟩, hS.F ht⟩) hS.2.2 d_De_firstNoField_74
      · skip
        refine lv_iload_n hx hb d_De_firstNoField_11 rfl (lv_at hl 1 rfl) ?_
        refine lv_aload_n hx hb d_De_firstNoField_12 rfl (lv_at hl 2 rfl) ?_
        refine va_get (D := (dC, dI)) (ci := 5) (v := .ref tp) (C := R_De) (T := F_De) (N := 12) hx hb hT (in_De) hown hK hP 0 rfl rfl 0 (by decide) (hT _ t_157) (fun _ h9 => h9) rfl d_De_firstNoField_13 ?_
        have hPc := hP.sub (ws' := [(tp, .inr (2, [.ref tpa, .int nt])), (tpa, .inl (cC, 200, .inl ft))]) [1, 2] rfl
        have hDc := hD.sub (ws' := [(tp, .inr (2, [.ref tpa, .int nt])), (tpa, .inl (cC, 200, .inl ft))]) [1, 2] (by decide) rfl
        have hKc := hK.sub (tys' := [(cC, .char)]) [0] rfl
        have hFc := va_free (wc := [(tp, .inr (2, [.ref tpa, .int nt])), (tpa, .inl (cC, 200, .inl ft))]) hD hS hA [1, 2] rfl
        refine va_calli (va_runV (As := []) (rest := [.int p9]) ⟨hx, hb, hml, hown, hT⟩ (c_Line_size l dC dI H.size cC tp tpa 200 ft nt ) (cwV 0 hT g_De_60 rfl rfl rfl (by decide +kernel) ⟨Nat.le_of_ble_eq_true rfl, Nat.le_of_ble_eq_true rfl⟩) ⟨fun a U g mk q => by obtain ⟨q0, q1, qP, qK, qD⟩ := q; exact ⟨q0, q1, qP, va_K.moved (u := U) (U := U.calling g mk a) (Vm.Alike.refl U.vm) qK, qD⟩, va_recv hKc hPc (ci := 2) (q0 := 0) rfl rfl, fun U hU hW => ⟨rfl, by rw [hU], by rw [hU]; exact hPc, va_K.moved hW.alike hKc, hDc.weaken (fun _ _ _ _ => trivial)⟩⟩ rfl rfl hl.1 rfl (lv_room (Nat.le_of_ble_eq_true rfl)) d_De_firstNoField_16 ⟨Nat.le_of_ble_eq_true rfl, Nat.le_of_ble_eq_true rfl⟩) hS (fun q _ h => hFc q h) hFc (fun x2 u t H1 locs ht hvm w16_2 hB hz1 hk1 hS => ?_)
        obtain ⟨hP1, hK1, hD1⟩ := hB
        rw [ht] at hP1
        try dsimp only at w16_2
        obtain ⟨hP, hD⟩ := va_join (wr := [(d, .inr (5, [.ref tp, .ref vs, .ref sv, .ref fi, .ref sa, .ref fl, .ref dr, .int ev, .int cnt, .int tk, .int fk, .int fpl])), (fi, .inr (1, [.int mi1, .int pl1, .int ze1, .int sh1, .int bl1, .int sw1, .int sp1, .int wi1, .int pr1, .int le1, .int so1, .int nx1]))]) (w1 := [(tp, .inr (2, [.ref tpa, .int nt])), (tpa, .inl (cC, 200, .inl ft))]) hP hD [1, 2] [0, 3] rfl rfl (by decide) (by decide) hk1 hFc hP1 hD1
        generalize H1 = H at hP hS ⊢
        have hP : va_P (dC, dI) CL [(d, .inr (5, [.ref tp, .ref vs, .ref sv, .ref fi, .ref sa, .ref fl, .ref dr, .int ev, .int cnt, .int tk, .int fk, .int fpl])), (fi, .inr (1, [.int mi1, .int pl1, .int ze1, .int sh1, .int bl1, .int sw1, .int sp1, .int wi1, .int pr1, .int le1, .int so1, .int nx1])), (tp, .inr (2, [.ref tpa, .int nt])), (tpa, .inl (cC, 200, .inl ft))] H := hP
        have hD : va_D A [(d, .inr (5, [.ref tp, .ref vs, .ref sv, .ref fi, .ref sa, .ref fl, .ref dr, .int ev, .int cnt, .int tk, .int fk, .int fpl])), (fi, .inr (1, [.int mi1, .int pl1, .int ze1, .int sh1, .int bl1, .int sw1, .int sp1, .int wi1, .int pr1, .int le1, .int so1, .int nx1])), (tp, .inr (2, [.ref tpa, .int nt])), (tpa, .inl (cC, 200, .inl ft))] := hD
        refine lv_icmp_ge (tgt := 73) hx hb d_De_firstNoField_19 (by decide) (fun c19_3 => ?_) (fun c19_3 => ?_)
        · skip
          rw [w16_2] at c19_3
          refine lv_iconst (v := (-1)) hx hb d_De_firstNoField_73 (by decide) ?_
          have hP9 := hP.sub (ws' := [(d, .inr (5, [.ref tp, .ref vs, .ref sv, .ref fi, .ref sa, .ref fl, .ref dr, .int ev, .int cnt, .int tk, .int fk, .int fpl])), (tp, .inr (2, [.ref tpa, .int nt])), (tpa, .inl (cC, 200, .inl ft)), (fi, .inr (1, [.int mi1, .int pl1, .int ze1, .int sh1, .int bl1, .int sw1, .int sp1, .int wi1, .int pr1, .int le1, .int so1, .int nx1]))]) [0, 2, 3, 1] rfl
          have hD9 := hD.sub (ws' := [(d, .inr (5, [.ref tp, .ref vs, .ref sv, .ref fi, .ref sa, .ref fl, .ref dr, .int ev, .int cnt, .int tk, .int fk, .int fpl])), (tp, .inr (2, [.ref tpa, .int nt])), (tpa, .inl (cC, 200, .inl ft)), (fi, .inr (1, [.int mi1, .int pl1, .int ze1, .int sh1, .int bl1, .int sw1, .int sp1, .int wi1, .int pr1, .int le1, .int so1, .int nx1]))]) [0, 2, 3, 1] (by decide) rfl
          have hK9 := hK.sub (tys' := [(cC, .char)]) [0] rfl
          have hq9 : (-1 : Int32) = fnAll ft nt := by have h9 := hG; rw [fnGo, if_neg c8_1, if_pos c19_3] at h9; exact h9
          subst hQ
          exact W.iret (v := (-1)) hx hb hr (fun t ht hW => ⟨⟨(-1), (mi1, pl1, ze1, sh1, bl1, sw1, sp1, wi1, pr1, le1, so1, nx1), rfl, hq9, by rw [ht]; exact hP9, va_K.moved hW.alike hK9, hD9⟩, hS.F ht⟩) hS.2.2 d_De_firstNoField_74
        · skip
          rw [w16_2] at c19_3
          refine lv_aload_n hx hb d_De_firstNoField_22 rfl (lv_at hl 2 rfl) ?_
          refine lv_iload_n hx hb d_De_firstNoField_23 rfl (lv_at hl 1 rfl) ?_
          have hPc := hP.sub (ws' := [(d, .inr (5, [.ref tp, .ref vs, .ref sv, .ref fi, .ref sa, .ref fl, .ref dr, .int ev, .int cnt, .int tk, .int fk, .int fpl])), (tp, .inr (2, [.ref tpa, .int nt])), (tpa, .inl (cC, 200, .inl ft))]) [0, 2, 3] rfl
          have hDc := hD.sub (ws' := [(d, .inr (5, [.ref tp, .ref vs, .ref sv, .ref fi, .ref sa, .ref fl, .ref dr, .int ev, .int cnt, .int tk, .int fk, .int fpl])), (tp, .inr (2, [.ref tpa, .int nt])), (tpa, .inl (cC, 200, .inl ft))]) [0, 2, 3] (by decide) rfl
          have hKc := hK.sub (tys' := [(cC, .char)]) [0] rfl
          have hFc := va_free (wc := [(d, .inr (5, [.ref tp, .ref vs, .ref sv, .ref fi, .ref sa, .ref fl, .ref dr, .int ev, .int cnt, .int tk, .int fk, .int fpl])), (tp, .inr (2, [.ref tpa, .int nt])), (tpa, .inl (cC, 200, .inl ft))]) hD hS hA [0, 2, 3] rfl
          refine va_calli (va_runV (As := [.int p9]) (rest := []) ⟨hx, hb, hml, hown, hT⟩ (c_De_startsField l dC dI H.size cC d tp vs sv fi sa fl dr ev cnt tk fk fpl tpa ft nt p9 hnt) (cwV 1 hT g_De_126 rfl rfl rfl (by decide +kernel) ⟨Nat.le_of_ble_eq_true rfl, Nat.le_of_ble_eq_true rfl⟩) ⟨fun a U g mk q => by obtain ⟨q0, q1, qP, qK, qD⟩ := q; exact ⟨q0, q1, qP, va_K.moved (u := U) (U := U.calling g mk a) (Vm.Alike.refl U.vm) qK, qD⟩, va_recv hKc hPc (ci := 5) (q0 := 0) rfl rfl, fun U hU hW => ⟨rfl, by rw [hU], by rw [hU]; exact hPc, va_K.moved hW.alike hKc, hDc.weaken (fun _ _ _ _ => trivial)⟩⟩ rfl rfl hl.1 rfl (lv_room (Nat.le_of_ble_eq_true rfl)) d_De_firstNoField_24 ⟨Nat.le_of_ble_eq_true rfl, Nat.le_of_ble_eq_true rfl⟩) hS (fun q _ h => hFc q h) hFc (fun x4 u t H1 locs ht hvm w24_4 hB hz1 hk1 hS => ?_)
          obtain ⟨hP1, hK1, hD1⟩ := hB
          rw [ht] at hP1
          try dsimp only at w24_4
          obtain ⟨hP, hD⟩ := va_join (wr := [(fi, .inr (1, [.int mi1, .int pl1, .int ze1, .int sh1, .int bl1, .int sw1, .int sp1, .int wi1, .int pr1, .int le1, .int so1, .int nx1]))]) (w1 := [(d, .inr (5, [.ref tp, .ref vs, .ref sv, .ref fi, .ref sa, .ref fl, .ref dr, .int ev, .int cnt, .int tk, .int fk, .int fpl])), (tp, .inr (2, [.ref tpa, .int nt])), (tpa, .inl (cC, 200, .inl ft))]) hP hD [0, 2, 3] [1] rfl rfl (by decide) (by decide) hk1 hFc hP1 hD1
          generalize H1 = H at hP hS ⊢
          have hP : va_P (dC, dI) CL [(fi, .inr (1, [.int mi1, .int pl1, .int ze1, .int sh1, .int bl1, .int sw1, .int sp1, .int wi1, .int pr1, .int le1, .int so1, .int nx1])), (d, .inr (5, [.ref tp, .ref vs, .ref sv, .ref fi, .ref sa, .ref fl, .ref dr, .int ev, .int cnt, .int tk, .int fk, .int fpl])), (tp, .inr (2, [.ref tpa, .int nt])), (tpa, .inl (cC, 200, .inl ft))] H := hP
          have hD : va_D A [(fi, .inr (1, [.int mi1, .int pl1, .int ze1, .int sh1, .int bl1, .int sw1, .int sp1, .int wi1, .int pr1, .int le1, .int so1, .int nx1])), (d, .inr (5, [.ref tp, .ref vs, .ref sv, .ref fi, .ref sa, .ref fl, .ref dr, .int ev, .int cnt, .int tk, .int fk, .int fpl])), (tp, .inr (2, [.ref tpa, .int nt])), (tpa, .inl (cC, 200, .inl ft))] := hD
          refine lv_if_ne (tgt := 39) hx hb d_De_firstNoField_27 (by decide) (fun c27_5 => ?_) (fun c27_5 => ?_)
          · skip
            have hsf := k_bT1 c27_5 w24_4
            refine lv_aload_n hx hb d_De_firstNoField_39 rfl (lv_at hl 2 rfl) ?_
            refine va_get (D := (dC, dI)) (ci := 5) (v := .ref fi) (C := R_De) (T := F_De) (N := 12) hx hb hT (in_De) hown hK hP 1 rfl rfl 3 (by decide) (hT _ t_160) (fun _ h9 => h9) rfl d_De_firstNoField_40 ?_
            refine lv_aload_n hx hb d_De_firstNoField_43 rfl (lv_at hl 2 rfl) ?_
            refine va_get (D := (dC, dI)) (ci := 5) (v := .ref tp) (C := R_De) (T := F_De) (N := 12) hx hb hT (in_De) hown hK hP 1 rfl rfl 0 (by decide) (hT _ t_157) (fun _ h9 => h9) rfl d_De_firstNoField_44 ?_
            refine lv_iload_n hx hb d_De_firstNoField_47 rfl (lv_at hl 1 rfl) ?_
            have hPc := hP.sub (ws' := [(fi, .inr (1, [.int mi1, .int pl1, .int ze1, .int sh1, .int bl1, .int sw1, .int sp1, .int wi1, .int pr1, .int le1, .int so1, .int nx1])), (tp, .inr (2, [.ref tpa, .int nt])), (tpa, .inl (cC, 200, .inl ft))]) [0, 2, 3] rfl
            have hDc := hD.sub (ws' := [(fi, .inr (1, [.int mi1, .int pl1, .int ze1, .int sh1, .int bl1, .int sw1, .int sp1, .int wi1, .int pr1, .int le1, .int so1, .int nx1])), (tp, .inr (2, [.ref tpa, .int nt])), (tpa, .inl (cC, 200, .inl ft))]) [0, 2, 3] (by decide) rfl
            have hKc := hK.sub (tys' := [(cC, .char)]) [0] rfl
            have hFc := va_free (wc := [(fi, .inr (1, [.int mi1, .int pl1, .int ze1, .int sh1, .int bl1, .int sw1, .int sp1, .int wi1, .int pr1, .int le1, .int so1, .int nx1])), (tp, .inr (2, [.ref tpa, .int nt])), (tpa, .inl (cC, 200, .inl ft))]) hD hS hA [0, 2, 3] rfl
            refine va_calli (va_runV (As := [.ref tp, .int p9]) (rest := []) ⟨hx, hb, hml, hown, hT⟩ (c_Field_read l dC dI H.size cC fi mi1 pl1 ze1 sh1 bl1 sw1 sp1 wi1 pr1 le1 so1 nx1 tp tpa 200 ft nt p9 hnt) (cwV 2 hT g_De_132 rfl rfl rfl (by decide +kernel) ⟨Nat.le_of_ble_eq_true rfl, Nat.le_of_ble_eq_true rfl⟩) ⟨fun a U g mk q => by obtain ⟨q0, q1, qP, qK, qD⟩ := q; exact ⟨q0, q1, qP, va_K.moved (u := U) (U := U.calling g mk a) (Vm.Alike.refl U.vm) qK, qD⟩, va_recv hKc hPc (ci := 1) (q0 := 0) rfl rfl, fun U hU hW => ⟨rfl, by rw [hU], by rw [hU]; exact hPc, va_K.moved hW.alike hKc, hDc.weaken (fun _ _ _ _ => trivial)⟩⟩ rfl rfl hl.1 rfl (lv_room (Nat.le_of_ble_eq_true rfl)) d_De_firstNoField_48 ⟨Nat.le_of_ble_eq_true rfl, Nat.le_of_ble_eq_true rfl⟩) hS (fun q _ h => hFc q h) hFc (fun x6 u t H1 locs ht hvm w48_18 hB hz1 hk1 hS => ?_)
            obtain ⟨mi_7, pl_8, ze_9, sh_10, bl_11, sw_12, sp_13, wi_14, pr_15, le_16, so_17, nx_18⟩ := u
            obtain ⟨hP1, hK1, hD1⟩ := hB
            rw [ht] at hP1
            try dsimp only at w48_18
            obtain ⟨w48_18, w48_18b⟩ := w48_18
            obtain ⟨hP, hD⟩ := va_join (wr := [(d, .inr (5, [.ref tp, .ref vs, .ref sv, .ref fi, .ref sa, .ref fl, .ref dr, .int ev, .int cnt, .int tk, .int fk, .int fpl]))]) (w1 := [(fi, .inr (1, [.int mi_7, .int pl_8, .int ze_9, .int sh_10, .int bl_11, .int sw_12, .int sp_13, .int wi_14, .int pr_15, .int le_16, .int so_17, .int nx_18])), (tp, .inr (2, [.ref tpa, .int nt])), (tpa, .inl (cC, 200, .inl ft))]) hP hD [0, 2, 3] [1] rfl rfl (by decide) (by decide) hk1 hFc hP1 hD1
            generalize H1 = H at hP hS ⊢
            have hP : va_P (dC, dI) CL [(d, .inr (5, [.ref tp, .ref vs, .ref sv, .ref fi, .ref sa, .ref fl, .ref dr, .int ev, .int cnt, .int tk, .int fk, .int fpl])), (fi, .inr (1, [.int mi_7, .int pl_8, .int ze_9, .int sh_10, .int bl_11, .int sw_12, .int sp_13, .int wi_14, .int pr_15, .int le_16, .int so_17, .int nx_18])), (tp, .inr (2, [.ref tpa, .int nt])), (tpa, .inl (cC, 200, .inl ft))] H := hP
            have hD : va_D A [(d, .inr (5, [.ref tp, .ref vs, .ref sv, .ref fi, .ref sa, .ref fl, .ref dr, .int ev, .int cnt, .int tk, .int fk, .int fpl])), (fi, .inr (1, [.int mi_7, .int pl_8, .int ze_9, .int sh_10, .int bl_11, .int sw_12, .int sp_13, .int wi_14, .int pr_15, .int le_16, .int so_17, .int nx_18])), (tp, .inr (2, [.ref tpa, .int nt])), (tpa, .inl (cC, 200, .inl ft))] := hD
            have hq1 : frSo (fiRead ft nt p9) = so_17 := by rw [← w48_18]; rfl
            have hq2 : frNx (fiRead ft nt p9) = nx_18 := by rw [← w48_18]; rfl
            refine lv_if_eq (tgt := 65) hx hb d_De_firstNoField_51 (by decide) (fun c51_19 => ?_) (fun c51_19 => ?_)
            · skip
              have hso : so_17 = 0 := by have q := k_bF1 c51_19 w48_18b; simpa using q
              refine lv_iload_n hx hb d_De_firstNoField_65 rfl (lv_at hl 1 rfl) ?_
              have hP9 := hP.sub (ws' := [(d, .inr (5, [.ref tp, .ref vs, .ref sv, .ref fi, .ref sa, .ref fl, .ref dr, .int ev, .int cnt, .int tk, .int fk, .int fpl])), (tp, .inr (2, [.ref tpa, .int nt])), (tpa, .inl (cC, 200, .inl ft)), (fi, .inr (1, [.int mi_7, .int pl_8, .int ze_9, .int sh_10, .int bl_11, .int sw_12, .int sp_13, .int wi_14, .int pr_15, .int le_16, .int so_17, .int nx_18]))]) [0, 2, 3, 1] rfl
              have hD9 := hD.sub (ws' := [(d, .inr (5, [.ref tp, .ref vs, .ref sv, .ref fi, .ref sa, .ref fl, .ref dr, .int ev, .int cnt, .int tk, .int fk, .int fpl])), (tp, .inr (2, [.ref tpa, .int nt])), (tpa, .inl (cC, 200, .inl ft)), (fi, .inr (1, [.int mi_7, .int pl_8, .int ze_9, .int sh_10, .int bl_11, .int sw_12, .int sp_13, .int wi_14, .int pr_15, .int le_16, .int so_17, .int nx_18]))]) [0, 2, 3, 1] (by decide) rfl
              have hK9 := hK.sub (tys' := [(cC, .char)]) [0] rfl
              have hq9 : p9 = fnAll ft nt := by have h9 := hG; rw [fnGo, if_neg c8_1, if_neg c19_3, if_pos hsf, hq1, if_pos hso] at h9; exact h9
              subst hQ
              exact W.iret (v := p9) hx hb hr (fun t ht hW => ⟨⟨p9, (mi_7, pl_8, ze_9, sh_10, bl_11, sw_12, sp_13, wi_14, pr_15, le_16, so_17, nx_18), rfl, hq9, by rw [ht]; exact hP9, va_K.moved hW.alike hK9, hD9⟩, hS.F ht⟩) hS.2.2 d_De_firstNoField_66
            · skip
              have hso : ¬ so_17 = 0 := by have q := k_bT1 c51_19 w48_18b; simpa using q
              refine lv_aload_n hx hb d_De_firstNoField_54 rfl (lv_at hl 2 rfl) ?_
              refine va_get (D := (dC, dI)) (ci := 5) (v := .ref fi) (C := R_De) (T := F_De) (N := 12) hx hb hT (in_De) hown hK hP 0 rfl rfl 3 (by decide) (hT _ t_160) (fun _ h9 => h9) rfl d_De_firstNoField_55 ?_
              refine va_getN (D := (dC, dI)) (ci := 1) (v := .int nx_18) (C := R_Fi) (T := F_Fi) (N := 12) hx hb hT (in_Fi) hown hK hP 1 rfl rfl 11 (by decide) (va_Nw.use rfl (kN_96 hN)) (fun _ h9 => h9) rfl d_De_firstNoField_58 ?_
              refine lv_istore_n (lv' := [(1, .int nx_18), (2, .int k9), (0, .ref d)]) hx hb d_De_firstNoField_61 rfl hl (by decide) rfl (fun ls hl => ?_)
              refine lv_goto (tgt := 67) hx hb d_De_firstNoField_62 (by decide) ?_
              obtain ⟨x20, ex20⟩ : ∃ y : Int32, y = k9 + 1 := ⟨_, rfl⟩
              refine lv_iinc (v := x20) (lv' := [(2, .int x20), (1, .int nx_18), (0, .ref d)]) hx hb d_De_firstNoField_67 hl (k := 1) rfl (by rw [ex20]; rfl) (by decide) rfl (fun ls hl => ?_)
              refine lv_goto (tgt := 4) hx hb d_De_firstNoField_70 (by decide) ?_
              exact ih x20 nx_18 mi_7 pl_8 ze_9 sh_10 bl_11 sw_12 sp_13 wi_14 pr_15 le_16 so_17 nx_18 _ _ _ (by rw [ex20]; exact k_fuel c8_1 hk) (by have h9 := hG; rw [fnGo, if_neg c8_1, if_neg c19_3, if_pos hsf, hq1, if_neg hso, hq2] at h9; rw [ex20]; exact h9) (hP.sub [0, 2, 3, 1] rfl) (hD.sub [0, 2, 3, 1] (by decide) rfl) hS (lv_sub hl [0, 1, 2] rfl)
          · skip
            have hsf := k_bF1 c27_5 w24_4
            refine lv_aload_n hx hb d_De_firstNoField_30 rfl (lv_at hl 2 rfl) ?_
            refine lv_iload_n hx hb d_De_firstNoField_31 rfl (lv_at hl 1 rfl) ?_
            have hPc := hP.sub (ws' := [(d, .inr (5, [.ref tp, .ref vs, .ref sv, .ref fi, .ref sa, .ref fl, .ref dr, .int ev, .int cnt, .int tk, .int fk, .int fpl])), (tp, .inr (2, [.ref tpa, .int nt])), (tpa, .inl (cC, 200, .inl ft))]) [1, 2, 3] rfl
            have hDc := hD.sub (ws' := [(d, .inr (5, [.ref tp, .ref vs, .ref sv, .ref fi, .ref sa, .ref fl, .ref dr, .int ev, .int cnt, .int tk, .int fk, .int fpl])), (tp, .inr (2, [.ref tpa, .int nt])), (tpa, .inl (cC, 200, .inl ft))]) [1, 2, 3] (by decide) rfl
            have hKc := hK.sub (tys' := [(cC, .char)]) [0] rfl
            have hFc := va_free (wc := [(d, .inr (5, [.ref tp, .ref vs, .ref sv, .ref fi, .ref sa, .ref fl, .ref dr, .int ev, .int cnt, .int tk, .int fk, .int fpl])), (tp, .inr (2, [.ref tpa, .int nt])), (tpa, .inl (cC, 200, .inl ft))]) hD hS hA [1, 2, 3] rfl
            refine va_calli (va_runV (As := [.int p9]) (rest := []) ⟨hx, hb, hml, hown, hT⟩ (c_De_behindMark l dC dI H.size cC d tp vs sv fi sa fl dr ev cnt tk fk fpl tpa ft nt p9 hnt) (cwV 1 hT g_De_129 rfl rfl rfl (by decide +kernel) ⟨Nat.le_of_ble_eq_true rfl, Nat.le_of_ble_eq_true rfl⟩) ⟨fun a U g mk q => by obtain ⟨q0, q1, qP, qK, qD⟩ := q; exact ⟨q0, q1, qP, va_K.moved (u := U) (U := U.calling g mk a) (Vm.Alike.refl U.vm) qK, qD⟩, va_recv hKc hPc (ci := 5) (q0 := 0) rfl rfl, fun U hU hW => ⟨rfl, by rw [hU], by rw [hU]; exact hPc, va_K.moved hW.alike hKc, hDc.weaken (fun _ _ _ _ => trivial)⟩⟩ rfl rfl hl.1 rfl (lv_room (Nat.le_of_ble_eq_true rfl)) d_De_firstNoField_32 ⟨Nat.le_of_ble_eq_true rfl, Nat.le_of_ble_eq_true rfl⟩) hS (fun q _ h => hFc q h) hFc (fun x21 u t H1 locs ht hvm w32_21 hB hz1 hk1 hS => ?_)
            obtain ⟨hP1, hK1, hD1⟩ := hB
            rw [ht] at hP1
            try dsimp only at w32_21
            obtain ⟨hP, hD⟩ := va_join (wr := [(fi, .inr (1, [.int mi1, .int pl1, .int ze1, .int sh1, .int bl1, .int sw1, .int sp1, .int wi1, .int pr1, .int le1, .int so1, .int nx1]))]) (w1 := [(d, .inr (5, [.ref tp, .ref vs, .ref sv, .ref fi, .ref sa, .ref fl, .ref dr, .int ev, .int cnt, .int tk, .int fk, .int fpl])), (tp, .inr (2, [.ref tpa, .int nt])), (tpa, .inl (cC, 200, .inl ft))]) hP hD [1, 2, 3] [0] rfl rfl (by decide) (by decide) hk1 hFc hP1 hD1
            generalize H1 = H at hP hS ⊢
            have hP : va_P (dC, dI) CL [(fi, .inr (1, [.int mi1, .int pl1, .int ze1, .int sh1, .int bl1, .int sw1, .int sp1, .int wi1, .int pr1, .int le1, .int so1, .int nx1])), (d, .inr (5, [.ref tp, .ref vs, .ref sv, .ref fi, .ref sa, .ref fl, .ref dr, .int ev, .int cnt, .int tk, .int fk, .int fpl])), (tp, .inr (2, [.ref tpa, .int nt])), (tpa, .inl (cC, 200, .inl ft))] H := hP
            have hD : va_D A [(fi, .inr (1, [.int mi1, .int pl1, .int ze1, .int sh1, .int bl1, .int sw1, .int sp1, .int wi1, .int pr1, .int le1, .int so1, .int nx1])), (d, .inr (5, [.ref tp, .ref vs, .ref sv, .ref fi, .ref sa, .ref fl, .ref dr, .int ev, .int cnt, .int tk, .int fk, .int fpl])), (tp, .inr (2, [.ref tpa, .int nt])), (tpa, .inl (cC, 200, .inl ft))] := hD
            refine lv_istore_n (lv' := [(1, .int x21), (2, .int k9), (0, .ref d)]) hx hb d_De_firstNoField_35 rfl hl (by decide) rfl (fun ls hl => ?_)
            refine lv_goto (tgt := 67) hx hb d_De_firstNoField_36 (by decide) ?_
            obtain ⟨x22, ex22⟩ : ∃ y : Int32, y = k9 + 1 := ⟨_, rfl⟩
            refine lv_iinc (v := x22) (lv' := [(2, .int x22), (1, .int x21), (0, .ref d)]) hx hb d_De_firstNoField_67 hl (k := 1) rfl (by rw [ex22]; rfl) (by decide) rfl (fun ls hl => ?_)
            refine lv_goto (tgt := 4) hx hb d_De_firstNoField_70 (by decide) ?_
            exact ih x22 x21 mi1 pl1 ze1 sh1 bl1 sw1 sp1 wi1 pr1 le1 so1 nx1 _ _ _ (by rw [ex22]; exact k_fuel c8_1 hk) (by have h9 := hG; rw [fnGo, if_neg c8_1, if_neg c19_3, if_neg hsf] at h9; rw [ex22, w32_21]; exact h9) (hP.sub [1, 2, 3, 0] rfl) (hD.sub [1, 2, 3, 0] (by decide) rfl) hS (lv_sub hl [0, 1, 2] rfl)
  exact loop4 201 0 0 mi pl ze sh bl sw sp wi pr le so nx _ _ _ (by decide) (rfl) hP hD hS (lv_sub hl [0, 1, 2] rfl)

set_option maxHeartbeats 4000000 in
set_option maxRecDepth 100000 in
theorem c_De_type (l : Launch) (dC : Nat → ClassId) (dI : Nat → Nat → Nat) (sz : Nat) (cC : ClassId) (d : Nat) (tp : Nat) (vs : Nat) (sv : Nat) (fi : Nat) (sa : Nat) (fl : Nat) (dr : Nat) (ev : Int32) (cnt : Int32) (tk : Int32) (fk : Int32) (fpl : Int32) (tpa : Nat) (ft : Nat → Int32) (nt : Int32) (word : Int64) (m9 : Int32) (hnt : lnOK 200 nt) : Met l y_De_type w_De_type ({ frames := 1, cells := 0, slots := 0, locals := 22 } : Room) (va_Pc [.ref d, .long word, .int m9] (fun U => U.heap.size = sz ∧ va_P (dC, dI) CL [(d, .inr (5, [.ref tp, .ref vs, .ref sv, .ref fi, .ref sa, .ref fl, .ref dr, .int ev, .int cnt, .int tk, .int fk, .int fpl])), (tp, .inr (2, [.ref tpa, .int nt])), (tpa, .inl (cC, 200, .inl ft))] U.heap ∧ va_K (dC, dI) CL [(cC, .char)] U ∧ va_D (fun _ => True) [(d, .inr (5, [.ref tp, .ref vs, .ref sv, .ref fi, .ref sa, .ref fl, .ref dr, .int ev, .int cnt, .int tk, .int fk, .int fpl])), (tp, .inr (2, [.ref tpa, .int nt])), (tpa, .inl (cC, 200, .inl ft))])) (va_Qi (fun (r : Int32) (u : (Nat → Int32) × Int32) => match u with | (f2, n2) => r = k_b (tyOK word m9 nt) ∧ (f2, n2) = (if tyOK word m9 nt = true then tyAdd word 9 (m9 - 1) (ft, nt) else (ft, nt)) ∧ lnOK 200 n2) (fun (u : (Nat → Int32) × Int32) (t : State) => match u with | (f2, n2) => va_P (dC, dI) CL [(d, .inr (5, [.ref tp, .ref vs, .ref sv, .ref fi, .ref sa, .ref fl, .ref dr, .int ev, .int cnt, .int tk, .int fk, .int fpl])), (tp, .inr (2, [.ref tpa, .int n2])), (tpa, .inl (cC, 200, .inl f2))] t.heap ∧ va_K (dC, dI) CL [(cC, .char)] t ∧ va_D (va_A [(d, .inr (5, [.ref tp, .ref vs, .ref sv, .ref fi, .ref sa, .ref fl, .ref dr, .int ev, .int cnt, .int tk, .int fk, .int fpl])), (tp, .inr (2, [.ref tpa, .int nt])), (tpa, .inl (cC, 200, .inl ft))] sz) [(d, .inr (5, [.ref tp, .ref vs, .ref sv, .ref fi, .ref sa, .ref fl, .ref dr, .int ev, .int cnt, .int tk, .int fk, .int fpl])), (tp, .inr (2, [.ref tpa, .int n2])), (tpa, .inl (cC, 200, .inl f2))]) (va_A [(d, .inr (5, [.ref tp, .ref vs, .ref sv, .ref fi, .ref sa, .ref fl, .ref dr, .int ev, .int cnt, .int tk, .int fk, .int fpl])), (tp, .inr (2, [.ref tpa, .int nt])), (tpa, .inl (cC, 200, .inl ft))] sz)) 0 0 (va_A [(d, .inr (5, [.ref tp, .ref vs, .ref sv, .ref fi, .ref sa, .ref fl, .ref dr, .int ev, .int cnt, .int tk, .int fk, .int fpl])), (tp, .inr (2, [.ref tpa, .int nt])), (tpa, .inl (cC, 200, .inl ft))] sz) := by
  refine Met.ofW (cc := b_De_type) (maxL := 6) (ret := (some .boolean)) (by decide) rfl ?_
  intro p e s m args below meth c s₁ B hml hv
  obtain ⟨rfl, hsz, hP, hK, hD0⟩ := hv
  have hx := B.exec
  have hb := B.bytes
  have hr := B.returns
  have hts := atoms_spec (ws := w_De_type) B.pre
  have hT : ∀ w ∈ TB, w.before _ s = true := fun w h => hts w (List.mem_cons_of_mem _ h)
  have hown : s.vm.findClass R_De = some m.cls := findClass_of_methodNamed B.named
  have hlocks := B.notSynchronized
  subst hsz
  have hD := hD0.self (sz := s.heap.size)
  generalize hAe : va_A [(d, .inr (5, [.ref tp, .ref vs, .ref sv, .ref fi, .ref sa, .ref fl, .ref dr, .int ev, .int cnt, .int tk, .int fk, .int fpl])), (tp, .inr (2, [.ref tpa, .int nt])), (tpa, .inl (cC, 200, .inl ft))] s.heap.size = A at hD ⊢
  have hA : ∀ q : Nat, s.heap.size ≤ q → A q := fun q h => by rw [← hAe]; exact Or.inr h
  have hS : va_S A s.heap s.heap [] := va_S.rf
  have hP : va_P (dC, dI) CL [(d, .inr (5, [.ref tp, .ref vs, .ref sv, .ref fi, .ref sa, .ref fl, .ref dr, .int ev, .int cnt, .int tk, .int fk, .int fpl])), (tp, .inr (2, [.ref tpa, .int nt])), (tpa, .inl (cC, 200, .inl ft))] s.heap := hP
  have hl := lv_entry ([.ref d, .long word, .int m9]) (n := 6) (Nat.le_of_ble_eq_true rfl)
  rw [lg_entry_eq]
  generalize (lg_sl ([.ref d, .long word, .int m9]) ++ List.replicate (6 - (lg_sl ([.ref d, .long word, .int m9])).length) Slot.unset).toArray = ls at hl ⊢
  have hl : lv_has ls 6 [(0, .ref d), (1, .long word), (3, .int m9)] := hl
  refine k_Q (fun Q hQ => ?_)
  refine lv_iload_n hx hb d_De_type_0 rfl (lv_at hl 2 rfl) ?_
  refine lv_iconst (v := 1) hx hb d_De_type_1 (by decide) ?_
  refine lv_icmp_lt (tgt := 22) hx hb d_De_type_2 (by decide) (fun c2_1 => ?_) (fun c2_1 => ?_)
  · skip
    refine lv_iconst (v := 0) hx hb d_De_type_22 (by decide) ?_
    have hP9 := hP.sub (ws' := [(d, .inr (5, [.ref tp, .ref vs, .ref sv, .ref fi, .ref sa, .ref fl, .ref dr, .int ev, .int cnt, .int tk, .int fk, .int fpl])), (tp, .inr (2, [.ref tpa, .int nt])), (tpa, .inl (cC, 200, .inl ft))]) [0, 1, 2] rfl
    have hD9 := hD.sub (ws' := [(d, .inr (5, [.ref tp, .ref vs, .ref sv, .ref fi, .ref sa, .ref fl, .ref dr, .int ev, .int cnt, .int tk, .int fk, .int fpl])), (tp, .inr (2, [.ref tpa, .int nt])), (tpa, .inl (cC, 200, .inl ft))]) [0, 1, 2] (by decide) rfl
    have hK9 := hK.sub (tys' := [(cC, .char)]) [0] rfl
    have hq9 : (0 : Int32) = k_b (tyOK word m9 nt) ∧ (ft, nt) = (if tyOK word m9 nt = true then tyAdd word 9 (m9 - 1) (ft, nt) else (ft, nt)) ∧ lnOK 200 nt := by
      have h9 : tyOK word m9 nt = false := by simp [tyOK, c2_1]
      exact ⟨by rw [h9]; rfl, by rw [if_neg (by rw [h9]; decide)], hnt⟩
    subst hQ
    exact W.zret (v := 0) hx hb hr rfl (fun t ht hW => ⟨⟨0, (ft, nt), rfl, hq9, by rw [ht]; exact hP9, va_K.moved hW.alike hK9, hD9⟩, hS.F ht⟩) hS.2.2 d_De_type_23
  · skip
    refine lv_iload_n hx hb d_De_type_5 rfl (lv_at hl 2 rfl) ?_
    refine lv_bipush (v := 8) hx hb d_De_type_6 (by decide) ?_
    refine lv_icmp_gt (tgt := 22) hx hb d_De_type_8 (by decide) (fun c8_2 => ?_) (fun c8_2 => ?_)
    · skip
      refine lv_iconst (v := 0) hx hb d_De_type_22 (by decide) ?_
      have hP9 := hP.sub (ws' := [(d, .inr (5, [.ref tp, .ref vs, .ref sv, .ref fi, .ref sa, .ref fl, .ref dr, .int ev, .int cnt, .int tk, .int fk, .int fpl])), (tp, .inr (2, [.ref tpa, .int nt])), (tpa, .inl (cC, 200, .inl ft))]) [0, 1, 2] rfl
      have hD9 := hD.sub (ws' := [(d, .inr (5, [.ref tp, .ref vs, .ref sv, .ref fi, .ref sa, .ref fl, .ref dr, .int ev, .int cnt, .int tk, .int fk, .int fpl])), (tp, .inr (2, [.ref tpa, .int nt])), (tpa, .inl (cC, 200, .inl ft))]) [0, 1, 2] (by decide) rfl
      have hK9 := hK.sub (tys' := [(cC, .char)]) [0] rfl
      have hq9 : (0 : Int32) = k_b (tyOK word m9 nt) ∧ (ft, nt) = (if tyOK word m9 nt = true then tyAdd word 9 (m9 - 1) (ft, nt) else (ft, nt)) ∧ lnOK 200 nt := by
        have h9 : tyOK word m9 nt = false := by simp [tyOK, c2_1, c8_2]
        exact ⟨by rw [h9]; rfl, by rw [if_neg (by rw [h9]; decide)], hnt⟩
      subst hQ
      exact W.zret (v := 0) hx hb hr rfl (fun t ht hW => ⟨⟨0, (ft, nt), rfl, hq9, by rw [ht]; exact hP9, va_K.moved hW.alike hK9, hD9⟩, hS.F ht⟩) hS.2.2 d_De_type_23
    · skip
      refine lv_aload_n hx hb d_De_type_11 rfl (lv_at hl 0 rfl) ?_
      refine va_get (D := (dC, dI)) (ci := 5) (v := .ref tp) (C := R_De) (T := F_De) (N := 12) hx hb hT (in_De) hown hK hP 0 rfl rfl 0 (by decide) (hT _ t_157) (fun _ h9 => h9) rfl d_De_type_12 ?_
      refine lv_iload_n hx hb d_De_type_15 rfl (lv_at hl 2 rfl) ?_
      have hPc := hP.sub (ws' := [(tp, .inr (2, [.ref tpa, .int nt])), (tpa, .inl (cC, 200, .inl ft))]) [1, 2] rfl
      have hDc := hD.sub (ws' := [(tp, .inr (2, [.ref tpa, .int nt])), (tpa, .inl (cC, 200, .inl ft))]) [1, 2] (by decide) rfl
      have hKc := hK.sub (tys' := [(cC, .char)]) [0] rfl
      have hFc := va_free (wc := [(tp, .inr (2, [.ref tpa, .int nt])), (tpa, .inl (cC, 200, .inl ft))]) hD hS hA [1, 2] rfl
      refine va_calli (va_runV (As := [.int m9]) (rest := []) ⟨hx, hb, hml, hown, hT⟩ (c_Line_hasRoom l dC dI s.heap.size cC tp tpa 200 ft nt m9 ) (cwV 1 hT g_De_49 rfl rfl rfl (by decide +kernel) ⟨Nat.le_of_ble_eq_true rfl, Nat.le_of_ble_eq_true rfl⟩) ⟨fun a U g mk q => by obtain ⟨q0, q1, qP, qK, qD⟩ := q; exact ⟨q0, q1, qP, va_K.moved (u := U) (U := U.calling g mk a) (Vm.Alike.refl U.vm) qK, qD⟩, va_recv hKc hPc (ci := 2) (q0 := 0) rfl rfl, fun U hU hW => ⟨rfl, by rw [hU], by rw [hU]; exact hPc, va_K.moved hW.alike hKc, hDc.weaken (fun _ _ _ _ => trivial)⟩⟩ rfl rfl hl.1 rfl (lv_room (Nat.le_of_ble_eq_true rfl)) d_De_type_16 ⟨Nat.le_of_ble_eq_true rfl, Nat.le_of_ble_eq_true rfl⟩) hS (fun q _ h => hFc q h) hFc (fun x3 u t H1 locs ht hvm w16_3 hB hz1 hk1 hS => ?_)
      obtain ⟨hP1, hK1, hD1⟩ := hB
      rw [ht] at hP1
      try dsimp only at w16_3
      obtain ⟨hP, hD⟩ := va_join (wr := [(d, .inr (5, [.ref tp, .ref vs, .ref sv, .ref fi, .ref sa, .ref fl, .ref dr, .int ev, .int cnt, .int tk, .int fk, .int fpl]))]) (w1 := [(tp, .inr (2, [.ref tpa, .int nt])), (tpa, .inl (cC, 200, .inl ft))]) hP hD [1, 2] [0] rfl rfl (by decide) (by decide) hk1 hFc hP1 hD1
      generalize H1 = H at hP hS ⊢
      have hP : va_P (dC, dI) CL [(d, .inr (5, [.ref tp, .ref vs, .ref sv, .ref fi, .ref sa, .ref fl, .ref dr, .int ev, .int cnt, .int tk, .int fk, .int fpl])), (tp, .inr (2, [.ref tpa, .int nt])), (tpa, .inl (cC, 200, .inl ft))] H := hP
      have hD : va_D A [(d, .inr (5, [.ref tp, .ref vs, .ref sv, .ref fi, .ref sa, .ref fl, .ref dr, .int ev, .int cnt, .int tk, .int fk, .int fpl])), (tp, .inr (2, [.ref tpa, .int nt])), (tpa, .inl (cC, 200, .inl ft))] := hD
      refine lv_if_ne (tgt := 24) hx hb d_De_type_19 (by decide) (fun c19_4 => ?_) (fun c19_4 => ?_)
      · skip
        have hc := k_bT1 c19_4 w16_3; simp only [decide_eq_true_eq] at hc
        have hty : tyOK word m9 nt = tyChk word m9 9 0 := by simp [tyOK, c2_1, c8_2, hc]
        have hm1 : ¬ m9 < 1 := c2_1
        have hm8 : ¬ 8 < m9 := c8_2
        refine lv_iconst (v := 0) hx hb d_De_type_24 (by decide) ?_
        refine lv_istore (lv' := [(4, .int 0), (0, .ref d), (1, .long word), (3, .int m9)]) hx hb d_De_type_25 hl (by decide) rfl (fun ls hl => ?_)
        have loop27 : ∀ (fuel : Nat) (i : Int32) (H : Heap) (locs : List Loc) (ls : Array Slot), ((m9.toInt - i.toInt).toNat < fuel) → (tyChk word m9 fuel i = tyChk word m9 9 0) → va_P (dC, dI) CL [(d, .inr (5, [.ref tp, .ref vs, .ref sv, .ref fi, .ref sa, .ref fl, .ref dr, .int ev, .int cnt, .int tk, .int fk, .int fpl])), (tp, .inr (2, [.ref tpa, .int nt])), (tpa, .inl (cC, 200, .inl ft))] H → va_D A [(d, .inr (5, [.ref tp, .ref vs, .ref sv, .ref fi, .ref sa, .ref fl, .ref dr, .int ev, .int cnt, .int tk, .int fk, .int fpl])), (tp, .inr (2, [.ref tpa, .int nt])), (tpa, .inl (cC, 200, .inl ft))] → va_S A s.heap H locs → lv_has ls 6 [(4, .int i), (0, .ref d), (1, .long word), (3, .int m9)] → W p l e (headSpec w_De_type ({ frames := 1, cells := 0, slots := 0, locals := 22 } : Room)).room s m ([.ref d, .long word, .int m9] : List Value).toArray below meth c H locs 0 0 Q (F0 m 27 ls []) := by
          intro fuel
          induction fuel with
          | zero =>
            intro i H locs ls hk hG hP hD hS hl
            exact absurd hk (Nat.not_lt_zero _)
          | succ fuel ih =>
            intro i H locs ls hk hG hP hD hS hl
            refine lv_iload hx hb d_De_type_27 (lv_at hl 0 rfl) ?_
            refine lv_iload_n hx hb d_De_type_29 rfl (lv_at hl 3 rfl) ?_
            refine lv_icmp_ge (tgt := 63) hx hb d_De_type_30 (by decide) (fun c30_5 => ?_) (fun c30_5 => ?_)
            · skip
              have hOK : tyOK word m9 nt = true := by have h9 := hG; rw [tyChk, if_pos c30_5, ← hty] at h9; exact h9.symm
              refine lv_iload_n hx hb d_De_type_63 rfl (lv_at hl 3 rfl) ?_
              refine lv_iconst (v := 1) hx hb d_De_type_64 (by decide) ?_
              refine lv_isub hx hb d_De_type_65 ?_
              refine lv_topi (fun x6 ex6 => ?_)
              refine lv_istore (lv' := [(4, .int x6), (0, .ref d), (1, .long word), (3, .int m9)]) hx hb d_De_type_66 hl (by decide) rfl (fun ls hl => ?_)
              have loop68 : ∀ (fuel : Nat) (i : Int32) (n3 : Int32) (f3 : Nat → Int32) (H : Heap) (locs : List Loc) (ls : Array Slot), ((i.toInt + 1).toNat < fuel) → (lnOK 200 n3) → (tyAdd word fuel i (f3, n3) = tyAdd word 9 (m9 - 1) (ft, nt)) → va_P (dC, dI) CL [(d, .inr (5, [.ref tp, .ref vs, .ref sv, .ref fi, .ref sa, .ref fl, .ref dr, .int ev, .int cnt, .int tk, .int fk, .int fpl])), (tp, .inr (2, [.ref tpa, .int n3])), (tpa, .inl (cC, 200, .inl f3))] H → va_D A [(d, .inr (5, [.ref tp, .ref vs, .ref sv, .ref fi, .ref sa, .ref fl, .ref dr, .int ev, .int cnt, .int tk, .int fk, .int fpl])), (tp, .inr (2, [.ref tpa, .int n3])), (tpa, .inl (cC, 200, .inl f3))] → va_S A s.heap H locs → lv_has ls 6 [(4, .int i), (0, .ref d), (1, .long word), (3, .int m9)] → W p l e (headSpec w_De_type ({ frames := 1, cells := 0, slots := 0, locals := 22 } : Room)).room s m ([.ref d, .long word, .int m9] : List Value).toArray below meth c H locs 0 0 Q (F0 m 68 ls []) := by
                intro fuel
                induction fuel with
                | zero =>
                  intro i n3 f3 H locs ls hk hn3 hG hP hD hS hl
                  exact absurd hk (Nat.not_lt_zero _)
                | succ fuel ih =>
                  intro i n3 f3 H locs ls hk hn3 hG hP hD hS hl
                  refine lv_iload hx hb d_De_type_68 (lv_at hl 0 rfl) ?_
                  refine lv_if_lt (tgt := 92) hx hb d_De_type_70 (by decide) (fun c70_7 => ?_) (fun c70_7 => ?_)
                  · skip
                    refine lv_iconst (v := 1) hx hb d_De_type_92 (by decide) ?_
                    have hP9 := hP.sub (ws' := [(d, .inr (5, [.ref tp, .ref vs, .ref sv, .ref fi, .ref sa, .ref fl, .ref dr, .int ev, .int cnt, .int tk, .int fk, .int fpl])), (tp, .inr (2, [.ref tpa, .int n3])), (tpa, .inl (cC, 200, .inl f3))]) [0, 1, 2] rfl
                    have hD9 := hD.sub (ws' := [(d, .inr (5, [.ref tp, .ref vs, .ref sv, .ref fi, .ref sa, .ref fl, .ref dr, .int ev, .int cnt, .int tk, .int fk, .int fpl])), (tp, .inr (2, [.ref tpa, .int n3])), (tpa, .inl (cC, 200, .inl f3))]) [0, 1, 2] (by decide) rfl
                    have hK9 := hK.sub (tys' := [(cC, .char)]) [0] rfl
                    have hq9 : (1 : Int32) = k_b (tyOK word m9 nt) ∧ (f3, n3) = (if tyOK word m9 nt = true then tyAdd word 9 (m9 - 1) (ft, nt) else (ft, nt)) ∧ lnOK 200 n3 := by have h9 := hG; rw [tyAdd, if_pos c70_7] at h9; exact ⟨by rw [hOK]; rfl, by rw [if_pos hOK]; exact h9, hn3⟩
                    subst hQ
                    exact W.zret (v := 1) hx hb hr rfl (fun t ht hW => ⟨⟨1, (f3, n3), rfl, hq9, by rw [ht]; exact hP9, va_K.moved hW.alike hK9, hD9⟩, hS.F ht⟩) hS.2.2 d_De_type_93
                  · skip
                    refine lv_aload_n hx hb d_De_type_73 rfl (lv_at hl 1 rfl) ?_
                    refine va_get (D := (dC, dI)) (ci := 5) (v := .ref tp) (C := R_De) (T := F_De) (N := 12) hx hb hT (in_De) hown hK hP 0 rfl rfl 0 (by decide) (hT _ t_157) (fun _ h9 => h9) rfl d_De_type_74 ?_
                    refine lv_lload_n hx hb d_De_type_77 rfl (lv_at hl 2 rfl) ?_
                    refine lv_iload hx hb d_De_type_78 (lv_at hl 0 rfl) ?_
                    have hPc := hP.sub (ws' := []) [] rfl
                    have hDc := hD.sub (ws' := []) [] (by decide) rfl
                    have hKc := hK.sub (tys' := []) [] rfl
                    have hFc := va_free (wc := []) hD hS hA [] rfl
                    refine va_calli (va_runS (As := [.long word, .int i]) (rest := [.ref tp]) ⟨hx, hb, hml, hown, hT⟩ (c_De_byteOf l dC dI H.size word i ) (cwS 2 hT g_De_53 rfl rfl rfl (by decide +kernel) ⟨Nat.le_of_ble_eq_true rfl, Nat.le_of_ble_eq_true rfl⟩) ⟨fun a U g mk q => by obtain ⟨q0, q1, qP, qK, qD⟩ := q; exact ⟨q0, q1, qP, va_K.moved (u := U) (U := U.calling g mk a) (Vm.Alike.refl U.vm) qK, qD⟩, fun U hU hW => ⟨rfl, by rw [hU], by rw [hU]; exact hPc, va_K.moved hW.alike hKc, hDc.weaken (fun _ _ _ _ => trivial)⟩⟩ rfl rfl hl.1 rfl (lv_room (Nat.le_of_ble_eq_true rfl)) d_De_type_80 ⟨Nat.le_of_ble_eq_true rfl, Nat.le_of_ble_eq_true rfl⟩) hS (fun q _ h => hFc q h) hFc (fun x8 u t H1 locs ht hvm w80_8 hB hz1 hk1 hS => ?_)
                    obtain ⟨hP1, hK1, hD1⟩ := hB
                    rw [ht] at hP1
                    try dsimp only at w80_8
                    obtain ⟨hP, hD⟩ := va_join (wr := [(d, .inr (5, [.ref tp, .ref vs, .ref sv, .ref fi, .ref sa, .ref fl, .ref dr, .int ev, .int cnt, .int tk, .int fk, .int fpl])), (tp, .inr (2, [.ref tpa, .int n3])), (tpa, .inl (cC, 200, .inl f3))]) (w1 := []) hP hD [] [0, 1, 2] rfl rfl (by decide) (by decide) hk1 hFc hP1 hD1
                    generalize H1 = H at hP hS ⊢
                    have hP : va_P (dC, dI) CL [(d, .inr (5, [.ref tp, .ref vs, .ref sv, .ref fi, .ref sa, .ref fl, .ref dr, .int ev, .int cnt, .int tk, .int fk, .int fpl])), (tp, .inr (2, [.ref tpa, .int n3])), (tpa, .inl (cC, 200, .inl f3))] H := hP
                    have hD : va_D A [(d, .inr (5, [.ref tp, .ref vs, .ref sv, .ref fi, .ref sa, .ref fl, .ref dr, .int ev, .int cnt, .int tk, .int fk, .int fpl])), (tp, .inr (2, [.ref tpa, .int n3])), (tpa, .inl (cC, 200, .inl f3))] := hD
                    have hPc := hP.sub (ws' := [(tp, .inr (2, [.ref tpa, .int n3])), (tpa, .inl (cC, 200, .inl f3))]) [1, 2] rfl
                    have hDc := hD.sub (ws' := [(tp, .inr (2, [.ref tpa, .int n3])), (tpa, .inl (cC, 200, .inl f3))]) [1, 2] (by decide) rfl
                    have hKc := hK.sub (tys' := [(cC, .char)]) [0] rfl
                    have hFc := va_free (wc := [(tp, .inr (2, [.ref tpa, .int n3])), (tpa, .inl (cC, 200, .inl f3))]) hD hS hA [1, 2] rfl
                    refine va_callv (va_runV (As := [.int x8]) (rest := []) ⟨hx, hb, hml, hown, hT⟩ (c_Line_add l dC dI H.size cC tp tpa 200 f3 n3 x8 hn3) (cwV 1 hT g_De_57 rfl rfl rfl (by decide +kernel) ⟨Nat.le_of_ble_eq_true rfl, Nat.le_of_ble_eq_true rfl⟩) ⟨fun a U g mk q => by obtain ⟨q0, q1, qP, qK, qD⟩ := q; exact ⟨q0, q1, qP, va_K.moved (u := U) (U := U.calling g mk a) (Vm.Alike.refl U.vm) qK, qD⟩, va_recv hKc hPc (ci := 2) (q0 := 0) rfl rfl, fun U hU hW => ⟨rfl, by rw [hU], by rw [hU]; exact hPc, va_K.moved hW.alike hKc, hDc.weaken (fun _ _ _ _ => trivial)⟩⟩ rfl rfl hl.1 rfl (lv_room (Nat.le_of_ble_eq_true rfl)) d_De_type_83 ⟨Nat.le_of_ble_eq_true rfl, Nat.le_of_ble_eq_true rfl⟩) hS (fun q _ h => hFc q h) hFc (fun u t H1 locs ht hvm w83_10 hB hz1 hk1 hS => ?_)
                    obtain ⟨f_9, n_10⟩ := u
                    obtain ⟨hP1, hK1, hD1⟩ := hB
                    rw [ht] at hP1
                    try dsimp only at w83_10
                    obtain ⟨w83_10, w83_10b⟩ := w83_10
                    obtain ⟨hP, hD⟩ := va_join (wr := [(d, .inr (5, [.ref tp, .ref vs, .ref sv, .ref fi, .ref sa, .ref fl, .ref dr, .int ev, .int cnt, .int tk, .int fk, .int fpl]))]) (w1 := [(tp, .inr (2, [.ref tpa, .int n_10])), (tpa, .inl (cC, 200, .inl f_9))]) hP hD [1, 2] [0] rfl rfl (by decide) (by decide) hk1 hFc hP1 hD1
                    generalize H1 = H at hP hS ⊢
                    have hP : va_P (dC, dI) CL [(d, .inr (5, [.ref tp, .ref vs, .ref sv, .ref fi, .ref sa, .ref fl, .ref dr, .int ev, .int cnt, .int tk, .int fk, .int fpl])), (tp, .inr (2, [.ref tpa, .int n_10])), (tpa, .inl (cC, 200, .inl f_9))] H := hP
                    have hD : va_D A [(d, .inr (5, [.ref tp, .ref vs, .ref sv, .ref fi, .ref sa, .ref fl, .ref dr, .int ev, .int cnt, .int tk, .int fk, .int fpl])), (tp, .inr (2, [.ref tpa, .int n_10])), (tpa, .inl (cC, 200, .inl f_9))] := hD
                    obtain ⟨x11, ex11⟩ : ∃ y : Int32, y = i + (-1) := ⟨_, rfl⟩
                    refine lv_iinc (v := x11) (lv' := [(4, .int x11), (0, .ref d), (1, .long word), (3, .int m9)]) hx hb d_De_type_86 hl (k := 0) rfl (by rw [ex11]; rfl) (by decide) rfl (fun ls hl => ?_)
                    refine lv_goto (tgt := 68) hx hb d_De_type_89 (by decide) ?_
                    exact ih x11 n_10 f_9 _ _ _ (by rw [ex11, k_decm (by have q0 := c70_7; simp only [k_lt, k_le, l_0, l_1, l_2, l_12, l_18, l_19, l_30, l_31, l_64] at q0; omega)]; have q0 := c70_7; simp only [k_lt, k_le, l_0, l_1, l_2, l_12, l_18, l_19, l_30, l_31, l_64] at q0; omega) (w83_10b) (by have h9 := hG; rw [tyAdd, if_neg c70_7] at h9; rw [ex11, w83_10, w80_8]; exact h9) (hP.sub [0, 1, 2] rfl) (hD.sub [0, 1, 2] (by decide) rfl) hS (lv_sub hl [0, 1, 2, 3] rfl)
              exact loop68 9 x6 nt ft _ _ _ (by have q1 := hm1; have q8 := hm8; rw [k_lt, l_1] at q1; rw [k_lt, l_8] at q8; rw [ex6, k_subl (by omega)]; omega) (hnt) (by rw [ex6]) hP hD hS (lv_sub hl [0, 1, 2, 3] rfl)
            · skip
              refine lv_lload_n hx hb d_De_type_33 rfl (lv_at hl 2 rfl) ?_
              refine lv_iload hx hb d_De_type_34 (lv_at hl 0 rfl) ?_
              have hPc := hP.sub (ws' := []) [] rfl
              have hDc := hD.sub (ws' := []) [] (by decide) rfl
              have hKc := hK.sub (tys' := []) [] rfl
              have hFc := va_free (wc := []) hD hS hA [] rfl
              refine va_calli (va_runS (As := [.long word, .int i]) (rest := []) ⟨hx, hb, hml, hown, hT⟩ (c_De_byteOf l dC dI H.size word i ) (cwS 2 hT g_De_53 rfl rfl rfl (by decide +kernel) ⟨Nat.le_of_ble_eq_true rfl, Nat.le_of_ble_eq_true rfl⟩) ⟨fun a U g mk q => by obtain ⟨q0, q1, qP, qK, qD⟩ := q; exact ⟨q0, q1, qP, va_K.moved (u := U) (U := U.calling g mk a) (Vm.Alike.refl U.vm) qK, qD⟩, fun U hU hW => ⟨rfl, by rw [hU], by rw [hU]; exact hPc, va_K.moved hW.alike hKc, hDc.weaken (fun _ _ _ _ => trivial)⟩⟩ rfl rfl hl.1 rfl (lv_room (Nat.le_of_ble_eq_true rfl)) d_De_type_36 ⟨Nat.le_of_ble_eq_true rfl, Nat.le_of_ble_eq_true rfl⟩) hS (fun q _ h => hFc q h) hFc (fun x12 u t H1 locs ht hvm w36_12 hB hz1 hk1 hS => ?_)
              obtain ⟨hP1, hK1, hD1⟩ := hB
              rw [ht] at hP1
              try dsimp only at w36_12
              obtain ⟨hP, hD⟩ := va_join (wr := [(d, .inr (5, [.ref tp, .ref vs, .ref sv, .ref fi, .ref sa, .ref fl, .ref dr, .int ev, .int cnt, .int tk, .int fk, .int fpl])), (tp, .inr (2, [.ref tpa, .int nt])), (tpa, .inl (cC, 200, .inl ft))]) (w1 := []) hP hD [] [0, 1, 2] rfl rfl (by decide) (by decide) hk1 hFc hP1 hD1
              generalize H1 = H at hP hS ⊢
              have hP : va_P (dC, dI) CL [(d, .inr (5, [.ref tp, .ref vs, .ref sv, .ref fi, .ref sa, .ref fl, .ref dr, .int ev, .int cnt, .int tk, .int fk, .int fpl])), (tp, .inr (2, [.ref tpa, .int nt])), (tpa, .inl (cC, 200, .inl ft))] H := hP
              have hD : va_D A [(d, .inr (5, [.ref tp, .ref vs, .ref sv, .ref fi, .ref sa, .ref fl, .ref dr, .int ev, .int cnt, .int tk, .int fk, .int fpl])), (tp, .inr (2, [.ref tpa, .int nt])), (tpa, .inl (cC, 200, .inl ft))] := hD
              refine lv_istore (lv' := [(5, .int x12), (4, .int i), (0, .ref d), (1, .long word), (3, .int m9)]) hx hb d_De_type_39 hl (by decide) rfl (fun ls hl => ?_)
              refine lv_iload hx hb d_De_type_41 (lv_at hl 0 rfl) ?_
              refine lv_bipush (v := 32) hx hb d_De_type_43 (by decide) ?_
              refine lv_icmp_lt (tgt := 55) hx hb d_De_type_45 (by decide) (fun c45_13 => ?_) (fun c45_13 => ?_)
              · skip
                refine lv_iconst (v := 0) hx hb d_De_type_55 (by decide) ?_
                have hP9 := hP.sub (ws' := [(d, .inr (5, [.ref tp, .ref vs, .ref sv, .ref fi, .ref sa, .ref fl, .ref dr, .int ev, .int cnt, .int tk, .int fk, .int fpl])), (tp, .inr (2, [.ref tpa, .int nt])), (tpa, .inl (cC, 200, .inl ft))]) [0, 1, 2] rfl
                have hD9 := hD.sub (ws' := [(d, .inr (5, [.ref tp, .ref vs, .ref sv, .ref fi, .ref sa, .ref fl, .ref dr, .int ev, .int cnt, .int tk, .int fk, .int fpl])), (tp, .inr (2, [.ref tpa, .int nt])), (tpa, .inl (cC, 200, .inl ft))]) [0, 1, 2] (by decide) rfl
                have hK9 := hK.sub (tys' := [(cC, .char)]) [0] rfl
                have hq9 : (0 : Int32) = k_b (tyOK word m9 nt) ∧ (ft, nt) = (if tyOK word m9 nt = true then tyAdd word 9 (m9 - 1) (ft, nt) else (ft, nt)) ∧ lnOK 200 nt := by
                  have h9 := hG
                  rw [tyChk, if_neg c30_5, ← w36_12, if_pos c45_13, ← hty] at h9
                  exact ⟨by rw [← h9]; rfl, by rw [if_neg (by rw [← h9]; decide)], hnt⟩
                subst hQ
                exact W.zret (v := 0) hx hb hr rfl (fun t ht hW => ⟨⟨0, (ft, nt), rfl, hq9, by rw [ht]; exact hP9, va_K.moved hW.alike hK9, hD9⟩, hS.F ht⟩) hS.2.2 d_De_type_56
              · skip
                refine lv_iload hx hb d_De_type_48 (lv_at hl 0 rfl) ?_
                refine lv_bipush (v := 126) hx hb d_De_type_50 (by decide) ?_
                refine lv_icmp_le (tgt := 57) hx hb d_De_type_52 (by decide) (fun c52_14 => ?_) (fun c52_14 => ?_)
                · skip
                  obtain ⟨x15, ex15⟩ : ∃ y : Int32, y = i + 1 := ⟨_, rfl⟩
                  refine lv_iinc (v := x15) (lv' := [(4, .int x15), (5, .int x12), (0, .ref d), (1, .long word), (3, .int m9)]) hx hb d_De_type_57 hl (k := 1) rfl (by rw [ex15]; rfl) (by decide) rfl (fun ls hl => ?_)
                  refine lv_goto (tgt := 27) hx hb d_De_type_60 (by decide) ?_
                  exact ih x15 _ _ _ (by rw [ex15]; exact k_fuel c30_5 hk) (by have h9 := hG; rw [tyChk, if_neg c30_5, ← w36_12, if_neg c45_13, if_neg (fun q => q c52_14)] at h9; rw [ex15]; exact h9) (hP.sub [0, 1, 2] rfl) (hD.sub [0, 1, 2] (by decide) rfl) hS (lv_sub hl [0, 2, 3, 4] rfl)
                · skip
                  refine lv_iconst (v := 0) hx hb d_De_type_55 (by decide) ?_
                  have hP9 := hP.sub (ws' := [(d, .inr (5, [.ref tp, .ref vs, .ref sv, .ref fi, .ref sa, .ref fl, .ref dr, .int ev, .int cnt, .int tk, .int fk, .int fpl])), (tp, .inr (2, [.ref tpa, .int nt])), (tpa, .inl (cC, 200, .inl ft))]) [0, 1, 2] rfl
                  have hD9 := hD.sub (ws' := [(d, .inr (5, [.ref tp, .ref vs, .ref sv, .ref fi, .ref sa, .ref fl, .ref dr, .int ev, .int cnt, .int tk, .int fk, .int fpl])), (tp, .inr (2, [.ref tpa, .int nt])), (tpa, .inl (cC, 200, .inl ft))]) [0, 1, 2] (by decide) rfl
                  have hK9 := hK.sub (tys' := [(cC, .char)]) [0] rfl
                  have hq9 : (0 : Int32) = k_b (tyOK word m9 nt) ∧ (ft, nt) = (if tyOK word m9 nt = true then tyAdd word 9 (m9 - 1) (ft, nt) else (ft, nt)) ∧ lnOK 200 nt := by
                    have h9 := hG
                    rw [tyChk, if_neg c30_5, ← w36_12, if_neg c45_13, if_pos c52_14, ← hty] at h9
                    exact ⟨by rw [← h9]; rfl, by rw [if_neg (by rw [← h9]; decide)], hnt⟩
                  subst hQ
                  exact W.zret (v := 0) hx hb hr rfl (fun t ht hW => ⟨⟨0, (ft, nt), rfl, hq9, by rw [ht]; exact hP9, va_K.moved hW.alike hK9, hD9⟩, hS.F ht⟩) hS.2.2 d_De_type_56
        exact loop27 9 0 _ _ _ (by have q := hm8; rw [k_lt, l_8] at q; rw [l_0]; omega) (rfl) hP hD hS (lv_sub hl [0, 1, 2, 3] rfl)
      · skip
        have hc := k_bF1 c19_4 w16_3; simp only [decide_eq_true_eq] at hc
        refine lv_iconst (v := 0) hx hb d_De_type_22 (by decide) ?_
        have hP9 := hP.sub (ws' := [(d, .inr (5, [.ref tp, .ref vs, .ref sv, .ref fi, .ref sa, .ref fl, .ref dr, .int ev, .int cnt, .int tk, .int fk, .int fpl])), (tp, .inr (2, [.ref tpa, .int nt])), (tpa, .inl (cC, 200, .inl ft))]) [0, 1, 2] rfl
        have hD9 := hD.sub (ws' := [(d, .inr (5, [.ref tp, .ref vs, .ref sv, .ref fi, .ref sa, .ref fl, .ref dr, .int ev, .int cnt, .int tk, .int fk, .int fpl])), (tp, .inr (2, [.ref tpa, .int nt])), (tpa, .inl (cC, 200, .inl ft))]) [0, 1, 2] (by decide) rfl
        have hK9 := hK.sub (tys' := [(cC, .char)]) [0] rfl
        have hq9 : (0 : Int32) = k_b (tyOK word m9 nt) ∧ (ft, nt) = (if tyOK word m9 nt = true then tyAdd word 9 (m9 - 1) (ft, nt) else (ft, nt)) ∧ lnOK 200 nt := by
          have h9 : tyOK word m9 nt = false := by simp [tyOK, c2_1, c8_2, hc]
          exact ⟨by rw [h9]; rfl, by rw [if_neg (by rw [h9]; decide)], hnt⟩
        subst hQ
        exact W.zret (v := 0) hx hb hr rfl (fun t ht hW => ⟨⟨0, (ft, nt), rfl, hq9, by rw [ht]; exact hP9, va_K.moved hW.alike hK9, hD9⟩, hS.F ht⟩) hS.2.2 d_De_type_23

set_option maxHeartbeats 4000000 in
set_option maxRecDepth 100000 in
theorem c_De_text_no (l : Launch) (dC : Nat → ClassId) (dI : Nat → Nat → Nat) (sz : Nat) (cC : ClassId) (d : Nat) (tp : Nat) (vs : Nat) (sv : Nat) (fi : Nat) (sa : Nat) (fl : Nat) (dr : Nat) (ev : Int32) (cnt : Int32) (tk : Int32) (fk : Int32) (fpl : Int32) (tpa : Nat) (ft : Nat → Int32) (nt : Int32) (hno : 60 < nt ∨ ¬ cnt < 12) : Met l y_De_text w_De_text ({ frames := 1, cells := 0, slots := 0, locals := 20 } : Room) (va_Pc [.ref d] (fun U => U.heap.size = sz ∧ va_P (dC, dI) CL [(d, .inr (5, [.ref tp, .ref vs, .ref sv, .ref fi, .ref sa, .ref fl, .ref dr, .int ev, .int cnt, .int tk, .int fk, .int fpl])), (tp, .inr (2, [.ref tpa, .int nt])), (tpa, .inl (cC, 200, .inl ft))] U.heap ∧ va_K (dC, dI) CL [(cC, .char)] U ∧ va_D (fun _ => True) [(d, .inr (5, [.ref tp, .ref vs, .ref sv, .ref fi, .ref sa, .ref fl, .ref dr, .int ev, .int cnt, .int tk, .int fk, .int fpl])), (tp, .inr (2, [.ref tpa, .int nt])), (tpa, .inl (cC, 200, .inl ft))])) (va_Qi (fun (r : Int32) (u : Unit) => r = -1) (fun (u : Unit) (t : State) => va_P (dC, dI) CL [(d, .inr (5, [.ref tp, .ref vs, .ref sv, .ref fi, .ref sa, .ref fl, .ref dr, .int ev, .int cnt, .int tk, .int fk, .int fpl])), (tp, .inr (2, [.ref tpa, .int nt])), (tpa, .inl (cC, 200, .inl ft))] t.heap ∧ va_K (dC, dI) CL [(cC, .char)] t ∧ va_D (va_A [(d, .inr (5, [.ref tp, .ref vs, .ref sv, .ref fi, .ref sa, .ref fl, .ref dr, .int ev, .int cnt, .int tk, .int fk, .int fpl])), (tp, .inr (2, [.ref tpa, .int nt])), (tpa, .inl (cC, 200, .inl ft))] sz) [(d, .inr (5, [.ref tp, .ref vs, .ref sv, .ref fi, .ref sa, .ref fl, .ref dr, .int ev, .int cnt, .int tk, .int fk, .int fpl])), (tp, .inr (2, [.ref tpa, .int nt])), (tpa, .inl (cC, 200, .inl ft))]) (va_A [(d, .inr (5, [.ref tp, .ref vs, .ref sv, .ref fi, .ref sa, .ref fl, .ref dr, .int ev, .int cnt, .int tk, .int fk, .int fpl])), (tp, .inr (2, [.ref tpa, .int nt])), (tpa, .inl (cC, 200, .inl ft))] sz)) 0 0 (va_A [(d, .inr (5, [.ref tp, .ref vs, .ref sv, .ref fi, .ref sa, .ref fl, .ref dr, .int ev, .int cnt, .int tk, .int fk, .int fpl])), (tp, .inr (2, [.ref tpa, .int nt])), (tpa, .inl (cC, 200, .inl ft))] sz) := by
  refine Met.ofW (cc := b_De_text) (maxL := 1) (ret := (some .int)) (by decide) rfl ?_
  intro p e s m args below meth c s₁ B hml hv
  obtain ⟨rfl, hsz, hP, hK, hD0⟩ := hv
  have hx := B.exec
  have hb := B.bytes
  have hr := B.returns
  have hts := atoms_spec (ws := w_De_text) B.pre
  have hT : ∀ w ∈ TB, w.before _ s = true := fun w h => hts w (List.mem_cons_of_mem _ h)
  have hown : s.vm.findClass R_De = some m.cls := findClass_of_methodNamed B.named
  have hlocks := B.notSynchronized
  subst hsz
  have hD := hD0.self (sz := s.heap.size)
  generalize hAe : va_A [(d, .inr (5, [.ref tp, .ref vs, .ref sv, .ref fi, .ref sa, .ref fl, .ref dr, .int ev, .int cnt, .int tk, .int fk, .int fpl])), (tp, .inr (2, [.ref tpa, .int nt])), (tpa, .inl (cC, 200, .inl ft))] s.heap.size = A at hD ⊢
  have hA : ∀ q : Nat, s.heap.size ≤ q → A q := fun q h => by rw [← hAe]; exact Or.inr h
  have hS : va_S A s.heap s.heap [] := va_S.rf
  have hP : va_P (dC, dI) CL [(d, .inr (5, [.ref tp, .ref vs, .ref sv, .ref fi, .ref sa, .ref fl, .ref dr, .int ev, .int cnt, .int tk, .int fk, .int fpl])), (tp, .inr (2, [.ref tpa, .int nt])), (tpa, .inl (cC, 200, .inl ft))] s.heap := hP
  have hl := lv_entry ([.ref d]) (n := 1) (Nat.le_of_ble_eq_true rfl)
  rw [lg_entry_eq]
  generalize (lg_sl ([.ref d]) ++ List.replicate (1 - (lg_sl ([.ref d])).length) Slot.unset).toArray = ls at hl ⊢
  have hl : lv_has ls 1 [(0, .ref d)] := hl
  refine lv_aload_n hx hb d_De_text_0 rfl (lv_at hl 0 rfl) ?_
  refine va_get (D := (dC, dI)) (ci := 5) (v := .ref tp) (C := R_De) (T := F_De) (N := 12) hx hb hT (in_De) hown hK hP 0 rfl rfl 0 (by decide) (hT _ t_157) (fun _ h9 => h9) rfl d_De_text_1 ?_
  have hPc := hP.sub (ws' := [(tp, .inr (2, [.ref tpa, .int nt])), (tpa, .inl (cC, 200, .inl ft))]) [1, 2] rfl
  have hDc := hD.sub (ws' := [(tp, .inr (2, [.ref tpa, .int nt])), (tpa, .inl (cC, 200, .inl ft))]) [1, 2] (by decide) rfl
  have hKc := hK.sub (tys' := [(cC, .char)]) [0] rfl
  have hFc := va_free (wc := [(tp, .inr (2, [.ref tpa, .int nt])), (tpa, .inl (cC, 200, .inl ft))]) hD hS hA [1, 2] rfl
  refine va_calli (va_runV (As := []) (rest := []) ⟨hx, hb, hml, hown, hT⟩ (c_Line_size l dC dI s.heap.size cC tp tpa 200 ft nt ) (cwV 0 hT g_De_60 rfl rfl rfl (by decide +kernel) ⟨Nat.le_of_ble_eq_true rfl, Nat.le_of_ble_eq_true rfl⟩) ⟨fun a U g mk q => by obtain ⟨q0, q1, qP, qK, qD⟩ := q; exact ⟨q0, q1, qP, va_K.moved (u := U) (U := U.calling g mk a) (Vm.Alike.refl U.vm) qK, qD⟩, va_recv hKc hPc (ci := 2) (q0 := 0) rfl rfl, fun U hU hW => ⟨rfl, by rw [hU], by rw [hU]; exact hPc, va_K.moved hW.alike hKc, hDc.weaken (fun _ _ _ _ => trivial)⟩⟩ rfl rfl hl.1 rfl (lv_room (Nat.le_of_ble_eq_true rfl)) d_De_text_4 ⟨Nat.le_of_ble_eq_true rfl, Nat.le_of_ble_eq_true rfl⟩) hS (fun q _ h => hFc q h) hFc (fun x1 u t H1 locs ht hvm w4_1 hB hz1 hk1 hS => ?_)
  obtain ⟨hP1, hK1, hD1⟩ := hB
  rw [ht] at hP1
  try dsimp only at w4_1
  obtain ⟨hP, hD⟩ := va_join (wr := [(d, .inr (5, [.ref tp, .ref vs, .ref sv, .ref fi, .ref sa, .ref fl, .ref dr, .int ev, .int cnt, .int tk, .int fk, .int fpl]))]) (w1 := [(tp, .inr (2, [.ref tpa, .int nt])), (tpa, .inl (cC, 200, .inl ft))]) hP hD [1, 2] [0] rfl rfl (by decide) (by decide) hk1 hFc hP1 hD1
  generalize H1 = H at hP hS ⊢
  have hP : va_P (dC, dI) CL [(d, .inr (5, [.ref tp, .ref vs, .ref sv, .ref fi, .ref sa, .ref fl, .ref dr, .int ev, .int cnt, .int tk, .int fk, .int fpl])), (tp, .inr (2, [.ref tpa, .int nt])), (tpa, .inl (cC, 200, .inl ft))] H := hP
  have hD : va_D A [(d, .inr (5, [.ref tp, .ref vs, .ref sv, .ref fi, .ref sa, .ref fl, .ref dr, .int ev, .int cnt, .int tk, .int fk, .int fpl])), (tp, .inr (2, [.ref tpa, .int nt])), (tpa, .inl (cC, 200, .inl ft))] := hD
  refine lv_bipush (v := 60) hx hb d_De_text_7 (by decide) ?_
  refine lv_icmp_gt (tgt := 21) hx hb d_De_text_9 (by decide) (fun c9_2 => ?_) (fun c9_2 => ?_)
  · skip
    rw [w4_1] at c9_2
    refine lv_iconst (v := (-1)) hx hb d_De_text_21 (by decide) ?_
    have hP9 := hP.sub (ws' := [(d, .inr (5, [.ref tp, .ref vs, .ref sv, .ref fi, .ref sa, .ref fl, .ref dr, .int ev, .int cnt, .int tk, .int fk, .int fpl])), (tp, .inr (2, [.ref tpa, .int nt])), (tpa, .inl (cC, 200, .inl ft))]) [0, 1, 2] rfl
    have hD9 := hD.sub (ws' := [(d, .inr (5, [.ref tp, .ref vs, .ref sv, .ref fi, .ref sa, .ref fl, .ref dr, .int ev, .int cnt, .int tk, .int fk, .int fpl])), (tp, .inr (2, [.ref tpa, .int nt])), (tpa, .inl (cC, 200, .inl ft))]) [0, 1, 2] (by decide) rfl
    have hK9 := hK.sub (tys' := [(cC, .char)]) [0] rfl
    have hq9 : (-1 : Int32) = -1 := rfl
    exact W.iret (v := (-1)) hx hb hr (fun t ht hW => ⟨⟨(-1), (), rfl, hq9, by rw [ht]; exact hP9, va_K.moved hW.alike hK9, hD9⟩, hS.F ht⟩) hS.2.2 d_De_text_22
  · skip
    rw [w4_1] at c9_2
    refine lv_aload_n hx hb d_De_text_12 rfl (lv_at hl 0 rfl) ?_
    refine va_get (D := (dC, dI)) (ci := 5) (v := .int cnt) (C := R_De) (T := F_De) (N := 12) hx hb hT (in_De) hown hK hP 0 rfl rfl 8 (by decide) (hT _ t_165) (fun _ h9 => h9) rfl d_De_text_13 ?_
    refine lv_bipush (v := 12) hx hb d_De_text_16 (by decide) ?_
    refine lv_icmp_lt (tgt := 23) hx hb d_De_text_18 (by decide) (fun c18_3 => ?_) (fun c18_3 => ?_)
    · skip
      exact absurd hno (fun q => q.elim c9_2 (fun z => z c18_3))
    · skip
      refine lv_iconst (v := (-1)) hx hb d_De_text_21 (by decide) ?_
      have hP9 := hP.sub (ws' := [(d, .inr (5, [.ref tp, .ref vs, .ref sv, .ref fi, .ref sa, .ref fl, .ref dr, .int ev, .int cnt, .int tk, .int fk, .int fpl])), (tp, .inr (2, [.ref tpa, .int nt])), (tpa, .inl (cC, 200, .inl ft))]) [0, 1, 2] rfl
      have hD9 := hD.sub (ws' := [(d, .inr (5, [.ref tp, .ref vs, .ref sv, .ref fi, .ref sa, .ref fl, .ref dr, .int ev, .int cnt, .int tk, .int fk, .int fpl])), (tp, .inr (2, [.ref tpa, .int nt])), (tpa, .inl (cC, 200, .inl ft))]) [0, 1, 2] (by decide) rfl
      have hK9 := hK.sub (tys' := [(cC, .char)]) [0] rfl
      have hq9 : (-1 : Int32) = -1 := rfl
      exact W.iret (v := (-1)) hx hb hr (fun t ht hW => ⟨⟨(-1), (), rfl, hq9, by rw [ht]; exact hP9, va_K.moved hW.alike hK9, hD9⟩, hS.F ht⟩) hS.2.2 d_De_text_22

set_option maxHeartbeats 4000000 in
set_option maxRecDepth 100000 in
theorem c_De_text_yes (l : Launch) (dC : Nat → ClassId) (dI : Nat → Nat → Nat) (sz : Nat) (cC : ClassId) (cV : ClassId) (d : Nat) (tp : Nat) (vs : Nat) (sv : Nat) (fi : Nat) (sa : Nat) (fl : Nat) (dr : Nat) (ev : Int32) (cnt : Int32) (tk : Int32) (fk : Int32) (fpl : Int32) (tpa : Nat) (ft : Nat → Int32) (nt : Int32) (vf : Nat → Option Nat) (vV : Nat) (wV : Nat) (waV : Nat) (decV : Int32) (belV : Int32) (ahV : Int64) (bhV : Int64) (fV : Nat → Int32) (nV : Int32) (hnt : lnOK 200 nt) (hnV : lnOK 60 nV) (hsz9 : ¬ 60 < nt) (hcnt : cnt < 12) (hin9 : vp_in cnt 12) (hv : vf cnt.toNatClampNeg = some vV) : Met l y_De_text w_De_text ({ frames := 3, cells := 0, slots := 0, locals := 66 } : Room) (va_Pc [.ref d] (fun U => U.heap.size = sz ∧ va_P (dC, dI) CL [(d, .inr (5, [.ref tp, .ref vs, .ref sv, .ref fi, .ref sa, .ref fl, .ref dr, .int ev, .int cnt, .int tk, .int fk, .int fpl])), (tp, .inr (2, [.ref tpa, .int nt])), (tpa, .inl (cC, 200, .inl ft)), (vs, .inl (cV, 12, .inr (.inr (.inr (.inr vf))))), (vV, .inr (4, [.ref wV, .int decV, .int belV, .long ahV, .long bhV])), (wV, .inr (2, [.ref waV, .int nV])), (waV, .inl (cC, 60, .inl fV))] U.heap ∧ va_K (dC, dI) CL [(cC, .char), (cV, .object "FormatDesk$Value")] U ∧ va_D (fun _ => True) [(d, .inr (5, [.ref tp, .ref vs, .ref sv, .ref fi, .ref sa, .ref fl, .ref dr, .int ev, .int cnt, .int tk, .int fk, .int fpl])), (tp, .inr (2, [.ref tpa, .int nt])), (tpa, .inl (cC, 200, .inl ft)), (vs, .inl (cV, 12, .inr (.inr (.inr (.inr vf))))), (vV, .inr (4, [.ref wV, .int decV, .int belV, .long ahV, .long bhV])), (wV, .inr (2, [.ref waV, .int nV])), (waV, .inl (cC, 60, .inl fV))])) (va_Qi (fun (r : Int32) (u : Int32 × (Nat → Int32) × Int32) => match u with | (cnt2, f2, n2) => r = cnt + 1 ∧ cnt2 = cnt + 1 ∧ (f2, n2) = lnPt 60 ft nt 0 nt (fV, 0) ∧ lnOK 60 n2) (fun (u : Int32 × (Nat → Int32) × Int32) (t : State) => match u with | (cnt2, f2, n2) => va_P (dC, dI) CL [(d, .inr (5, [.ref tp, .ref vs, .ref sv, .ref fi, .ref sa, .ref fl, .ref dr, .int ev, .int cnt2, .int tk, .int fk, .int fpl])), (tp, .inr (2, [.ref tpa, .int 0])), (tpa, .inl (cC, 200, .inl ft)), (vs, .inl (cV, 12, .inr (.inr (.inr (.inr vf))))), (vV, .inr (4, [.ref wV, .int 0, .int belV, .long ahV, .long bhV])), (wV, .inr (2, [.ref waV, .int n2])), (waV, .inl (cC, 60, .inl f2))] t.heap ∧ va_K (dC, dI) CL [(cC, .char), (cV, .object "FormatDesk$Value")] t ∧ va_D (va_A [(d, .inr (5, [.ref tp, .ref vs, .ref sv, .ref fi, .ref sa, .ref fl, .ref dr, .int ev, .int cnt, .int tk, .int fk, .int fpl])), (tp, .inr (2, [.ref tpa, .int nt])), (tpa, .inl (cC, 200, .inl ft)), (vs, .inl (cV, 12, .inr (.inr (.inr (.inr vf))))), (vV, .inr (4, [.ref wV, .int decV, .int belV, .long ahV, .long bhV])), (wV, .inr (2, [.ref waV, .int nV])), (waV, .inl (cC, 60, .inl fV))] sz) [(d, .inr (5, [.ref tp, .ref vs, .ref sv, .ref fi, .ref sa, .ref fl, .ref dr, .int ev, .int cnt2, .int tk, .int fk, .int fpl])), (tp, .inr (2, [.ref tpa, .int 0])), (tpa, .inl (cC, 200, .inl ft)), (vs, .inl (cV, 12, .inr (.inr (.inr (.inr vf))))), (vV, .inr (4, [.ref wV, .int 0, .int belV, .long ahV, .long bhV])), (wV, .inr (2, [.ref waV, .int n2])), (waV, .inl (cC, 60, .inl f2))]) (va_A [(d, .inr (5, [.ref tp, .ref vs, .ref sv, .ref fi, .ref sa, .ref fl, .ref dr, .int ev, .int cnt, .int tk, .int fk, .int fpl])), (tp, .inr (2, [.ref tpa, .int nt])), (tpa, .inl (cC, 200, .inl ft)), (vs, .inl (cV, 12, .inr (.inr (.inr (.inr vf))))), (vV, .inr (4, [.ref wV, .int decV, .int belV, .long ahV, .long bhV])), (wV, .inr (2, [.ref waV, .int nV])), (waV, .inl (cC, 60, .inl fV))] sz)) 0 0 (va_A [(d, .inr (5, [.ref tp, .ref vs, .ref sv, .ref fi, .ref sa, .ref fl, .ref dr, .int ev, .int cnt, .int tk, .int fk, .int fpl])), (tp, .inr (2, [.ref tpa, .int nt])), (tpa, .inl (cC, 200, .inl ft)), (vs, .inl (cV, 12, .inr (.inr (.inr (.inr vf))))), (vV, .inr (4, [.ref wV, .int decV, .int belV, .long ahV, .long bhV])), (wV, .inr (2, [.ref waV, .int nV])), (waV, .inl (cC, 60, .inl fV))] sz) := by
  refine Met.ofW (cc := b_De_text) (maxL := 1) (ret := (some .int)) (by decide) rfl ?_
  intro p e s m args below meth c s₁ B hml hv
  obtain ⟨rfl, hsz, hP, hK, hD0⟩ := hv
  have hx := B.exec
  have hb := B.bytes
  have hr := B.returns
  have hts := atoms_spec (ws := w_De_text) B.pre
  have hT : ∀ w ∈ TB, w.before _ s = true := fun w h => hts w (List.mem_cons_of_mem _ h)
  have hown : s.vm.findClass R_De = some m.cls := findClass_of_methodNamed B.named
  have hlocks := B.notSynchronized
  subst hsz
  have hD := hD0.self (sz := s.heap.size)
  generalize hAe : va_A [(d, .inr (5, [.ref tp, .ref vs, .ref sv, .ref fi, .ref sa, .ref fl, .ref dr, .int ev, .int cnt, .int tk, .int fk, .int fpl])), (tp, .inr (2, [.ref tpa, .int nt])), (tpa, .inl (cC, 200, .inl ft)), (vs, .inl (cV, 12, .inr (.inr (.inr (.inr vf))))), (vV, .inr (4, [.ref wV, .int decV, .int belV, .long ahV, .long bhV])), (wV, .inr (2, [.ref waV, .int nV])), (waV, .inl (cC, 60, .inl fV))] s.heap.size = A at hD ⊢
  have hA : ∀ q : Nat, s.heap.size ≤ q → A q := fun q h => by rw [← hAe]; exact Or.inr h
  have hS : va_S A s.heap s.heap [] := va_S.rf
  have hP : va_P (dC, dI) CL [(d, .inr (5, [.ref tp, .ref vs, .ref sv, .ref fi, .ref sa, .ref fl, .ref dr, .int ev, .int cnt, .int tk, .int fk, .int fpl])), (tp, .inr (2, [.ref tpa, .int nt])), (tpa, .inl (cC, 200, .inl ft)), (vs, .inl (cV, 12, .inr (.inr (.inr (.inr vf))))), (vV, .inr (4, [.ref wV, .int decV, .int belV, .long ahV, .long bhV])), (wV, .inr (2, [.ref waV, .int nV])), (waV, .inl (cC, 60, .inl fV))] s.heap := hP
  have hl := lv_entry ([.ref d]) (n := 1) (Nat.le_of_ble_eq_true rfl)
  rw [lg_entry_eq]
  generalize (lg_sl ([.ref d]) ++ List.replicate (1 - (lg_sl ([.ref d])).length) Slot.unset).toArray = ls at hl ⊢
  have hl : lv_has ls 1 [(0, .ref d)] := hl
  refine lv_aload_n hx hb d_De_text_0 rfl (lv_at hl 0 rfl) ?_
  refine va_get (D := (dC, dI)) (ci := 5) (v := .ref tp) (C := R_De) (T := F_De) (N := 12) hx hb hT (in_De) hown hK hP 0 rfl rfl 0 (by decide) (hT _ t_157) (fun _ h9 => h9) rfl d_De_text_1 ?_
  have hPc := hP.sub (ws' := [(tp, .inr (2, [.ref tpa, .int nt])), (tpa, .inl (cC, 200, .inl ft))]) [1, 2] rfl
  have hDc := hD.sub (ws' := [(tp, .inr (2, [.ref tpa, .int nt])), (tpa, .inl (cC, 200, .inl ft))]) [1, 2] (by decide) rfl
  have hKc := hK.sub (tys' := [(cC, .char)]) [0] rfl
  have hFc := va_free (wc := [(tp, .inr (2, [.ref tpa, .int nt])), (tpa, .inl (cC, 200, .inl ft))]) hD hS hA [1, 2] rfl
  refine va_calli (va_runV (As := []) (rest := []) ⟨hx, hb, hml, hown, hT⟩ (c_Line_size l dC dI s.heap.size cC tp tpa 200 ft nt ) (cwV 0 hT g_De_60 rfl rfl rfl (by decide +kernel) ⟨Nat.le_of_ble_eq_true rfl, Nat.le_of_ble_eq_true rfl⟩) ⟨fun a U g mk q => by obtain ⟨q0, q1, qP, qK, qD⟩ := q; exact ⟨q0, q1, qP, va_K.moved (u := U) (U := U.calling g mk a) (Vm.Alike.refl U.vm) qK, qD⟩, va_recv hKc hPc (ci := 2) (q0 := 0) rfl rfl, fun U hU hW => ⟨rfl, by rw [hU], by rw [hU]; exact hPc, va_K.moved hW.alike hKc, hDc.weaken (fun _ _ _ _ => trivial)⟩⟩ rfl rfl hl.1 rfl (lv_room (Nat.le_of_ble_eq_true rfl)) d_De_text_4 ⟨Nat.le_of_ble_eq_true rfl, Nat.le_of_ble_eq_true rfl⟩) hS (fun q _ h => hFc q h) hFc (fun x1 u t H1 locs ht hvm w4_1 hB hz1 hk1 hS => ?_)
  obtain ⟨hP1, hK1, hD1⟩ := hB
  rw [ht] at hP1
  try dsimp only at w4_1
  obtain ⟨hP, hD⟩ := va_join (wr := [(d, .inr (5, [.ref tp, .ref vs, .ref sv, .ref fi, .ref sa, .ref fl, .ref dr, .int ev, .int cnt, .int tk, .int fk, .int fpl])), (vs, .inl (cV, 12, .inr (.inr (.inr (.inr vf))))), (vV, .inr (4, [.ref wV, .int decV, .int belV, .long ahV, .long bhV])), (wV, .inr (2, [.ref waV, .int nV])), (waV, .inl (cC, 60, .inl fV))]) (w1 := [(tp, .inr (2, [.ref tpa, .int nt])), (tpa, .inl (cC, 200, .inl ft))]) hP hD [1, 2] [0, 3, 4, 5, 6] rfl rfl (by decide) (by decide) hk1 hFc hP1 hD1
  generalize H1 = H at hP hS ⊢
  have hP : va_P (dC, dI) CL [(d, .inr (5, [.ref tp, .ref vs, .ref sv, .ref fi, .ref sa, .ref fl, .ref dr, .int ev, .int cnt, .int tk, .int fk, .int fpl])), (vs, .inl (cV, 12, .inr (.inr (.inr (.inr vf))))), (vV, .inr (4, [.ref wV, .int decV, .int belV, .long ahV, .long bhV])), (wV, .inr (2, [.ref waV, .int nV])), (waV, .inl (cC, 60, .inl fV)), (tp, .inr (2, [.ref tpa, .int nt])), (tpa, .inl (cC, 200, .inl ft))] H := hP
  have hD : va_D A [(d, .inr (5, [.ref tp, .ref vs, .ref sv, .ref fi, .ref sa, .ref fl, .ref dr, .int ev, .int cnt, .int tk, .int fk, .int fpl])), (vs, .inl (cV, 12, .inr (.inr (.inr (.inr vf))))), (vV, .inr (4, [.ref wV, .int decV, .int belV, .long ahV, .long bhV])), (wV, .inr (2, [.ref waV, .int nV])), (waV, .inl (cC, 60, .inl fV)), (tp, .inr (2, [.ref tpa, .int nt])), (tpa, .inl (cC, 200, .inl ft))] := hD
  refine lv_bipush (v := 60) hx hb d_De_text_7 (by decide) ?_
  refine lv_icmp_gt (tgt := 21) hx hb d_De_text_9 (by decide) (fun c9_2 => ?_) (fun c9_2 => ?_)
  · skip
    rw [w4_1] at c9_2; exact absurd c9_2 hsz9
  · skip
    refine lv_aload_n hx hb d_De_text_12 rfl (lv_at hl 0 rfl) ?_
    refine va_get (D := (dC, dI)) (ci := 5) (v := .int cnt) (C := R_De) (T := F_De) (N := 12) hx hb hT (in_De) hown hK hP 0 rfl rfl 8 (by decide) (hT _ t_165) (fun _ h9 => h9) rfl d_De_text_13 ?_
    refine lv_bipush (v := 12) hx hb d_De_text_16 (by decide) ?_
    refine lv_icmp_lt (tgt := 23) hx hb d_De_text_18 (by decide) (fun c18_3 => ?_) (fun c18_3 => ?_)
    · skip
      refine lv_aload_n hx hb d_De_text_23 rfl (lv_at hl 0 rfl) ?_
      refine va_get (D := (dC, dI)) (ci := 5) (v := .ref vs) (C := R_De) (T := F_De) (N := 12) hx hb hT (in_De) hown hK hP 0 rfl rfl 1 (by decide) (hT _ t_158) (fun _ h9 => h9) rfl d_De_text_24 ?_
      refine lv_aload_n hx hb d_De_text_27 rfl (lv_at hl 0 rfl) ?_
      refine va_get (D := (dC, dI)) (ci := 5) (v := .int cnt) (C := R_De) (T := F_De) (N := 12) hx hb hT (in_De) hown hK hP 0 rfl rfl 8 (by decide) (hT _ t_165) (fun _ h9 => h9) rfl d_De_text_28 ?_
      refine va_aldq hx hb hK hP 1 1 rfl rfl hin9 d_De_text_31 ?_
      rw [show va_rf (vf cnt.toNatClampNeg) = Value.ref vV from by rw [hv]; rfl]
      refine lv_aload_n hx hb d_De_text_32 rfl (lv_at hl 0 rfl) ?_
      refine va_get (D := (dC, dI)) (ci := 5) (v := .ref tp) (C := R_De) (T := F_De) (N := 12) hx hb hT (in_De) hown hK hP 0 rfl rfl 0 (by decide) (hT _ t_157) (fun _ h9 => h9) rfl d_De_text_33 ?_
      have hPc := hP.sub (ws' := [(vV, .inr (4, [.ref wV, .int decV, .int belV, .long ahV, .long bhV])), (wV, .inr (2, [.ref waV, .int nV])), (waV, .inl (cC, 60, .inl fV)), (tp, .inr (2, [.ref tpa, .int nt])), (tpa, .inl (cC, 200, .inl ft))]) [2, 3, 4, 5, 6] rfl
      have hDc := hD.sub (ws' := [(vV, .inr (4, [.ref wV, .int decV, .int belV, .long ahV, .long bhV])), (wV, .inr (2, [.ref waV, .int nV])), (waV, .inl (cC, 60, .inl fV)), (tp, .inr (2, [.ref tpa, .int nt])), (tpa, .inl (cC, 200, .inl ft))]) [2, 3, 4, 5, 6] (by decide) rfl
      have hKc := hK.sub (tys' := [(cC, .char)]) [0] rfl
      have hFc := va_free (wc := [(vV, .inr (4, [.ref wV, .int decV, .int belV, .long ahV, .long bhV])), (wV, .inr (2, [.ref waV, .int nV])), (waV, .inl (cC, 60, .inl fV)), (tp, .inr (2, [.ref tpa, .int nt])), (tpa, .inl (cC, 200, .inl ft))]) hD hS hA [2, 3, 4, 5, 6] rfl
      refine va_callv (va_runV (As := [.ref tp]) (rest := []) ⟨hx, hb, hml, hown, hT⟩ (c_Value_readWords l dC dI H.size cC vV wV waV decV belV ahV bhV fV nV tp tpa 200 ft nt hnV hnt) (cwV 1 hT g_De_68 rfl rfl rfl (by decide +kernel) ⟨Nat.le_of_ble_eq_true rfl, Nat.le_of_ble_eq_true rfl⟩) ⟨fun a U g mk q => by obtain ⟨q0, q1, qP, qK, qD⟩ := q; exact ⟨q0, q1, qP, va_K.moved (u := U) (U := U.calling g mk a) (Vm.Alike.refl U.vm) qK, qD⟩, va_recv hKc hPc (ci := 4) (q0 := 0) rfl rfl, fun U hU hW => ⟨rfl, by rw [hU], by rw [hU]; exact hPc, va_K.moved hW.alike hKc, hDc.weaken (fun _ _ _ _ => trivial)⟩⟩ rfl rfl hl.1 rfl (lv_room (Nat.le_of_ble_eq_true rfl)) d_De_text_36 ⟨Nat.le_of_ble_eq_true rfl, Nat.le_of_ble_eq_true rfl⟩) hS (fun q _ h => hFc q h) hFc (fun u t H1 locs ht hvm w36_5 hB hz1 hk1 hS => ?_)
      obtain ⟨f_4, n_5⟩ := u
      obtain ⟨hP1, hK1, hD1⟩ := hB
      rw [ht] at hP1
      try dsimp only at w36_5
      obtain ⟨w36_5, w36_5b⟩ := w36_5
      obtain ⟨hP, hD⟩ := va_join (wr := [(d, .inr (5, [.ref tp, .ref vs, .ref sv, .ref fi, .ref sa, .ref fl, .ref dr, .int ev, .int cnt, .int tk, .int fk, .int fpl])), (vs, .inl (cV, 12, .inr (.inr (.inr (.inr vf)))))]) (w1 := [(vV, .inr (4, [.ref wV, .int 0, .int belV, .long ahV, .long bhV])), (wV, .inr (2, [.ref waV, .int n_5])), (waV, .inl (cC, 60, .inl f_4)), (tp, .inr (2, [.ref tpa, .int nt])), (tpa, .inl (cC, 200, .inl ft))]) hP hD [2, 3, 4, 5, 6] [0, 1] rfl rfl (by decide) (by decide) hk1 hFc hP1 hD1
      generalize H1 = H at hP hS ⊢
      have hP : va_P (dC, dI) CL [(d, .inr (5, [.ref tp, .ref vs, .ref sv, .ref fi, .ref sa, .ref fl, .ref dr, .int ev, .int cnt, .int tk, .int fk, .int fpl])), (vs, .inl (cV, 12, .inr (.inr (.inr (.inr vf))))), (vV, .inr (4, [.ref wV, .int 0, .int belV, .long ahV, .long bhV])), (wV, .inr (2, [.ref waV, .int n_5])), (waV, .inl (cC, 60, .inl f_4)), (tp, .inr (2, [.ref tpa, .int nt])), (tpa, .inl (cC, 200, .inl ft))] H := hP
      have hD : va_D A [(d, .inr (5, [.ref tp, .ref vs, .ref sv, .ref fi, .ref sa, .ref fl, .ref dr, .int ev, .int cnt, .int tk, .int fk, .int fpl])), (vs, .inl (cV, 12, .inr (.inr (.inr (.inr vf))))), (vV, .inr (4, [.ref wV, .int 0, .int belV, .long ahV, .long bhV])), (wV, .inr (2, [.ref waV, .int n_5])), (waV, .inl (cC, 60, .inl f_4)), (tp, .inr (2, [.ref tpa, .int nt])), (tpa, .inl (cC, 200, .inl ft))] := hD
      refine lv_aload_n hx hb d_De_text_39 rfl (lv_at hl 0 rfl) ?_
      refine va_get (D := (dC, dI)) (ci := 5) (v := .ref tp) (C := R_De) (T := F_De) (N := 12) hx hb hT (in_De) hown hK hP 0 rfl rfl 0 (by decide) (hT _ t_157) (fun _ h9 => h9) rfl d_De_text_40 ?_
      have hPc := hP.sub (ws' := [(tp, .inr (2, [.ref tpa, .int nt])), (tpa, .inl (cC, 200, .inl ft))]) [5, 6] rfl
      have hDc := hD.sub (ws' := [(tp, .inr (2, [.ref tpa, .int nt])), (tpa, .inl (cC, 200, .inl ft))]) [5, 6] (by decide) rfl
      have hKc := hK.sub (tys' := [(cC, .char)]) [0] rfl
      have hFc := va_free (wc := [(tp, .inr (2, [.ref tpa, .int nt])), (tpa, .inl (cC, 200, .inl ft))]) hD hS hA [5, 6] rfl
      refine va_callv (va_runV (As := []) (rest := []) ⟨hx, hb, hml, hown, hT⟩ (c_Line_empty l dC dI H.size cC tp tpa 200 ft nt ) (cwV 0 hT g_De_72 rfl rfl rfl (by decide +kernel) ⟨Nat.le_of_ble_eq_true rfl, Nat.le_of_ble_eq_true rfl⟩) ⟨fun a U g mk q => by obtain ⟨q0, q1, qP, qK, qD⟩ := q; exact ⟨q0, q1, qP, va_K.moved (u := U) (U := U.calling g mk a) (Vm.Alike.refl U.vm) qK, qD⟩, va_recv hKc hPc (ci := 2) (q0 := 0) rfl rfl, fun U hU hW => ⟨rfl, by rw [hU], by rw [hU]; exact hPc, va_K.moved hW.alike hKc, hDc.weaken (fun _ _ _ _ => trivial)⟩⟩ rfl rfl hl.1 rfl (lv_room (Nat.le_of_ble_eq_true rfl)) d_De_text_43 ⟨Nat.le_of_ble_eq_true rfl, Nat.le_of_ble_eq_true rfl⟩) hS (fun q _ h => hFc q h) hFc (fun u t H1 locs ht hvm w43_5 hB hz1 hk1 hS => ?_)
      obtain ⟨hP1, hK1, hD1⟩ := hB
      rw [ht] at hP1
      try dsimp only at w43_5
      obtain ⟨hP, hD⟩ := va_join (wr := [(d, .inr (5, [.ref tp, .ref vs, .ref sv, .ref fi, .ref sa, .ref fl, .ref dr, .int ev, .int cnt, .int tk, .int fk, .int fpl])), (vs, .inl (cV, 12, .inr (.inr (.inr (.inr vf))))), (vV, .inr (4, [.ref wV, .int 0, .int belV, .long ahV, .long bhV])), (wV, .inr (2, [.ref waV, .int n_5])), (waV, .inl (cC, 60, .inl f_4))]) (w1 := [(tp, .inr (2, [.ref tpa, .int 0])), (tpa, .inl (cC, 200, .inl ft))]) hP hD [5, 6] [0, 1, 2, 3, 4] rfl rfl (by decide) (by decide) hk1 hFc hP1 hD1
      generalize H1 = H at hP hS ⊢
      have hP : va_P (dC, dI) CL [(d, .inr (5, [.ref tp, .ref vs, .ref sv, .ref fi, .ref sa, .ref fl, .ref dr, .int ev, .int cnt, .int tk, .int fk, .int fpl])), (vs, .inl (cV, 12, .inr (.inr (.inr (.inr vf))))), (vV, .inr (4, [.ref wV, .int 0, .int belV, .long ahV, .long bhV])), (wV, .inr (2, [.ref waV, .int n_5])), (waV, .inl (cC, 60, .inl f_4)), (tp, .inr (2, [.ref tpa, .int 0])), (tpa, .inl (cC, 200, .inl ft))] H := hP
      have hD : va_D A [(d, .inr (5, [.ref tp, .ref vs, .ref sv, .ref fi, .ref sa, .ref fl, .ref dr, .int ev, .int cnt, .int tk, .int fk, .int fpl])), (vs, .inl (cV, 12, .inr (.inr (.inr (.inr vf))))), (vV, .inr (4, [.ref wV, .int 0, .int belV, .long ahV, .long bhV])), (wV, .inr (2, [.ref waV, .int n_5])), (waV, .inl (cC, 60, .inl f_4)), (tp, .inr (2, [.ref tpa, .int 0])), (tpa, .inl (cC, 200, .inl ft))] := hD
      refine lv_aload_n hx hb d_De_text_46 rfl (lv_at hl 0 rfl) ?_
      refine lv_dup hx hb d_De_text_47 rfl ?_
      refine va_get (D := (dC, dI)) (ci := 5) (v := .int cnt) (C := R_De) (T := F_De) (N := 12) hx hb hT (in_De) hown hK hP 0 rfl rfl 8 (by decide) (hT _ t_165) (fun _ h9 => h9) rfl d_De_text_48 ?_
      refine lv_iconst (v := 1) hx hb d_De_text_51 (by decide) ?_
      refine lv_iadd hx hb d_De_text_52 ?_
      refine lv_topi (fun x6 ex6 => ?_)
      refine va_put (D := (dC, dI)) (ci := 5) (v := .int x6) (ty := .int) (C := R_De) (T := F_De) (N := 12) hx hb hT (in_De) t_De t_De_ok n_De hown hK hP hD hS 0 rfl rfl 8 (by decide) (hT _ t_165) (fun _ h9 => h9) rfl (by decide +kernel) rfl rfl (Nat.le_of_ble_eq_true rfl) d_De_text_53 (fun H locs hP hD hS => ?_)
      have hP : va_P (dC, dI) CL [(d, .inr (5, [.ref tp, .ref vs, .ref sv, .ref fi, .ref sa, .ref fl, .ref dr, .int ev, .int x6, .int tk, .int fk, .int fpl])), (vs, .inl (cV, 12, .inr (.inr (.inr (.inr vf))))), (vV, .inr (4, [.ref wV, .int 0, .int belV, .long ahV, .long bhV])), (wV, .inr (2, [.ref waV, .int n_5])), (waV, .inl (cC, 60, .inl f_4)), (tp, .inr (2, [.ref tpa, .int 0])), (tpa, .inl (cC, 200, .inl ft))] H := hP
      have hD : va_D A [(d, .inr (5, [.ref tp, .ref vs, .ref sv, .ref fi, .ref sa, .ref fl, .ref dr, .int ev, .int x6, .int tk, .int fk, .int fpl])), (vs, .inl (cV, 12, .inr (.inr (.inr (.inr vf))))), (vV, .inr (4, [.ref wV, .int 0, .int belV, .long ahV, .long bhV])), (wV, .inr (2, [.ref waV, .int n_5])), (waV, .inl (cC, 60, .inl f_4)), (tp, .inr (2, [.ref tpa, .int 0])), (tpa, .inl (cC, 200, .inl ft))] := hD
      refine lv_aload_n hx hb d_De_text_56 rfl (lv_at hl 0 rfl) ?_
      refine va_get (D := (dC, dI)) (ci := 5) (v := .int x6) (C := R_De) (T := F_De) (N := 12) hx hb hT (in_De) hown hK hP 0 rfl rfl 8 (by decide) (hT _ t_165) (fun _ h9 => h9) rfl d_De_text_57 ?_
      have hP9 := hP.sub (ws' := [(d, .inr (5, [.ref tp, .ref vs, .ref sv, .ref fi, .ref sa, .ref fl, .ref dr, .int ev, .int x6, .int tk, .int fk, .int fpl])), (tp, .inr (2, [.ref tpa, .int 0])), (tpa, .inl (cC, 200, .inl ft)), (vs, .inl (cV, 12, .inr (.inr (.inr (.inr vf))))), (vV, .inr (4, [.ref wV, .int 0, .int belV, .long ahV, .long bhV])), (wV, .inr (2, [.ref waV, .int n_5])), (waV, .inl (cC, 60, .inl f_4))]) [0, 5, 6, 1, 2, 3, 4] rfl
      have hD9 := hD.sub (ws' := [(d, .inr (5, [.ref tp, .ref vs, .ref sv, .ref fi, .ref sa, .ref fl, .ref dr, .int ev, .int x6, .int tk, .int fk, .int fpl])), (tp, .inr (2, [.ref tpa, .int 0])), (tpa, .inl (cC, 200, .inl ft)), (vs, .inl (cV, 12, .inr (.inr (.inr (.inr vf))))), (vV, .inr (4, [.ref wV, .int 0, .int belV, .long ahV, .long bhV])), (wV, .inr (2, [.ref waV, .int n_5])), (waV, .inl (cC, 60, .inl f_4))]) [0, 5, 6, 1, 2, 3, 4] (by decide) rfl
      have hK9 := hK.sub (tys' := [(cC, .char), (cV, .object "FormatDesk$Value")]) [0, 1] rfl
      have hq9 : x6 = cnt + 1 ∧ x6 = cnt + 1 ∧ (f_4, n_5) = lnPt 60 ft nt 0 nt (fV, 0) ∧ lnOK 60 n_5 := by exact ⟨ex6, ex6, w36_5, w36_5b⟩
      exact W.iret (v := x6) hx hb hr (fun t ht hW => ⟨⟨x6, (x6, f_4, n_5), rfl, hq9, by rw [ht]; exact hP9, va_K.moved hW.alike hK9, hD9⟩, hS.F ht⟩) hS.2.2 d_De_text_60
    · skip
      exact absurd hcnt c18_3

set_option maxHeartbeats 4000000 in
set_option maxRecDepth 100000 in
theorem c_De_takeNext_no (l : Launch) (dC : Nat → ClassId) (dI : Nat → Nat → Nat) (sz : Nat) (d : Nat) (tp : Nat) (vs : Nat) (sv : Nat) (fi : Nat) (sa : Nat) (fl : Nat) (dr : Nat) (ev : Int32) (cnt : Int32) (tk : Int32) (fk : Int32) (fpl : Int32) (hno : ¬ tk < cnt) : Met l y_De_takeNext w_De_takeNext ({ frames := 0, cells := 0, slots := 0, locals := 0 } : Room) (va_Pc [.ref d] (fun U => U.heap.size = sz ∧ va_P (dC, dI) CL [(d, .inr (5, [.ref tp, .ref vs, .ref sv, .ref fi, .ref sa, .ref fl, .ref dr, .int ev, .int cnt, .int tk, .int fk, .int fpl]))] U.heap ∧ va_K (dC, dI) CL [] U ∧ va_D (fun _ => True) [(d, .inr (5, [.ref tp, .ref vs, .ref sv, .ref fi, .ref sa, .ref fl, .ref dr, .int ev, .int cnt, .int tk, .int fk, .int fpl]))])) (va_Qq (fun (r : Option Nat) (u : Unit) => r = none) (fun (u : Unit) (t : State) => va_P (dC, dI) CL [(d, .inr (5, [.ref tp, .ref vs, .ref sv, .ref fi, .ref sa, .ref fl, .ref dr, .int ev, .int cnt, .int tk, .int fk, .int fpl]))] t.heap ∧ va_K (dC, dI) CL [] t ∧ va_D (va_A [(d, .inr (5, [.ref tp, .ref vs, .ref sv, .ref fi, .ref sa, .ref fl, .ref dr, .int ev, .int cnt, .int tk, .int fk, .int fpl]))] sz) [(d, .inr (5, [.ref tp, .ref vs, .ref sv, .ref fi, .ref sa, .ref fl, .ref dr, .int ev, .int cnt, .int tk, .int fk, .int fpl]))]) (va_A [(d, .inr (5, [.ref tp, .ref vs, .ref sv, .ref fi, .ref sa, .ref fl, .ref dr, .int ev, .int cnt, .int tk, .int fk, .int fpl]))] sz)) 0 0 (va_A [(d, .inr (5, [.ref tp, .ref vs, .ref sv, .ref fi, .ref sa, .ref fl, .ref dr, .int ev, .int cnt, .int tk, .int fk, .int fpl]))] sz) := by
  refine Met.ofW (cc := b_De_takeNext) (maxL := 2) (ret := (some (.object "FormatDesk$Value"))) (by decide) rfl ?_
  intro p e s m args below meth c s₁ B hml hv
  obtain ⟨rfl, hsz, hP, hK, hD0⟩ := hv
  have hx := B.exec
  have hb := B.bytes
  have hr := B.returns
  have hts := atoms_spec (ws := w_De_takeNext) B.pre
  have hT : ∀ w ∈ TB, w.before _ s = true := fun w h => hts w (List.mem_cons_of_mem _ h)
  have hown : s.vm.findClass R_De = some m.cls := findClass_of_methodNamed B.named
  have hlocks := B.notSynchronized
  subst hsz
  have hD := hD0.self (sz := s.heap.size)
  generalize hAe : va_A [(d, .inr (5, [.ref tp, .ref vs, .ref sv, .ref fi, .ref sa, .ref fl, .ref dr, .int ev, .int cnt, .int tk, .int fk, .int fpl]))] s.heap.size = A at hD ⊢
  have hA : ∀ q : Nat, s.heap.size ≤ q → A q := fun q h => by rw [← hAe]; exact Or.inr h
  have hS : va_S A s.heap s.heap [] := va_S.rf
  have hP : va_P (dC, dI) CL [(d, .inr (5, [.ref tp, .ref vs, .ref sv, .ref fi, .ref sa, .ref fl, .ref dr, .int ev, .int cnt, .int tk, .int fk, .int fpl]))] s.heap := hP
  have hl := lv_entry ([.ref d]) (n := 2) (Nat.le_of_ble_eq_true rfl)
  rw [lg_entry_eq]
  generalize (lg_sl ([.ref d]) ++ List.replicate (2 - (lg_sl ([.ref d])).length) Slot.unset).toArray = ls at hl ⊢
  have hl : lv_has ls 2 [(0, .ref d)] := hl
  refine lv_aload_n hx hb d_De_takeNext_0 rfl (lv_at hl 0 rfl) ?_
  refine va_get (D := (dC, dI)) (ci := 5) (v := .int tk) (C := R_De) (T := F_De) (N := 12) hx hb hT (in_De) hown hK hP 0 rfl rfl 9 (by decide) (hT _ t_166) (fun _ h9 => h9) rfl d_De_takeNext_1 ?_
  refine lv_aload_n hx hb d_De_takeNext_4 rfl (lv_at hl 0 rfl) ?_
  refine va_get (D := (dC, dI)) (ci := 5) (v := .int cnt) (C := R_De) (T := F_De) (N := 12) hx hb hT (in_De) hown hK hP 0 rfl rfl 8 (by decide) (hT _ t_165) (fun _ h9 => h9) rfl d_De_takeNext_5 ?_
  refine lv_icmp_lt (tgt := 13) hx hb d_De_takeNext_8 (by decide) (fun c8_1 => ?_) (fun c8_1 => ?_)
  · skip
    exact absurd c8_1 hno
  · skip
    refine lv_null hx hb d_De_takeNext_11 ?_
    have hP9 := hP.sub (ws' := [(d, .inr (5, [.ref tp, .ref vs, .ref sv, .ref fi, .ref sa, .ref fl, .ref dr, .int ev, .int cnt, .int tk, .int fk, .int fpl]))]) [0] rfl
    have hD9 := hD.sub (ws' := [(d, .inr (5, [.ref tp, .ref vs, .ref sv, .ref fi, .ref sa, .ref fl, .ref dr, .int ev, .int cnt, .int tk, .int fk, .int fpl]))]) [0] (by decide) rfl
    have hK9 := hK.sub (tys' := []) [] rfl
    have hq9 : (none : Option Nat) = none := rfl
    exact W.aret (v := .null) hx hb hr (Or.inl ⟨_, rfl⟩) (Or.inl rfl) (fun t ht hW => ⟨⟨none, (), rfl, hq9, by rw [ht]; exact hP9, va_K.moved hW.alike hK9, hD9⟩, hS.F ht⟩) hS.2.2 d_De_takeNext_12

set_option maxHeartbeats 4000000 in
set_option maxRecDepth 100000 in
theorem c_De_takeNext_yes (l : Launch) (dC : Nat → ClassId) (dI : Nat → Nat → Nat) (sz : Nat) (cV : ClassId) (d : Nat) (tp : Nat) (vs : Nat) (sv : Nat) (fi : Nat) (sa : Nat) (fl : Nat) (dr : Nat) (ev : Int32) (cnt : Int32) (tk : Int32) (fk : Int32) (fpl : Int32) (vf : Nat → Option Nat) (vV : Nat) (hlt : tk < cnt) (hin9 : vp_in tk 12) (hv : vf tk.toNatClampNeg = some vV) : Met l y_De_takeNext w_De_takeNext ({ frames := 0, cells := 0, slots := 0, locals := 0 } : Room) (va_Pc [.ref d] (fun U => U.heap.size = sz ∧ va_P (dC, dI) CL [(d, .inr (5, [.ref tp, .ref vs, .ref sv, .ref fi, .ref sa, .ref fl, .ref dr, .int ev, .int cnt, .int tk, .int fk, .int fpl])), (vs, .inl (cV, 12, .inr (.inr (.inr (.inr vf)))))] U.heap ∧ va_K (dC, dI) CL [(cV, .object "FormatDesk$Value")] U ∧ va_D (fun _ => True) [(d, .inr (5, [.ref tp, .ref vs, .ref sv, .ref fi, .ref sa, .ref fl, .ref dr, .int ev, .int cnt, .int tk, .int fk, .int fpl])), (vs, .inl (cV, 12, .inr (.inr (.inr (.inr vf)))))])) (va_Qq (fun (r : Option Nat) (tk2 : Int32) => r = some vV ∧ tk2 = tk + 1) (fun (tk2 : Int32) (t : State) => va_P (dC, dI) CL [(d, .inr (5, [.ref tp, .ref vs, .ref sv, .ref fi, .ref sa, .ref fl, .ref dr, .int ev, .int cnt, .int tk2, .int fk, .int fpl])), (vs, .inl (cV, 12, .inr (.inr (.inr (.inr vf)))))] t.heap ∧ va_K (dC, dI) CL [(cV, .object "FormatDesk$Value")] t ∧ va_D (va_A [(d, .inr (5, [.ref tp, .ref vs, .ref sv, .ref fi, .ref sa, .ref fl, .ref dr, .int ev, .int cnt, .int tk, .int fk, .int fpl])), (vs, .inl (cV, 12, .inr (.inr (.inr (.inr vf)))))] sz) [(d, .inr (5, [.ref tp, .ref vs, .ref sv, .ref fi, .ref sa, .ref fl, .ref dr, .int ev, .int cnt, .int tk2, .int fk, .int fpl])), (vs, .inl (cV, 12, .inr (.inr (.inr (.inr vf)))))]) (va_A [(d, .inr (5, [.ref tp, .ref vs, .ref sv, .ref fi, .ref sa, .ref fl, .ref dr, .int ev, .int cnt, .int tk, .int fk, .int fpl])), (vs, .inl (cV, 12, .inr (.inr (.inr (.inr vf)))))] sz)) 0 0 (va_A [(d, .inr (5, [.ref tp, .ref vs, .ref sv, .ref fi, .ref sa, .ref fl, .ref dr, .int ev, .int cnt, .int tk, .int fk, .int fpl])), (vs, .inl (cV, 12, .inr (.inr (.inr (.inr vf)))))] sz) := by
  refine Met.ofW (cc := b_De_takeNext) (maxL := 2) (ret := (some (.object "FormatDesk$Value"))) (by decide) rfl ?_
  intro p e s m args below meth c s₁ B hml hv
  obtain ⟨rfl, hsz, hP, hK, hD0⟩ := hv
  have hx := B.exec
  have hb := B.bytes
  have hr := B.returns
  have hts := atoms_spec (ws := w_De_takeNext) B.pre
  have hT : ∀ w ∈ TB, w.before _ s = true := fun w h => hts w (List.mem_cons_of_mem _ h)
  have hown : s.vm.findClass R_De = some m.cls := findClass_of_methodNamed B.named
  have hlocks := B.notSynchronized
  subst hsz
  have hD := hD0.self (sz := s.heap.size)
  generalize hAe : va_A [(d, .inr (5, [.ref tp, .ref vs, .ref sv, .ref fi, .ref sa, .ref fl, .ref dr, .int ev, .int cnt, .int tk, .int fk, .int fpl])), (vs, .inl (cV, 12, .inr (.inr (.inr (.inr vf)))))] s.heap.size = A at hD ⊢
  have hA : ∀ q : Nat, s.heap.size ≤ q → A q := fun q h => by rw [← hAe]; exact Or.inr h
  have hS : va_S A s.heap s.heap [] := va_S.rf
  have hP : va_P (dC, dI) CL [(d, .inr (5, [.ref tp, .ref vs, .ref sv, .ref fi, .ref sa, .ref fl, .ref dr, .int ev, .int cnt, .int tk, .int fk, .int fpl])), (vs, .inl (cV, 12, .inr (.inr (.inr (.inr vf)))))] s.heap := hP
  have hl := lv_entry ([.ref d]) (n := 2) (Nat.le_of_ble_eq_true rfl)
  rw [lg_entry_eq]
  generalize (lg_sl ([.ref d]) ++ List.replicate (2 - (lg_sl ([.ref d])).length) Slot.unset).toArray = ls at hl ⊢
  have hl : lv_has ls 2 [(0, .ref d)] := hl
  refine lv_aload_n hx hb d_De_takeNext_0 rfl (lv_at hl 0 rfl) ?_
  refine va_get (D := (dC, dI)) (ci := 5) (v := .int tk) (C := R_De) (T := F_De) (N := 12) hx hb hT (in_De) hown hK hP 0 rfl rfl 9 (by decide) (hT _ t_166) (fun _ h9 => h9) rfl d_De_takeNext_1 ?_
  refine lv_aload_n hx hb d_De_takeNext_4 rfl (lv_at hl 0 rfl) ?_
  refine va_get (D := (dC, dI)) (ci := 5) (v := .int cnt) (C := R_De) (T := F_De) (N := 12) hx hb hT (in_De) hown hK hP 0 rfl rfl 8 (by decide) (hT _ t_165) (fun _ h9 => h9) rfl d_De_takeNext_5 ?_
  refine lv_icmp_lt (tgt := 13) hx hb d_De_takeNext_8 (by decide) (fun c8_1 => ?_) (fun c8_1 => ?_)
  · skip
    refine lv_aload_n hx hb d_De_takeNext_13 rfl (lv_at hl 0 rfl) ?_
    refine va_get (D := (dC, dI)) (ci := 5) (v := .ref vs) (C := R_De) (T := F_De) (N := 12) hx hb hT (in_De) hown hK hP 0 rfl rfl 1 (by decide) (hT _ t_158) (fun _ h9 => h9) rfl d_De_takeNext_14 ?_
    refine lv_aload_n hx hb d_De_takeNext_17 rfl (lv_at hl 0 rfl) ?_
    refine va_get (D := (dC, dI)) (ci := 5) (v := .int tk) (C := R_De) (T := F_De) (N := 12) hx hb hT (in_De) hown hK hP 0 rfl rfl 9 (by decide) (hT _ t_166) (fun _ h9 => h9) rfl d_De_takeNext_18 ?_
    refine va_aldq hx hb hK hP 1 0 rfl rfl hin9 d_De_takeNext_21 ?_
    rw [show va_rf (vf tk.toNatClampNeg) = Value.ref vV from by rw [hv]; rfl]
    refine lv_astore_n (lv' := [(1, .ref vV), (0, .ref d)]) hx hb d_De_takeNext_22 rfl hl (by decide) rfl (fun ls hl => ?_)
    refine lv_aload_n hx hb d_De_takeNext_23 rfl (lv_at hl 1 rfl) ?_
    refine lv_dup hx hb d_De_takeNext_24 rfl ?_
    refine va_get (D := (dC, dI)) (ci := 5) (v := .int tk) (C := R_De) (T := F_De) (N := 12) hx hb hT (in_De) hown hK hP 0 rfl rfl 9 (by decide) (hT _ t_166) (fun _ h9 => h9) rfl d_De_takeNext_25 ?_
    refine lv_iconst (v := 1) hx hb d_De_takeNext_28 (by decide) ?_
    refine lv_iadd hx hb d_De_takeNext_29 ?_
    refine lv_topi (fun x2 ex2 => ?_)
    refine va_put (D := (dC, dI)) (ci := 5) (v := .int x2) (ty := .int) (C := R_De) (T := F_De) (N := 12) hx hb hT (in_De) t_De t_De_ok n_De hown hK hP hD hS 0 rfl rfl 9 (by decide) (hT _ t_166) (fun _ h9 => h9) rfl (by decide +kernel) rfl rfl (Nat.le_of_ble_eq_true rfl) d_De_takeNext_30 (fun H locs hP hD hS => ?_)
    have hP : va_P (dC, dI) CL [(d, .inr (5, [.ref tp, .ref vs, .ref sv, .ref fi, .ref sa, .ref fl, .ref dr, .int ev, .int cnt, .int x2, .int fk, .int fpl])), (vs, .inl (cV, 12, .inr (.inr (.inr (.inr vf)))))] H := hP
    have hD : va_D A [(d, .inr (5, [.ref tp, .ref vs, .ref sv, .ref fi, .ref sa, .ref fl, .ref dr, .int ev, .int cnt, .int x2, .int fk, .int fpl])), (vs, .inl (cV, 12, .inr (.inr (.inr (.inr vf)))))] := hD
    refine lv_aload_n hx hb d_De_takeNext_33 rfl (lv_at hl 0 rfl) ?_
    have hP9 := hP.sub (ws' := [(d, .inr (5, [.ref tp, .ref vs, .ref sv, .ref fi, .ref sa, .ref fl, .ref dr, .int ev, .int cnt, .int x2, .int fk, .int fpl])), (vs, .inl (cV, 12, .inr (.inr (.inr (.inr vf)))))]) [0, 1] rfl
    have hD9 := hD.sub (ws' := [(d, .inr (5, [.ref tp, .ref vs, .ref sv, .ref fi, .ref sa, .ref fl, .ref dr, .int ev, .int cnt, .int x2, .int fk, .int fpl])), (vs, .inl (cV, 12, .inr (.inr (.inr (.inr vf)))))]) [0, 1] (by decide) rfl
    have hK9 := hK.sub (tys' := [(cV, .object "FormatDesk$Value")]) [0] rfl
    have hq9 : (some vV : Option Nat) = some vV ∧ x2 = tk + 1 := ⟨rfl, ex2⟩
    exact W.aret (v := .ref vV) hx hb hr (Or.inl ⟨_, rfl⟩) (Or.inr ⟨_, rfl⟩) (fun t ht hW => ⟨⟨some vV, x2, rfl, hq9, by rw [ht]; exact hP9, va_K.moved hW.alike hK9, hD9⟩, hS.F ht⟩) hS.2.2 d_De_takeNext_34
  · skip
    exact absurd hlt c8_1
