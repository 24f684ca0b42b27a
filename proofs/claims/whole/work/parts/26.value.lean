theorem t_4 : (.initialized R_Va : Cond) ∈ TB := tb_of 4 (by decide +kernel) (by decide +kernel)
theorem t_24 : (.instantiable R_Ln 2 : Cond) ∈ TB := tb_of 24 (by decide +kernel) (by decide +kernel)
theorem t_26 : (.instanceMethod y_Ln_init : Cond) ∈ TB := tb_of 26 (by decide +kernel) (by decide +kernel)
theorem t_27 : (.code y_Ln_init b_Ln_init 2 none : Cond) ∈ TB := tb_of 27 (by decide +kernel) (by decide +kernel)
theorem t_46 : (.methodLink R_Va 3 objectInit : Cond) ∈ TB := tb_of 46 (by decide +kernel) (by decide +kernel)
theorem t_47 : (.classLink R_Va 9 R_Ln : Cond) ∈ TB := tb_of 47 (by decide +kernel) (by decide +kernel)
theorem t_48 : (.methodLink R_Va 11 y_Ln_init : Cond) ∈ TB := tb_of 48 (by decide +kernel) (by decide +kernel)
theorem t_49 : (.fieldLink R_Va 14 R_Va "words" "LFormatDesk$Line;" : Cond) ∈ TB := tb_of 49 (by decide +kernel) (by decide +kernel)
theorem t_51 : (.fieldLink R_Va 20 R_Va "isDecimal" "Z" : Cond) ∈ TB := tb_of 51 (by decide +kernel) (by decide +kernel)
theorem t_53 : (.fieldLink R_Va 55 R_Va "below" "Z" : Cond) ∈ TB := tb_of 53 (by decide +kernel) (by decide +kernel)
theorem t_57 : (.fieldLink R_Va 46 R_Va "ahead" "J" : Cond) ∈ TB := tb_of 57 (by decide +kernel) (by decide +kernel)
theorem t_59 : (.fieldLink R_Va 50 R_Va "behind" "J" : Cond) ∈ TB := tb_of 59 (by decide +kernel) (by decide +kernel)
theorem t_214 : (.instanceMethod y_Ln_size : Cond) ∈ TB := tb_of 214 (by decide +kernel) (by decide +kernel)
theorem t_215 : (.selects R_Ln y_Ln_size y_Ln_size : Cond) ∈ TB := tb_of 215 (by decide +kernel) (by decide +kernel)
theorem t_216 : (.code y_Ln_size b_Ln_size 1 (some .int) : Cond) ∈ TB := tb_of 216 (by decide +kernel) (by decide +kernel)
theorem t_221 : (.methodLink R_Va 24 y_Ln_empty : Cond) ∈ TB := tb_of 221 (by decide +kernel) (by decide +kernel)
theorem t_222 : (.instanceMethod y_Ln_empty : Cond) ∈ TB := tb_of 222 (by decide +kernel) (by decide +kernel)
theorem t_223 : (.selects R_Ln y_Ln_empty y_Ln_empty : Cond) ∈ TB := tb_of 223 (by decide +kernel) (by decide +kernel)
theorem t_224 : (.code y_Ln_empty b_Ln_empty 1 none : Cond) ∈ TB := tb_of 224 (by decide +kernel) (by decide +kernel)
theorem t_225 : (.methodLink R_Va 27 y_Ln_size : Cond) ∈ TB := tb_of 225 (by decide +kernel) (by decide +kernel)
theorem t_226 : (.methodLink R_Va 31 y_Ln_addPart : Cond) ∈ TB := tb_of 226 (by decide +kernel) (by decide +kernel)
theorem t_227 : (.instanceMethod y_Ln_addPart : Cond) ∈ TB := tb_of 227 (by decide +kernel) (by decide +kernel)
theorem t_228 : (.selects R_Ln y_Ln_addPart y_Ln_addPart : Cond) ∈ TB := tb_of 228 (by decide +kernel) (by decide +kernel)
theorem t_229 : (.code y_Ln_addPart b_Ln_addPart 5 none : Cond) ∈ TB := tb_of 229 (by decide +kernel) (by decide +kernel)
theorem t_256 : (.methodLink R_Va 78 y_Ln_matches : Cond) ∈ TB := tb_of 256 (by decide +kernel) (by decide +kernel)
theorem t_257 : (.instanceMethod y_Ln_matches : Cond) ∈ TB := tb_of 257 (by decide +kernel) (by decide +kernel)
theorem t_258 : (.selects R_Ln y_Ln_matches y_Ln_matches : Cond) ∈ TB := tb_of 258 (by decide +kernel) (by decide +kernel)
theorem t_259 : (.code y_Ln_matches b_Ln_matches 3 (some .boolean) : Cond) ∈ TB := tb_of 259 (by decide +kernel) (by decide +kernel)
theorem t_273 : (.methodLink R_Va 35 y_Ln_at : Cond) ∈ TB := tb_of 273 (by decide +kernel) (by decide +kernel)
theorem t_274 : (.methodLink R_Va 39 y_Ln_digitsFrom : Cond) ∈ TB := tb_of 274 (by decide +kernel) (by decide +kernel)
theorem t_275 : (.instanceMethod y_Ln_digitsFrom : Cond) ∈ TB := tb_of 275 (by decide +kernel) (by decide +kernel)
theorem t_276 : (.selects R_Ln y_Ln_digitsFrom y_Ln_digitsFrom : Cond) ∈ TB := tb_of 276 (by decide +kernel) (by decide +kernel)
theorem t_277 : (.code y_Ln_digitsFrom b_Ln_digitsFrom 4 (some .int) : Cond) ∈ TB := tb_of 277 (by decide +kernel) (by decide +kernel)
theorem t_281 : (.methodLink R_Va 42 y_Ln_numberAt : Cond) ∈ TB := tb_of 281 (by decide +kernel) (by decide +kernel)
theorem t_282 : (.instanceMethod y_Ln_numberAt : Cond) ∈ TB := tb_of 282 (by decide +kernel) (by decide +kernel)
theorem t_283 : (.selects R_Ln y_Ln_numberAt y_Ln_numberAt : Cond) ∈ TB := tb_of 283 (by decide +kernel) (by decide +kernel)
theorem t_284 : (.code y_Ln_numberAt b_Ln_numberAt 6 (some .long) : Cond) ∈ TB := tb_of 284 (by decide +kernel) (by decide +kernel)
theorem t_286 : (.constantLong R_Va 53 10 : Cond) ∈ TB := tb_of 286 (by decide +kernel) (by decide +kernel)
theorem t_287 : (.methodLink R_Va 58 y_Va_writePlain : Cond) ∈ TB := tb_of 287 (by decide +kernel) (by decide +kernel)
theorem t_289 : (.instanceMethod y_Va_writePlain : Cond) ∈ TB := tb_of 289 (by decide +kernel) (by decide +kernel)
theorem t_290 : (.code y_Va_writePlain b_Va_writePlain 6 none : Cond) ∈ TB := tb_of 290 (by decide +kernel) (by decide +kernel)
theorem t_291 : (.methodLink R_Va 62 y_Ln_add : Cond) ∈ TB := tb_of 291 (by decide +kernel) (by decide +kernel)
theorem t_292 : (.methodLink R_Va 65 y_Ln_dropZeros : Cond) ∈ TB := tb_of 292 (by decide +kernel) (by decide +kernel)
theorem t_293 : (.instanceMethod y_Ln_dropZeros : Cond) ∈ TB := tb_of 293 (by decide +kernel) (by decide +kernel)
theorem t_294 : (.selects R_Ln y_Ln_dropZeros y_Ln_dropZeros : Cond) ∈ TB := tb_of 294 (by decide +kernel) (by decide +kernel)
theorem t_295 : (.code y_Ln_dropZeros b_Ln_dropZeros 3 none : Cond) ∈ TB := tb_of 295 (by decide +kernel) (by decide +kernel)
theorem t_458 : (.constantLong R_Va 68 99 : Cond) ∈ TB := tb_of 458 (by decide +kernel) (by decide +kernel)
theorem t_460 : (.instanceMethod y_Va_wholePart : Cond) ∈ TB := tb_of 460 (by decide +kernel) (by decide +kernel)
theorem t_461 : (.selects R_Va y_Va_wholePart y_Va_wholePart : Cond) ∈ TB := tb_of 461 (by decide +kernel) (by decide +kernel)
theorem t_462 : (.code y_Va_wholePart b_Va_wholePart 1 (some .long) : Cond) ∈ TB := tb_of 462 (by decide +kernel) (by decide +kernel)
theorem t_482 : (.methodLink R_Va 70 y_Va_wholePart : Cond) ∈ TB := tb_of 482 (by decide +kernel) (by decide +kernel)
theorem t_483 : (.constantLong R_Va 74 32 : Cond) ∈ TB := tb_of 483 (by decide +kernel) (by decide +kernel)
theorem t_484 : (.constantLong R_Va 76 126 : Cond) ∈ TB := tb_of 484 (by decide +kernel) (by decide +kernel)
theorem g_Va_11 : GoodIn TB w_Ln_init := TB_cons t_27
theorem g_Va_24 : GoodIn TB (wsV R_Va 24 R_Ln y_Ln_empty w_Ln_empty) := TB_V t_221 t_222 t_223 t_2 t_224
theorem g_Va_27 : GoodIn TB (wsV R_Va 27 R_Ln y_Ln_size w_Ln_size) := TB_V t_225 t_214 t_215 t_2 t_216
theorem g_Va_31 : GoodIn TB (wsV R_Va 31 R_Ln y_Ln_addPart w_Ln_addPart) := TB_V t_226 t_227 t_228 t_2 t_229
theorem g_Va_35 : GoodIn TB (wsV R_Va 35 R_Ln y_Ln_at w_Ln_at) := TB_V t_273 t_231 t_232 t_2 t_233
theorem g_Va_39 : GoodIn TB (wsV R_Va 39 R_Ln y_Ln_digitsFrom w_Ln_digitsFrom) := TB_V t_274 t_275 t_276 t_2 t_277
theorem g_Va_42 : GoodIn TB (wsV R_Va 42 R_Ln y_Ln_numberAt w_Ln_numberAt) := TB_V t_281 t_282 t_283 t_2 t_284
theorem g_Va_58 : GoodIn TB (wsV R_Va 58 R_Va y_Va_writePlain w_Va_writePlain) := TB_V t_287 t_289 (tb_sel (y := y_Va_writePlain) (n := 5) 0 (by decide +kernel)) t_4 t_290
theorem g_Va_62 : GoodIn TB (wsV R_Va 62 R_Ln y_Ln_add w_Ln_add) := TB_V t_291 t_206 t_207 t_2 t_208
theorem g_Va_65 : GoodIn TB (wsV R_Va 65 R_Ln y_Ln_dropZeros w_Ln_dropZeros) := TB_V t_292 t_293 t_294 t_2 t_295
theorem g_Va_70 : GoodIn TB (wsV R_Va 70 R_Va y_Va_wholePart w_Va_wholePart) := TB_V t_482 t_460 t_461 t_4 t_462
theorem g_Va_78 : GoodIn TB (wsV R_Va 78 R_Ln y_Ln_matches w_Ln_matches) := TB_V t_256 t_257 t_258 t_2 t_259
set_option maxHeartbeats 4000000 in
set_option maxRecDepth 100000 in
theorem c_Value_init (l : Launch) (dC : Nat → ClassId) (dI : Nat → Nat → Nat) (sz : Nat) (cC : ClassId) (v : Nat)  : Met l y_Va_init w_Va_init ({ frames := 2, cells := 2, slots := 62, locals := 35 } : Room) (va_Pc [.ref v] (fun U => U.heap.size = sz ∧ va_P (dC, dI) CL [(v, .inr (4, [.null, .int 0, .int 0, .long 0, .long 0]))] U.heap ∧ va_K (dC, dI) CL [(cC, .char)] U ∧ va_D (fun _ => True) [(v, .inr (4, [.null, .int 0, .int 0, .long 0, .long 0]))])) (va_Qv (fun (u : Unit) => True) (fun (u : Unit) (t : State) => ∃ w : Nat, ∃ wa : Nat, va_P (dC, dI) CL [(v, .inr (4, [.ref w, .int 0, .int 0, .long 0, .long 0])), (w, .inr (2, [.ref wa, .int 0])), (wa, .inl (cC, 60, .inl (fun _ => 0)))] t.heap ∧ va_K (dC, dI) CL [(cC, .char)] t ∧ va_D (va_A [(v, .inr (4, [.null, .int 0, .int 0, .long 0, .long 0]))] sz) [(v, .inr (4, [.ref w, .int 0, .int 0, .long 0, .long 0])), (w, .inr (2, [.ref wa, .int 0])), (wa, .inl (cC, 60, .inl (fun _ => 0)))]) (va_A [(v, .inr (4, [.null, .int 0, .int 0, .long 0, .long 0]))] sz)) 2 62 (va_A [(v, .inr (4, [.null, .int 0, .int 0, .long 0, .long 0]))] sz) := by
  refine Met.ofW (cc := b_Va_init) (maxL := 1) (ret := none) (by decide) rfl ?_
  intro p e s m args below meth c s₁ B hml hv
  obtain ⟨rfl, hsz, hP, hK, hD0⟩ := hv
  have hx := B.exec
  have hb := B.bytes
  have hr := B.returns
  have hts := atoms_spec (ws := w_Va_init) B.pre
  have hT : ∀ w ∈ TB, w.before _ s = true := fun w h => hts w (List.mem_cons_of_mem _ h)
  have hown : s.vm.findClass R_Va = some m.cls := findClass_of_methodNamed B.named
  have hlocks := B.notSynchronized
  have hin : meth.name = "<init>" := (name_of_methodNamed B.named B.method).1
  subst hsz
  have hD := hD0.self (sz := s.heap.size)
  generalize hAe : va_A [(v, .inr (4, [.null, .int 0, .int 0, .long 0, .long 0]))] s.heap.size = A at hD ⊢
  have hA : ∀ q : Nat, s.heap.size ≤ q → A q := fun q h => by rw [← hAe]; exact Or.inr h
  have hS : va_S A s.heap s.heap [] := va_S.rf
  have hP : va_P (dC, dI) CL [(v, .inr (4, [.null, .int 0, .int 0, .long 0, .long 0]))] s.heap := hP
  have hl := lv_entry ([.ref v]) (n := 1) (Nat.le_of_ble_eq_true rfl)
  rw [lg_entry_eq]
  generalize (lg_sl ([.ref v]) ++ List.replicate (1 - (lg_sl ([.ref v])).length) Slot.unset).toArray = ls at hl ⊢
  have hl : lv_has ls 1 [(0, .ref v)] := hl
  refine lv_aload_n hx hb d_Va_init_0 rfl (lv_at hl 0 rfl) ?_
  refine W.objInit hx hb hown (hT _ t_46) (hT _ t_21) (hT _ t_22) rfl (by rw [hml]; exact hl.1) rfl d_Va_init_1 (Nat.le_of_ble_eq_true rfl) (Nat.le_of_ble_eq_true rfl) ?_
  refine W.eq (g2 := F0 m 4 ls []) rfl ?_
  refine lv_aload_n hx hb d_Va_init_4 rfl (lv_at hl 0 rfl) ?_
  refine va_new (ci := 2) (fs := [.null, .int 0]) (C := R_Ln) (T := F_Ln) (N := 2) hx hb hT in_Ln t_Ln t_Ln_ok hown (hT _ t_47) (hT _ t_24) (hT _ t_2) hK hP hD hS hA rfl (fun j hj => by rcases (show j = 0 ∨ j = 1 by omega) with rfl | rfl <;> rfl) (Nat.le_of_ble_eq_true rfl) (Nat.le_of_ble_eq_true rfl) d_Va_init_5 (fun q1 H hP hD hS => ?_)
  have hP : va_P (dC, dI) CL [(v, .inr (4, [.null, .int 0, .int 0, .long 0, .long 0])), (q1, .inr (2, [.null, .int 0]))] H := hP
  have hD : va_D A [(v, .inr (4, [.null, .int 0, .int 0, .long 0, .long 0])), (q1, .inr (2, [.null, .int 0]))] := hD
  refine lv_dup hx hb d_Va_init_8 rfl ?_
  refine lv_bipush (v := 60) hx hb d_Va_init_9 (by decide) ?_
  have hPc := hP.sub (ws' := [(q1, .inr (2, [.null, .int 0]))]) [1] rfl
  have hDc := hD.sub (ws' := [(q1, .inr (2, [.null, .int 0]))]) [1] (by decide) rfl
  have hKc := hK.sub (tys' := [(cC, .char)]) [0] rfl
  have hFc := va_free (wc := [(q1, .inr (2, [.null, .int 0]))]) hD hS hA [1] rfl
  refine va_callv (va_runI (As := [.int 60]) (rest := [.ref q1, .ref v]) ⟨hx, hb, hml, hown, hT⟩ (c_Line_init60 l dC dI H.size cC q1 0 ) (cwI 1 hT g_Va_11 rfl rfl rfl (hT _ t_2) (hT _ t_48) (hT _ t_26) rfl (by decide +kernel) ⟨Nat.le_of_ble_eq_true rfl, Nat.le_of_ble_eq_true rfl⟩) ⟨fun a U g mk q => by obtain ⟨q0, q1, qP, qK, qD⟩ := q; exact ⟨q0, q1, qP, va_K.moved (u := U) (U := U.calling g mk a) (Vm.Alike.refl U.vm) qK, qD⟩, fun U hU hW => ⟨rfl, by rw [hU], by rw [hU]; exact hPc, va_K.moved hW.alike hKc, hDc.weaken (fun _ _ _ _ => trivial)⟩⟩ rfl rfl hl.1 rfl (lv_room (Nat.le_of_ble_eq_true rfl)) d_Va_init_11 ⟨Nat.le_of_ble_eq_true rfl, Nat.le_of_ble_eq_true rfl⟩) hS (fun q _ h => hFc q h) hFc (fun u t H1 locs ht hvm w11_1 hB hz1 hk1 hS => ?_)
  obtain ⟨q2, hP1, hK1, hD1⟩ := hB
  rw [ht] at hP1
  try dsimp only at w11_1
  obtain ⟨hP, hD⟩ := va_join (wr := [(v, .inr (4, [.null, .int 0, .int 0, .long 0, .long 0]))]) (w1 := [(q1, .inr (2, [.ref q2, .int 0])), (q2, .inl (cC, 60, .inl (fun _ => 0)))]) hP hD [1] [0] rfl rfl (by decide) (by decide) hk1 hFc hP1 hD1
  generalize H1 = H at hP hS ⊢
  have hP : va_P (dC, dI) CL [(v, .inr (4, [.null, .int 0, .int 0, .long 0, .long 0])), (q1, .inr (2, [.ref q2, .int 0])), (q2, .inl (cC, 60, .inl (fun _ => 0)))] H := hP
  have hD : va_D A [(v, .inr (4, [.null, .int 0, .int 0, .long 0, .long 0])), (q1, .inr (2, [.ref q2, .int 0])), (q2, .inl (cC, 60, .inl (fun _ => 0)))] := hD
  refine va_putF (D := (dC, dI)) (ci := 4) (v := .ref q1) (ty := (.object "FormatDesk$Line")) (C := R_Va) (T := F_Va) (N := 5) hx hb hT (in_Va) t_Va t_Va_ok n_Va hown hK hP hD hS 0 rfl rfl 0 (by decide) (hT _ t_49) (fun _ h9 => h9) rfl hin rfl (by decide +kernel) rfl rfl (Nat.le_of_ble_eq_true rfl) d_Va_init_14 (fun H locs hP hD hS => ?_)
  have hP : va_P (dC, dI) CL [(v, .inr (4, [.ref q1, .int 0, .int 0, .long 0, .long 0])), (q1, .inr (2, [.ref q2, .int 0])), (q2, .inl (cC, 60, .inl (fun _ => 0)))] H := hP
  have hD : va_D A [(v, .inr (4, [.ref q1, .int 0, .int 0, .long 0, .long 0])), (q1, .inr (2, [.ref q2, .int 0])), (q2, .inl (cC, 60, .inl (fun _ => 0)))] := hD
  have hP9 := hP.sub (ws' := [(v, .inr (4, [.ref q1, .int 0, .int 0, .long 0, .long 0])), (q1, .inr (2, [.ref q2, .int 0])), (q2, .inl (cC, 60, .inl (fun _ => 0)))]) [0, 1, 2] rfl
  have hD9 := hD.sub (ws' := [(v, .inr (4, [.ref q1, .int 0, .int 0, .long 0, .long 0])), (q1, .inr (2, [.ref q2, .int 0])), (q2, .inl (cC, 60, .inl (fun _ => 0)))]) [0, 1, 2] (by decide) rfl
  have hK9 := hK.sub (tys' := [(cC, .char)]) [0] rfl
  have hq9 : True := True.intro
  refine W.widen (k := 2) (n := 62) (Nat.le_of_ble_eq_true rfl) (Nat.le_of_ble_eq_true rfl) ?_
  exact W.vret hx hb hr (fun t ht hW => ⟨⟨(), rfl, hq9, q1, q2, by rw [ht]; exact hP9, va_K.moved hW.alike hK9, hD9⟩, hS.F ht⟩) hS.2.2 d_Va_init_17

set_option maxHeartbeats 4000000 in
set_option maxRecDepth 100000 in
theorem c_Value_readWords (l : Launch) (dC : Nat → ClassId) (dI : Nat → Nat → Nat) (sz : Nat) (cC : ClassId) (v : Nat) (w : Nat) (wa : Nat) (dec : Int32) (bel : Int32) (ah : Int64) (bh : Int64) (f : Nat → Int32) (n : Int32) (hF : Nat) (aF : Nat) (roomF : Nat) (fF : Nat → Int32) (nF : Int32) (hn : lnOK 60 n) (hn2 : lnOK roomF nF) : Met l y_Va_readWords w_Va_readWords ({ frames := 2, cells := 0, slots := 0, locals := 45 } : Room) (va_Pc [.ref v, .ref hF] (fun U => U.heap.size = sz ∧ va_P (dC, dI) CL [(v, .inr (4, [.ref w, .int dec, .int bel, .long ah, .long bh])), (w, .inr (2, [.ref wa, .int n])), (wa, .inl (cC, 60, .inl f)), (hF, .inr (2, [.ref aF, .int nF])), (aF, .inl (cC, roomF, .inl fF))] U.heap ∧ va_K (dC, dI) CL [(cC, .char)] U ∧ va_D (fun _ => True) [(v, .inr (4, [.ref w, .int dec, .int bel, .long ah, .long bh])), (w, .inr (2, [.ref wa, .int n])), (wa, .inl (cC, 60, .inl f)), (hF, .inr (2, [.ref aF, .int nF])), (aF, .inl (cC, roomF, .inl fF))])) (va_Qv (fun (u : (Nat → Int32) × Int32) => match u with | (f2, n2) => (f2, n2) = lnPt 60 fF nF 0 nF (f, 0) ∧ lnOK 60 n2) (fun (u : (Nat → Int32) × Int32) (t : State) => match u with | (f2, n2) => va_P (dC, dI) CL [(v, .inr (4, [.ref w, .int 0, .int bel, .long ah, .long bh])), (w, .inr (2, [.ref wa, .int n2])), (wa, .inl (cC, 60, .inl f2)), (hF, .inr (2, [.ref aF, .int nF])), (aF, .inl (cC, roomF, .inl fF))] t.heap ∧ va_K (dC, dI) CL [(cC, .char)] t ∧ va_D (va_A [(v, .inr (4, [.ref w, .int dec, .int bel, .long ah, .long bh])), (w, .inr (2, [.ref wa, .int n])), (wa, .inl (cC, 60, .inl f)), (hF, .inr (2, [.ref aF, .int nF])), (aF, .inl (cC, roomF, .inl fF))] sz) [(v, .inr (4, [.ref w, .int 0, .int bel, .long ah, .long bh])), (w, .inr (2, [.ref wa, .int n2])), (wa, .inl (cC, 60, .inl f2)), (hF, .inr (2, [.ref aF, .int nF])), (aF, .inl (cC, roomF, .inl fF))]) (va_A [(v, .inr (4, [.ref w, .int dec, .int bel, .long ah, .long bh])), (w, .inr (2, [.ref wa, .int n])), (wa, .inl (cC, 60, .inl f)), (hF, .inr (2, [.ref aF, .int nF])), (aF, .inl (cC, roomF, .inl fF))] sz)) 0 0 (va_A [(v, .inr (4, [.ref w, .int dec, .int bel, .long ah, .long bh])), (w, .inr (2, [.ref wa, .int n])), (wa, .inl (cC, 60, .inl f)), (hF, .inr (2, [.ref aF, .int nF])), (aF, .inl (cC, roomF, .inl fF))] sz) := by
  refine Met.ofW (cc := b_Va_readWords) (maxL := 2) (ret := none) (by decide) rfl ?_
  intro p e s m args below meth c s₁ B hml hv
  obtain ⟨rfl, hsz, hP, hK, hD0⟩ := hv
  have hx := B.exec
  have hb := B.bytes
  have hr := B.returns
  have hts := atoms_spec (ws := w_Va_readWords) B.pre
  have hT : ∀ w ∈ TB, w.before _ s = true := fun w h => hts w (List.mem_cons_of_mem _ h)
  have hown : s.vm.findClass R_Va = some m.cls := findClass_of_methodNamed B.named
  have hlocks := B.notSynchronized
  subst hsz
  have hD := hD0.self (sz := s.heap.size)
  generalize hAe : va_A [(v, .inr (4, [.ref w, .int dec, .int bel, .long ah, .long bh])), (w, .inr (2, [.ref wa, .int n])), (wa, .inl (cC, 60, .inl f)), (hF, .inr (2, [.ref aF, .int nF])), (aF, .inl (cC, roomF, .inl fF))] s.heap.size = A at hD ⊢
  have hA : ∀ q : Nat, s.heap.size ≤ q → A q := fun q h => by rw [← hAe]; exact Or.inr h
  have hS : va_S A s.heap s.heap [] := va_S.rf
  have hP : va_P (dC, dI) CL [(v, .inr (4, [.ref w, .int dec, .int bel, .long ah, .long bh])), (w, .inr (2, [.ref wa, .int n])), (wa, .inl (cC, 60, .inl f)), (hF, .inr (2, [.ref aF, .int nF])), (aF, .inl (cC, roomF, .inl fF))] s.heap := hP
  have hl := lv_entry ([.ref v, .ref hF]) (n := 2) (Nat.le_of_ble_eq_true rfl)
  rw [lg_entry_eq]
  generalize (lg_sl ([.ref v, .ref hF]) ++ List.replicate (2 - (lg_sl ([.ref v, .ref hF])).length) Slot.unset).toArray = ls at hl ⊢
  have hl : lv_has ls 2 [(0, .ref v), (1, .ref hF)] := hl
  refine lv_aload_n hx hb d_Va_readWords_0 rfl (lv_at hl 0 rfl) ?_
  refine lv_iconst (v := 0) hx hb d_Va_readWords_1 (by decide) ?_
  refine va_put (D := (dC, dI)) (ci := 4) (v := .int 0) (ty := .boolean) (C := R_Va) (T := F_Va) (N := 5) hx hb hT (in_Va) t_Va t_Va_ok n_Va hown hK hP hD hS 0 rfl rfl 1 (by decide) (hT _ t_51) (fun _ h9 => h9) rfl (by decide +kernel) rfl rfl (Nat.le_of_ble_eq_true rfl) d_Va_readWords_2 (fun H locs hP hD hS => ?_)
  have hP : va_P (dC, dI) CL [(v, .inr (4, [.ref w, .int 0, .int bel, .long ah, .long bh])), (w, .inr (2, [.ref wa, .int n])), (wa, .inl (cC, 60, .inl f)), (hF, .inr (2, [.ref aF, .int nF])), (aF, .inl (cC, roomF, .inl fF))] H := hP
  have hD : va_D A [(v, .inr (4, [.ref w, .int 0, .int bel, .long ah, .long bh])), (w, .inr (2, [.ref wa, .int n])), (wa, .inl (cC, 60, .inl f)), (hF, .inr (2, [.ref aF, .int nF])), (aF, .inl (cC, roomF, .inl fF))] := hD
  refine lv_aload_n hx hb d_Va_readWords_5 rfl (lv_at hl 0 rfl) ?_
  refine va_get (D := (dC, dI)) (ci := 4) (v := .ref w) (C := R_Va) (T := F_Va) (N := 5) hx hb hT (in_Va) hown hK hP 0 rfl rfl 0 (by decide) (hT _ t_49) (fun _ h9 => h9) rfl d_Va_readWords_6 ?_
  have hPc := hP.sub (ws' := [(w, .inr (2, [.ref wa, .int n])), (wa, .inl (cC, 60, .inl f))]) [1, 2] rfl
  have hDc := hD.sub (ws' := [(w, .inr (2, [.ref wa, .int n])), (wa, .inl (cC, 60, .inl f))]) [1, 2] (by decide) rfl
  have hKc := hK.sub (tys' := [(cC, .char)]) [0] rfl
  have hFc := va_free (wc := [(w, .inr (2, [.ref wa, .int n])), (wa, .inl (cC, 60, .inl f))]) hD hS hA [1, 2] rfl
  refine va_callv (va_runV (As := []) (rest := []) ⟨hx, hb, hml, hown, hT⟩ (c_Line_empty l dC dI H.size cC w wa 60 f n ) (cwV 0 hT g_Va_24 rfl rfl rfl (by decide +kernel) ⟨Nat.le_of_ble_eq_true rfl, Nat.le_of_ble_eq_true rfl⟩) ⟨fun a U g mk q => by obtain ⟨q0, q1, qP, qK, qD⟩ := q; exact ⟨q0, q1, qP, va_K.moved (u := U) (U := U.calling g mk a) (Vm.Alike.refl U.vm) qK, qD⟩, va_recv hKc hPc (ci := 2) (q0 := 0) rfl rfl, fun U hU hW => ⟨rfl, by rw [hU], by rw [hU]; exact hPc, va_K.moved hW.alike hKc, hDc.weaken (fun _ _ _ _ => trivial)⟩⟩ rfl rfl hl.1 rfl (lv_room (Nat.le_of_ble_eq_true rfl)) d_Va_readWords_9 ⟨Nat.le_of_ble_eq_true rfl, Nat.le_of_ble_eq_true rfl⟩) hS (fun q _ h => hFc q h) hFc (fun u t H1 locs ht hvm w9_0 hB hz1 hk1 hS => ?_)
  obtain ⟨hP1, hK1, hD1⟩ := hB
  rw [ht] at hP1
  try dsimp only at w9_0
  obtain ⟨hP, hD⟩ := va_join (wr := [(v, .inr (4, [.ref w, .int 0, .int bel, .long ah, .long bh])), (hF, .inr (2, [.ref aF, .int nF])), (aF, .inl (cC, roomF, .inl fF))]) (w1 := [(w, .inr (2, [.ref wa, .int 0])), (wa, .inl (cC, 60, .inl f))]) hP hD [1, 2] [0, 3, 4] rfl rfl (by decide) (by decide) hk1 hFc hP1 hD1
  generalize H1 = H at hP hS ⊢
  have hP : va_P (dC, dI) CL [(v, .inr (4, [.ref w, .int 0, .int bel, .long ah, .long bh])), (hF, .inr (2, [.ref aF, .int nF])), (aF, .inl (cC, roomF, .inl fF)), (w, .inr (2, [.ref wa, .int 0])), (wa, .inl (cC, 60, .inl f))] H := hP
  have hD : va_D A [(v, .inr (4, [.ref w, .int 0, .int bel, .long ah, .long bh])), (hF, .inr (2, [.ref aF, .int nF])), (aF, .inl (cC, roomF, .inl fF)), (w, .inr (2, [.ref wa, .int 0])), (wa, .inl (cC, 60, .inl f))] := hD
  refine lv_aload_n hx hb d_Va_readWords_12 rfl (lv_at hl 0 rfl) ?_
  refine va_get (D := (dC, dI)) (ci := 4) (v := .ref w) (C := R_Va) (T := F_Va) (N := 5) hx hb hT (in_Va) hown hK hP 0 rfl rfl 0 (by decide) (hT _ t_49) (fun _ h9 => h9) rfl d_Va_readWords_13 ?_
  refine lv_aload_n hx hb d_Va_readWords_16 rfl (lv_at hl 1 rfl) ?_
  refine lv_iconst (v := 0) hx hb d_Va_readWords_17 (by decide) ?_
  refine lv_aload_n hx hb d_Va_readWords_18 rfl (lv_at hl 1 rfl) ?_
  have hPc := hP.sub (ws' := [(hF, .inr (2, [.ref aF, .int nF])), (aF, .inl (cC, roomF, .inl fF))]) [1, 2] rfl
  have hDc := hD.sub (ws' := [(hF, .inr (2, [.ref aF, .int nF])), (aF, .inl (cC, roomF, .inl fF))]) [1, 2] (by decide) rfl
  have hKc := hK.sub (tys' := [(cC, .char)]) [0] rfl
  have hFc := va_free (wc := [(hF, .inr (2, [.ref aF, .int nF])), (aF, .inl (cC, roomF, .inl fF))]) hD hS hA [1, 2] rfl
  refine va_calli (va_runV (As := []) (rest := [.int 0, .ref hF, .ref w]) ⟨hx, hb, hml, hown, hT⟩ (c_Line_size l dC dI H.size cC hF aF roomF fF nF ) (cwV 0 hT g_Va_27 rfl rfl rfl (by decide +kernel) ⟨Nat.le_of_ble_eq_true rfl, Nat.le_of_ble_eq_true rfl⟩) ⟨fun a U g mk q => by obtain ⟨q0, q1, qP, qK, qD⟩ := q; exact ⟨q0, q1, qP, va_K.moved (u := U) (U := U.calling g mk a) (Vm.Alike.refl U.vm) qK, qD⟩, va_recv hKc hPc (ci := 2) (q0 := 0) rfl rfl, fun U hU hW => ⟨rfl, by rw [hU], by rw [hU]; exact hPc, va_K.moved hW.alike hKc, hDc.weaken (fun _ _ _ _ => trivial)⟩⟩ rfl rfl hl.1 rfl (lv_room (Nat.le_of_ble_eq_true rfl)) d_Va_readWords_19 ⟨Nat.le_of_ble_eq_true rfl, Nat.le_of_ble_eq_true rfl⟩) hS (fun q _ h => hFc q h) hFc (fun x1 u t H1 locs ht hvm w19_1 hB hz1 hk1 hS => ?_)
  obtain ⟨hP1, hK1, hD1⟩ := hB
  rw [ht] at hP1
  try dsimp only at w19_1
  obtain ⟨hP, hD⟩ := va_join (wr := [(v, .inr (4, [.ref w, .int 0, .int bel, .long ah, .long bh])), (w, .inr (2, [.ref wa, .int 0])), (wa, .inl (cC, 60, .inl f))]) (w1 := [(hF, .inr (2, [.ref aF, .int nF])), (aF, .inl (cC, roomF, .inl fF))]) hP hD [1, 2] [0, 3, 4] rfl rfl (by decide) (by decide) hk1 hFc hP1 hD1
  generalize H1 = H at hP hS ⊢
  have hP : va_P (dC, dI) CL [(v, .inr (4, [.ref w, .int 0, .int bel, .long ah, .long bh])), (w, .inr (2, [.ref wa, .int 0])), (wa, .inl (cC, 60, .inl f)), (hF, .inr (2, [.ref aF, .int nF])), (aF, .inl (cC, roomF, .inl fF))] H := hP
  have hD : va_D A [(v, .inr (4, [.ref w, .int 0, .int bel, .long ah, .long bh])), (w, .inr (2, [.ref wa, .int 0])), (wa, .inl (cC, 60, .inl f)), (hF, .inr (2, [.ref aF, .int nF])), (aF, .inl (cC, roomF, .inl fF))] := hD
  have hPc := hP.sub (ws' := [(w, .inr (2, [.ref wa, .int 0])), (wa, .inl (cC, 60, .inl f)), (hF, .inr (2, [.ref aF, .int nF])), (aF, .inl (cC, roomF, .inl fF))]) [1, 2, 3, 4] rfl
  have hDc := hD.sub (ws' := [(w, .inr (2, [.ref wa, .int 0])), (wa, .inl (cC, 60, .inl f)), (hF, .inr (2, [.ref aF, .int nF])), (aF, .inl (cC, roomF, .inl fF))]) [1, 2, 3, 4] (by decide) rfl
  have hKc := hK.sub (tys' := [(cC, .char)]) [0] rfl
  have hFc := va_free (wc := [(w, .inr (2, [.ref wa, .int 0])), (wa, .inl (cC, 60, .inl f)), (hF, .inr (2, [.ref aF, .int nF])), (aF, .inl (cC, roomF, .inl fF))]) hD hS hA [1, 2, 3, 4] rfl
  refine va_callv (va_runV (As := [.ref hF, .int 0, .int x1]) (rest := []) ⟨hx, hb, hml, hown, hT⟩ (c_Line_addPart l dC dI H.size cC w wa 60 f 0 hF aF roomF fF nF 0 x1 (⟨by decide, by decide, by decide⟩) hn2) (cwV 3 hT g_Va_31 rfl rfl rfl (by decide +kernel) ⟨Nat.le_of_ble_eq_true rfl, Nat.le_of_ble_eq_true rfl⟩) ⟨fun a U g mk q => by obtain ⟨q0, q1, qP, qK, qD⟩ := q; exact ⟨q0, q1, qP, va_K.moved (u := U) (U := U.calling g mk a) (Vm.Alike.refl U.vm) qK, qD⟩, va_recv hKc hPc (ci := 2) (q0 := 0) rfl rfl, fun U hU hW => ⟨rfl, by rw [hU], by rw [hU]; exact hPc, va_K.moved hW.alike hKc, hDc.weaken (fun _ _ _ _ => trivial)⟩⟩ rfl rfl hl.1 rfl (lv_room (Nat.le_of_ble_eq_true rfl)) d_Va_readWords_22 ⟨Nat.le_of_ble_eq_true rfl, Nat.le_of_ble_eq_true rfl⟩) hS (fun q _ h => hFc q h) hFc (fun u t H1 locs ht hvm w22_3 hB hz1 hk1 hS => ?_)
  obtain ⟨f_2, n_3⟩ := u
  obtain ⟨hP1, hK1, hD1⟩ := hB
  rw [ht] at hP1
  try dsimp only at w22_3
  obtain ⟨w22_3, w22_3b⟩ := w22_3
  obtain ⟨hP, hD⟩ := va_join (wr := [(v, .inr (4, [.ref w, .int 0, .int bel, .long ah, .long bh]))]) (w1 := [(w, .inr (2, [.ref wa, .int n_3])), (wa, .inl (cC, 60, .inl f_2)), (hF, .inr (2, [.ref aF, .int nF])), (aF, .inl (cC, roomF, .inl fF))]) hP hD [1, 2, 3, 4] [0] rfl rfl (by decide) (by decide) hk1 hFc hP1 hD1
  generalize H1 = H at hP hS ⊢
  have hP : va_P (dC, dI) CL [(v, .inr (4, [.ref w, .int 0, .int bel, .long ah, .long bh])), (w, .inr (2, [.ref wa, .int n_3])), (wa, .inl (cC, 60, .inl f_2)), (hF, .inr (2, [.ref aF, .int nF])), (aF, .inl (cC, roomF, .inl fF))] H := hP
  have hD : va_D A [(v, .inr (4, [.ref w, .int 0, .int bel, .long ah, .long bh])), (w, .inr (2, [.ref wa, .int n_3])), (wa, .inl (cC, 60, .inl f_2)), (hF, .inr (2, [.ref aF, .int nF])), (aF, .inl (cC, roomF, .inl fF))] := hD
  have hP9 := hP.sub (ws' := [(v, .inr (4, [.ref w, .int 0, .int bel, .long ah, .long bh])), (w, .inr (2, [.ref wa, .int n_3])), (wa, .inl (cC, 60, .inl f_2)), (hF, .inr (2, [.ref aF, .int nF])), (aF, .inl (cC, roomF, .inl fF))]) [0, 1, 2, 3, 4] rfl
  have hD9 := hD.sub (ws' := [(v, .inr (4, [.ref w, .int 0, .int bel, .long ah, .long bh])), (w, .inr (2, [.ref wa, .int n_3])), (wa, .inl (cC, 60, .inl f_2)), (hF, .inr (2, [.ref aF, .int nF])), (aF, .inl (cC, roomF, .inl fF))]) [0, 1, 2, 3, 4] (by decide) rfl
  have hK9 := hK.sub (tys' := [(cC, .char)]) [0] rfl
  have hq9 : (f_2, n_3) = lnPt 60 fF nF 0 nF (f, 0) ∧ lnOK 60 n_3 := by rw [w19_1] at w22_3; exact ⟨w22_3, w22_3b⟩
  exact W.vret hx hb hr (fun t ht hW => ⟨⟨(f_2, n_3), rfl, hq9, by rw [ht]; exact hP9, va_K.moved hW.alike hK9, hD9⟩, hS.F ht⟩) hS.2.2 d_Va_readWords_25

set_option maxHeartbeats 4000000 in
set_option maxRecDepth 100000 in
theorem c_Value_writePlain (l : Launch) (dC : Nat → ClassId) (dI : Nat → Nat → Nat) (sz : Nat) (cC : ClassId) (v : Nat) (w : Nat) (wa : Nat) (dec : Int32) (bel : Int32) (ah : Int64) (bh : Int64) (f : Nat → Int32) (n : Int32) (hF : Nat) (aF : Nat) (roomF : Nat) (fF : Nat → Int32) (nF : Int32) (b9 : Int32) (pt : Int32) (en : Int32) (hn : lnOK 60 n) (hn2 : lnOK roomF nF) : Met l y_Va_writePlain w_Va_writePlain ({ frames := 2, cells := 0, slots := 0, locals := 45 } : Room) (va_Pc [.ref v, .ref hF, .int b9, .int pt, .int en] (fun U => U.heap.size = sz ∧ va_P (dC, dI) CL [(v, .inr (4, [.ref w, .int dec, .int bel, .long ah, .long bh])), (w, .inr (2, [.ref wa, .int n])), (wa, .inl (cC, 60, .inl f)), (hF, .inr (2, [.ref aF, .int nF])), (aF, .inl (cC, roomF, .inl fF))] U.heap ∧ va_K (dC, dI) CL [(cC, .char)] U ∧ va_D (fun _ => True) [(v, .inr (4, [.ref w, .int dec, .int bel, .long ah, .long bh])), (w, .inr (2, [.ref wa, .int n])), (wa, .inl (cC, 60, .inl f)), (hF, .inr (2, [.ref aF, .int nF])), (aF, .inl (cC, roomF, .inl fF))])) (va_Qv (fun (u : (Nat → Int32) × Int32) => match u with | (f2, n2) => (f2, n2) = wpLine f bel bh fF nF b9 pt en ∧ lnOK 60 n2) (fun (u : (Nat → Int32) × Int32) (t : State) => match u with | (f2, n2) => va_P (dC, dI) CL [(v, .inr (4, [.ref w, .int dec, .int bel, .long ah, .long bh])), (w, .inr (2, [.ref wa, .int n2])), (wa, .inl (cC, 60, .inl f2)), (hF, .inr (2, [.ref aF, .int nF])), (aF, .inl (cC, roomF, .inl fF))] t.heap ∧ va_K (dC, dI) CL [(cC, .char)] t ∧ va_D (va_A [(v, .inr (4, [.ref w, .int dec, .int bel, .long ah, .long bh])), (w, .inr (2, [.ref wa, .int n])), (wa, .inl (cC, 60, .inl f)), (hF, .inr (2, [.ref aF, .int nF])), (aF, .inl (cC, roomF, .inl fF))] sz) [(v, .inr (4, [.ref w, .int dec, .int bel, .long ah, .long bh])), (w, .inr (2, [.ref wa, .int n2])), (wa, .inl (cC, 60, .inl f2)), (hF, .inr (2, [.ref aF, .int nF])), (aF, .inl (cC, roomF, .inl fF))]) (va_A [(v, .inr (4, [.ref w, .int dec, .int bel, .long ah, .long bh])), (w, .inr (2, [.ref wa, .int n])), (wa, .inl (cC, 60, .inl f)), (hF, .inr (2, [.ref aF, .int nF])), (aF, .inl (cC, roomF, .inl fF))] sz)) 0 0 (va_A [(v, .inr (4, [.ref w, .int dec, .int bel, .long ah, .long bh])), (w, .inr (2, [.ref wa, .int n])), (wa, .inl (cC, 60, .inl f)), (hF, .inr (2, [.ref aF, .int nF])), (aF, .inl (cC, roomF, .inl fF))] sz) := by
  refine Met.ofW (cc := b_Va_writePlain) (maxL := 6) (ret := none) (by decide) rfl ?_
  intro p e s m args below meth c s₁ B hml hv
  obtain ⟨rfl, hsz, hP, hK, hD0⟩ := hv
  have hx := B.exec
  have hb := B.bytes
  have hr := B.returns
  have hts := atoms_spec (ws := w_Va_writePlain) B.pre
  have hT : ∀ w ∈ TB, w.before _ s = true := fun w h => hts w (List.mem_cons_of_mem _ h)
  have hown : s.vm.findClass R_Va = some m.cls := findClass_of_methodNamed B.named
  have hlocks := B.notSynchronized
  subst hsz
  have hD := hD0.self (sz := s.heap.size)
  generalize hAe : va_A [(v, .inr (4, [.ref w, .int dec, .int bel, .long ah, .long bh])), (w, .inr (2, [.ref wa, .int n])), (wa, .inl (cC, 60, .inl f)), (hF, .inr (2, [.ref aF, .int nF])), (aF, .inl (cC, roomF, .inl fF))] s.heap.size = A at hD ⊢
  have hA : ∀ q : Nat, s.heap.size ≤ q → A q := fun q h => by rw [← hAe]; exact Or.inr h
  have hS : va_S A s.heap s.heap [] := va_S.rf
  have hP : va_P (dC, dI) CL [(v, .inr (4, [.ref w, .int dec, .int bel, .long ah, .long bh])), (w, .inr (2, [.ref wa, .int n])), (wa, .inl (cC, 60, .inl f)), (hF, .inr (2, [.ref aF, .int nF])), (aF, .inl (cC, roomF, .inl fF))] s.heap := hP
  have hl := lv_entry ([.ref v, .ref hF, .int b9, .int pt, .int en]) (n := 6) (Nat.le_of_ble_eq_true rfl)
  rw [lg_entry_eq]
  generalize (lg_sl ([.ref v, .ref hF, .int b9, .int pt, .int en]) ++ List.replicate (6 - (lg_sl ([.ref v, .ref hF, .int b9, .int pt, .int en])).length) Slot.unset).toArray = ls at hl ⊢
  have hl : lv_has ls 6 [(0, .ref v), (1, .ref hF), (2, .int b9), (3, .int pt), (4, .int en)] := hl
  refine k_Q (fun Q hQ => ?_)
  refine lv_aload_n hx hb d_Va_writePlain_0 rfl (lv_at hl 0 rfl) ?_
  refine va_get (D := (dC, dI)) (ci := 4) (v := .ref w) (C := R_Va) (T := F_Va) (N := 5) hx hb hT (in_Va) hown hK hP 0 rfl rfl 0 (by decide) (hT _ t_49) (fun _ h9 => h9) rfl d_Va_writePlain_1 ?_
  have hPc := hP.sub (ws' := [(w, .inr (2, [.ref wa, .int n])), (wa, .inl (cC, 60, .inl f))]) [1, 2] rfl
  have hDc := hD.sub (ws' := [(w, .inr (2, [.ref wa, .int n])), (wa, .inl (cC, 60, .inl f))]) [1, 2] (by decide) rfl
  have hKc := hK.sub (tys' := [(cC, .char)]) [0] rfl
  have hFc := va_free (wc := [(w, .inr (2, [.ref wa, .int n])), (wa, .inl (cC, 60, .inl f))]) hD hS hA [1, 2] rfl
  refine va_callv (va_runV (As := []) (rest := []) ⟨hx, hb, hml, hown, hT⟩ (c_Line_empty l dC dI s.heap.size cC w wa 60 f n ) (cwV 0 hT g_Va_24 rfl rfl rfl (by decide +kernel) ⟨Nat.le_of_ble_eq_true rfl, Nat.le_of_ble_eq_true rfl⟩) ⟨fun a U g mk q => by obtain ⟨q0, q1, qP, qK, qD⟩ := q; exact ⟨q0, q1, qP, va_K.moved (u := U) (U := U.calling g mk a) (Vm.Alike.refl U.vm) qK, qD⟩, va_recv hKc hPc (ci := 2) (q0 := 0) rfl rfl, fun U hU hW => ⟨rfl, by rw [hU], by rw [hU]; exact hPc, va_K.moved hW.alike hKc, hDc.weaken (fun _ _ _ _ => trivial)⟩⟩ rfl rfl hl.1 rfl (lv_room (Nat.le_of_ble_eq_true rfl)) d_Va_writePlain_4 ⟨Nat.le_of_ble_eq_true rfl, Nat.le_of_ble_eq_true rfl⟩) hS (fun q _ h => hFc q h) hFc (fun u t H1 locs ht hvm w4_0 hB hz1 hk1 hS => ?_)
  obtain ⟨hP1, hK1, hD1⟩ := hB
  rw [ht] at hP1
  try dsimp only at w4_0
  obtain ⟨hP, hD⟩ := va_join (wr := [(v, .inr (4, [.ref w, .int dec, .int bel, .long ah, .long bh])), (hF, .inr (2, [.ref aF, .int nF])), (aF, .inl (cC, roomF, .inl fF))]) (w1 := [(w, .inr (2, [.ref wa, .int 0])), (wa, .inl (cC, 60, .inl f))]) hP hD [1, 2] [0, 3, 4] rfl rfl (by decide) (by decide) hk1 hFc hP1 hD1
  generalize H1 = H at hP hS ⊢
  have hP : va_P (dC, dI) CL [(v, .inr (4, [.ref w, .int dec, .int bel, .long ah, .long bh])), (hF, .inr (2, [.ref aF, .int nF])), (aF, .inl (cC, roomF, .inl fF)), (w, .inr (2, [.ref wa, .int 0])), (wa, .inl (cC, 60, .inl f))] H := hP
  have hD : va_D A [(v, .inr (4, [.ref w, .int dec, .int bel, .long ah, .long bh])), (hF, .inr (2, [.ref aF, .int nF])), (aF, .inl (cC, roomF, .inl fF)), (w, .inr (2, [.ref wa, .int 0])), (wa, .inl (cC, 60, .inl f))] := hD
  refine lv_aload_n hx hb d_Va_writePlain_7 rfl (lv_at hl 0 rfl) ?_
  refine va_get (D := (dC, dI)) (ci := 4) (v := .int bel) (C := R_Va) (T := F_Va) (N := 5) hx hb hT (in_Va) hown hK hP 0 rfl rfl 2 (by decide) (hT _ t_53) (fun _ h9 => h9) rfl d_Va_writePlain_8 ?_
  have cut23 : ∀ (n1 : Int32) (f1 : Nat → Int32) (H : Heap) (locs : List Loc) (ls : Array Slot), ((f1, n1) = wpL1 f bel) → (lnOK 60 n1) → va_P (dC, dI) CL [(v, .inr (4, [.ref w, .int dec, .int bel, .long ah, .long bh])), (hF, .inr (2, [.ref aF, .int nF])), (aF, .inl (cC, roomF, .inl fF)), (w, .inr (2, [.ref wa, .int n1])), (wa, .inl (cC, 60, .inl f1))] H → va_D A [(v, .inr (4, [.ref w, .int dec, .int bel, .long ah, .long bh])), (hF, .inr (2, [.ref aF, .int nF])), (aF, .inl (cC, roomF, .inl fF)), (w, .inr (2, [.ref wa, .int n1])), (wa, .inl (cC, 60, .inl f1))] → va_S A s.heap H locs → lv_has ls 6 [(0, .ref v), (1, .ref hF), (2, .int b9), (3, .int pt), (4, .int en)] → W p l e (headSpec w_Va_writePlain ({ frames := 2, cells := 0, slots := 0, locals := 45 } : Room)).room s m ([.ref v, .ref hF, .int b9, .int pt, .int en] : List Value).toArray below meth c H locs 0 0 Q (F0 m 23 ls []) := by
    intro n1 f1 H locs ls hA1 hn1 hP hD hS hl
    refine lv_iload_n hx hb d_Va_writePlain_23 rfl (lv_at hl 2 rfl) ?_
    refine lv_istore (lv' := [(5, .int b9), (0, .ref v), (1, .ref hF), (2, .int b9), (3, .int pt), (4, .int en)]) hx hb d_Va_writePlain_24 hl (by decide) rfl (fun ls hl => ?_)
    have loop26 : ∀ (fuel : Nat) (i : Int32) (H : Heap) (locs : List Loc) (ls : Array Slot), (((pt - 1).toInt - i.toInt).toNat < fuel) → (wpSkip fF nF pt fuel i = wpFirst fF nF b9 pt) → va_P (dC, dI) CL [(v, .inr (4, [.ref w, .int dec, .int bel, .long ah, .long bh])), (hF, .inr (2, [.ref aF, .int nF])), (aF, .inl (cC, roomF, .inl fF)), (w, .inr (2, [.ref wa, .int n1])), (wa, .inl (cC, 60, .inl f1))] H → va_D A [(v, .inr (4, [.ref w, .int dec, .int bel, .long ah, .long bh])), (hF, .inr (2, [.ref aF, .int nF])), (aF, .inl (cC, roomF, .inl fF)), (w, .inr (2, [.ref wa, .int n1])), (wa, .inl (cC, 60, .inl f1))] → va_S A s.heap H locs → lv_has ls 6 [(5, .int i), (0, .ref v), (1, .ref hF), (2, .int b9), (3, .int pt), (4, .int en)] → W p l e (headSpec w_Va_writePlain ({ frames := 2, cells := 0, slots := 0, locals := 45 } : Room)).room s m ([.ref v, .ref hF, .int b9, .int pt, .int en] : List Value).toArray below meth c H locs 0 0 Q (F0 m 26 ls []) := by
      intro fuel
      induction fuel with
      | zero =>
        intro i H locs ls hk hG hP hD hS hl
        exact absurd hk (Nat.not_lt_zero _)
      | succ fuel ih =>
        intro i H locs ls hk hG hP hD hS hl
        refine lv_iload hx hb d_Va_writePlain_26 (lv_at hl 0 rfl) ?_
        refine lv_iload_n hx hb d_Va_writePlain_28 rfl (lv_at hl 4 rfl) ?_
        refine lv_iconst (v := 1) hx hb d_Va_writePlain_29 (by decide) ?_
        refine lv_isub hx hb d_Va_writePlain_30 ?_
        refine lv_topi (fun x1 ex1 => ?_)
        refine lv_icmp_ge (tgt := 51) hx hb d_Va_writePlain_31 (by decide) (fun c31_2 => ?_) (fun c31_2 => ?_)
        · skip
          have hE : i = wpFirst fF nF b9 pt := by have h9 := hG; rw [wpSkip, if_pos (by rw [← ex1]; exact c31_2)] at h9; exact h9
          refine lv_aload_n hx hb d_Va_writePlain_51 rfl (lv_at hl 1 rfl) ?_
          refine va_get (D := (dC, dI)) (ci := 4) (v := .ref w) (C := R_Va) (T := F_Va) (N := 5) hx hb hT (in_Va) hown hK hP 0 rfl rfl 0 (by decide) (hT _ t_49) (fun _ h9 => h9) rfl d_Va_writePlain_52 ?_
          refine lv_aload_n hx hb d_Va_writePlain_55 rfl (lv_at hl 2 rfl) ?_
          refine lv_iload hx hb d_Va_writePlain_56 (lv_at hl 0 rfl) ?_
          refine lv_iload_n hx hb d_Va_writePlain_58 rfl (lv_at hl 4 rfl) ?_
          have hPc := hP.sub (ws' := [(w, .inr (2, [.ref wa, .int n1])), (wa, .inl (cC, 60, .inl f1)), (hF, .inr (2, [.ref aF, .int nF])), (aF, .inl (cC, roomF, .inl fF))]) [3, 4, 1, 2] rfl
          have hDc := hD.sub (ws' := [(w, .inr (2, [.ref wa, .int n1])), (wa, .inl (cC, 60, .inl f1)), (hF, .inr (2, [.ref aF, .int nF])), (aF, .inl (cC, roomF, .inl fF))]) [3, 4, 1, 2] (by decide) rfl
          have hKc := hK.sub (tys' := [(cC, .char)]) [0] rfl
          have hFc := va_free (wc := [(w, .inr (2, [.ref wa, .int n1])), (wa, .inl (cC, 60, .inl f1)), (hF, .inr (2, [.ref aF, .int nF])), (aF, .inl (cC, roomF, .inl fF))]) hD hS hA [3, 4, 1, 2] rfl
          refine va_callv (va_runV (As := [.ref hF, .int i, .int pt]) (rest := []) ⟨hx, hb, hml, hown, hT⟩ (c_Line_addPart l dC dI H.size cC w wa 60 f1 n1 hF aF roomF fF nF i pt hn1 hn2) (cwV 3 hT g_Va_31 rfl rfl rfl (by decide +kernel) ⟨Nat.le_of_ble_eq_true rfl, Nat.le_of_ble_eq_true rfl⟩) ⟨fun a U g mk q => by obtain ⟨q0, q1, qP, qK, qD⟩ := q; exact ⟨q0, q1, qP, va_K.moved (u := U) (U := U.calling g mk a) (Vm.Alike.refl U.vm) qK, qD⟩, va_recv hKc hPc (ci := 2) (q0 := 0) rfl rfl, fun U hU hW => ⟨rfl, by rw [hU], by rw [hU]; exact hPc, va_K.moved hW.alike hKc, hDc.weaken (fun _ _ _ _ => trivial)⟩⟩ rfl rfl hl.1 rfl (lv_room (Nat.le_of_ble_eq_true rfl)) d_Va_writePlain_59 ⟨Nat.le_of_ble_eq_true rfl, Nat.le_of_ble_eq_true rfl⟩) hS (fun q _ h => hFc q h) hFc (fun u t H1 locs ht hvm w59_4 hB hz1 hk1 hS => ?_)
          obtain ⟨f_3, n_4⟩ := u
          obtain ⟨hP1, hK1, hD1⟩ := hB
          rw [ht] at hP1
          try dsimp only at w59_4
          obtain ⟨w59_4, w59_4b⟩ := w59_4
          obtain ⟨hP, hD⟩ := va_join (wr := [(v, .inr (4, [.ref w, .int dec, .int bel, .long ah, .long bh]))]) (w1 := [(w, .inr (2, [.ref wa, .int n_4])), (wa, .inl (cC, 60, .inl f_3)), (hF, .inr (2, [.ref aF, .int nF])), (aF, .inl (cC, roomF, .inl fF))]) hP hD [3, 4, 1, 2] [0] rfl rfl (by decide) (by decide) hk1 hFc hP1 hD1
          generalize H1 = H at hP hS ⊢
          have hP : va_P (dC, dI) CL [(v, .inr (4, [.ref w, .int dec, .int bel, .long ah, .long bh])), (w, .inr (2, [.ref wa, .int n_4])), (wa, .inl (cC, 60, .inl f_3)), (hF, .inr (2, [.ref aF, .int nF])), (aF, .inl (cC, roomF, .inl fF))] H := hP
          have hD : va_D A [(v, .inr (4, [.ref w, .int dec, .int bel, .long ah, .long bh])), (w, .inr (2, [.ref wa, .int n_4])), (wa, .inl (cC, 60, .inl f_3)), (hF, .inr (2, [.ref aF, .int nF])), (aF, .inl (cC, roomF, .inl fF))] := hD
          refine lv_aload_n hx hb d_Va_writePlain_62 rfl (lv_at hl 1 rfl) ?_
          refine va_get (D := (dC, dI)) (ci := 4) (v := .long bh) (C := R_Va) (T := F_Va) (N := 5) hx hb hT (in_Va) hown hK hP 0 rfl rfl 4 (by decide) (hT _ t_59) (fun _ h9 => h9) rfl d_Va_writePlain_63 ?_
          refine lv_lconst (v := 0) hx hb d_Va_writePlain_66 (by decide) ?_
          refine W.lcmp hx hb d_Va_writePlain_67 ?_
          refine lv_if_eq (tgt := 95) hx hb d_Va_writePlain_68 (by decide) (fun c68_5 => ?_) (fun c68_5 => ?_)
          · skip
            rw [lg_cmp_eq] at c68_5
            have hP9 := hP.sub (ws' := [(v, .inr (4, [.ref w, .int dec, .int bel, .long ah, .long bh])), (w, .inr (2, [.ref wa, .int n_4])), (wa, .inl (cC, 60, .inl f_3)), (hF, .inr (2, [.ref aF, .int nF])), (aF, .inl (cC, roomF, .inl fF))]) [0, 1, 2, 3, 4] rfl
            have hD9 := hD.sub (ws' := [(v, .inr (4, [.ref w, .int dec, .int bel, .long ah, .long bh])), (w, .inr (2, [.ref wa, .int n_4])), (wa, .inl (cC, 60, .inl f_3)), (hF, .inr (2, [.ref aF, .int nF])), (aF, .inl (cC, roomF, .inl fF))]) [0, 1, 2, 3, 4] (by decide) rfl
            have hK9 := hK.sub (tys' := [(cC, .char)]) [0] rfl
            have hq9 : (f_3, n_4) = wpLine f bel bh fF nF b9 pt en ∧ lnOK 60 n_4 := by refine ⟨?_, w59_4b⟩; rw [wpLine, if_pos c68_5, wpL2, ← hE, ← hA1]; exact w59_4
            subst hQ
            exact W.vret hx hb hr (fun t ht hW => ⟨⟨(f_3, n_4), rfl, hq9, by rw [ht]; exact hP9, va_K.moved hW.alike hK9, hD9⟩, hS.F ht⟩) hS.2.2 d_Va_writePlain_95
          · skip
            rw [lg_cmp_eq] at c68_5
            refine lv_aload_n hx hb d_Va_writePlain_71 rfl (lv_at hl 1 rfl) ?_
            refine va_get (D := (dC, dI)) (ci := 4) (v := .ref w) (C := R_Va) (T := F_Va) (N := 5) hx hb hT (in_Va) hown hK hP 0 rfl rfl 0 (by decide) (hT _ t_49) (fun _ h9 => h9) rfl d_Va_writePlain_72 ?_
            refine lv_aload_n hx hb d_Va_writePlain_75 rfl (lv_at hl 2 rfl) ?_
            refine lv_iload_n hx hb d_Va_writePlain_76 rfl (lv_at hl 4 rfl) ?_
            refine lv_iload hx hb d_Va_writePlain_77 (lv_at hl 5 rfl) ?_
            have hPc := hP.sub (ws' := [(w, .inr (2, [.ref wa, .int n_4])), (wa, .inl (cC, 60, .inl f_3)), (hF, .inr (2, [.ref aF, .int nF])), (aF, .inl (cC, roomF, .inl fF))]) [1, 2, 3, 4] rfl
            have hDc := hD.sub (ws' := [(w, .inr (2, [.ref wa, .int n_4])), (wa, .inl (cC, 60, .inl f_3)), (hF, .inr (2, [.ref aF, .int nF])), (aF, .inl (cC, roomF, .inl fF))]) [1, 2, 3, 4] (by decide) rfl
            have hKc := hK.sub (tys' := [(cC, .char)]) [0] rfl
            have hFc := va_free (wc := [(w, .inr (2, [.ref wa, .int n_4])), (wa, .inl (cC, 60, .inl f_3)), (hF, .inr (2, [.ref aF, .int nF])), (aF, .inl (cC, roomF, .inl fF))]) hD hS hA [1, 2, 3, 4] rfl
            refine va_callv (va_runV (As := [.ref hF, .int pt, .int en]) (rest := []) ⟨hx, hb, hml, hown, hT⟩ (c_Line_addPart l dC dI H.size cC w wa 60 f_3 n_4 hF aF roomF fF nF pt en (by first | assumption | omega) hn2) (cwV 3 hT g_Va_31 rfl rfl rfl (by decide +kernel) ⟨Nat.le_of_ble_eq_true rfl, Nat.le_of_ble_eq_true rfl⟩) ⟨fun a U g mk q => by obtain ⟨q0, q1, qP, qK, qD⟩ := q; exact ⟨q0, q1, qP, va_K.moved (u := U) (U := U.calling g mk a) (Vm.Alike.refl U.vm) qK, qD⟩, va_recv hKc hPc (ci := 2) (q0 := 0) rfl rfl, fun U hU hW => ⟨rfl, by rw [hU], by rw [hU]; exact hPc, va_K.moved hW.alike hKc, hDc.weaken (fun _ _ _ _ => trivial)⟩⟩ rfl rfl hl.1 rfl (lv_room (Nat.le_of_ble_eq_true rfl)) d_Va_writePlain_79 ⟨Nat.le_of_ble_eq_true rfl, Nat.le_of_ble_eq_true rfl⟩) hS (fun q _ h => hFc q h) hFc (fun u t H1 locs ht hvm w79_7 hB hz1 hk1 hS => ?_)
            obtain ⟨f_6, n_7⟩ := u
            obtain ⟨hP1, hK1, hD1⟩ := hB
            rw [ht] at hP1
            try dsimp only at w79_7
            obtain ⟨w79_7, w79_7b⟩ := w79_7
            obtain ⟨hP, hD⟩ := va_join (wr := [(v, .inr (4, [.ref w, .int dec, .int bel, .long ah, .long bh]))]) (w1 := [(w, .inr (2, [.ref wa, .int n_7])), (wa, .inl (cC, 60, .inl f_6)), (hF, .inr (2, [.ref aF, .int nF])), (aF, .inl (cC, roomF, .inl fF))]) hP hD [1, 2, 3, 4] [0] rfl rfl (by decide) (by decide) hk1 hFc hP1 hD1
            generalize H1 = H at hP hS ⊢
            have hP : va_P (dC, dI) CL [(v, .inr (4, [.ref w, .int dec, .int bel, .long ah, .long bh])), (w, .inr (2, [.ref wa, .int n_7])), (wa, .inl (cC, 60, .inl f_6)), (hF, .inr (2, [.ref aF, .int nF])), (aF, .inl (cC, roomF, .inl fF))] H := hP
            have hD : va_D A [(v, .inr (4, [.ref w, .int dec, .int bel, .long ah, .long bh])), (w, .inr (2, [.ref wa, .int n_7])), (wa, .inl (cC, 60, .inl f_6)), (hF, .inr (2, [.ref aF, .int nF])), (aF, .inl (cC, roomF, .inl fF))] := hD
            refine lv_aload_n hx hb d_Va_writePlain_82 rfl (lv_at hl 1 rfl) ?_
            refine va_get (D := (dC, dI)) (ci := 4) (v := .ref w) (C := R_Va) (T := F_Va) (N := 5) hx hb hT (in_Va) hown hK hP 0 rfl rfl 0 (by decide) (hT _ t_49) (fun _ h9 => h9) rfl d_Va_writePlain_83 ?_
            refine lv_iload hx hb d_Va_writePlain_86 (lv_at hl 5 rfl) ?_
            refine lv_iload_n hx hb d_Va_writePlain_88 rfl (lv_at hl 4 rfl) ?_
            refine lv_isub hx hb d_Va_writePlain_89 ?_
            refine lv_topi (fun x8 ex8 => ?_)
            refine lv_iconst (v := 1) hx hb d_Va_writePlain_90 (by decide) ?_
            refine lv_isub hx hb d_Va_writePlain_91 ?_
            refine lv_topi (fun x9 ex9 => ?_)
            have hPc := hP.sub (ws' := [(w, .inr (2, [.ref wa, .int n_7])), (wa, .inl (cC, 60, .inl f_6))]) [1, 2] rfl
            have hDc := hD.sub (ws' := [(w, .inr (2, [.ref wa, .int n_7])), (wa, .inl (cC, 60, .inl f_6))]) [1, 2] (by decide) rfl
            have hKc := hK.sub (tys' := [(cC, .char)]) [0] rfl
            have hFc := va_free (wc := [(w, .inr (2, [.ref wa, .int n_7])), (wa, .inl (cC, 60, .inl f_6))]) hD hS hA [1, 2] rfl
            refine va_callv (va_runV (As := [.int x9]) (rest := []) ⟨hx, hb, hml, hown, hT⟩ (c_Line_dropZeros l dC dI H.size cC w wa 60 f_6 n_7 x9 (by first | assumption | omega)) (cwV 1 hT g_Va_65 rfl rfl rfl (by decide +kernel) ⟨Nat.le_of_ble_eq_true rfl, Nat.le_of_ble_eq_true rfl⟩) ⟨fun a U g mk q => by obtain ⟨q0, q1, qP, qK, qD⟩ := q; exact ⟨q0, q1, qP, va_K.moved (u := U) (U := U.calling g mk a) (Vm.Alike.refl U.vm) qK, qD⟩, va_recv hKc hPc (ci := 2) (q0 := 0) rfl rfl, fun U hU hW => ⟨rfl, by rw [hU], by rw [hU]; exact hPc, va_K.moved hW.alike hKc, hDc.weaken (fun _ _ _ _ => trivial)⟩⟩ rfl rfl hl.1 rfl (lv_room (Nat.le_of_ble_eq_true rfl)) d_Va_writePlain_92 ⟨Nat.le_of_ble_eq_true rfl, Nat.le_of_ble_eq_true rfl⟩) hS (fun q _ h => hFc q h) hFc (fun u t H1 locs ht hvm w92_10 hB hz1 hk1 hS => ?_)
            obtain ⟨n_10, rfl⟩ : ∃ z, z = u := ⟨_, rfl⟩
            obtain ⟨hP1, hK1, hD1⟩ := hB
            rw [ht] at hP1
            try dsimp only at w92_10
            obtain ⟨w92_10, w92_10b⟩ := w92_10
            obtain ⟨hP, hD⟩ := va_join (wr := [(v, .inr (4, [.ref w, .int dec, .int bel, .long ah, .long bh])), (hF, .inr (2, [.ref aF, .int nF])), (aF, .inl (cC, roomF, .inl fF))]) (w1 := [(w, .inr (2, [.ref wa, .int n_10])), (wa, .inl (cC, 60, .inl f_6))]) hP hD [1, 2] [0, 3, 4] rfl rfl (by decide) (by decide) hk1 hFc hP1 hD1
            generalize H1 = H at hP hS ⊢
            have hP : va_P (dC, dI) CL [(v, .inr (4, [.ref w, .int dec, .int bel, .long ah, .long bh])), (hF, .inr (2, [.ref aF, .int nF])), (aF, .inl (cC, roomF, .inl fF)), (w, .inr (2, [.ref wa, .int n_10])), (wa, .inl (cC, 60, .inl f_6))] H := hP
            have hD : va_D A [(v, .inr (4, [.ref w, .int dec, .int bel, .long ah, .long bh])), (hF, .inr (2, [.ref aF, .int nF])), (aF, .inl (cC, roomF, .inl fF)), (w, .inr (2, [.ref wa, .int n_10])), (wa, .inl (cC, 60, .inl f_6))] := hD
            have hP9 := hP.sub (ws' := [(v, .inr (4, [.ref w, .int dec, .int bel, .long ah, .long bh])), (w, .inr (2, [.ref wa, .int n_10])), (wa, .inl (cC, 60, .inl f_6)), (hF, .inr (2, [.ref aF, .int nF])), (aF, .inl (cC, roomF, .inl fF))]) [0, 3, 4, 1, 2] rfl
            have hD9 := hD.sub (ws' := [(v, .inr (4, [.ref w, .int dec, .int bel, .long ah, .long bh])), (w, .inr (2, [.ref wa, .int n_10])), (wa, .inl (cC, 60, .inl f_6)), (hF, .inr (2, [.ref aF, .int nF])), (aF, .inl (cC, roomF, .inl fF))]) [0, 3, 4, 1, 2] (by decide) rfl
            have hK9 := hK.sub (tys' := [(cC, .char)]) [0] rfl
            have hq9 : (f_6, n_10) = wpLine f bel bh fF nF b9 pt en ∧ lnOK 60 n_10 := by refine ⟨?_, w92_10b⟩; rw [wpLine, if_neg c68_5, wpL2, ← hE, ← hA1, ← w59_4, ← w79_7]; rw [w92_10]; subst ex8 ex9; rfl
            subst hQ
            exact W.vret hx hb hr (fun t ht hW => ⟨⟨(f_6, n_10), rfl, hq9, by rw [ht]; exact hP9, va_K.moved hW.alike hK9, hD9⟩, hS.F ht⟩) hS.2.2 d_Va_writePlain_95
        · skip
          refine lv_aload_n hx hb d_Va_writePlain_34 rfl (lv_at hl 2 rfl) ?_
          refine lv_iload hx hb d_Va_writePlain_35 (lv_at hl 0 rfl) ?_
          have hPc := hP.sub (ws' := [(hF, .inr (2, [.ref aF, .int nF])), (aF, .inl (cC, roomF, .inl fF))]) [1, 2] rfl
          have hDc := hD.sub (ws' := [(hF, .inr (2, [.ref aF, .int nF])), (aF, .inl (cC, roomF, .inl fF))]) [1, 2] (by decide) rfl
          have hKc := hK.sub (tys' := [(cC, .char)]) [0] rfl
          have hFc := va_free (wc := [(hF, .inr (2, [.ref aF, .int nF])), (aF, .inl (cC, roomF, .inl fF))]) hD hS hA [1, 2] rfl
          refine va_calli (va_runV (As := [.int i]) (rest := []) ⟨hx, hb, hml, hown, hT⟩ (c_Line_at l dC dI H.size cC hF aF roomF fF nF i hn2) (cwV 1 hT g_Va_35 rfl rfl rfl (by decide +kernel) ⟨Nat.le_of_ble_eq_true rfl, Nat.le_of_ble_eq_true rfl⟩) ⟨fun a U g mk q => by obtain ⟨q0, q1, qP, qK, qD⟩ := q; exact ⟨q0, q1, qP, va_K.moved (u := U) (U := U.calling g mk a) (Vm.Alike.refl U.vm) qK, qD⟩, va_recv hKc hPc (ci := 2) (q0 := 0) rfl rfl, fun U hU hW => ⟨rfl, by rw [hU], by rw [hU]; exact hPc, va_K.moved hW.alike hKc, hDc.weaken (fun _ _ _ _ => trivial)⟩⟩ rfl rfl hl.1 rfl (lv_room (Nat.le_of_ble_eq_true rfl)) d_Va_writePlain_37 ⟨Nat.le_of_ble_eq_true rfl, Nat.le_of_ble_eq_true rfl⟩) hS (fun q _ h => hFc q h) hFc (fun x11 u t H1 locs ht hvm w37_11 hB hz1 hk1 hS => ?_)
          obtain ⟨hP1, hK1, hD1⟩ := hB
          rw [ht] at hP1
          try dsimp only at w37_11
          obtain ⟨hP, hD⟩ := va_join (wr := [(v, .inr (4, [.ref w, .int dec, .int bel, .long ah, .long bh])), (w, .inr (2, [.ref wa, .int n1])), (wa, .inl (cC, 60, .inl f1))]) (w1 := [(hF, .inr (2, [.ref aF, .int nF])), (aF, .inl (cC, roomF, .inl fF))]) hP hD [1, 2] [0, 3, 4] rfl rfl (by decide) (by decide) hk1 hFc hP1 hD1
          generalize H1 = H at hP hS ⊢
          have hP : va_P (dC, dI) CL [(v, .inr (4, [.ref w, .int dec, .int bel, .long ah, .long bh])), (w, .inr (2, [.ref wa, .int n1])), (wa, .inl (cC, 60, .inl f1)), (hF, .inr (2, [.ref aF, .int nF])), (aF, .inl (cC, roomF, .inl fF))] H := hP
          have hD : va_D A [(v, .inr (4, [.ref w, .int dec, .int bel, .long ah, .long bh])), (w, .inr (2, [.ref wa, .int n1])), (wa, .inl (cC, 60, .inl f1)), (hF, .inr (2, [.ref aF, .int nF])), (aF, .inl (cC, roomF, .inl fF))] := hD
          refine lv_bipush (v := 48) hx hb d_Va_writePlain_40 (by decide) ?_
          refine lv_icmp_ne (tgt := 51) hx hb d_Va_writePlain_42 (by decide) (fun c42_12 => ?_) (fun c42_12 => ?_)
          · skip
            have hE : i = wpFirst fF nF b9 pt := by have h9 := hG; rw [wpSkip, if_neg (by rw [← ex1]; exact c31_2), if_neg (by rw [← w37_11]; exact c42_12)] at h9; exact h9
            refine lv_aload_n hx hb d_Va_writePlain_51 rfl (lv_at hl 1 rfl) ?_
            refine va_get (D := (dC, dI)) (ci := 4) (v := .ref w) (C := R_Va) (T := F_Va) (N := 5) hx hb hT (in_Va) hown hK hP 0 rfl rfl 0 (by decide) (hT _ t_49) (fun _ h9 => h9) rfl d_Va_writePlain_52 ?_
            refine lv_aload_n hx hb d_Va_writePlain_55 rfl (lv_at hl 2 rfl) ?_
            refine lv_iload hx hb d_Va_writePlain_56 (lv_at hl 0 rfl) ?_
            refine lv_iload_n hx hb d_Va_writePlain_58 rfl (lv_at hl 4 rfl) ?_
            have hPc := hP.sub (ws' := [(w, .inr (2, [.ref wa, .int n1])), (wa, .inl (cC, 60, .inl f1)), (hF, .inr (2, [.ref aF, .int nF])), (aF, .inl (cC, roomF, .inl fF))]) [1, 2, 3, 4] rfl
            have hDc := hD.sub (ws' := [(w, .inr (2, [.ref wa, .int n1])), (wa, .inl (cC, 60, .inl f1)), (hF, .inr (2, [.ref aF, .int nF])), (aF, .inl (cC, roomF, .inl fF))]) [1, 2, 3, 4] (by decide) rfl
            have hKc := hK.sub (tys' := [(cC, .char)]) [0] rfl
            have hFc := va_free (wc := [(w, .inr (2, [.ref wa, .int n1])), (wa, .inl (cC, 60, .inl f1)), (hF, .inr (2, [.ref aF, .int nF])), (aF, .inl (cC, roomF, .inl fF))]) hD hS hA [1, 2, 3, 4] rfl
            refine va_callv (va_runV (As := [.ref hF, .int i, .int pt]) (rest := []) ⟨hx, hb, hml, hown, hT⟩ (c_Line_addPart l dC dI H.size cC w wa 60 f1 n1 hF aF roomF fF nF i pt hn1 hn2) (cwV 3 hT g_Va_31 rfl rfl rfl (by decide +kernel) ⟨Nat.le_of_ble_eq_true rfl, Nat.le_of_ble_eq_true rfl⟩) ⟨fun a U g mk q => by obtain ⟨q0, q1, qP, qK, qD⟩ := q; exact ⟨q0, q1, qP, va_K.moved (u := U) (U := U.calling g mk a) (Vm.Alike.refl U.vm) qK, qD⟩, va_recv hKc hPc (ci := 2) (q0 := 0) rfl rfl, fun U hU hW => ⟨rfl, by rw [hU], by rw [hU]; exact hPc, va_K.moved hW.alike hKc, hDc.weaken (fun _ _ _ _ => trivial)⟩⟩ rfl rfl hl.1 rfl (lv_room (Nat.le_of_ble_eq_true rfl)) d_Va_writePlain_59 ⟨Nat.le_of_ble_eq_true rfl, Nat.le_of_ble_eq_true rfl⟩) hS (fun q _ h => hFc q h) hFc (fun u t H1 locs ht hvm w59_14 hB hz1 hk1 hS => ?_)
            obtain ⟨f_13, n_14⟩ := u
            obtain ⟨hP1, hK1, hD1⟩ := hB
            rw [ht] at hP1
            try dsimp only at w59_14
            obtain ⟨w59_14, w59_14b⟩ := w59_14
            obtain ⟨hP, hD⟩ := va_join (wr := [(v, .inr (4, [.ref w, .int dec, .int bel, .long ah, .long bh]))]) (w1 := [(w, .inr (2, [.ref wa, .int n_14])), (wa, .inl (cC, 60, .inl f_13)), (hF, .inr (2, [.ref aF, .int nF])), (aF, .inl (cC, roomF, .inl fF))]) hP hD [1, 2, 3, 4] [0] rfl rfl (by decide) (by decide) hk1 hFc hP1 hD1
            generalize H1 = H at hP hS ⊢
            have hP : va_P (dC, dI) CL [(v, .inr (4, [.ref w, .int dec, .int bel, .long ah, .long bh])), (w, .inr (2, [.ref wa, .int n_14])), (wa, .inl (cC, 60, .inl f_13)), (hF, .inr (2, [.ref aF, .int nF])), (aF, .inl (cC, roomF, .inl fF))] H := hP
            have hD : va_D A [(v, .inr (4, [.ref w, .int dec, .int bel, .long ah, .long bh])), (w, .inr (2, [.ref wa, .int n_14])), (wa, .inl (cC, 60, .inl f_13)), (hF, .inr (2, [.ref aF, .int nF])), (aF, .inl (cC, roomF, .inl fF))] := hD
            refine lv_aload_n hx hb d_Va_writePlain_62 rfl (lv_at hl 1 rfl) ?_
            refine va_get (D := (dC, dI)) (ci := 4) (v := .long bh) (C := R_Va) (T := F_Va) (N := 5) hx hb hT (in_Va) hown hK hP 0 rfl rfl 4 (by decide) (hT _ t_59) (fun _ h9 => h9) rfl d_Va_writePlain_63 ?_
            refine lv_lconst (v := 0) hx hb d_Va_writePlain_66 (by decide) ?_
            refine W.lcmp hx hb d_Va_writePlain_67 ?_
            refine lv_if_eq (tgt := 95) hx hb d_Va_writePlain_68 (by decide) (fun c68_15 => ?_) (fun c68_15 => ?_)
            · skip
              rw [lg_cmp_eq] at c68_15
              have hP9 := hP.sub (ws' := [(v, .inr (4, [.ref w, .int dec, .int bel, .long ah, .long bh])), (w, .inr (2, [.ref wa, .int n_14])), (wa, .inl (cC, 60, .inl f_13)), (hF, .inr (2, [.ref aF, .int nF])), (aF, .inl (cC, roomF, .inl fF))]) [0, 1, 2, 3, 4] rfl
              have hD9 := hD.sub (ws' := [(v, .inr (4, [.ref w, .int dec, .int bel, .long ah, .long bh])), (w, .inr (2, [.ref wa, .int n_14])), (wa, .inl (cC, 60, .inl f_13)), (hF, .inr (2, [.ref aF, .int nF])), (aF, .inl (cC, roomF, .inl fF))]) [0, 1, 2, 3, 4] (by decide) rfl
              have hK9 := hK.sub (tys' := [(cC, .char)]) [0] rfl
              have hq9 : (f_13, n_14) = wpLine f bel bh fF nF b9 pt en ∧ lnOK 60 n_14 := by refine ⟨?_, w59_14b⟩; rw [wpLine, if_pos c68_15, wpL2, ← hE, ← hA1]; exact w59_14
              subst hQ
              exact W.vret hx hb hr (fun t ht hW => ⟨⟨(f_13, n_14), rfl, hq9, by rw [ht]; exact hP9, va_K.moved hW.alike hK9, hD9⟩, hS.F ht⟩) hS.2.2 d_Va_writePlain_95
            · skip
              rw [lg_cmp_eq] at c68_15
              refine lv_aload_n hx hb d_Va_writePlain_71 rfl (lv_at hl 1 rfl) ?_
              refine va_get (D := (dC, dI)) (ci := 4) (v := .ref w) (C := R_Va) (T := F_Va) (N := 5) hx hb hT (in_Va) hown hK hP 0 rfl rfl 0 (by decide) (hT _ t_49) (fun _ h9 => h9) rfl d_Va_writePlain_72 ?_
              refine lv_aload_n hx hb d_Va_writePlain_75 rfl (lv_at hl 2 rfl) ?_
              refine lv_iload_n hx hb d_Va_writePlain_76 rfl (lv_at hl 4 rfl) ?_
              refine lv_iload hx hb d_Va_writePlain_77 (lv_at hl 5 rfl) ?_
              have hPc := hP.sub (ws' := [(w, .inr (2, [.ref wa, .int n_14])), (wa, .inl (cC, 60, .inl f_13)), (hF, .inr (2, [.ref aF, .int nF])), (aF, .inl (cC, roomF, .inl fF))]) [1, 2, 3, 4] rfl
              have hDc := hD.sub (ws' := [(w, .inr (2, [.ref wa, .int n_14])), (wa, .inl (cC, 60, .inl f_13)), (hF, .inr (2, [.ref aF, .int nF])), (aF, .inl (cC, roomF, .inl fF))]) [1, 2, 3, 4] (by decide) rfl
              have hKc := hK.sub (tys' := [(cC, .char)]) [0] rfl
              have hFc := va_free (wc := [(w, .inr (2, [.ref wa, .int n_14])), (wa, .inl (cC, 60, .inl f_13)), (hF, .inr (2, [.ref aF, .int nF])), (aF, .inl (cC, roomF, .inl fF))]) hD hS hA [1, 2, 3, 4] rfl
              refine va_callv (va_runV (As := [.ref hF, .int pt, .int en]) (rest := []) ⟨hx, hb, hml, hown, hT⟩ (c_Line_addPart l dC dI H.size cC w wa 60 f_13 n_14 hF aF roomF fF nF pt en (by first | assumption | omega) hn2) (cwV 3 hT g_Va_31 rfl rfl rfl (by decide +kernel) ⟨Nat.le_of_ble_eq_true rfl, Nat.le_of_ble_eq_true rfl⟩) ⟨fun a U g mk q => by obtain ⟨q0, q1, qP, qK, qD⟩ := q; exact ⟨q0, q1, qP, va_K.moved (u := U) (U := U.calling g mk a) (Vm.Alike.refl U.vm) qK, qD⟩, va_recv hKc hPc (ci := 2) (q0 := 0) rfl rfl, fun U hU hW => ⟨rfl, by rw [hU], by rw [hU]; exact hPc, va_K.moved hW.alike hKc, hDc.weaken (fun _ _ _ _ => trivial)⟩⟩ rfl rfl hl.1 rfl (lv_room (Nat.le_of_ble_eq_true rfl)) d_Va_writePlain_79 ⟨Nat.le_of_ble_eq_true rfl, Nat.le_of_ble_eq_true rfl⟩) hS (fun q _ h => hFc q h) hFc (fun u t H1 locs ht hvm w79_17 hB hz1 hk1 hS => ?_)
              obtain ⟨f_16, n_17⟩ := u
              obtain ⟨hP1, hK1, hD1⟩ := hB
              rw [ht] at hP1
              try dsimp only at w79_17
              obtain ⟨w79_17, w79_17b⟩ := w79_17
              obtain ⟨hP, hD⟩ := va_join (wr := [(v, .inr (4, [.ref w, .int dec, .int bel, .long ah, .long bh]))]) (w1 := [(w, .inr (2, [.ref wa, .int n_17])), (wa, .inl (cC, 60, .inl f_16)), (hF, .inr (2, [.ref aF, .int nF])), (aF, .inl (cC, roomF, .inl fF))]) hP hD [1, 2, 3, 4] [0] rfl rfl (by decide) (by decide) hk1 hFc hP1 hD1
              generalize H1 = H at hP hS ⊢
              have hP : va_P (dC, dI) CL [(v, .inr (4, [.ref w, .int dec, .int bel, .long ah, .long bh])), (w, .inr (2, [.ref wa, .int n_17])), (wa, .inl (cC, 60, .inl f_16)), (hF, .inr (2, [.ref aF, .int nF])), (aF, .inl (cC, roomF, .inl fF))] H := hP
              have hD : va_D A [(v, .inr (4, [.ref w, .int dec, .int bel, .long ah, .long bh])), (w, .inr (2, [.ref wa, .int n_17])), (wa, .inl (cC, 60, .inl f_16)), (hF, .inr (2, [.ref aF, .int nF])), (aF, .inl (cC, roomF, .inl fF))] := hD
              refine lv_aload_n hx hb d_Va_writePlain_82 rfl (lv_at hl 1 rfl) ?_
              refine va_get (D := (dC, dI)) (ci := 4) (v := .ref w) (C := R_Va) (T := F_Va) (N := 5) hx hb hT (in_Va) hown hK hP 0 rfl rfl 0 (by decide) (hT _ t_49) (fun _ h9 => h9) rfl d_Va_writePlain_83 ?_
              refine lv_iload hx hb d_Va_writePlain_86 (lv_at hl 5 rfl) ?_
              refine lv_iload_n hx hb d_Va_writePlain_88 rfl (lv_at hl 4 rfl) ?_
              refine lv_isub hx hb d_Va_writePlain_89 ?_
              refine lv_topi (fun x18 ex18 => ?_)
              refine lv_iconst (v := 1) hx hb d_Va_writePlain_90 (by decide) ?_
              refine lv_isub hx hb d_Va_writePlain_91 ?_
              refine lv_topi (fun x19 ex19 => ?_)
              have hPc := hP.sub (ws' := [(w, .inr (2, [.ref wa, .int n_17])), (wa, .inl (cC, 60, .inl f_16))]) [1, 2] rfl
              have hDc := hD.sub (ws' := [(w, .inr (2, [.ref wa, .int n_17])), (wa, .inl (cC, 60, .inl f_16))]) [1, 2] (by decide) rfl
              have hKc := hK.sub (tys' := [(cC, .char)]) [0] rfl
              have hFc := va_free (wc := [(w, .inr (2, [.ref wa, .int n_17])), (wa, .inl (cC, 60, .inl f_16))]) hD hS hA [1, 2] rfl
              refine va_callv (va_runV (As := [.int x19]) (rest := []) ⟨hx, hb, hml, hown, hT⟩ (c_Line_dropZeros l dC dI H.size cC w wa 60 f_16 n_17 x19 (by first | assumption | omega)) (cwV 1 hT g_Va_65 rfl rfl rfl (by decide +kernel) ⟨Nat.le_of_ble_eq_true rfl, Nat.le_of_ble_eq_true rfl⟩) ⟨fun a U g mk q => by obtain ⟨q0, q1, qP, qK, qD⟩ := q; exact ⟨q0, q1, qP, va_K.moved (u := U) (U := U.calling g mk a) (Vm.Alike.refl U.vm) qK, qD⟩, va_recv hKc hPc (ci := 2) (q0 := 0) rfl rfl, fun U hU hW => ⟨rfl, by rw [hU], by rw [hU]; exact hPc, va_K.moved hW.alike hKc, hDc.weaken (fun _ _ _ _ => trivial)⟩⟩ rfl rfl hl.1 rfl (lv_room (Nat.le_of_ble_eq_true rfl)) d_Va_writePlain_92 ⟨Nat.le_of_ble_eq_true rfl, Nat.le_of_ble_eq_true rfl⟩) hS (fun q _ h => hFc q h) hFc (fun u t H1 locs ht hvm w92_20 hB hz1 hk1 hS => ?_)
              obtain ⟨n_20, rfl⟩ : ∃ z, z = u := ⟨_, rfl⟩
              obtain ⟨hP1, hK1, hD1⟩ := hB
              rw [ht] at hP1
              try dsimp only at w92_20
              obtain ⟨w92_20, w92_20b⟩ := w92_20
              obtain ⟨hP, hD⟩ := va_join (wr := [(v, .inr (4, [.ref w, .int dec, .int bel, .long ah, .long bh])), (hF, .inr (2, [.ref aF, .int nF])), (aF, .inl (cC, roomF, .inl fF))]) (w1 := [(w, .inr (2, [.ref wa, .int n_20])), (wa, .inl (cC, 60, .inl f_16))]) hP hD [1, 2] [0, 3, 4] rfl rfl (by decide) (by decide) hk1 hFc hP1 hD1
              generalize H1 = H at hP hS ⊢
              have hP : va_P (dC, dI) CL [(v, .inr (4, [.ref w, .int dec, .int bel, .long ah, .long bh])), (hF, .inr (2, [.ref aF, .int nF])), (aF, .inl (cC, roomF, .inl fF)), (w, .inr (2, [.ref wa, .int n_20])), (wa, .inl (cC, 60, .inl f_16))] H := hP
              have hD : va_D A [(v, .inr (4, [.ref w, .int dec, .int bel, .long ah, .long bh])), (hF, .inr (2, [.ref aF, .int nF])), (aF, .inl (cC, roomF, .inl fF)), (w, .inr (2, [.ref wa, .int n_20])), (wa, .inl (cC, 60, .inl f_16))] := hD
              have hP9 := hP.sub (ws' := [(v, .inr (4, [.ref w, .int dec, .int bel, .long ah, .long bh])), (w, .inr (2, [.ref wa, .int n_20])), (wa, .inl (cC, 60, .inl f_16)), (hF, .inr (2, [.ref aF, .int nF])), (aF, .inl (cC, roomF, .inl fF))]) [0, 3, 4, 1, 2] rfl
              have hD9 := hD.sub (ws' := [(v, .inr (4, [.ref w, .int dec, .int bel, .long ah, .long bh])), (w, .inr (2, [.ref wa, .int n_20])), (wa, .inl (cC, 60, .inl f_16)), (hF, .inr (2, [.ref aF, .int nF])), (aF, .inl (cC, roomF, .inl fF))]) [0, 3, 4, 1, 2] (by decide) rfl
              have hK9 := hK.sub (tys' := [(cC, .char)]) [0] rfl
              have hq9 : (f_16, n_20) = wpLine f bel bh fF nF b9 pt en ∧ lnOK 60 n_20 := by refine ⟨?_, w92_20b⟩; rw [wpLine, if_neg c68_15, wpL2, ← hE, ← hA1, ← w59_14, ← w79_17]; rw [w92_20]; subst ex18 ex19; rfl
              subst hQ
              exact W.vret hx hb hr (fun t ht hW => ⟨⟨(f_16, n_20), rfl, hq9, by rw [ht]; exact hP9, va_K.moved hW.alike hK9, hD9⟩, hS.F ht⟩) hS.2.2 d_Va_writePlain_95
          · skip
            obtain ⟨x21, ex21⟩ : ∃ y : Int32, y = i + 1 := ⟨_, rfl⟩
            refine lv_iinc (v := x21) (lv' := [(5, .int x21), (0, .ref v), (1, .ref hF), (2, .int b9), (3, .int pt), (4, .int en)]) hx hb d_Va_writePlain_45 hl (k := 0) rfl (by rw [ex21]; rfl) (by decide) rfl (fun ls hl => ?_)
            refine lv_goto (tgt := 26) hx hb d_Va_writePlain_48 (by decide) ?_
            exact ih x21 _ _ _ (by rw [ex21]; exact k_fuel (by rw [← ex1]; exact c31_2) hk) (by have h9 := hG; rw [wpSkip, if_neg (by rw [← ex1]; exact c31_2), if_pos (by rw [← w37_11]; exact c42_12)] at h9; rw [ex21]; exact h9) (hP.sub [0, 3, 4, 1, 2] rfl) (hD.sub [0, 3, 4, 1, 2] (by decide) rfl) hS (lv_sub hl [0, 1, 2, 3, 4, 5] rfl)
    exact loop26 (((pt - 1).toInt - b9.toInt).toNat + 1) b9 _ _ _ (by omega) (rfl) hP hD hS (lv_sub hl [0, 1, 2, 3, 4, 5] rfl)
  refine lv_if_eq (tgt := 23) hx hb d_Va_writePlain_11 (by decide) (fun c11_22 => ?_) (fun c11_22 => ?_)
  · skip
    exact cut23 0 f _ _ _ (by rw [wpL1, if_pos c11_22]) (⟨by decide, by decide, by decide⟩) (hP.sub [0, 1, 2, 3, 4] rfl) (hD.sub [0, 1, 2, 3, 4] (by decide) rfl) hS (lv_sub hl [0, 1, 2, 3, 4] rfl)
  · skip
    refine lv_aload_n hx hb d_Va_writePlain_14 rfl (lv_at hl 0 rfl) ?_
    refine va_get (D := (dC, dI)) (ci := 4) (v := .ref w) (C := R_Va) (T := F_Va) (N := 5) hx hb hT (in_Va) hown hK hP 0 rfl rfl 0 (by decide) (hT _ t_49) (fun _ h9 => h9) rfl d_Va_writePlain_15 ?_
    refine lv_bipush (v := 45) hx hb d_Va_writePlain_18 (by decide) ?_
    have hPc := hP.sub (ws' := [(w, .inr (2, [.ref wa, .int 0])), (wa, .inl (cC, 60, .inl f))]) [3, 4] rfl
    have hDc := hD.sub (ws' := [(w, .inr (2, [.ref wa, .int 0])), (wa, .inl (cC, 60, .inl f))]) [3, 4] (by decide) rfl
    have hKc := hK.sub (tys' := [(cC, .char)]) [0] rfl
    have hFc := va_free (wc := [(w, .inr (2, [.ref wa, .int 0])), (wa, .inl (cC, 60, .inl f))]) hD hS hA [3, 4] rfl
    refine va_callv (va_runV (As := [.int 45]) (rest := []) ⟨hx, hb, hml, hown, hT⟩ (c_Line_add l dC dI H.size cC w wa 60 f 0 45 (⟨by decide, by decide, by decide⟩)) (cwV 1 hT g_Va_62 rfl rfl rfl (by decide +kernel) ⟨Nat.le_of_ble_eq_true rfl, Nat.le_of_ble_eq_true rfl⟩) ⟨fun a U g mk q => by obtain ⟨q0, q1, qP, qK, qD⟩ := q; exact ⟨q0, q1, qP, va_K.moved (u := U) (U := U.calling g mk a) (Vm.Alike.refl U.vm) qK, qD⟩, va_recv hKc hPc (ci := 2) (q0 := 0) rfl rfl, fun U hU hW => ⟨rfl, by rw [hU], by rw [hU]; exact hPc, va_K.moved hW.alike hKc, hDc.weaken (fun _ _ _ _ => trivial)⟩⟩ rfl rfl hl.1 rfl (lv_room (Nat.le_of_ble_eq_true rfl)) d_Va_writePlain_20 ⟨Nat.le_of_ble_eq_true rfl, Nat.le_of_ble_eq_true rfl⟩) hS (fun q _ h => hFc q h) hFc (fun u t H1 locs ht hvm w20_24 hB hz1 hk1 hS => ?_)
    obtain ⟨f_23, n_24⟩ := u
    obtain ⟨hP1, hK1, hD1⟩ := hB
    rw [ht] at hP1
    try dsimp only at w20_24
    obtain ⟨w20_24, w20_24b⟩ := w20_24
    obtain ⟨hP, hD⟩ := va_join (wr := [(v, .inr (4, [.ref w, .int dec, .int bel, .long ah, .long bh])), (hF, .inr (2, [.ref aF, .int nF])), (aF, .inl (cC, roomF, .inl fF))]) (w1 := [(w, .inr (2, [.ref wa, .int n_24])), (wa, .inl (cC, 60, .inl f_23))]) hP hD [3, 4] [0, 1, 2] rfl rfl (by decide) (by decide) hk1 hFc hP1 hD1
    generalize H1 = H at hP hS ⊢
    have hP : va_P (dC, dI) CL [(v, .inr (4, [.ref w, .int dec, .int bel, .long ah, .long bh])), (hF, .inr (2, [.ref aF, .int nF])), (aF, .inl (cC, roomF, .inl fF)), (w, .inr (2, [.ref wa, .int n_24])), (wa, .inl (cC, 60, .inl f_23))] H := hP
    have hD : va_D A [(v, .inr (4, [.ref w, .int dec, .int bel, .long ah, .long bh])), (hF, .inr (2, [.ref aF, .int nF])), (aF, .inl (cC, roomF, .inl fF)), (w, .inr (2, [.ref wa, .int n_24])), (wa, .inl (cC, 60, .inl f_23))] := hD
    exact cut23 n_24 f_23 _ _ _ (by rw [wpL1, if_neg c11_22]; exact w20_24) (w20_24b) (hP.sub [0, 1, 2, 3, 4] rfl) (hD.sub [0, 1, 2, 3, 4] (by decide) rfl) hS (lv_sub hl [0, 1, 2, 3, 4] rfl)

set_option maxHeartbeats 4000000 in
set_option maxRecDepth 100000 in
theorem c_Value_readDecimal (l : Launch) (dC : Nat → ClassId) (dI : Nat → Nat → Nat) (sz : Nat) (cC : ClassId) (v : Nat) (w : Nat) (wa : Nat) (dec : Int32) (bel : Int32) (ah : Int64) (bh : Int64) (f : Nat → Int32) (n : Int32) (hF : Nat) (aF : Nat) (roomF : Nat) (fF : Nat → Int32) (nF : Int32) (hn : lnOK 60 n) (hn2 : lnOK roomF nF) : Met l y_Va_readDecimal w_Va_readDecimal ({ frames := 3, cells := 0, slots := 0, locals := 70 } : Room) (va_Pc [.ref v, .ref hF] (fun U => U.heap.size = sz ∧ va_P (dC, dI) CL [(v, .inr (4, [.ref w, .int dec, .int bel, .long ah, .long bh])), (w, .inr (2, [.ref wa, .int n])), (wa, .inl (cC, 60, .inl f)), (hF, .inr (2, [.ref aF, .int nF])), (aF, .inl (cC, roomF, .inl fF))] U.heap ∧ va_K (dC, dI) CL [(cC, .char)] U ∧ va_D (fun _ => True) [(v, .inr (4, [.ref w, .int dec, .int bel, .long ah, .long bh])), (w, .inr (2, [.ref wa, .int n])), (wa, .inl (cC, 60, .inl f)), (hF, .inr (2, [.ref aF, .int nF])), (aF, .inl (cC, roomF, .inl fF))])) (va_Qi (fun (r : Int32) (u : Int32 × Int32 × Int64 × Int64 × (Nat → Int32) × Int32) => match u with | (dec2, bel2, ah2, bh2, f2, n2) => r = k_b (rdOK fF nF) ∧ (rdOK fF nF = true → dec2 = 1 ∧ bel2 = rdBl fF nF ∧ ah2 = rdAh fF nF ∧ bh2 = rdBh fF nF ∧ (f2, n2) = wpLine f (rdBl fF nF) (rdBh fF nF) fF nF (rdS fF nF) (rdP fF nF) (rdE fF nF)) ∧ lnOK 60 n2 ∧ (rdOK fF nF = false → dec2 = dec)) (fun (u : Int32 × Int32 × Int64 × Int64 × (Nat → Int32) × Int32) (t : State) => match u with | (dec2, bel2, ah2, bh2, f2, n2) => va_P (dC, dI) CL [(v, .inr (4, [.ref w, .int dec2, .int bel2, .long ah2, .long bh2])), (w, .inr (2, [.ref wa, .int n2])), (wa, .inl (cC, 60, .inl f2)), (hF, .inr (2, [.ref aF, .int nF])), (aF, .inl (cC, roomF, .inl fF))] t.heap ∧ va_K (dC, dI) CL [(cC, .char)] t ∧ va_D (va_A [(v, .inr (4, [.ref w, .int dec, .int bel, .long ah, .long bh])), (w, .inr (2, [.ref wa, .int n])), (wa, .inl (cC, 60, .inl f)), (hF, .inr (2, [.ref aF, .int nF])), (aF, .inl (cC, roomF, .inl fF))] sz) [(v, .inr (4, [.ref w, .int dec2, .int bel2, .long ah2, .long bh2])), (w, .inr (2, [.ref wa, .int n2])), (wa, .inl (cC, 60, .inl f2)), (hF, .inr (2, [.ref aF, .int nF])), (aF, .inl (cC, roomF, .inl fF))]) (va_A [(v, .inr (4, [.ref w, .int dec, .int bel, .long ah, .long bh])), (w, .inr (2, [.ref wa, .int n])), (wa, .inl (cC, 60, .inl f)), (hF, .inr (2, [.ref aF, .int nF])), (aF, .inl (cC, roomF, .inl fF))] sz)) 0 0 (va_A [(v, .inr (4, [.ref w, .int dec, .int bel, .long ah, .long bh])), (w, .inr (2, [.ref wa, .int n])), (wa, .inl (cC, 60, .inl f)), (hF, .inr (2, [.ref aF, .int nF])), (aF, .inl (cC, roomF, .inl fF))] sz) := by
  refine Met.ofW (cc := b_Va_readDecimal) (maxL := 8) (ret := (some .boolean)) (by decide) rfl ?_
  intro p e s m args below meth c s₁ B hml hv
  obtain ⟨rfl, hsz, hP, hK, hD0⟩ := hv
  have hx := B.exec
  have hb := B.bytes
  have hr := B.returns
  have hts := atoms_spec (ws := w_Va_readDecimal) B.pre
  have hT : ∀ w ∈ TB, w.before _ s = true := fun w h => hts w (List.mem_cons_of_mem _ h)
  have hown : s.vm.findClass R_Va = some m.cls := findClass_of_methodNamed B.named
  have hlocks := B.notSynchronized
  subst hsz
  have hD := hD0.self (sz := s.heap.size)
  generalize hAe : va_A [(v, .inr (4, [.ref w, .int dec, .int bel, .long ah, .long bh])), (w, .inr (2, [.ref wa, .int n])), (wa, .inl (cC, 60, .inl f)), (hF, .inr (2, [.ref aF, .int nF])), (aF, .inl (cC, roomF, .inl fF))] s.heap.size = A at hD ⊢
  have hA : ∀ q : Nat, s.heap.size ≤ q → A q := fun q h => by rw [← hAe]; exact Or.inr h
  have hS : va_S A s.heap s.heap [] := va_S.rf
  have hP : va_P (dC, dI) CL [(v, .inr (4, [.ref w, .int dec, .int bel, .long ah, .long bh])), (w, .inr (2, [.ref wa, .int n])), (wa, .inl (cC, 60, .inl f)), (hF, .inr (2, [.ref aF, .int nF])), (aF, .inl (cC, roomF, .inl fF))] s.heap := hP
  have hl := lv_entry ([.ref v, .ref hF]) (n := 8) (Nat.le_of_ble_eq_true rfl)
  rw [lg_entry_eq]
  generalize (lg_sl ([.ref v, .ref hF]) ++ List.replicate (8 - (lg_sl ([.ref v, .ref hF])).length) Slot.unset).toArray = ls at hl ⊢
  have hl : lv_has ls 8 [(0, .ref v), (1, .ref hF)] := hl
  refine k_Q (fun Q hQ => ?_)
  refine lv_aload_n hx hb d_Va_readDecimal_0 rfl (lv_at hl 1 rfl) ?_
  refine lv_iconst (v := 0) hx hb d_Va_readDecimal_1 (by decide) ?_
  have hPc := hP.sub (ws' := [(hF, .inr (2, [.ref aF, .int nF])), (aF, .inl (cC, roomF, .inl fF))]) [3, 4] rfl
  have hDc := hD.sub (ws' := [(hF, .inr (2, [.ref aF, .int nF])), (aF, .inl (cC, roomF, .inl fF))]) [3, 4] (by decide) rfl
  have hKc := hK.sub (tys' := [(cC, .char)]) [0] rfl
  have hFc := va_free (wc := [(hF, .inr (2, [.ref aF, .int nF])), (aF, .inl (cC, roomF, .inl fF))]) hD hS hA [3, 4] rfl
  refine va_calli (va_runV (As := [.int 0]) (rest := []) ⟨hx, hb, hml, hown, hT⟩ (c_Line_at l dC dI s.heap.size cC hF aF roomF fF nF 0 hn2) (cwV 1 hT g_Va_35 rfl rfl rfl (by decide +kernel) ⟨Nat.le_of_ble_eq_true rfl, Nat.le_of_ble_eq_true rfl⟩) ⟨fun a U g mk q => by obtain ⟨q0, q1, qP, qK, qD⟩ := q; exact ⟨q0, q1, qP, va_K.moved (u := U) (U := U.calling g mk a) (Vm.Alike.refl U.vm) qK, qD⟩, va_recv hKc hPc (ci := 2) (q0 := 0) rfl rfl, fun U hU hW => ⟨rfl, by rw [hU], by rw [hU]; exact hPc, va_K.moved hW.alike hKc, hDc.weaken (fun _ _ _ _ => trivial)⟩⟩ rfl rfl hl.1 rfl (lv_room (Nat.le_of_ble_eq_true rfl)) d_Va_readDecimal_2 ⟨Nat.le_of_ble_eq_true rfl, Nat.le_of_ble_eq_true rfl⟩) hS (fun q _ h => hFc q h) hFc (fun x1 u t H1 locs ht hvm w2_1 hB hz1 hk1 hS => ?_)
  obtain ⟨hP1, hK1, hD1⟩ := hB
  rw [ht] at hP1
  try dsimp only at w2_1
  obtain ⟨hP, hD⟩ := va_join (wr := [(v, .inr (4, [.ref w, .int dec, .int bel, .long ah, .long bh])), (w, .inr (2, [.ref wa, .int n])), (wa, .inl (cC, 60, .inl f))]) (w1 := [(hF, .inr (2, [.ref aF, .int nF])), (aF, .inl (cC, roomF, .inl fF))]) hP hD [3, 4] [0, 1, 2] rfl rfl (by decide) (by decide) hk1 hFc hP1 hD1
  generalize H1 = H at hP hS ⊢
  have hP : va_P (dC, dI) CL [(v, .inr (4, [.ref w, .int dec, .int bel, .long ah, .long bh])), (w, .inr (2, [.ref wa, .int n])), (wa, .inl (cC, 60, .inl f)), (hF, .inr (2, [.ref aF, .int nF])), (aF, .inl (cC, roomF, .inl fF))] H := hP
  have hD : va_D A [(v, .inr (4, [.ref w, .int dec, .int bel, .long ah, .long bh])), (w, .inr (2, [.ref wa, .int n])), (wa, .inl (cC, 60, .inl f)), (hF, .inr (2, [.ref aF, .int nF])), (aF, .inl (cC, roomF, .inl fF))] := hD
  refine lv_bipush (v := 45) hx hb d_Va_readDecimal_5 (by decide) ?_
  have cut15 : ∀ (st9 : Int32) (H : Heap) (locs : List Loc) (ls : Array Slot), (st9 = rdS fF nF) → va_P (dC, dI) CL [(v, .inr (4, [.ref w, .int dec, .int bel, .long ah, .long bh])), (w, .inr (2, [.ref wa, .int n])), (wa, .inl (cC, 60, .inl f)), (hF, .inr (2, [.ref aF, .int nF])), (aF, .inl (cC, roomF, .inl fF))] H → va_D A [(v, .inr (4, [.ref w, .int dec, .int bel, .long ah, .long bh])), (w, .inr (2, [.ref wa, .int n])), (wa, .inl (cC, 60, .inl f)), (hF, .inr (2, [.ref aF, .int nF])), (aF, .inl (cC, roomF, .inl fF))] → va_S A s.heap H locs → lv_has ls 8 [(0, .ref v), (1, .ref hF)] → W p l e (headSpec w_Va_readDecimal ({ frames := 3, cells := 0, slots := 0, locals := 70 } : Room)).room s m ([.ref v, .ref hF] : List Value).toArray below meth c H locs 0 0 Q (F0 m 15 ls [.int st9]) := by
    intro st9 H locs ls hst9 hP hD hS hl
    refine lv_istore_n (lv' := [(2, .int st9), (0, .ref v), (1, .ref hF)]) hx hb d_Va_readDecimal_15 rfl hl (by decide) rfl (fun ls hl => ?_)
    refine lv_iload_n hx hb d_Va_readDecimal_16 rfl (lv_at hl 0 rfl) ?_
    refine lv_aload_n hx hb d_Va_readDecimal_17 rfl (lv_at hl 2 rfl) ?_
    refine lv_iload_n hx hb d_Va_readDecimal_18 rfl (lv_at hl 0 rfl) ?_
    have hPc := hP.sub (ws' := [(hF, .inr (2, [.ref aF, .int nF])), (aF, .inl (cC, roomF, .inl fF))]) [3, 4] rfl
    have hDc := hD.sub (ws' := [(hF, .inr (2, [.ref aF, .int nF])), (aF, .inl (cC, roomF, .inl fF))]) [3, 4] (by decide) rfl
    have hKc := hK.sub (tys' := [(cC, .char)]) [0] rfl
    have hFc := va_free (wc := [(hF, .inr (2, [.ref aF, .int nF])), (aF, .inl (cC, roomF, .inl fF))]) hD hS hA [3, 4] rfl
    refine va_calli (va_runV (As := [.int st9]) (rest := [.int st9]) ⟨hx, hb, hml, hown, hT⟩ (c_Line_digitsFrom l dC dI H.size cC hF aF roomF fF nF st9 hn2) (cwV 1 hT g_Va_39 rfl rfl rfl (by decide +kernel) ⟨Nat.le_of_ble_eq_true rfl, Nat.le_of_ble_eq_true rfl⟩) ⟨fun a U g mk q => by obtain ⟨q0, q1, qP, qK, qD⟩ := q; exact ⟨q0, q1, qP, va_K.moved (u := U) (U := U.calling g mk a) (Vm.Alike.refl U.vm) qK, qD⟩, va_recv hKc hPc (ci := 2) (q0 := 0) rfl rfl, fun U hU hW => ⟨rfl, by rw [hU], by rw [hU]; exact hPc, va_K.moved hW.alike hKc, hDc.weaken (fun _ _ _ _ => trivial)⟩⟩ rfl rfl hl.1 rfl (lv_room (Nat.le_of_ble_eq_true rfl)) d_Va_readDecimal_19 ⟨Nat.le_of_ble_eq_true rfl, Nat.le_of_ble_eq_true rfl⟩) hS (fun q _ h => hFc q h) hFc (fun x2 u t H1 locs ht hvm w19_2 hB hz1 hk1 hS => ?_)
    obtain ⟨hP1, hK1, hD1⟩ := hB
    rw [ht] at hP1
    try dsimp only at w19_2
    obtain ⟨hP, hD⟩ := va_join (wr := [(v, .inr (4, [.ref w, .int dec, .int bel, .long ah, .long bh])), (w, .inr (2, [.ref wa, .int n])), (wa, .inl (cC, 60, .inl f))]) (w1 := [(hF, .inr (2, [.ref aF, .int nF])), (aF, .inl (cC, roomF, .inl fF))]) hP hD [3, 4] [0, 1, 2] rfl rfl (by decide) (by decide) hk1 hFc hP1 hD1
    generalize H1 = H at hP hS ⊢
    have hP : va_P (dC, dI) CL [(v, .inr (4, [.ref w, .int dec, .int bel, .long ah, .long bh])), (w, .inr (2, [.ref wa, .int n])), (wa, .inl (cC, 60, .inl f)), (hF, .inr (2, [.ref aF, .int nF])), (aF, .inl (cC, roomF, .inl fF))] H := hP
    have hD : va_D A [(v, .inr (4, [.ref w, .int dec, .int bel, .long ah, .long bh])), (w, .inr (2, [.ref wa, .int n])), (wa, .inl (cC, 60, .inl f)), (hF, .inr (2, [.ref aF, .int nF])), (aF, .inl (cC, roomF, .inl fF))] := hD
    refine lv_iadd hx hb d_Va_readDecimal_22 ?_
    refine lv_topi (fun x3 ex3 => ?_)
    refine lv_istore_n (lv' := [(3, .int x3), (2, .int st9), (0, .ref v), (1, .ref hF)]) hx hb d_Va_readDecimal_23 rfl hl (by decide) rfl (fun ls hl => ?_)
    have hpt : x3 = rdP fF nF := by rw [rdP, ← hst9, ex3, w19_2]
    refine lv_aload_n hx hb d_Va_readDecimal_24 rfl (lv_at hl 3 rfl) ?_
    refine lv_iload_n hx hb d_Va_readDecimal_25 rfl (lv_at hl 0 rfl) ?_
    have hPc := hP.sub (ws' := [(hF, .inr (2, [.ref aF, .int nF])), (aF, .inl (cC, roomF, .inl fF))]) [3, 4] rfl
    have hDc := hD.sub (ws' := [(hF, .inr (2, [.ref aF, .int nF])), (aF, .inl (cC, roomF, .inl fF))]) [3, 4] (by decide) rfl
    have hKc := hK.sub (tys' := [(cC, .char)]) [0] rfl
    have hFc := va_free (wc := [(hF, .inr (2, [.ref aF, .int nF])), (aF, .inl (cC, roomF, .inl fF))]) hD hS hA [3, 4] rfl
    refine va_calli (va_runV (As := [.int x3]) (rest := []) ⟨hx, hb, hml, hown, hT⟩ (c_Line_at l dC dI H.size cC hF aF roomF fF nF x3 hn2) (cwV 1 hT g_Va_35 rfl rfl rfl (by decide +kernel) ⟨Nat.le_of_ble_eq_true rfl, Nat.le_of_ble_eq_true rfl⟩) ⟨fun a U g mk q => by obtain ⟨q0, q1, qP, qK, qD⟩ := q; exact ⟨q0, q1, qP, va_K.moved (u := U) (U := U.calling g mk a) (Vm.Alike.refl U.vm) qK, qD⟩, va_recv hKc hPc (ci := 2) (q0 := 0) rfl rfl, fun U hU hW => ⟨rfl, by rw [hU], by rw [hU]; exact hPc, va_K.moved hW.alike hKc, hDc.weaken (fun _ _ _ _ => trivial)⟩⟩ rfl rfl hl.1 rfl (lv_room (Nat.le_of_ble_eq_true rfl)) d_Va_readDecimal_26 ⟨Nat.le_of_ble_eq_true rfl, Nat.le_of_ble_eq_true rfl⟩) hS (fun q _ h => hFc q h) hFc (fun x4 u t H1 locs ht hvm w26_4 hB hz1 hk1 hS => ?_)
    obtain ⟨hP1, hK1, hD1⟩ := hB
    rw [ht] at hP1
    try dsimp only at w26_4
    obtain ⟨hP, hD⟩ := va_join (wr := [(v, .inr (4, [.ref w, .int dec, .int bel, .long ah, .long bh])), (w, .inr (2, [.ref wa, .int n])), (wa, .inl (cC, 60, .inl f))]) (w1 := [(hF, .inr (2, [.ref aF, .int nF])), (aF, .inl (cC, roomF, .inl fF))]) hP hD [3, 4] [0, 1, 2] rfl rfl (by decide) (by decide) hk1 hFc hP1 hD1
    generalize H1 = H at hP hS ⊢
    have hP : va_P (dC, dI) CL [(v, .inr (4, [.ref w, .int dec, .int bel, .long ah, .long bh])), (w, .inr (2, [.ref wa, .int n])), (wa, .inl (cC, 60, .inl f)), (hF, .inr (2, [.ref aF, .int nF])), (aF, .inl (cC, roomF, .inl fF))] H := hP
    have hD : va_D A [(v, .inr (4, [.ref w, .int dec, .int bel, .long ah, .long bh])), (w, .inr (2, [.ref wa, .int n])), (wa, .inl (cC, 60, .inl f)), (hF, .inr (2, [.ref aF, .int nF])), (aF, .inl (cC, roomF, .inl fF))] := hD
    refine lv_bipush (v := 46) hx hb d_Va_readDecimal_29 (by decide) ?_
    have cut39 : ∀ (td9 : Int32) (H : Heap) (locs : List Loc) (ls : Array Slot), (td9 = k_b (rdT fF nF)) → va_P (dC, dI) CL [(v, .inr (4, [.ref w, .int dec, .int bel, .long ah, .long bh])), (w, .inr (2, [.ref wa, .int n])), (wa, .inl (cC, 60, .inl f)), (hF, .inr (2, [.ref aF, .int nF])), (aF, .inl (cC, roomF, .inl fF))] H → va_D A [(v, .inr (4, [.ref w, .int dec, .int bel, .long ah, .long bh])), (w, .inr (2, [.ref wa, .int n])), (wa, .inl (cC, 60, .inl f)), (hF, .inr (2, [.ref aF, .int nF])), (aF, .inl (cC, roomF, .inl fF))] → va_S A s.heap H locs → lv_has ls 8 [(3, .int x3), (2, .int st9), (0, .ref v), (1, .ref hF)] → W p l e (headSpec w_Va_readDecimal ({ frames := 3, cells := 0, slots := 0, locals := 70 } : Room)).room s m ([.ref v, .ref hF] : List Value).toArray below meth c H locs 0 0 Q (F0 m 39 ls [.int td9]) := by
      intro td9 H locs ls htd9 hP hD hS hl
      refine lv_istore (lv' := [(4, .int td9), (3, .int x3), (2, .int st9), (0, .ref v), (1, .ref hF)]) hx hb d_Va_readDecimal_39 hl (by decide) rfl (fun ls hl => ?_)
      have htd : td9 = 0 ↔ rdT fF nF = false := by rw [htd9]; exact k_b_eq0 _
      refine lv_iload hx hb d_Va_readDecimal_41 (lv_at hl 0 rfl) ?_
      have cut57 : ∀ (pl9 : Int32) (H : Heap) (locs : List Loc) (ls : Array Slot), (pl9 = rdL fF nF) → va_P (dC, dI) CL [(v, .inr (4, [.ref w, .int dec, .int bel, .long ah, .long bh])), (w, .inr (2, [.ref wa, .int n])), (wa, .inl (cC, 60, .inl f)), (hF, .inr (2, [.ref aF, .int nF])), (aF, .inl (cC, roomF, .inl fF))] H → va_D A [(v, .inr (4, [.ref w, .int dec, .int bel, .long ah, .long bh])), (w, .inr (2, [.ref wa, .int n])), (wa, .inl (cC, 60, .inl f)), (hF, .inr (2, [.ref aF, .int nF])), (aF, .inl (cC, roomF, .inl fF))] → va_S A s.heap H locs → lv_has ls 8 [(4, .int td9), (3, .int x3), (2, .int st9), (0, .ref v), (1, .ref hF)] → W p l e (headSpec w_Va_readDecimal ({ frames := 3, cells := 0, slots := 0, locals := 70 } : Room)).room s m ([.ref v, .ref hF] : List Value).toArray below meth c H locs 0 0 Q (F0 m 57 ls [.int pl9]) := by
        intro pl9 H locs ls hpl9 hP hD hS hl
        refine lv_istore (lv' := [(5, .int pl9), (4, .int td9), (3, .int x3), (2, .int st9), (0, .ref v), (1, .ref hF)]) hx hb d_Va_readDecimal_57 hl (by decide) rfl (fun ls hl => ?_)
        refine lv_iload hx hb d_Va_readDecimal_59 (lv_at hl 1 rfl) ?_
        have cut74 : ∀ (en9 : Int32) (H : Heap) (locs : List Loc) (ls : Array Slot), (en9 = rdE fF nF) → va_P (dC, dI) CL [(v, .inr (4, [.ref w, .int dec, .int bel, .long ah, .long bh])), (w, .inr (2, [.ref wa, .int n])), (wa, .inl (cC, 60, .inl f)), (hF, .inr (2, [.ref aF, .int nF])), (aF, .inl (cC, roomF, .inl fF))] H → va_D A [(v, .inr (4, [.ref w, .int dec, .int bel, .long ah, .long bh])), (w, .inr (2, [.ref wa, .int n])), (wa, .inl (cC, 60, .inl f)), (hF, .inr (2, [.ref aF, .int nF])), (aF, .inl (cC, roomF, .inl fF))] → va_S A s.heap H locs → lv_has ls 8 [(5, .int pl9), (4, .int td9), (3, .int x3), (2, .int st9), (0, .ref v), (1, .ref hF)] → W p l e (headSpec w_Va_readDecimal ({ frames := 3, cells := 0, slots := 0, locals := 70 } : Room)).room s m ([.ref v, .ref hF] : List Value).toArray below meth c H locs 0 0 Q (F0 m 74 ls [.int en9]) := by
          intro en9 H locs ls hen9 hP hD hS hl
          refine lv_istore (lv' := [(6, .int en9), (5, .int pl9), (4, .int td9), (3, .int x3), (2, .int st9), (0, .ref v), (1, .ref hF)]) hx hb d_Va_readDecimal_74 hl (by decide) rfl (fun ls hl => ?_)
          refine lv_iload_n hx hb d_Va_readDecimal_76 rfl (lv_at hl 3 rfl) ?_
          refine lv_iload_n hx hb d_Va_readDecimal_77 rfl (lv_at hl 4 rfl) ?_
          refine lv_icmp_eq (tgt := 96) hx hb d_Va_readDecimal_78 (by decide) (fun c78_5 => ?_) (fun c78_5 => ?_)
          · skip
            refine lv_iconst (v := 0) hx hb d_Va_readDecimal_96 (by decide) ?_
            have hP9 := hP.sub (ws' := [(v, .inr (4, [.ref w, .int dec, .int bel, .long ah, .long bh])), (w, .inr (2, [.ref wa, .int n])), (wa, .inl (cC, 60, .inl f)), (hF, .inr (2, [.ref aF, .int nF])), (aF, .inl (cC, roomF, .inl fF))]) [0, 1, 2, 3, 4] rfl
            have hD9 := hD.sub (ws' := [(v, .inr (4, [.ref w, .int dec, .int bel, .long ah, .long bh])), (w, .inr (2, [.ref wa, .int n])), (wa, .inl (cC, 60, .inl f)), (hF, .inr (2, [.ref aF, .int nF])), (aF, .inl (cC, roomF, .inl fF))]) [0, 1, 2, 3, 4] (by decide) rfl
            have hK9 := hK.sub (tys' := [(cC, .char)]) [0] rfl
            have hq9 : (0 : Int32) = k_b (rdOK fF nF) ∧ (rdOK fF nF = true → dec = 1 ∧ bel = rdBl fF nF ∧ ah = rdAh fF nF ∧ bh = rdBh fF nF ∧ (f, n) = wpLine f (rdBl fF nF) (rdBh fF nF) fF nF (rdS fF nF) (rdP fF nF) (rdE fF nF)) ∧ lnOK 60 n ∧ (rdOK fF nF = false → dec = dec) := by
              have h9 : rdOK fF nF = false := by
                rw [rdOK, ← hpt, ← hst9, ← hpl9]; simp [c78_5]
              rw [h9]; exact ⟨rfl, fun q => absurd q (by decide), hn, fun _ => rfl⟩
            subst hQ
            exact W.zret (v := 0) hx hb hr rfl (fun t ht hW => ⟨⟨0, (dec, bel, ah, bh, f, n), rfl, hq9, by rw [ht]; exact hP9, va_K.moved hW.alike hK9, hD9⟩, hS.F ht⟩) hS.2.2 d_Va_readDecimal_97
          · skip
            refine lv_iload_n hx hb d_Va_readDecimal_81 rfl (lv_at hl 3 rfl) ?_
            refine lv_iload_n hx hb d_Va_readDecimal_82 rfl (lv_at hl 4 rfl) ?_
            refine lv_isub hx hb d_Va_readDecimal_83 ?_
            refine lv_topi (fun x6 ex6 => ?_)
            refine lv_bipush (v := 18) hx hb d_Va_readDecimal_84 (by decide) ?_
            refine lv_icmp_gt (tgt := 96) hx hb d_Va_readDecimal_86 (by decide) (fun c86_7 => ?_) (fun c86_7 => ?_)
            · skip
              refine lv_iconst (v := 0) hx hb d_Va_readDecimal_96 (by decide) ?_
              have hP9 := hP.sub (ws' := [(v, .inr (4, [.ref w, .int dec, .int bel, .long ah, .long bh])), (w, .inr (2, [.ref wa, .int n])), (wa, .inl (cC, 60, .inl f)), (hF, .inr (2, [.ref aF, .int nF])), (aF, .inl (cC, roomF, .inl fF))]) [0, 1, 2, 3, 4] rfl
              have hD9 := hD.sub (ws' := [(v, .inr (4, [.ref w, .int dec, .int bel, .long ah, .long bh])), (w, .inr (2, [.ref wa, .int n])), (wa, .inl (cC, 60, .inl f)), (hF, .inr (2, [.ref aF, .int nF])), (aF, .inl (cC, roomF, .inl fF))]) [0, 1, 2, 3, 4] (by decide) rfl
              have hK9 := hK.sub (tys' := [(cC, .char)]) [0] rfl
              have hq9 : (0 : Int32) = k_b (rdOK fF nF) ∧ (rdOK fF nF = true → dec = 1 ∧ bel = rdBl fF nF ∧ ah = rdAh fF nF ∧ bh = rdBh fF nF ∧ (f, n) = wpLine f (rdBl fF nF) (rdBh fF nF) fF nF (rdS fF nF) (rdP fF nF) (rdE fF nF)) ∧ lnOK 60 n ∧ (rdOK fF nF = false → dec = dec) := by
                have h9 : rdOK fF nF = false := by
                  rw [rdOK, ← hpt, ← hst9, ← hpl9, ← ex6]; simp [c78_5, c86_7]
                rw [h9]; exact ⟨rfl, fun q => absurd q (by decide), hn, fun _ => rfl⟩
              subst hQ
              exact W.zret (v := 0) hx hb hr rfl (fun t ht hW => ⟨⟨0, (dec, bel, ah, bh, f, n), rfl, hq9, by rw [ht]; exact hP9, va_K.moved hW.alike hK9, hD9⟩, hS.F ht⟩) hS.2.2 d_Va_readDecimal_97
            · skip
              refine lv_iload hx hb d_Va_readDecimal_89 (lv_at hl 1 rfl) ?_
              refine lv_bipush (v := 12) hx hb d_Va_readDecimal_91 (by decide) ?_
              refine lv_icmp_le (tgt := 98) hx hb d_Va_readDecimal_93 (by decide) (fun c93_8 => ?_) (fun c93_8 => ?_)
              · skip
                refine lv_iload hx hb d_Va_readDecimal_98 (lv_at hl 2 rfl) ?_
                refine lv_if_eq (tgt := 108) hx hb d_Va_readDecimal_100 (by decide) (fun c100_9 => ?_) (fun c100_9 => ?_)
                · skip
                  have hT9 : rdT fF nF = false := htd.mp c100_9
                  refine lv_iload hx hb d_Va_readDecimal_108 (lv_at hl 0 rfl) ?_
                  refine lv_aload_n hx hb d_Va_readDecimal_110 rfl (lv_at hl 6 rfl) ?_
                  have hPc := hP.sub (ws' := [(hF, .inr (2, [.ref aF, .int nF])), (aF, .inl (cC, roomF, .inl fF))]) [3, 4] rfl
                  have hDc := hD.sub (ws' := [(hF, .inr (2, [.ref aF, .int nF])), (aF, .inl (cC, roomF, .inl fF))]) [3, 4] (by decide) rfl
                  have hKc := hK.sub (tys' := [(cC, .char)]) [0] rfl
                  have hFc := va_free (wc := [(hF, .inr (2, [.ref aF, .int nF])), (aF, .inl (cC, roomF, .inl fF))]) hD hS hA [3, 4] rfl
                  refine va_calli (va_runV (As := []) (rest := [.int en9]) ⟨hx, hb, hml, hown, hT⟩ (c_Line_size l dC dI H.size cC hF aF roomF fF nF ) (cwV 0 hT g_Va_27 rfl rfl rfl (by decide +kernel) ⟨Nat.le_of_ble_eq_true rfl, Nat.le_of_ble_eq_true rfl⟩) ⟨fun a U g mk q => by obtain ⟨q0, q1, qP, qK, qD⟩ := q; exact ⟨q0, q1, qP, va_K.moved (u := U) (U := U.calling g mk a) (Vm.Alike.refl U.vm) qK, qD⟩, va_recv hKc hPc (ci := 2) (q0 := 0) rfl rfl, fun U hU hW => ⟨rfl, by rw [hU], by rw [hU]; exact hPc, va_K.moved hW.alike hKc, hDc.weaken (fun _ _ _ _ => trivial)⟩⟩ rfl rfl hl.1 rfl (lv_room (Nat.le_of_ble_eq_true rfl)) d_Va_readDecimal_111 ⟨Nat.le_of_ble_eq_true rfl, Nat.le_of_ble_eq_true rfl⟩) hS (fun q _ h => hFc q h) hFc (fun x10 u t H1 locs ht hvm w111_10 hB hz1 hk1 hS => ?_)
                  obtain ⟨hP1, hK1, hD1⟩ := hB
                  rw [ht] at hP1
                  try dsimp only at w111_10
                  obtain ⟨hP, hD⟩ := va_join (wr := [(v, .inr (4, [.ref w, .int dec, .int bel, .long ah, .long bh])), (w, .inr (2, [.ref wa, .int n])), (wa, .inl (cC, 60, .inl f))]) (w1 := [(hF, .inr (2, [.ref aF, .int nF])), (aF, .inl (cC, roomF, .inl fF))]) hP hD [3, 4] [0, 1, 2] rfl rfl (by decide) (by decide) hk1 hFc hP1 hD1
                  generalize H1 = H at hP hS ⊢
                  have hP : va_P (dC, dI) CL [(v, .inr (4, [.ref w, .int dec, .int bel, .long ah, .long bh])), (w, .inr (2, [.ref wa, .int n])), (wa, .inl (cC, 60, .inl f)), (hF, .inr (2, [.ref aF, .int nF])), (aF, .inl (cC, roomF, .inl fF))] H := hP
                  have hD : va_D A [(v, .inr (4, [.ref w, .int dec, .int bel, .long ah, .long bh])), (w, .inr (2, [.ref wa, .int n])), (wa, .inl (cC, 60, .inl f)), (hF, .inr (2, [.ref aF, .int nF])), (aF, .inl (cC, roomF, .inl fF))] := hD
                  refine lv_icmp_eq (tgt := 119) hx hb d_Va_readDecimal_114 (by decide) (fun c114_11 => ?_) (fun c114_11 => ?_)
                  · skip
                    rw [w111_10] at c114_11
                    have hOK : rdOK fF nF = true := by
                      rw [rdOK, ← hpt, ← hst9, ← hpl9, ← hen9, ← ex6]; simp [hT9, c78_5, c86_7, c93_8, c100_9, c114_11]
                    refine lv_aload_n hx hb d_Va_readDecimal_119 rfl (lv_at hl 5 rfl) ?_
                    refine lv_iconst (v := 1) hx hb d_Va_readDecimal_120 (by decide) ?_
                    refine va_put (D := (dC, dI)) (ci := 4) (v := .int 1) (ty := .boolean) (C := R_Va) (T := F_Va) (N := 5) hx hb hT (in_Va) t_Va t_Va_ok n_Va hown hK hP hD hS 0 rfl rfl 1 (by decide) (hT _ t_51) (fun _ h9 => h9) rfl (by decide +kernel) rfl rfl (Nat.le_of_ble_eq_true rfl) d_Va_readDecimal_121 (fun H locs hP hD hS => ?_)
                    have hP : va_P (dC, dI) CL [(v, .inr (4, [.ref w, .int 1, .int bel, .long ah, .long bh])), (w, .inr (2, [.ref wa, .int n])), (wa, .inl (cC, 60, .inl f)), (hF, .inr (2, [.ref aF, .int nF])), (aF, .inl (cC, roomF, .inl fF))] H := hP
                    have hD : va_D A [(v, .inr (4, [.ref w, .int 1, .int bel, .long ah, .long bh])), (w, .inr (2, [.ref wa, .int n])), (wa, .inl (cC, 60, .inl f)), (hF, .inr (2, [.ref aF, .int nF])), (aF, .inl (cC, roomF, .inl fF))] := hD
                    refine lv_aload_n hx hb d_Va_readDecimal_124 rfl (lv_at hl 5 rfl) ?_
                    refine lv_aload_n hx hb d_Va_readDecimal_125 rfl (lv_at hl 6 rfl) ?_
                    refine lv_iload_n hx hb d_Va_readDecimal_126 rfl (lv_at hl 4 rfl) ?_
                    refine lv_iload_n hx hb d_Va_readDecimal_127 rfl (lv_at hl 3 rfl) ?_
                    refine lv_iload_n hx hb d_Va_readDecimal_128 rfl (lv_at hl 4 rfl) ?_
                    refine lv_isub hx hb d_Va_readDecimal_129 ?_
                    refine lv_topi (fun x12 ex12 => ?_)
                    have hPc := hP.sub (ws' := [(hF, .inr (2, [.ref aF, .int nF])), (aF, .inl (cC, roomF, .inl fF))]) [3, 4] rfl
                    have hDc := hD.sub (ws' := [(hF, .inr (2, [.ref aF, .int nF])), (aF, .inl (cC, roomF, .inl fF))]) [3, 4] (by decide) rfl
                    have hKc := hK.sub (tys' := [(cC, .char)]) [0] rfl
                    have hFc := va_free (wc := [(hF, .inr (2, [.ref aF, .int nF])), (aF, .inl (cC, roomF, .inl fF))]) hD hS hA [3, 4] rfl
                    refine va_calll (va_runV (As := [.int st9, .int x12]) (rest := [.ref v]) ⟨hx, hb, hml, hown, hT⟩ (c_Line_numberAt l dC dI H.size cC hF aF roomF fF nF st9 x12 hn2) (cwV 2 hT g_Va_42 rfl rfl rfl (by decide +kernel) ⟨Nat.le_of_ble_eq_true rfl, Nat.le_of_ble_eq_true rfl⟩) ⟨fun a U g mk q => by obtain ⟨q0, q1, qP, qK, qD⟩ := q; exact ⟨q0, q1, qP, va_K.moved (u := U) (U := U.calling g mk a) (Vm.Alike.refl U.vm) qK, qD⟩, va_recv hKc hPc (ci := 2) (q0 := 0) rfl rfl, fun U hU hW => ⟨rfl, by rw [hU], by rw [hU]; exact hPc, va_K.moved hW.alike hKc, hDc.weaken (fun _ _ _ _ => trivial)⟩⟩ rfl rfl hl.1 rfl (lv_room (Nat.le_of_ble_eq_true rfl)) d_Va_readDecimal_130 ⟨Nat.le_of_ble_eq_true rfl, Nat.le_of_ble_eq_true rfl⟩) hS (fun q _ h => hFc q h) hFc (fun x13 u t H1 locs ht hvm w130_13 hB hz1 hk1 hS => ?_)
                    obtain ⟨hP1, hK1, hD1⟩ := hB
                    rw [ht] at hP1
                    try dsimp only at w130_13
                    obtain ⟨hP, hD⟩ := va_join (wr := [(v, .inr (4, [.ref w, .int 1, .int bel, .long ah, .long bh])), (w, .inr (2, [.ref wa, .int n])), (wa, .inl (cC, 60, .inl f))]) (w1 := [(hF, .inr (2, [.ref aF, .int nF])), (aF, .inl (cC, roomF, .inl fF))]) hP hD [3, 4] [0, 1, 2] rfl rfl (by decide) (by decide) hk1 hFc hP1 hD1
                    generalize H1 = H at hP hS ⊢
                    have hP : va_P (dC, dI) CL [(v, .inr (4, [.ref w, .int 1, .int bel, .long ah, .long bh])), (w, .inr (2, [.ref wa, .int n])), (wa, .inl (cC, 60, .inl f)), (hF, .inr (2, [.ref aF, .int nF])), (aF, .inl (cC, roomF, .inl fF))] H := hP
                    have hD : va_D A [(v, .inr (4, [.ref w, .int 1, .int bel, .long ah, .long bh])), (w, .inr (2, [.ref wa, .int n])), (wa, .inl (cC, 60, .inl f)), (hF, .inr (2, [.ref aF, .int nF])), (aF, .inl (cC, roomF, .inl fF))] := hD
                    refine va_put (D := (dC, dI)) (ci := 4) (v := .long x13) (ty := .long) (C := R_Va) (T := F_Va) (N := 5) hx hb hT (in_Va) t_Va t_Va_ok n_Va hown hK hP hD hS 0 rfl rfl 3 (by decide) (hT _ t_57) (fun _ h9 => h9) rfl (by decide +kernel) rfl rfl (Nat.le_of_ble_eq_true rfl) d_Va_readDecimal_133 (fun H locs hP hD hS => ?_)
                    have hP : va_P (dC, dI) CL [(v, .inr (4, [.ref w, .int 1, .int bel, .long x13, .long bh])), (w, .inr (2, [.ref wa, .int n])), (wa, .inl (cC, 60, .inl f)), (hF, .inr (2, [.ref aF, .int nF])), (aF, .inl (cC, roomF, .inl fF))] H := hP
                    have hD : va_D A [(v, .inr (4, [.ref w, .int 1, .int bel, .long x13, .long bh])), (w, .inr (2, [.ref wa, .int n])), (wa, .inl (cC, 60, .inl f)), (hF, .inr (2, [.ref aF, .int nF])), (aF, .inl (cC, roomF, .inl fF))] := hD
                    refine lv_aload_n hx hb d_Va_readDecimal_136 rfl (lv_at hl 5 rfl) ?_
                    refine lv_aload_n hx hb d_Va_readDecimal_137 rfl (lv_at hl 6 rfl) ?_
                    refine lv_iload_n hx hb d_Va_readDecimal_138 rfl (lv_at hl 3 rfl) ?_
                    refine lv_iconst (v := 1) hx hb d_Va_readDecimal_139 (by decide) ?_
                    refine lv_iadd hx hb d_Va_readDecimal_140 ?_
                    refine lv_topi (fun x14 ex14 => ?_)
                    refine lv_iload hx hb d_Va_readDecimal_141 (lv_at hl 1 rfl) ?_
                    have hPc := hP.sub (ws' := [(hF, .inr (2, [.ref aF, .int nF])), (aF, .inl (cC, roomF, .inl fF))]) [3, 4] rfl
                    have hDc := hD.sub (ws' := [(hF, .inr (2, [.ref aF, .int nF])), (aF, .inl (cC, roomF, .inl fF))]) [3, 4] (by decide) rfl
                    have hKc := hK.sub (tys' := [(cC, .char)]) [0] rfl
                    have hFc := va_free (wc := [(hF, .inr (2, [.ref aF, .int nF])), (aF, .inl (cC, roomF, .inl fF))]) hD hS hA [3, 4] rfl
                    refine va_calll (va_runV (As := [.int x14, .int pl9]) (rest := [.ref v]) ⟨hx, hb, hml, hown, hT⟩ (c_Line_numberAt l dC dI H.size cC hF aF roomF fF nF x14 pl9 hn2) (cwV 2 hT g_Va_42 rfl rfl rfl (by decide +kernel) ⟨Nat.le_of_ble_eq_true rfl, Nat.le_of_ble_eq_true rfl⟩) ⟨fun a U g mk q => by obtain ⟨q0, q1, qP, qK, qD⟩ := q; exact ⟨q0, q1, qP, va_K.moved (u := U) (U := U.calling g mk a) (Vm.Alike.refl U.vm) qK, qD⟩, va_recv hKc hPc (ci := 2) (q0 := 0) rfl rfl, fun U hU hW => ⟨rfl, by rw [hU], by rw [hU]; exact hPc, va_K.moved hW.alike hKc, hDc.weaken (fun _ _ _ _ => trivial)⟩⟩ rfl rfl hl.1 rfl (lv_room (Nat.le_of_ble_eq_true rfl)) d_Va_readDecimal_143 ⟨Nat.le_of_ble_eq_true rfl, Nat.le_of_ble_eq_true rfl⟩) hS (fun q _ h => hFc q h) hFc (fun x15 u t H1 locs ht hvm w143_15 hB hz1 hk1 hS => ?_)
                    obtain ⟨hP1, hK1, hD1⟩ := hB
                    rw [ht] at hP1
                    try dsimp only at w143_15
                    obtain ⟨hP, hD⟩ := va_join (wr := [(v, .inr (4, [.ref w, .int 1, .int bel, .long x13, .long bh])), (w, .inr (2, [.ref wa, .int n])), (wa, .inl (cC, 60, .inl f))]) (w1 := [(hF, .inr (2, [.ref aF, .int nF])), (aF, .inl (cC, roomF, .inl fF))]) hP hD [3, 4] [0, 1, 2] rfl rfl (by decide) (by decide) hk1 hFc hP1 hD1
                    generalize H1 = H at hP hS ⊢
                    have hP : va_P (dC, dI) CL [(v, .inr (4, [.ref w, .int 1, .int bel, .long x13, .long bh])), (w, .inr (2, [.ref wa, .int n])), (wa, .inl (cC, 60, .inl f)), (hF, .inr (2, [.ref aF, .int nF])), (aF, .inl (cC, roomF, .inl fF))] H := hP
                    have hD : va_D A [(v, .inr (4, [.ref w, .int 1, .int bel, .long x13, .long bh])), (w, .inr (2, [.ref wa, .int n])), (wa, .inl (cC, 60, .inl f)), (hF, .inr (2, [.ref aF, .int nF])), (aF, .inl (cC, roomF, .inl fF))] := hD
                    refine va_put (D := (dC, dI)) (ci := 4) (v := .long x15) (ty := .long) (C := R_Va) (T := F_Va) (N := 5) hx hb hT (in_Va) t_Va t_Va_ok n_Va hown hK hP hD hS 0 rfl rfl 4 (by decide) (hT _ t_59) (fun _ h9 => h9) rfl (by decide +kernel) rfl rfl (Nat.le_of_ble_eq_true rfl) d_Va_readDecimal_146 (fun H locs hP hD hS => ?_)
                    have hP : va_P (dC, dI) CL [(v, .inr (4, [.ref w, .int 1, .int bel, .long x13, .long x15])), (w, .inr (2, [.ref wa, .int n])), (wa, .inl (cC, 60, .inl f)), (hF, .inr (2, [.ref aF, .int nF])), (aF, .inl (cC, roomF, .inl fF))] H := hP
                    have hD : va_D A [(v, .inr (4, [.ref w, .int 1, .int bel, .long x13, .long x15])), (w, .inr (2, [.ref wa, .int n])), (wa, .inl (cC, 60, .inl f)), (hF, .inr (2, [.ref aF, .int nF])), (aF, .inl (cC, roomF, .inl fF))] := hD
                    refine lv_iload hx hb d_Va_readDecimal_149 (lv_at hl 1 rfl) ?_
                    refine lv_istore (lv' := [(7, .int pl9), (6, .int en9), (5, .int pl9), (4, .int td9), (3, .int x3), (2, .int st9), (0, .ref v), (1, .ref hF)]) hx hb d_Va_readDecimal_151 hl (by decide) rfl (fun ls hl => ?_)
                    have loop153 : ∀ (fuel : Nat) (i : Int32) (y9 : Int64) (H : Heap) (locs : List Loc) (ls : Array Slot), (((12 : Int32).toInt - i.toInt).toNat < fuel) → (rdMul fuel i y9 = rdBh fF nF) → va_P (dC, dI) CL [(v, .inr (4, [.ref w, .int 1, .int bel, .long x13, .long y9])), (w, .inr (2, [.ref wa, .int n])), (wa, .inl (cC, 60, .inl f)), (hF, .inr (2, [.ref aF, .int nF])), (aF, .inl (cC, roomF, .inl fF))] H → va_D A [(v, .inr (4, [.ref w, .int 1, .int bel, .long x13, .long y9])), (w, .inr (2, [.ref wa, .int n])), (wa, .inl (cC, 60, .inl f)), (hF, .inr (2, [.ref aF, .int nF])), (aF, .inl (cC, roomF, .inl fF))] → va_S A s.heap H locs → lv_has ls 8 [(7, .int i), (6, .int en9), (5, .int pl9), (4, .int td9), (3, .int x3), (2, .int st9), (0, .ref v), (1, .ref hF)] → W p l e (headSpec w_Va_readDecimal ({ frames := 3, cells := 0, slots := 0, locals := 70 } : Room)).room s m ([.ref v, .ref hF] : List Value).toArray below meth c H locs 0 0 Q (F0 m 153 ls []) := by
                      intro fuel
                      induction fuel with
                      | zero =>
                        intro i y9 H locs ls hk hG hP hD hS hl
                        exact absurd hk (Nat.not_lt_zero _)
                      | succ fuel ih =>
                        intro i y9 H locs ls hk hG hP hD hS hl
                        refine lv_iload hx hb d_Va_readDecimal_153 (lv_at hl 0 rfl) ?_
                        refine lv_bipush (v := 12) hx hb d_Va_readDecimal_155 (by decide) ?_
                        refine lv_icmp_ge (tgt := 178) hx hb d_Va_readDecimal_157 (by decide) (fun c157_16 => ?_) (fun c157_16 => ?_)
                        · skip
                          have hbh : y9 = rdBh fF nF := by have h9 := hG; rw [rdMul, if_pos c157_16] at h9; exact h9
                          have hah : x13 = rdAh fF nF := by rw [rdAh, ← hpt, ← hst9, ← ex12, ← w130_13]
                          refine lv_aload_n hx hb d_Va_readDecimal_178 rfl (lv_at hl 6 rfl) ?_
                          refine lv_iload_n hx hb d_Va_readDecimal_179 rfl (lv_at hl 5 rfl) ?_
                          refine lv_iconst (v := 1) hx hb d_Va_readDecimal_180 (by decide) ?_
                          have cut207 : ∀ (bl9 : Int32) (H : Heap) (locs : List Loc) (ls : Array Slot), (bl9 = rdBl fF nF) → va_P (dC, dI) CL [(v, .inr (4, [.ref w, .int 1, .int bel, .long x13, .long y9])), (w, .inr (2, [.ref wa, .int n])), (wa, .inl (cC, 60, .inl f)), (hF, .inr (2, [.ref aF, .int nF])), (aF, .inl (cC, roomF, .inl fF))] H → va_D A [(v, .inr (4, [.ref w, .int 1, .int bel, .long x13, .long y9])), (w, .inr (2, [.ref wa, .int n])), (wa, .inl (cC, 60, .inl f)), (hF, .inr (2, [.ref aF, .int nF])), (aF, .inl (cC, roomF, .inl fF))] → va_S A s.heap H locs → lv_has ls 8 [(7, .int i), (6, .int en9), (5, .int pl9), (4, .int td9), (3, .int x3), (2, .int st9), (0, .ref v), (1, .ref hF)] → W p l e (headSpec w_Va_readDecimal ({ frames := 3, cells := 0, slots := 0, locals := 70 } : Room)).room s m ([.ref v, .ref hF] : List Value).toArray below meth c H locs 0 0 Q (F0 m 207 ls [.int bl9, .ref v]) := by
                            intro bl9 H locs ls hbl9 hP hD hS hl
                            refine va_put (D := (dC, dI)) (ci := 4) (v := .int bl9) (ty := .boolean) (C := R_Va) (T := F_Va) (N := 5) hx hb hT (in_Va) t_Va t_Va_ok n_Va hown hK hP hD hS 0 rfl rfl 2 (by decide) (hT _ t_53) (fun _ h9 => h9) rfl (by decide +kernel) (by rw [hbl9, rdBl]; exact k_b_nar _) (by rw [hbl9, rdBl]; exact k_b_fit _) (Nat.le_of_ble_eq_true rfl) d_Va_readDecimal_207 (fun H locs hP hD hS => ?_)
                            have hP : va_P (dC, dI) CL [(v, .inr (4, [.ref w, .int 1, .int bl9, .long x13, .long y9])), (w, .inr (2, [.ref wa, .int n])), (wa, .inl (cC, 60, .inl f)), (hF, .inr (2, [.ref aF, .int nF])), (aF, .inl (cC, roomF, .inl fF))] H := hP
                            have hD : va_D A [(v, .inr (4, [.ref w, .int 1, .int bl9, .long x13, .long y9])), (w, .inr (2, [.ref wa, .int n])), (wa, .inl (cC, 60, .inl f)), (hF, .inr (2, [.ref aF, .int nF])), (aF, .inl (cC, roomF, .inl fF))] := hD
                            refine lv_aload_n hx hb d_Va_readDecimal_210 rfl (lv_at hl 6 rfl) ?_
                            refine lv_aload_n hx hb d_Va_readDecimal_211 rfl (lv_at hl 7 rfl) ?_
                            refine lv_iload_n hx hb d_Va_readDecimal_212 rfl (lv_at hl 5 rfl) ?_
                            refine lv_iload_n hx hb d_Va_readDecimal_213 rfl (lv_at hl 4 rfl) ?_
                            refine lv_iload hx hb d_Va_readDecimal_214 (lv_at hl 1 rfl) ?_
                            have hPc := hP.sub (ws' := [(v, .inr (4, [.ref w, .int 1, .int bl9, .long x13, .long y9])), (w, .inr (2, [.ref wa, .int n])), (wa, .inl (cC, 60, .inl f)), (hF, .inr (2, [.ref aF, .int nF])), (aF, .inl (cC, roomF, .inl fF))]) [0, 1, 2, 3, 4] rfl
                            have hDc := hD.sub (ws' := [(v, .inr (4, [.ref w, .int 1, .int bl9, .long x13, .long y9])), (w, .inr (2, [.ref wa, .int n])), (wa, .inl (cC, 60, .inl f)), (hF, .inr (2, [.ref aF, .int nF])), (aF, .inl (cC, roomF, .inl fF))]) [0, 1, 2, 3, 4] (by decide) rfl
                            have hKc := hK.sub (tys' := [(cC, .char)]) [0] rfl
                            have hFc := va_free (wc := [(v, .inr (4, [.ref w, .int 1, .int bl9, .long x13, .long y9])), (w, .inr (2, [.ref wa, .int n])), (wa, .inl (cC, 60, .inl f)), (hF, .inr (2, [.ref aF, .int nF])), (aF, .inl (cC, roomF, .inl fF))]) hD hS hA [0, 1, 2, 3, 4] rfl
                            refine va_callv (va_runV (As := [.ref hF, .int st9, .int x3, .int en9]) (rest := []) ⟨hx, hb, hml, hown, hT⟩ (c_Value_writePlain l dC dI H.size cC v w wa 1 bl9 x13 y9 f n hF aF roomF fF nF st9 x3 en9 hn hn2) (cwV 4 hT g_Va_58 rfl rfl rfl (by decide +kernel) ⟨Nat.le_of_ble_eq_true rfl, Nat.le_of_ble_eq_true rfl⟩) ⟨fun a U g mk q => by obtain ⟨q0, q1, qP, qK, qD⟩ := q; exact ⟨q0, q1, qP, va_K.moved (u := U) (U := U.calling g mk a) (Vm.Alike.refl U.vm) qK, qD⟩, va_recv hKc hPc (ci := 4) (q0 := 0) rfl rfl, fun U hU hW => ⟨rfl, by rw [hU], by rw [hU]; exact hPc, va_K.moved hW.alike hKc, hDc.weaken (fun _ _ _ _ => trivial)⟩⟩ rfl rfl hl.1 rfl (lv_room (Nat.le_of_ble_eq_true rfl)) d_Va_readDecimal_216 ⟨Nat.le_of_ble_eq_true rfl, Nat.le_of_ble_eq_true rfl⟩) hS (fun q _ h => hFc q h) hFc (fun u t H1 locs ht hvm w216_18 hB hz1 hk1 hS => ?_)
                            obtain ⟨f_17, n_18⟩ := u
                            obtain ⟨hP1, hK1, hD1⟩ := hB
                            rw [ht] at hP1
                            try dsimp only at w216_18
                            obtain ⟨w216_18, w216_18b⟩ := w216_18
                            obtain ⟨hP, hD⟩ := va_join (wr := []) (w1 := [(v, .inr (4, [.ref w, .int 1, .int bl9, .long x13, .long y9])), (w, .inr (2, [.ref wa, .int n_18])), (wa, .inl (cC, 60, .inl f_17)), (hF, .inr (2, [.ref aF, .int nF])), (aF, .inl (cC, roomF, .inl fF))]) hP hD [0, 1, 2, 3, 4] [] rfl rfl (by decide) (by decide) hk1 hFc hP1 hD1
                            generalize H1 = H at hP hS ⊢
                            have hP : va_P (dC, dI) CL [(v, .inr (4, [.ref w, .int 1, .int bl9, .long x13, .long y9])), (w, .inr (2, [.ref wa, .int n_18])), (wa, .inl (cC, 60, .inl f_17)), (hF, .inr (2, [.ref aF, .int nF])), (aF, .inl (cC, roomF, .inl fF))] H := hP
                            have hD : va_D A [(v, .inr (4, [.ref w, .int 1, .int bl9, .long x13, .long y9])), (w, .inr (2, [.ref wa, .int n_18])), (wa, .inl (cC, 60, .inl f_17)), (hF, .inr (2, [.ref aF, .int nF])), (aF, .inl (cC, roomF, .inl fF))] := hD
                            refine lv_iconst (v := 1) hx hb d_Va_readDecimal_219 (by decide) ?_
                            have hP9 := hP.sub (ws' := [(v, .inr (4, [.ref w, .int 1, .int bl9, .long x13, .long y9])), (w, .inr (2, [.ref wa, .int n_18])), (wa, .inl (cC, 60, .inl f_17)), (hF, .inr (2, [.ref aF, .int nF])), (aF, .inl (cC, roomF, .inl fF))]) [0, 1, 2, 3, 4] rfl
                            have hD9 := hD.sub (ws' := [(v, .inr (4, [.ref w, .int 1, .int bl9, .long x13, .long y9])), (w, .inr (2, [.ref wa, .int n_18])), (wa, .inl (cC, 60, .inl f_17)), (hF, .inr (2, [.ref aF, .int nF])), (aF, .inl (cC, roomF, .inl fF))]) [0, 1, 2, 3, 4] (by decide) rfl
                            have hK9 := hK.sub (tys' := [(cC, .char)]) [0] rfl
                            have hq9 : (1 : Int32) = k_b (rdOK fF nF) ∧ (rdOK fF nF = true → (1 : Int32) = 1 ∧ bl9 = rdBl fF nF ∧ x13 = rdAh fF nF ∧ y9 = rdBh fF nF ∧ (f_17, n_18) = wpLine f (rdBl fF nF) (rdBh fF nF) fF nF (rdS fF nF) (rdP fF nF) (rdE fF nF)) ∧ lnOK 60 n_18 ∧ (rdOK fF nF = false → (1 : Int32) = dec) := by rw [hOK]; exact ⟨rfl, fun _ => ⟨rfl, hbl9, hah, hbh, by rw [← hbl9, ← hbh, ← hst9, ← hpt, ← hen9]; exact w216_18⟩, w216_18b, fun q => absurd q (by decide)⟩
                            subst hQ
                            exact W.zret (v := 1) hx hb hr rfl (fun t ht hW => ⟨⟨1, (1, bl9, x13, y9, f_17, n_18), rfl, hq9, by rw [ht]; exact hP9, va_K.moved hW.alike hK9, hD9⟩, hS.F ht⟩) hS.2.2 d_Va_readDecimal_220
                          refine lv_icmp_ne (tgt := 206) hx hb d_Va_readDecimal_181 (by decide) (fun c181_19 => ?_) (fun c181_19 => ?_)
                          · skip
                            refine lv_iconst (v := 0) hx hb d_Va_readDecimal_206 (by decide) ?_
                            exact cut207 0 _ _ _ (by rw [rdBl, ← hst9, ← hah, ← hbh]; simp [k_b, c181_19]) (hP.sub [0, 1, 2, 3, 4] rfl) (hD.sub [0, 1, 2, 3, 4] (by decide) rfl) hS (lv_sub hl [0, 1, 2, 3, 4, 5, 6, 7] rfl)
                          · skip
                            refine lv_aload_n hx hb d_Va_readDecimal_184 rfl (lv_at hl 6 rfl) ?_
                            refine va_get (D := (dC, dI)) (ci := 4) (v := .long x13) (C := R_Va) (T := F_Va) (N := 5) hx hb hT (in_Va) hown hK hP 0 rfl rfl 3 (by decide) (hT _ t_57) (fun _ h9 => h9) rfl d_Va_readDecimal_185 ?_
                            refine lv_lconst (v := 0) hx hb d_Va_readDecimal_188 (by decide) ?_
                            refine W.lcmp hx hb d_Va_readDecimal_189 ?_
                            refine lv_if_ne (tgt := 202) hx hb d_Va_readDecimal_190 (by decide) (fun c190_20 => ?_) (fun c190_20 => ?_)
                            · skip
                              rw [lg_cmp_eq] at c190_20
                              refine lv_iconst (v := 1) hx hb d_Va_readDecimal_202 (by decide) ?_
                              refine lv_goto (tgt := 207) hx hb d_Va_readDecimal_203 (by decide) ?_
                              exact cut207 1 _ _ _ (by rw [rdBl, ← hst9, ← hah, ← hbh]; simp [k_b, c181_19, c190_20]) (hP.sub [0, 1, 2, 3, 4] rfl) (hD.sub [0, 1, 2, 3, 4] (by decide) rfl) hS (lv_sub hl [0, 1, 2, 3, 4, 5, 6, 7] rfl)
                            · skip
                              rw [lg_cmp_eq] at c190_20
                              refine lv_aload_n hx hb d_Va_readDecimal_193 rfl (lv_at hl 6 rfl) ?_
                              refine va_get (D := (dC, dI)) (ci := 4) (v := .long y9) (C := R_Va) (T := F_Va) (N := 5) hx hb hT (in_Va) hown hK hP 0 rfl rfl 4 (by decide) (hT _ t_59) (fun _ h9 => h9) rfl d_Va_readDecimal_194 ?_
                              refine lv_lconst (v := 0) hx hb d_Va_readDecimal_197 (by decide) ?_
                              refine W.lcmp hx hb d_Va_readDecimal_198 ?_
                              refine lv_if_eq (tgt := 206) hx hb d_Va_readDecimal_199 (by decide) (fun c199_21 => ?_) (fun c199_21 => ?_)
                              · skip
                                rw [lg_cmp_eq] at c199_21
                                refine lv_iconst (v := 0) hx hb d_Va_readDecimal_206 (by decide) ?_
                                exact cut207 0 _ _ _ (by rw [rdBl, ← hst9, ← hah, ← hbh]; simp [k_b, c181_19, c190_20, c199_21]) (hP.sub [0, 1, 2, 3, 4] rfl) (hD.sub [0, 1, 2, 3, 4] (by decide) rfl) hS (lv_sub hl [0, 1, 2, 3, 4, 5, 6, 7] rfl)
                              · skip
                                rw [lg_cmp_eq] at c199_21
                                refine lv_iconst (v := 1) hx hb d_Va_readDecimal_202 (by decide) ?_
                                refine lv_goto (tgt := 207) hx hb d_Va_readDecimal_203 (by decide) ?_
                                exact cut207 1 _ _ _ (by rw [rdBl, ← hst9, ← hah, ← hbh]; simp [k_b, c181_19, c190_20, c199_21]) (hP.sub [0, 1, 2, 3, 4] rfl) (hD.sub [0, 1, 2, 3, 4] (by decide) rfl) hS (lv_sub hl [0, 1, 2, 3, 4, 5, 6, 7] rfl)
                        · skip
                          refine lv_aload_n hx hb d_Va_readDecimal_160 rfl (lv_at hl 6 rfl) ?_
                          refine lv_aload_n hx hb d_Va_readDecimal_161 rfl (lv_at hl 6 rfl) ?_
                          refine va_get (D := (dC, dI)) (ci := 4) (v := .long y9) (C := R_Va) (T := F_Va) (N := 5) hx hb hT (in_Va) hown hK hP 0 rfl rfl 4 (by decide) (hT _ t_59) (fun _ h9 => h9) rfl d_Va_readDecimal_162 ?_
                          refine lv_ldc2 (v := 10) hx hb hown (hT _ t_286) d_Va_readDecimal_165 ?_
                          refine lv_lmul hx hb d_Va_readDecimal_168 ?_
                          refine lv_topl (fun x22 ex22 => ?_)
                          refine va_put (D := (dC, dI)) (ci := 4) (v := .long x22) (ty := .long) (C := R_Va) (T := F_Va) (N := 5) hx hb hT (in_Va) t_Va t_Va_ok n_Va hown hK hP hD hS 0 rfl rfl 4 (by decide) (hT _ t_59) (fun _ h9 => h9) rfl (by decide +kernel) rfl rfl (Nat.le_of_ble_eq_true rfl) d_Va_readDecimal_169 (fun H locs hP hD hS => ?_)
                          have hP : va_P (dC, dI) CL [(v, .inr (4, [.ref w, .int 1, .int bel, .long x13, .long x22])), (w, .inr (2, [.ref wa, .int n])), (wa, .inl (cC, 60, .inl f)), (hF, .inr (2, [.ref aF, .int nF])), (aF, .inl (cC, roomF, .inl fF))] H := hP
                          have hD : va_D A [(v, .inr (4, [.ref w, .int 1, .int bel, .long x13, .long x22])), (w, .inr (2, [.ref wa, .int n])), (wa, .inl (cC, 60, .inl f)), (hF, .inr (2, [.ref aF, .int nF])), (aF, .inl (cC, roomF, .inl fF))] := hD
                          obtain ⟨x23, ex23⟩ : ∃ y : Int32, y = i + 1 := ⟨_, rfl⟩
                          refine lv_iinc (v := x23) (lv' := [(7, .int x23), (6, .int en9), (5, .int pl9), (4, .int td9), (3, .int x3), (2, .int st9), (0, .ref v), (1, .ref hF)]) hx hb d_Va_readDecimal_172 hl (k := 0) rfl (by rw [ex23]; rfl) (by decide) rfl (fun ls hl => ?_)
                          refine lv_goto (tgt := 153) hx hb d_Va_readDecimal_175 (by decide) ?_
                          exact ih x23 x22 _ _ _ (by rw [ex23]; exact k_fuel c157_16 hk) (by have h9 := hG; rw [rdMul, if_neg c157_16] at h9; rw [ex23, ex22]; exact h9) (hP.sub [0, 1, 2, 3, 4] rfl) (hD.sub [0, 1, 2, 3, 4] (by decide) rfl) hS (lv_sub hl [0, 1, 2, 3, 4, 5, 6, 7] rfl)
                    exact loop153 (((12 : Int32).toInt - pl9.toInt).toNat + 1) pl9 x15 _ _ _ (by omega) (by rw [rdBh, ← hpl9, ← hpt, ← ex14, ← w143_15]) hP hD hS (lv_sub hl [0, 1, 2, 3, 4, 5, 6, 7] rfl)
                  · skip
                    rw [w111_10] at c114_11
                    refine lv_iconst (v := 0) hx hb d_Va_readDecimal_117 (by decide) ?_
                    have hP9 := hP.sub (ws' := [(v, .inr (4, [.ref w, .int dec, .int bel, .long ah, .long bh])), (w, .inr (2, [.ref wa, .int n])), (wa, .inl (cC, 60, .inl f)), (hF, .inr (2, [.ref aF, .int nF])), (aF, .inl (cC, roomF, .inl fF))]) [0, 1, 2, 3, 4] rfl
                    have hD9 := hD.sub (ws' := [(v, .inr (4, [.ref w, .int dec, .int bel, .long ah, .long bh])), (w, .inr (2, [.ref wa, .int n])), (wa, .inl (cC, 60, .inl f)), (hF, .inr (2, [.ref aF, .int nF])), (aF, .inl (cC, roomF, .inl fF))]) [0, 1, 2, 3, 4] (by decide) rfl
                    have hK9 := hK.sub (tys' := [(cC, .char)]) [0] rfl
                    have hq9 : (0 : Int32) = k_b (rdOK fF nF) ∧ (rdOK fF nF = true → dec = 1 ∧ bel = rdBl fF nF ∧ ah = rdAh fF nF ∧ bh = rdBh fF nF ∧ (f, n) = wpLine f (rdBl fF nF) (rdBh fF nF) fF nF (rdS fF nF) (rdP fF nF) (rdE fF nF)) ∧ lnOK 60 n ∧ (rdOK fF nF = false → dec = dec) := by
                      have h9 : rdOK fF nF = false := by
                        rw [rdOK, ← hpt, ← hst9, ← hpl9, ← hen9, ← ex6]; simp [hT9, c78_5, c86_7, c93_8, c100_9, c114_11]
                      rw [h9]; exact ⟨rfl, fun q => absurd q (by decide), hn, fun _ => rfl⟩
                    subst hQ
                    exact W.zret (v := 0) hx hb hr rfl (fun t ht hW => ⟨⟨0, (dec, bel, ah, bh, f, n), rfl, hq9, by rw [ht]; exact hP9, va_K.moved hW.alike hK9, hD9⟩, hS.F ht⟩) hS.2.2 d_Va_readDecimal_118
                · skip
                  have hT9 : rdT fF nF = true := k_nf (fun q => c100_9 (htd.mpr q))
                  refine lv_iload hx hb d_Va_readDecimal_103 (lv_at hl 1 rfl) ?_
                  refine lv_if_eq (tgt := 117) hx hb d_Va_readDecimal_105 (by decide) (fun c105_24 => ?_) (fun c105_24 => ?_)
                  · skip
                    refine lv_iconst (v := 0) hx hb d_Va_readDecimal_117 (by decide) ?_
                    have hP9 := hP.sub (ws' := [(v, .inr (4, [.ref w, .int dec, .int bel, .long ah, .long bh])), (w, .inr (2, [.ref wa, .int n])), (wa, .inl (cC, 60, .inl f)), (hF, .inr (2, [.ref aF, .int nF])), (aF, .inl (cC, roomF, .inl fF))]) [0, 1, 2, 3, 4] rfl
                    have hD9 := hD.sub (ws' := [(v, .inr (4, [.ref w, .int dec, .int bel, .long ah, .long bh])), (w, .inr (2, [.ref wa, .int n])), (wa, .inl (cC, 60, .inl f)), (hF, .inr (2, [.ref aF, .int nF])), (aF, .inl (cC, roomF, .inl fF))]) [0, 1, 2, 3, 4] (by decide) rfl
                    have hK9 := hK.sub (tys' := [(cC, .char)]) [0] rfl
                    have hq9 : (0 : Int32) = k_b (rdOK fF nF) ∧ (rdOK fF nF = true → dec = 1 ∧ bel = rdBl fF nF ∧ ah = rdAh fF nF ∧ bh = rdBh fF nF ∧ (f, n) = wpLine f (rdBl fF nF) (rdBh fF nF) fF nF (rdS fF nF) (rdP fF nF) (rdE fF nF)) ∧ lnOK 60 n ∧ (rdOK fF nF = false → dec = dec) := by
                      have h9 : rdOK fF nF = false := by
                        rw [rdOK, ← hpt, ← hst9, ← hpl9, ← hen9, ← ex6]; simp [hT9, c78_5, c86_7, c93_8, c100_9, c105_24]
                      rw [h9]; exact ⟨rfl, fun q => absurd q (by decide), hn, fun _ => rfl⟩
                    subst hQ
                    exact W.zret (v := 0) hx hb hr rfl (fun t ht hW => ⟨⟨0, (dec, bel, ah, bh, f, n), rfl, hq9, by rw [ht]; exact hP9, va_K.moved hW.alike hK9, hD9⟩, hS.F ht⟩) hS.2.2 d_Va_readDecimal_118
                  · skip
                    refine lv_iload hx hb d_Va_readDecimal_108 (lv_at hl 0 rfl) ?_
                    refine lv_aload_n hx hb d_Va_readDecimal_110 rfl (lv_at hl 6 rfl) ?_
                    have hPc := hP.sub (ws' := [(hF, .inr (2, [.ref aF, .int nF])), (aF, .inl (cC, roomF, .inl fF))]) [3, 4] rfl
                    have hDc := hD.sub (ws' := [(hF, .inr (2, [.ref aF, .int nF])), (aF, .inl (cC, roomF, .inl fF))]) [3, 4] (by decide) rfl
                    have hKc := hK.sub (tys' := [(cC, .char)]) [0] rfl
                    have hFc := va_free (wc := [(hF, .inr (2, [.ref aF, .int nF])), (aF, .inl (cC, roomF, .inl fF))]) hD hS hA [3, 4] rfl
                    refine va_calli (va_runV (As := []) (rest := [.int en9]) ⟨hx, hb, hml, hown, hT⟩ (c_Line_size l dC dI H.size cC hF aF roomF fF nF ) (cwV 0 hT g_Va_27 rfl rfl rfl (by decide +kernel) ⟨Nat.le_of_ble_eq_true rfl, Nat.le_of_ble_eq_true rfl⟩) ⟨fun a U g mk q => by obtain ⟨q0, q1, qP, qK, qD⟩ := q; exact ⟨q0, q1, qP, va_K.moved (u := U) (U := U.calling g mk a) (Vm.Alike.refl U.vm) qK, qD⟩, va_recv hKc hPc (ci := 2) (q0 := 0) rfl rfl, fun U hU hW => ⟨rfl, by rw [hU], by rw [hU]; exact hPc, va_K.moved hW.alike hKc, hDc.weaken (fun _ _ _ _ => trivial)⟩⟩ rfl rfl hl.1 rfl (lv_room (Nat.le_of_ble_eq_true rfl)) d_Va_readDecimal_111 ⟨Nat.le_of_ble_eq_true rfl, Nat.le_of_ble_eq_true rfl⟩) hS (fun q _ h => hFc q h) hFc (fun x25 u t H1 locs ht hvm w111_25 hB hz1 hk1 hS => ?_)
                    obtain ⟨hP1, hK1, hD1⟩ := hB
                    rw [ht] at hP1
                    try dsimp only at w111_25
                    obtain ⟨hP, hD⟩ := va_join (wr := [(v, .inr (4, [.ref w, .int dec, .int bel, .long ah, .long bh])), (w, .inr (2, [.ref wa, .int n])), (wa, .inl (cC, 60, .inl f))]) (w1 := [(hF, .inr (2, [.ref aF, .int nF])), (aF, .inl (cC, roomF, .inl fF))]) hP hD [3, 4] [0, 1, 2] rfl rfl (by decide) (by decide) hk1 hFc hP1 hD1
                    generalize H1 = H at hP hS ⊢
                    have hP : va_P (dC, dI) CL [(v, .inr (4, [.ref w, .int dec, .int bel, .long ah, .long bh])), (w, .inr (2, [.ref wa, .int n])), (wa, .inl (cC, 60, .inl f)), (hF, .inr (2, [.ref aF, .int nF])), (aF, .inl (cC, roomF, .inl fF))] H := hP
                    have hD : va_D A [(v, .inr (4, [.ref w, .int dec, .int bel, .long ah, .long bh])), (w, .inr (2, [.ref wa, .int n])), (wa, .inl (cC, 60, .inl f)), (hF, .inr (2, [.ref aF, .int nF])), (aF, .inl (cC, roomF, .inl fF))] := hD
                    refine lv_icmp_eq (tgt := 119) hx hb d_Va_readDecimal_114 (by decide) (fun c114_26 => ?_) (fun c114_26 => ?_)
                    · skip
                      rw [w111_25] at c114_26
                      have hOK : rdOK fF nF = true := by
                        rw [rdOK, ← hpt, ← hst9, ← hpl9, ← hen9, ← ex6]; simp [hT9, c78_5, c86_7, c93_8, c100_9, c105_24, c114_26]
                      refine lv_aload_n hx hb d_Va_readDecimal_119 rfl (lv_at hl 5 rfl) ?_
                      refine lv_iconst (v := 1) hx hb d_Va_readDecimal_120 (by decide) ?_
                      refine va_put (D := (dC, dI)) (ci := 4) (v := .int 1) (ty := .boolean) (C := R_Va) (T := F_Va) (N := 5) hx hb hT (in_Va) t_Va t_Va_ok n_Va hown hK hP hD hS 0 rfl rfl 1 (by decide) (hT _ t_51) (fun _ h9 => h9) rfl (by decide +kernel) rfl rfl (Nat.le_of_ble_eq_true rfl) d_Va_readDecimal_121 (fun H locs hP hD hS => ?_)
                      have hP : va_P (dC, dI) CL [(v, .inr (4, [.ref w, .int 1, .int bel, .long ah, .long bh])), (w, .inr (2, [.ref wa, .int n])), (wa, .inl (cC, 60, .inl f)), (hF, .inr (2, [.ref aF, .int nF])), (aF, .inl (cC, roomF, .inl fF))] H := hP
                      have hD : va_D A [(v, .inr (4, [.ref w, .int 1, .int bel, .long ah, .long bh])), (w, .inr (2, [.ref wa, .int n])), (wa, .inl (cC, 60, .inl f)), (hF, .inr (2, [.ref aF, .int nF])), (aF, .inl (cC, roomF, .inl fF))] := hD
                      refine lv_aload_n hx hb d_Va_readDecimal_124 rfl (lv_at hl 5 rfl) ?_
                      refine lv_aload_n hx hb d_Va_readDecimal_125 rfl (lv_at hl 6 rfl) ?_
                      refine lv_iload_n hx hb d_Va_readDecimal_126 rfl (lv_at hl 4 rfl) ?_
                      refine lv_iload_n hx hb d_Va_readDecimal_127 rfl (lv_at hl 3 rfl) ?_
                      refine lv_iload_n hx hb d_Va_readDecimal_128 rfl (lv_at hl 4 rfl) ?_
                      refine lv_isub hx hb d_Va_readDecimal_129 ?_
                      refine lv_topi (fun x27 ex27 => ?_)
                      have hPc := hP.sub (ws' := [(hF, .inr (2, [.ref aF, .int nF])), (aF, .inl (cC, roomF, .inl fF))]) [3, 4] rfl
                      have hDc := hD.sub (ws' := [(hF, .inr (2, [.ref aF, .int nF])), (aF, .inl (cC, roomF, .inl fF))]) [3, 4] (by decide) rfl
                      have hKc := hK.sub (tys' := [(cC, .char)]) [0] rfl
                      have hFc := va_free (wc := [(hF, .inr (2, [.ref aF, .int nF])), (aF, .inl (cC, roomF, .inl fF))]) hD hS hA [3, 4] rfl
                      refine va_calll (va_runV (As := [.int st9, .int x27]) (rest := [.ref v]) ⟨hx, hb, hml, hown, hT⟩ (c_Line_numberAt l dC dI H.size cC hF aF roomF fF nF st9 x27 hn2) (cwV 2 hT g_Va_42 rfl rfl rfl (by decide +kernel) ⟨Nat.le_of_ble_eq_true rfl, Nat.le_of_ble_eq_true rfl⟩) ⟨fun a U g mk q => by obtain ⟨q0, q1, qP, qK, qD⟩ := q; exact ⟨q0, q1, qP, va_K.moved (u := U) (U := U.calling g mk a) (Vm.Alike.refl U.vm) qK, qD⟩, va_recv hKc hPc (ci := 2) (q0 := 0) rfl rfl, fun U hU hW => ⟨rfl, by rw [hU], by rw [hU]; exact hPc, va_K.moved hW.alike hKc, hDc.weaken (fun _ _ _ _ => trivial)⟩⟩ rfl rfl hl.1 rfl (lv_room (Nat.le_of_ble_eq_true rfl)) d_Va_readDecimal_130 ⟨Nat.le_of_ble_eq_true rfl, Nat.le_of_ble_eq_true rfl⟩) hS (fun q _ h => hFc q h) hFc (fun x28 u t H1 locs ht hvm w130_28 hB hz1 hk1 hS => ?_)
                      obtain ⟨hP1, hK1, hD1⟩ := hB
                      rw [ht] at hP1
                      try dsimp only at w130_28
                      obtain ⟨hP, hD⟩ := va_join (wr := [(v, .inr (4, [.ref w, .int 1, .int bel, .long ah, .long bh])), (w, .inr (2, [.ref wa, .int n])), (wa, .inl (cC, 60, .inl f))]) (w1 := [(hF, .inr (2, [.ref aF, .int nF])), (aF, .inl (cC, roomF, .inl fF))]) hP hD [3, 4] [0, 1, 2] rfl rfl (by decide) (by decide) hk1 hFc hP1 hD1
                      generalize H1 = H at hP hS ⊢
                      have hP : va_P (dC, dI) CL [(v, .inr (4, [.ref w, .int 1, .int bel, .long ah, .long bh])), (w, .inr (2, [.ref wa, .int n])), (wa, .inl (cC, 60, .inl f)), (hF, .inr (2, [.ref aF, .int nF])), (aF, .inl (cC, roomF, .inl fF))] H := hP
                      have hD : va_D A [(v, .inr (4, [.ref w, .int 1, .int bel, .long ah, .long bh])), (w, .inr (2, [.ref wa, .int n])), (wa, .inl (cC, 60, .inl f)), (hF, .inr (2, [.ref aF, .int nF])), (aF, .inl (cC, roomF, .inl fF))] := hD
                      refine va_put (D := (dC, dI)) (ci := 4) (v := .long x28) (ty := .long) (C := R_Va) (T := F_Va) (N := 5) hx hb hT (in_Va) t_Va t_Va_ok n_Va hown hK hP hD hS 0 rfl rfl 3 (by decide) (hT _ t_57) (fun _ h9 => h9) rfl (by decide +kernel) rfl rfl (Nat.le_of_ble_eq_true rfl) d_Va_readDecimal_133 (fun H locs hP hD hS => ?_)
                      have hP : va_P (dC, dI) CL [(v, .inr (4, [.ref w, .int 1, .int bel, .long x28, .long bh])), (w, .inr (2, [.ref wa, .int n])), (wa, .inl (cC, 60, .inl f)), (hF, .inr (2, [.ref aF, .int nF])), (aF, .inl (cC, roomF, .inl fF))] H := hP
                      have hD : va_D A [(v, .inr (4, [.ref w, .int 1, .int bel, .long x28, .long bh])), (w, .inr (2, [.ref wa, .int n])), (wa, .inl (cC, 60, .inl f)), (hF, .inr (2, [.ref aF, .int nF])), (aF, .inl (cC, roomF, .inl fF))] := hD
                      refine lv_aload_n hx hb d_Va_readDecimal_136 rfl (lv_at hl 5 rfl) ?_
                      refine lv_aload_n hx hb d_Va_readDecimal_137 rfl (lv_at hl 6 rfl) ?_
                      refine lv_iload_n hx hb d_Va_readDecimal_138 rfl (lv_at hl 3 rfl) ?_
                      refine lv_iconst (v := 1) hx hb d_Va_readDecimal_139 (by decide) ?_
                      refine lv_iadd hx hb d_Va_readDecimal_140 ?_
                      refine lv_topi (fun x29 ex29 => ?_)
                      refine lv_iload hx hb d_Va_readDecimal_141 (lv_at hl 1 rfl) ?_
                      have hPc := hP.sub (ws' := [(hF, .inr (2, [.ref aF, .int nF])), (aF, .inl (cC, roomF, .inl fF))]) [3, 4] rfl
                      have hDc := hD.sub (ws' := [(hF, .inr (2, [.ref aF, .int nF])), (aF, .inl (cC, roomF, .inl fF))]) [3, 4] (by decide) rfl
                      have hKc := hK.sub (tys' := [(cC, .char)]) [0] rfl
                      have hFc := va_free (wc := [(hF, .inr (2, [.ref aF, .int nF])), (aF, .inl (cC, roomF, .inl fF))]) hD hS hA [3, 4] rfl
                      refine va_calll (va_runV (As := [.int x29, .int pl9]) (rest := [.ref v]) ⟨hx, hb, hml, hown, hT⟩ (c_Line_numberAt l dC dI H.size cC hF aF roomF fF nF x29 pl9 hn2) (cwV 2 hT g_Va_42 rfl rfl rfl (by decide +kernel) ⟨Nat.le_of_ble_eq_true rfl, Nat.le_of_ble_eq_true rfl⟩) ⟨fun a U g mk q => by obtain ⟨q0, q1, qP, qK, qD⟩ := q; exact ⟨q0, q1, qP, va_K.moved (u := U) (U := U.calling g mk a) (Vm.Alike.refl U.vm) qK, qD⟩, va_recv hKc hPc (ci := 2) (q0 := 0) rfl rfl, fun U hU hW => ⟨rfl, by rw [hU], by rw [hU]; exact hPc, va_K.moved hW.alike hKc, hDc.weaken (fun _ _ _ _ => trivial)⟩⟩ rfl rfl hl.1 rfl (lv_room (Nat.le_of_ble_eq_true rfl)) d_Va_readDecimal_143 ⟨Nat.le_of_ble_eq_true rfl, Nat.le_of_ble_eq_true rfl⟩) hS (fun q _ h => hFc q h) hFc (fun x30 u t H1 locs ht hvm w143_30 hB hz1 hk1 hS => ?_)
                      obtain ⟨hP1, hK1, hD1⟩ := hB
                      rw [ht] at hP1
                      try dsimp only at w143_30
                      obtain ⟨hP, hD⟩ := va_join (wr := [(v, .inr (4, [.ref w, .int 1, .int bel, .long x28, .long bh])), (w, .inr (2, [.ref wa, .int n])), (wa, .inl (cC, 60, .inl f))]) (w1 := [(hF, .inr (2, [.ref aF, .int nF])), (aF, .inl (cC, roomF, .inl fF))]) hP hD [3, 4] [0, 1, 2] rfl rfl (by decide) (by decide) hk1 hFc hP1 hD1
                      generalize H1 = H at hP hS ⊢
                      have hP : va_P (dC, dI) CL [(v, .inr (4, [.ref w, .int 1, .int bel, .long x28, .long bh])), (w, .inr (2, [.ref wa, .int n])), (wa, .inl (cC, 60, .inl f)), (hF, .inr (2, [.ref aF, .int nF])), (aF, .inl (cC, roomF, .inl fF))] H := hP
                      have hD : va_D A [(v, .inr (4, [.ref w, .int 1, .int bel, .long x28, .long bh])), (w, .inr (2, [.ref wa, .int n])), (wa, .inl (cC, 60, .inl f)), (hF, .inr (2, [.ref aF, .int nF])), (aF, .inl (cC, roomF, .inl fF))] := hD
                      refine va_put (D := (dC, dI)) (ci := 4) (v := .long x30) (ty := .long) (C := R_Va) (T := F_Va) (N := 5) hx hb hT (in_Va) t_Va t_Va_ok n_Va hown hK hP hD hS 0 rfl rfl 4 (by decide) (hT _ t_59) (fun _ h9 => h9) rfl (by decide +kernel) rfl rfl (Nat.le_of_ble_eq_true rfl) d_Va_readDecimal_146 (fun H locs hP hD hS => ?_)
                      have hP : va_P (dC, dI) CL [(v, .inr (4, [.ref w, .int 1, .int bel, .long x28, .long x30])), (w, .inr (2, [.ref wa, .int n])), (wa, .inl (cC, 60, .inl f)), (hF, .inr (2, [.ref aF, .int nF])), (aF, .inl (cC, roomF, .inl fF))] H := hP
                      have hD : va_D A [(v, .inr (4, [.ref w, .int 1, .int bel, .long x28, .long x30])), (w, .inr (2, [.ref wa, .int n])), (wa, .inl (cC, 60, .inl f)), (hF, .inr (2, [.ref aF, .int nF])), (aF, .inl (cC, roomF, .inl fF))] := hD
                      refine lv_iload hx hb d_Va_readDecimal_149 (lv_at hl 1 rfl) ?_
                      refine lv_istore (lv' := [(7, .int pl9), (6, .int en9), (5, .int pl9), (4, .int td9), (3, .int x3), (2, .int st9), (0, .ref v), (1, .ref hF)]) hx hb d_Va_readDecimal_151 hl (by decide) rfl (fun ls hl => ?_)
                      have loop153 : ∀ (fuel : Nat) (i : Int32) (y9 : Int64) (H : Heap) (locs : List Loc) (ls : Array Slot), (((12 : Int32).toInt - i.toInt).toNat < fuel) → (rdMul fuel i y9 = rdBh fF nF) → va_P (dC, dI) CL [(v, .inr (4, [.ref w, .int 1, .int bel, .long x28, .long y9])), (w, .inr (2, [.ref wa, .int n])), (wa, .inl (cC, 60, .inl f)), (hF, .inr (2, [.ref aF, .int nF])), (aF, .inl (cC, roomF, .inl fF))] H → va_D A [(v, .inr (4, [.ref w, .int 1, .int bel, .long x28, .long y9])), (w, .inr (2, [.ref wa, .int n])), (wa, .inl (cC, 60, .inl f)), (hF, .inr (2, [.ref aF, .int nF])), (aF, .inl (cC, roomF, .inl fF))] → va_S A s.heap H locs → lv_has ls 8 [(7, .int i), (6, .int en9), (5, .int pl9), (4, .int td9), (3, .int x3), (2, .int st9), (0, .ref v), (1, .ref hF)] → W p l e (headSpec w_Va_readDecimal ({ frames := 3, cells := 0, slots := 0, locals := 70 } : Room)).room s m ([.ref v, .ref hF] : List Value).toArray below meth c H locs 0 0 Q (F0 m 153 ls []) := by
                        intro fuel
                        induction fuel with
                        | zero =>
                          intro i y9 H locs ls hk hG hP hD hS hl
                          exact absurd hk (Nat.not_lt_zero _)
                        | succ fuel ih =>
                          intro i y9 H locs ls hk hG hP hD hS hl
                          refine lv_iload hx hb d_Va_readDecimal_153 (lv_at hl 0 rfl) ?_
                          refine lv_bipush (v := 12) hx hb d_Va_readDecimal_155 (by decide) ?_
                          refine lv_icmp_ge (tgt := 178) hx hb d_Va_readDecimal_157 (by decide) (fun c157_31 => ?_) (fun c157_31 => ?_)
                          · skip
                            have hbh : y9 = rdBh fF nF := by have h9 := hG; rw [rdMul, if_pos c157_31] at h9; exact h9
                            have hah : x28 = rdAh fF nF := by rw [rdAh, ← hpt, ← hst9, ← ex27, ← w130_28]
                            refine lv_aload_n hx hb d_Va_readDecimal_178 rfl (lv_at hl 6 rfl) ?_
                            refine lv_iload_n hx hb d_Va_readDecimal_179 rfl (lv_at hl 5 rfl) ?_
                            refine lv_iconst (v := 1) hx hb d_Va_readDecimal_180 (by decide) ?_
                            have cut207 : ∀ (bl9 : Int32) (H : Heap) (locs : List Loc) (ls : Array Slot), (bl9 = rdBl fF nF) → va_P (dC, dI) CL [(v, .inr (4, [.ref w, .int 1, .int bel, .long x28, .long y9])), (w, .inr (2, [.ref wa, .int n])), (wa, .inl (cC, 60, .inl f)), (hF, .inr (2, [.ref aF, .int nF])), (aF, .inl (cC, roomF, .inl fF))] H → va_D A [(v, .inr (4, [.ref w, .int 1, .int bel, .long x28, .long y9])), (w, .inr (2, [.ref wa, .int n])), (wa, .inl (cC, 60, .inl f)), (hF, .inr (2, [.ref aF, .int nF])), (aF, .inl (cC, roomF, .inl fF))] → va_S A s.heap H locs → lv_has ls 8 [(7, .int i), (6, .int en9), (5, .int pl9), (4, .int td9), (3, .int x3), (2, .int st9), (0, .ref v), (1, .ref hF)] → W p l e (headSpec w_Va_readDecimal ({ frames := 3, cells := 0, slots := 0, locals := 70 } : Room)).room s m ([.ref v, .ref hF] : List Value).toArray below meth c H locs 0 0 Q (F0 m 207 ls [.int bl9, .ref v]) := by
                              intro bl9 H locs ls hbl9 hP hD hS hl
                              refine va_put (D := (dC, dI)) (ci := 4) (v := .int bl9) (ty := .boolean) (C := R_Va) (T := F_Va) (N := 5) hx hb hT (in_Va) t_Va t_Va_ok n_Va hown hK hP hD hS 0 rfl rfl 2 (by decide) (hT _ t_53) (fun _ h9 => h9) rfl (by decide +kernel) (by rw [hbl9, rdBl]; exact k_b_nar _) (by rw [hbl9, rdBl]; exact k_b_fit _) (Nat.le_of_ble_eq_true rfl) d_Va_readDecimal_207 (fun H locs hP hD hS => ?_)
                              have hP : va_P (dC, dI) CL [(v, .inr (4, [.ref w, .int 1, .int bl9, .long x28, .long y9])), (w, .inr (2, [.ref wa, .int n])), (wa, .inl (cC, 60, .inl f)), (hF, .inr (2, [.ref aF, .int nF])), (aF, .inl (cC, roomF, .inl fF))] H := hP
                              have hD : va_D A [(v, .inr (4, [.ref w, .int 1, .int bl9, .long x28, .long y9])), (w, .inr (2, [.ref wa, .int n])), (wa, .inl (cC, 60, .inl f)), (hF, .inr (2, [.ref aF, .int nF])), (aF, .inl (cC, roomF, .inl fF))] := hD
                              refine lv_aload_n hx hb d_Va_readDecimal_210 rfl (lv_at hl 6 rfl) ?_
                              refine lv_aload_n hx hb d_Va_readDecimal_211 rfl (lv_at hl 7 rfl) ?_
                              refine lv_iload_n hx hb d_Va_readDecimal_212 rfl (lv_at hl 5 rfl) ?_
                              refine lv_iload_n hx hb d_Va_readDecimal_213 rfl (lv_at hl 4 rfl) ?_
                              refine lv_iload hx hb d_Va_readDecimal_214 (lv_at hl 1 rfl) ?_
                              have hPc := hP.sub (ws' := [(v, .inr (4, [.ref w, .int 1, .int bl9, .long x28, .long y9])), (w, .inr (2, [.ref wa, .int n])), (wa, .inl (cC, 60, .inl f)), (hF, .inr (2, [.ref aF, .int nF])), (aF, .inl (cC, roomF, .inl fF))]) [0, 1, 2, 3, 4] rfl
                              have hDc := hD.sub (ws' := [(v, .inr (4, [.ref w, .int 1, .int bl9, .long x28, .long y9])), (w, .inr (2, [.ref wa, .int n])), (wa, .inl (cC, 60, .inl f)), (hF, .inr (2, [.ref aF, .int nF])), (aF, .inl (cC, roomF, .inl fF))]) [0, 1, 2, 3, 4] (by decide) rfl
                              have hKc := hK.sub (tys' := [(cC, .char)]) [0] rfl
                              have hFc := va_free (wc := [(v, .inr (4, [.ref w, .int 1, .int bl9, .long x28, .long y9])), (w, .inr (2, [.ref wa, .int n])), (wa, .inl (cC, 60, .inl f)), (hF, .inr (2, [.ref aF, .int nF])), (aF, .inl (cC, roomF, .inl fF))]) hD hS hA [0, 1, 2, 3, 4] rfl
                              refine va_callv (va_runV (As := [.ref hF, .int st9, .int x3, .int en9]) (rest := []) ⟨hx, hb, hml, hown, hT⟩ (c_Value_writePlain l dC dI H.size cC v w wa 1 bl9 x28 y9 f n hF aF roomF fF nF st9 x3 en9 hn hn2) (cwV 4 hT g_Va_58 rfl rfl rfl (by decide +kernel) ⟨Nat.le_of_ble_eq_true rfl, Nat.le_of_ble_eq_true rfl⟩) ⟨fun a U g mk q => by obtain ⟨q0, q1, qP, qK, qD⟩ := q; exact ⟨q0, q1, qP, va_K.moved (u := U) (U := U.calling g mk a) (Vm.Alike.refl U.vm) qK, qD⟩, va_recv hKc hPc (ci := 4) (q0 := 0) rfl rfl, fun U hU hW => ⟨rfl, by rw [hU], by rw [hU]; exact hPc, va_K.moved hW.alike hKc, hDc.weaken (fun _ _ _ _ => trivial)⟩⟩ rfl rfl hl.1 rfl (lv_room (Nat.le_of_ble_eq_true rfl)) d_Va_readDecimal_216 ⟨Nat.le_of_ble_eq_true rfl, Nat.le_of_ble_eq_true rfl⟩) hS (fun q _ h => hFc q h) hFc (fun u t H1 locs ht hvm w216_33 hB hz1 hk1 hS => ?_)
                              obtain ⟨f_32, n_33⟩ := u
                              obtain ⟨hP1, hK1, hD1⟩ := hB
                              rw [ht] at hP1
                              try dsimp only at w216_33
                              obtain ⟨w216_33, w216_33b⟩ := w216_33
                              obtain ⟨hP, hD⟩ := va_join (wr := []) (w1 := [(v, .inr (4, [.ref w, .int 1, .int bl9, .long x28, .long y9])), (w, .inr (2, [.ref wa, .int n_33])), (wa, .inl (cC, 60, .inl f_32)), (hF, .inr (2, [.ref aF, .int nF])), (aF, .inl (cC, roomF, .inl fF))]) hP hD [0, 1, 2, 3, 4] [] rfl rfl (by decide) (by decide) hk1 hFc hP1 hD1
                              generalize H1 = H at hP hS ⊢
                              have hP : va_P (dC, dI) CL [(v, .inr (4, [.ref w, .int 1, .int bl9, .long x28, .long y9])), (w, .inr (2, [.ref wa, .int n_33])), (wa, .inl (cC, 60, .inl f_32)), (hF, .inr (2, [.ref aF, .int nF])), (aF, .inl (cC, roomF, .inl fF))] H := hP
                              have hD : va_D A [(v, .inr (4, [.ref w, .int 1, .int bl9, .long x28, .long y9])), (w, .inr (2, [.ref wa, .int n_33])), (wa, .inl (cC, 60, .inl f_32)), (hF, .inr (2, [.ref aF, .int nF])), (aF, .inl (cC, roomF, .inl fF))] := hD
                              refine lv_iconst (v := 1) hx hb d_Va_readDecimal_219 (by decide) ?_
                              have hP9 := hP.sub (ws' := [(v, .inr (4, [.ref w, .int 1, .int bl9, .long x28, .long y9])), (w, .inr (2, [.ref wa, .int n_33])), (wa, .inl (cC, 60, .inl f_32)), (hF, .inr (2, [.ref aF, .int nF])), (aF, .inl (cC, roomF, .inl fF))]) [0, 1, 2, 3, 4] rfl
                              have hD9 := hD.sub (ws' := [(v, .inr (4, [.ref w, .int 1, .int bl9, .long x28, .long y9])), (w, .inr (2, [.ref wa, .int n_33])), (wa, .inl (cC, 60, .inl f_32)), (hF, .inr (2, [.ref aF, .int nF])), (aF, .inl (cC, roomF, .inl fF))]) [0, 1, 2, 3, 4] (by decide) rfl
                              have hK9 := hK.sub (tys' := [(cC, .char)]) [0] rfl
                              have hq9 : (1 : Int32) = k_b (rdOK fF nF) ∧ (rdOK fF nF = true → (1 : Int32) = 1 ∧ bl9 = rdBl fF nF ∧ x28 = rdAh fF nF ∧ y9 = rdBh fF nF ∧ (f_32, n_33) = wpLine f (rdBl fF nF) (rdBh fF nF) fF nF (rdS fF nF) (rdP fF nF) (rdE fF nF)) ∧ lnOK 60 n_33 ∧ (rdOK fF nF = false → (1 : Int32) = dec) := by rw [hOK]; exact ⟨rfl, fun _ => ⟨rfl, hbl9, hah, hbh, by rw [← hbl9, ← hbh, ← hst9, ← hpt, ← hen9]; exact w216_33⟩, w216_33b, fun q => absurd q (by decide)⟩
                              subst hQ
                              exact W.zret (v := 1) hx hb hr rfl (fun t ht hW => ⟨⟨1, (1, bl9, x28, y9, f_32, n_33), rfl, hq9, by rw [ht]; exact hP9, va_K.moved hW.alike hK9, hD9⟩, hS.F ht⟩) hS.2.2 d_Va_readDecimal_220
                            refine lv_icmp_ne (tgt := 206) hx hb d_Va_readDecimal_181 (by decide) (fun c181_34 => ?_) (fun c181_34 => ?_)
                            · skip
                              refine lv_iconst (v := 0) hx hb d_Va_readDecimal_206 (by decide) ?_
                              exact cut207 0 _ _ _ (by rw [rdBl, ← hst9, ← hah, ← hbh]; simp [k_b, c181_34]) (hP.sub [0, 1, 2, 3, 4] rfl) (hD.sub [0, 1, 2, 3, 4] (by decide) rfl) hS (lv_sub hl [0, 1, 2, 3, 4, 5, 6, 7] rfl)
                            · skip
                              refine lv_aload_n hx hb d_Va_readDecimal_184 rfl (lv_at hl 6 rfl) ?_
                              refine va_get (D := (dC, dI)) (ci := 4) (v := .long x28) (C := R_Va) (T := F_Va) (N := 5) hx hb hT (in_Va) hown hK hP 0 rfl rfl 3 (by decide) (hT _ t_57) (fun _ h9 => h9) rfl d_Va_readDecimal_185 ?_
                              refine lv_lconst (v := 0) hx hb d_Va_readDecimal_188 (by decide) ?_
                              refine W.lcmp hx hb d_Va_readDecimal_189 ?_
                              refine lv_if_ne (tgt := 202) hx hb d_Va_readDecimal_190 (by decide) (fun c190_35 => ?_) (fun c190_35 => ?_)
                              · skip
                                rw [lg_cmp_eq] at c190_35
                                refine lv_iconst (v := 1) hx hb d_Va_readDecimal_202 (by decide) ?_
                                refine lv_goto (tgt := 207) hx hb d_Va_readDecimal_203 (by decide) ?_
                                exact cut207 1 _ _ _ (by rw [rdBl, ← hst9, ← hah, ← hbh]; simp [k_b, c181_34, c190_35]) (hP.sub [0, 1, 2, 3, 4] rfl) (hD.sub [0, 1, 2, 3, 4] (by decide) rfl) hS (lv_sub hl [0, 1, 2, 3, 4, 5, 6, 7] rfl)
                              · skip
                                rw [lg_cmp_eq] at c190_35
                                refine lv_aload_n hx hb d_Va_readDecimal_193 rfl (lv_at hl 6 rfl) ?_
                                refine va_get (D := (dC, dI)) (ci := 4) (v := .long y9) (C := R_Va) (T := F_Va) (N := 5) hx hb hT (in_Va) hown hK hP 0 rfl rfl 4 (by decide) (hT _ t_59) (fun _ h9 => h9) rfl d_Va_readDecimal_194 ?_
                                refine lv_lconst (v := 0) hx hb d_Va_readDecimal_197 (by decide) ?_
                                refine W.lcmp hx hb d_Va_readDecimal_198 ?_
                                refine lv_if_eq (tgt := 206) hx hb d_Va_readDecimal_199 (by decide) (fun c199_36 => ?_) (fun c199_36 => ?_)
                                · skip
                                  rw [lg_cmp_eq] at c199_36
                                  refine lv_iconst (v := 0) hx hb d_Va_readDecimal_206 (by decide) ?_
                                  exact cut207 0 _ _ _ (by rw [rdBl, ← hst9, ← hah, ← hbh]; simp [k_b, c181_34, c190_35, c199_36]) (hP.sub [0, 1, 2, 3, 4] rfl) (hD.sub [0, 1, 2, 3, 4] (by decide) rfl) hS (lv_sub hl [0, 1, 2, 3, 4, 5, 6, 7] rfl)
                                · skip
                                  rw [lg_cmp_eq] at c199_36
                                  refine lv_iconst (v := 1) hx hb d_Va_readDecimal_202 (by decide) ?_
                                  refine lv_goto (tgt := 207) hx hb d_Va_readDecimal_203 (by decide) ?_
                                  exact cut207 1 _ _ _ (by rw [rdBl, ← hst9, ← hah, ← hbh]; simp [k_b, c181_34, c190_35, c199_36]) (hP.sub [0, 1, 2, 3, 4] rfl) (hD.sub [0, 1, 2, 3, 4] (by decide) rfl) hS (lv_sub hl [0, 1, 2, 3, 4, 5, 6, 7] rfl)
                          · skip
                            refine lv_aload_n hx hb d_Va_readDecimal_160 rfl (lv_at hl 6 rfl) ?_
                            refine lv_aload_n hx hb d_Va_readDecimal_161 rfl (lv_at hl 6 rfl) ?_
                            refine va_get (D := (dC, dI)) (ci := 4) (v := .long y9) (C := R_Va) (T := F_Va) (N := 5) hx hb hT (in_Va) hown hK hP 0 rfl rfl 4 (by decide) (hT _ t_59) (fun _ h9 => h9) rfl d_Va_readDecimal_162 ?_
                            refine lv_ldc2 (v := 10) hx hb hown (hT _ t_286) d_Va_readDecimal_165 ?_
                            refine lv_lmul hx hb d_Va_readDecimal_168 ?_
                            refine lv_topl (fun x37 ex37 => ?_)
                            refine va_put (D := (dC, dI)) (ci := 4) (v := .long x37) (ty := .long) (C := R_Va) (T := F_Va) (N := 5) hx hb hT (in_Va) t_Va t_Va_ok n_Va hown hK hP hD hS 0 rfl rfl 4 (by decide) (hT _ t_59) (fun _ h9 => h9) rfl (by decide +kernel) rfl rfl (Nat.le_of_ble_eq_true rfl) d_Va_readDecimal_169 (fun H locs hP hD hS => ?_)
                            have hP : va_P (dC, dI) CL [(v, .inr (4, [.ref w, .int 1, .int bel, .long x28, .long x37])), (w, .inr (2, [.ref wa, .int n])), (wa, .inl (cC, 60, .inl f)), (hF, .inr (2, [.ref aF, .int nF])), (aF, .inl (cC, roomF, .inl fF))] H := hP
                            have hD : va_D A [(v, .inr (4, [.ref w, .int 1, .int bel, .long x28, .long x37])), (w, .inr (2, [.ref wa, .int n])), (wa, .inl (cC, 60, .inl f)), (hF, .inr (2, [.ref aF, .int nF])), (aF, .inl (cC, roomF, .inl fF))] := hD
                            obtain ⟨x38, ex38⟩ : ∃ y : Int32, y = i + 1 := ⟨_, rfl⟩
                            refine lv_iinc (v := x38) (lv' := [(7, .int x38), (6, .int en9), (5, .int pl9), (4, .int td9), (3, .int x3), (2, .int st9), (0, .ref v), (1, .ref hF)]) hx hb d_Va_readDecimal_172 hl (k := 0) rfl (by rw [ex38]; rfl) (by decide) rfl (fun ls hl => ?_)
                            refine lv_goto (tgt := 153) hx hb d_Va_readDecimal_175 (by decide) ?_
                            exact ih x38 x37 _ _ _ (by rw [ex38]; exact k_fuel c157_31 hk) (by have h9 := hG; rw [rdMul, if_neg c157_31] at h9; rw [ex38, ex37]; exact h9) (hP.sub [0, 1, 2, 3, 4] rfl) (hD.sub [0, 1, 2, 3, 4] (by decide) rfl) hS (lv_sub hl [0, 1, 2, 3, 4, 5, 6, 7] rfl)
                      exact loop153 (((12 : Int32).toInt - pl9.toInt).toNat + 1) pl9 x30 _ _ _ (by omega) (by rw [rdBh, ← hpl9, ← hpt, ← ex29, ← w143_30]) hP hD hS (lv_sub hl [0, 1, 2, 3, 4, 5, 6, 7] rfl)
                    · skip
                      rw [w111_25] at c114_26
                      refine lv_iconst (v := 0) hx hb d_Va_readDecimal_117 (by decide) ?_
                      have hP9 := hP.sub (ws' := [(v, .inr (4, [.ref w, .int dec, .int bel, .long ah, .long bh])), (w, .inr (2, [.ref wa, .int n])), (wa, .inl (cC, 60, .inl f)), (hF, .inr (2, [.ref aF, .int nF])), (aF, .inl (cC, roomF, .inl fF))]) [0, 1, 2, 3, 4] rfl
                      have hD9 := hD.sub (ws' := [(v, .inr (4, [.ref w, .int dec, .int bel, .long ah, .long bh])), (w, .inr (2, [.ref wa, .int n])), (wa, .inl (cC, 60, .inl f)), (hF, .inr (2, [.ref aF, .int nF])), (aF, .inl (cC, roomF, .inl fF))]) [0, 1, 2, 3, 4] (by decide) rfl
                      have hK9 := hK.sub (tys' := [(cC, .char)]) [0] rfl
                      have hq9 : (0 : Int32) = k_b (rdOK fF nF) ∧ (rdOK fF nF = true → dec = 1 ∧ bel = rdBl fF nF ∧ ah = rdAh fF nF ∧ bh = rdBh fF nF ∧ (f, n) = wpLine f (rdBl fF nF) (rdBh fF nF) fF nF (rdS fF nF) (rdP fF nF) (rdE fF nF)) ∧ lnOK 60 n ∧ (rdOK fF nF = false → dec = dec) := by
                        have h9 : rdOK fF nF = false := by
                          rw [rdOK, ← hpt, ← hst9, ← hpl9, ← hen9, ← ex6]; simp [hT9, c78_5, c86_7, c93_8, c100_9, c105_24, c114_26]
                        rw [h9]; exact ⟨rfl, fun q => absurd q (by decide), hn, fun _ => rfl⟩
                      subst hQ
                      exact W.zret (v := 0) hx hb hr rfl (fun t ht hW => ⟨⟨0, (dec, bel, ah, bh, f, n), rfl, hq9, by rw [ht]; exact hP9, va_K.moved hW.alike hK9, hD9⟩, hS.F ht⟩) hS.2.2 d_Va_readDecimal_118
              · skip
                refine lv_iconst (v := 0) hx hb d_Va_readDecimal_96 (by decide) ?_
                have hP9 := hP.sub (ws' := [(v, .inr (4, [.ref w, .int dec, .int bel, .long ah, .long bh])), (w, .inr (2, [.ref wa, .int n])), (wa, .inl (cC, 60, .inl f)), (hF, .inr (2, [.ref aF, .int nF])), (aF, .inl (cC, roomF, .inl fF))]) [0, 1, 2, 3, 4] rfl
                have hD9 := hD.sub (ws' := [(v, .inr (4, [.ref w, .int dec, .int bel, .long ah, .long bh])), (w, .inr (2, [.ref wa, .int n])), (wa, .inl (cC, 60, .inl f)), (hF, .inr (2, [.ref aF, .int nF])), (aF, .inl (cC, roomF, .inl fF))]) [0, 1, 2, 3, 4] (by decide) rfl
                have hK9 := hK.sub (tys' := [(cC, .char)]) [0] rfl
                have hq9 : (0 : Int32) = k_b (rdOK fF nF) ∧ (rdOK fF nF = true → dec = 1 ∧ bel = rdBl fF nF ∧ ah = rdAh fF nF ∧ bh = rdBh fF nF ∧ (f, n) = wpLine f (rdBl fF nF) (rdBh fF nF) fF nF (rdS fF nF) (rdP fF nF) (rdE fF nF)) ∧ lnOK 60 n ∧ (rdOK fF nF = false → dec = dec) := by
                  have h9 : rdOK fF nF = false := by
                    rw [rdOK, ← hpt, ← hst9, ← hpl9, ← ex6]; simp [c78_5, c86_7, c93_8]
                  rw [h9]; exact ⟨rfl, fun q => absurd q (by decide), hn, fun _ => rfl⟩
                subst hQ
                exact W.zret (v := 0) hx hb hr rfl (fun t ht hW => ⟨⟨0, (dec, bel, ah, bh, f, n), rfl, hq9, by rw [ht]; exact hP9, va_K.moved hW.alike hK9, hD9⟩, hS.F ht⟩) hS.2.2 d_Va_readDecimal_97
        refine lv_if_eq (tgt := 73) hx hb d_Va_readDecimal_61 (by decide) (fun c61_39 => ?_) (fun c61_39 => ?_)
        · skip
          refine lv_iload_n hx hb d_Va_readDecimal_73 rfl (lv_at hl 2 rfl) ?_
          exact cut74 x3 _ _ _ (by rw [rdE, if_neg (by rw [htd.mp c61_39]; decide)]; exact hpt) (hP.sub [0, 1, 2, 3, 4] rfl) (hD.sub [0, 1, 2, 3, 4] (by decide) rfl) hS (lv_sub hl [0, 1, 2, 3, 4, 5] rfl)
        · skip
          refine lv_iload_n hx hb d_Va_readDecimal_64 rfl (lv_at hl 2 rfl) ?_
          refine lv_iconst (v := 1) hx hb d_Va_readDecimal_65 (by decide) ?_
          refine lv_iadd hx hb d_Va_readDecimal_66 ?_
          refine lv_topi (fun x40 ex40 => ?_)
          refine lv_iload hx hb d_Va_readDecimal_67 (lv_at hl 0 rfl) ?_
          refine lv_iadd hx hb d_Va_readDecimal_69 ?_
          refine lv_topi (fun x41 ex41 => ?_)
          refine lv_goto (tgt := 74) hx hb d_Va_readDecimal_70 (by decide) ?_
          exact cut74 x41 _ _ _ (by rw [rdE, if_pos (k_nf (fun q => c61_39 (htd.mpr q))), ← hpt, ← hpl9]; subst ex40 ex41; rfl) (hP.sub [0, 1, 2, 3, 4] rfl) (hD.sub [0, 1, 2, 3, 4] (by decide) rfl) hS (lv_sub hl [0, 1, 2, 3, 4, 5] rfl)
      refine lv_if_eq (tgt := 56) hx hb d_Va_readDecimal_43 (by decide) (fun c43_42 => ?_) (fun c43_42 => ?_)
      · skip
        refine lv_iconst (v := 0) hx hb d_Va_readDecimal_56 (by decide) ?_
        exact cut57 0 _ _ _ (by rw [rdL, if_neg (by rw [htd.mp c43_42]; decide)]) (hP.sub [0, 1, 2, 3, 4] rfl) (hD.sub [0, 1, 2, 3, 4] (by decide) rfl) hS (lv_sub hl [0, 1, 2, 3, 4] rfl)
      · skip
        refine lv_aload_n hx hb d_Va_readDecimal_46 rfl (lv_at hl 4 rfl) ?_
        refine lv_iload_n hx hb d_Va_readDecimal_47 rfl (lv_at hl 1 rfl) ?_
        refine lv_iconst (v := 1) hx hb d_Va_readDecimal_48 (by decide) ?_
        refine lv_iadd hx hb d_Va_readDecimal_49 ?_
        refine lv_topi (fun x43 ex43 => ?_)
        have hPc := hP.sub (ws' := [(hF, .inr (2, [.ref aF, .int nF])), (aF, .inl (cC, roomF, .inl fF))]) [3, 4] rfl
        have hDc := hD.sub (ws' := [(hF, .inr (2, [.ref aF, .int nF])), (aF, .inl (cC, roomF, .inl fF))]) [3, 4] (by decide) rfl
        have hKc := hK.sub (tys' := [(cC, .char)]) [0] rfl
        have hFc := va_free (wc := [(hF, .inr (2, [.ref aF, .int nF])), (aF, .inl (cC, roomF, .inl fF))]) hD hS hA [3, 4] rfl
        refine va_calli (va_runV (As := [.int x43]) (rest := []) ⟨hx, hb, hml, hown, hT⟩ (c_Line_digitsFrom l dC dI H.size cC hF aF roomF fF nF x43 hn2) (cwV 1 hT g_Va_39 rfl rfl rfl (by decide +kernel) ⟨Nat.le_of_ble_eq_true rfl, Nat.le_of_ble_eq_true rfl⟩) ⟨fun a U g mk q => by obtain ⟨q0, q1, qP, qK, qD⟩ := q; exact ⟨q0, q1, qP, va_K.moved (u := U) (U := U.calling g mk a) (Vm.Alike.refl U.vm) qK, qD⟩, va_recv hKc hPc (ci := 2) (q0 := 0) rfl rfl, fun U hU hW => ⟨rfl, by rw [hU], by rw [hU]; exact hPc, va_K.moved hW.alike hKc, hDc.weaken (fun _ _ _ _ => trivial)⟩⟩ rfl rfl hl.1 rfl (lv_room (Nat.le_of_ble_eq_true rfl)) d_Va_readDecimal_50 ⟨Nat.le_of_ble_eq_true rfl, Nat.le_of_ble_eq_true rfl⟩) hS (fun q _ h => hFc q h) hFc (fun x44 u t H1 locs ht hvm w50_44 hB hz1 hk1 hS => ?_)
        obtain ⟨hP1, hK1, hD1⟩ := hB
        rw [ht] at hP1
        try dsimp only at w50_44
        obtain ⟨hP, hD⟩ := va_join (wr := [(v, .inr (4, [.ref w, .int dec, .int bel, .long ah, .long bh])), (w, .inr (2, [.ref wa, .int n])), (wa, .inl (cC, 60, .inl f))]) (w1 := [(hF, .inr (2, [.ref aF, .int nF])), (aF, .inl (cC, roomF, .inl fF))]) hP hD [3, 4] [0, 1, 2] rfl rfl (by decide) (by decide) hk1 hFc hP1 hD1
        generalize H1 = H at hP hS ⊢
        have hP : va_P (dC, dI) CL [(v, .inr (4, [.ref w, .int dec, .int bel, .long ah, .long bh])), (w, .inr (2, [.ref wa, .int n])), (wa, .inl (cC, 60, .inl f)), (hF, .inr (2, [.ref aF, .int nF])), (aF, .inl (cC, roomF, .inl fF))] H := hP
        have hD : va_D A [(v, .inr (4, [.ref w, .int dec, .int bel, .long ah, .long bh])), (w, .inr (2, [.ref wa, .int n])), (wa, .inl (cC, 60, .inl f)), (hF, .inr (2, [.ref aF, .int nF])), (aF, .inl (cC, roomF, .inl fF))] := hD
        refine lv_goto (tgt := 57) hx hb d_Va_readDecimal_53 (by decide) ?_
        exact cut57 x44 _ _ _ (by rw [rdL, if_pos (k_nf (fun q => c43_42 (htd.mpr q))), ← hpt]; rw [w50_44, ex43]) (hP.sub [0, 1, 2, 3, 4] rfl) (hD.sub [0, 1, 2, 3, 4] (by decide) rfl) hS (lv_sub hl [0, 1, 2, 3, 4] rfl)
    refine lv_icmp_ne (tgt := 38) hx hb d_Va_readDecimal_31 (by decide) (fun c31_45 => ?_) (fun c31_45 => ?_)
    · skip
      refine lv_iconst (v := 0) hx hb d_Va_readDecimal_38 (by decide) ?_
      exact cut39 0 _ _ _ (by rw [rdT, ← hpt, ← w26_4, decide_eq_false c31_45]; rfl) (hP.sub [0, 1, 2, 3, 4] rfl) (hD.sub [0, 1, 2, 3, 4] (by decide) rfl) hS (lv_sub hl [0, 1, 2, 3] rfl)
    · skip
      refine lv_iconst (v := 1) hx hb d_Va_readDecimal_34 (by decide) ?_
      refine lv_goto (tgt := 39) hx hb d_Va_readDecimal_35 (by decide) ?_
      exact cut39 1 _ _ _ (by rw [rdT, ← hpt, ← w26_4, decide_eq_true c31_45]; rfl) (hP.sub [0, 1, 2, 3, 4] rfl) (hD.sub [0, 1, 2, 3, 4] (by decide) rfl) hS (lv_sub hl [0, 1, 2, 3] rfl)
  refine lv_icmp_ne (tgt := 14) hx hb d_Va_readDecimal_7 (by decide) (fun c7_46 => ?_) (fun c7_46 => ?_)
  · skip
    refine lv_iconst (v := 0) hx hb d_Va_readDecimal_14 (by decide) ?_
    exact cut15 0 _ _ _ (by rw [rdS, if_neg (by rw [← w2_1]; exact c7_46)]) (hP.sub [0, 1, 2, 3, 4] rfl) (hD.sub [0, 1, 2, 3, 4] (by decide) rfl) hS (lv_sub hl [0, 1] rfl)
  · skip
    refine lv_iconst (v := 1) hx hb d_Va_readDecimal_10 (by decide) ?_
    refine lv_goto (tgt := 15) hx hb d_Va_readDecimal_11 (by decide) ?_
    exact cut15 1 _ _ _ (by rw [rdS, if_pos (by rw [← w2_1]; exact c7_46)]) (hP.sub [0, 1, 2, 3, 4] rfl) (hD.sub [0, 1, 2, 3, 4] (by decide) rfl) hS (lv_sub hl [0, 1] rfl)

set_option maxHeartbeats 4000000 in
set_option maxRecDepth 100000 in
theorem c_Value_wholePart (l : Launch) (dC : Nat → ClassId) (dI : Nat → Nat → Nat) (sz : Nat) (cC : ClassId) (v : Nat) (w : Nat) (wa : Nat) (dec : Int32) (bel : Int32) (ah : Int64) (bh : Int64) (f : Nat → Int32) (n : Int32)  : Met l y_Va_wholePart w_Va_wholePart ({ frames := 0, cells := 0, slots := 0, locals := 0 } : Room) (va_Pc [.ref v] (fun U => U.heap.size = sz ∧ va_P (dC, dI) CL [(v, .inr (4, [.ref w, .int dec, .int bel, .long ah, .long bh])), (w, .inr (2, [.ref wa, .int n])), (wa, .inl (cC, 60, .inl f))] U.heap ∧ va_K (dC, dI) CL [(cC, .char)] U ∧ va_D (fun _ => True) [(v, .inr (4, [.ref w, .int dec, .int bel, .long ah, .long bh])), (w, .inr (2, [.ref wa, .int n])), (wa, .inl (cC, 60, .inl f))])) (va_Ql (fun (r : Int64) (u : Unit) => r = vaWhole bel ah) (fun (u : Unit) (t : State) => va_P (dC, dI) CL [(v, .inr (4, [.ref w, .int dec, .int bel, .long ah, .long bh])), (w, .inr (2, [.ref wa, .int n])), (wa, .inl (cC, 60, .inl f))] t.heap ∧ va_K (dC, dI) CL [(cC, .char)] t ∧ va_D (va_A [(v, .inr (4, [.ref w, .int dec, .int bel, .long ah, .long bh])), (w, .inr (2, [.ref wa, .int n])), (wa, .inl (cC, 60, .inl f))] sz) [(v, .inr (4, [.ref w, .int dec, .int bel, .long ah, .long bh])), (w, .inr (2, [.ref wa, .int n])), (wa, .inl (cC, 60, .inl f))]) (va_A [(v, .inr (4, [.ref w, .int dec, .int bel, .long ah, .long bh])), (w, .inr (2, [.ref wa, .int n])), (wa, .inl (cC, 60, .inl f))] sz)) 0 0 (va_A [(v, .inr (4, [.ref w, .int dec, .int bel, .long ah, .long bh])), (w, .inr (2, [.ref wa, .int n])), (wa, .inl (cC, 60, .inl f))] sz) := by
  refine Met.ofW (cc := b_Va_wholePart) (maxL := 1) (ret := (some .long)) (by decide) rfl ?_
  intro p e s m args below meth c s₁ B hml hv
  obtain ⟨rfl, hsz, hP, hK, hD0⟩ := hv
  have hx := B.exec
  have hb := B.bytes
  have hr := B.returns
  have hts := atoms_spec (ws := w_Va_wholePart) B.pre
  have hT : ∀ w ∈ TB, w.before _ s = true := fun w h => hts w (List.mem_cons_of_mem _ h)
  have hown : s.vm.findClass R_Va = some m.cls := findClass_of_methodNamed B.named
  have hlocks := B.notSynchronized
  subst hsz
  have hD := hD0.self (sz := s.heap.size)
  generalize hAe : va_A [(v, .inr (4, [.ref w, .int dec, .int bel, .long ah, .long bh])), (w, .inr (2, [.ref wa, .int n])), (wa, .inl (cC, 60, .inl f))] s.heap.size = A at hD ⊢
  have hA : ∀ q : Nat, s.heap.size ≤ q → A q := fun q h => by rw [← hAe]; exact Or.inr h
  have hS : va_S A s.heap s.heap [] := va_S.rf
  have hP : va_P (dC, dI) CL [(v, .inr (4, [.ref w, .int dec, .int bel, .long ah, .long bh])), (w, .inr (2, [.ref wa, .int n])), (wa, .inl (cC, 60, .inl f))] s.heap := hP
  have hl := lv_entry ([.ref v]) (n := 1) (Nat.le_of_ble_eq_true rfl)
  rw [lg_entry_eq]
  generalize (lg_sl ([.ref v]) ++ List.replicate (1 - (lg_sl ([.ref v])).length) Slot.unset).toArray = ls at hl ⊢
  have hl : lv_has ls 1 [(0, .ref v)] := hl
  refine lv_aload_n hx hb d_Va_wholePart_0 rfl (lv_at hl 0 rfl) ?_
  refine va_get (D := (dC, dI)) (ci := 4) (v := .int bel) (C := R_Va) (T := F_Va) (N := 5) hx hb hT (in_Va) hown hK hP 0 rfl rfl 2 (by decide) (hT _ t_53) (fun _ h9 => h9) rfl d_Va_wholePart_1 ?_
  refine lv_if_eq (tgt := 15) hx hb d_Va_wholePart_4 (by decide) (fun c4_1 => ?_) (fun c4_1 => ?_)
  · skip
    refine lv_aload_n hx hb d_Va_wholePart_15 rfl (lv_at hl 0 rfl) ?_
    refine va_get (D := (dC, dI)) (ci := 4) (v := .long ah) (C := R_Va) (T := F_Va) (N := 5) hx hb hT (in_Va) hown hK hP 0 rfl rfl 3 (by decide) (hT _ t_57) (fun _ h9 => h9) rfl d_Va_wholePart_16 ?_
    have hP9 := hP.sub (ws' := [(v, .inr (4, [.ref w, .int dec, .int bel, .long ah, .long bh])), (w, .inr (2, [.ref wa, .int n])), (wa, .inl (cC, 60, .inl f))]) [0, 1, 2] rfl
    have hD9 := hD.sub (ws' := [(v, .inr (4, [.ref w, .int dec, .int bel, .long ah, .long bh])), (w, .inr (2, [.ref wa, .int n])), (wa, .inl (cC, 60, .inl f))]) [0, 1, 2] (by decide) rfl
    have hK9 := hK.sub (tys' := [(cC, .char)]) [0] rfl
    have hq9 : ah = vaWhole bel ah := by simp [vaWhole, c4_1]
    exact W.lret (v := ah) hx hb hr (fun t ht hW => ⟨⟨ah, (), rfl, hq9, by rw [ht]; exact hP9, va_K.moved hW.alike hK9, hD9⟩, hS.F ht⟩) hS.2.2 d_Va_wholePart_19
  · skip
    refine lv_aload_n hx hb d_Va_wholePart_7 rfl (lv_at hl 0 rfl) ?_
    refine va_get (D := (dC, dI)) (ci := 4) (v := .long ah) (C := R_Va) (T := F_Va) (N := 5) hx hb hT (in_Va) hown hK hP 0 rfl rfl 3 (by decide) (hT _ t_57) (fun _ h9 => h9) rfl d_Va_wholePart_8 ?_
    refine lv_lneg hx hb d_Va_wholePart_11 ?_
    refine lv_topl (fun x2 ex2 => ?_)
    refine lv_goto (tgt := 19) hx hb d_Va_wholePart_12 (by decide) ?_
    have hP9 := hP.sub (ws' := [(v, .inr (4, [.ref w, .int dec, .int bel, .long ah, .long bh])), (w, .inr (2, [.ref wa, .int n])), (wa, .inl (cC, 60, .inl f))]) [0, 1, 2] rfl
    have hD9 := hD.sub (ws' := [(v, .inr (4, [.ref w, .int dec, .int bel, .long ah, .long bh])), (w, .inr (2, [.ref wa, .int n])), (wa, .inl (cC, 60, .inl f))]) [0, 1, 2] (by decide) rfl
    have hK9 := hK.sub (tys' := [(cC, .char)]) [0] rfl
    have hq9 : x2 = vaWhole bel ah := by subst ex2; simp [vaWhole, c4_1]
    exact W.lret (v := x2) hx hb hr (fun t ht hW => ⟨⟨x2, (), rfl, hq9, by rw [ht]; exact hP9, va_K.moved hW.alike hK9, hD9⟩, hS.F ht⟩) hS.2.2 d_Va_wholePart_19

set_option maxHeartbeats 4000000 in
set_option maxRecDepth 100000 in
theorem c_Value_isStar (l : Launch) (dC : Nat → ClassId) (dI : Nat → Nat → Nat) (sz : Nat) (cC : ClassId) (v : Nat) (w : Nat) (wa : Nat) (dec : Int32) (bel : Int32) (ah : Int64) (bh : Int64) (f : Nat → Int32) (n : Int32)  : Met l y_Va_isStar w_Va_isStar ({ frames := 0, cells := 0, slots := 0, locals := 0 } : Room) (va_Pc [.ref v] (fun U => U.heap.size = sz ∧ va_P (dC, dI) CL [(v, .inr (4, [.ref w, .int dec, .int bel, .long ah, .long bh])), (w, .inr (2, [.ref wa, .int n])), (wa, .inl (cC, 60, .inl f))] U.heap ∧ va_K (dC, dI) CL [(cC, .char)] U ∧ va_D (fun _ => True) [(v, .inr (4, [.ref w, .int dec, .int bel, .long ah, .long bh])), (w, .inr (2, [.ref wa, .int n])), (wa, .inl (cC, 60, .inl f))])) (va_Qi (fun (r : Int32) (u : Unit) => r = k_b (vaStar dec ah)) (fun (u : Unit) (t : State) => va_P (dC, dI) CL [(v, .inr (4, [.ref w, .int dec, .int bel, .long ah, .long bh])), (w, .inr (2, [.ref wa, .int n])), (wa, .inl (cC, 60, .inl f))] t.heap ∧ va_K (dC, dI) CL [(cC, .char)] t ∧ va_D (va_A [(v, .inr (4, [.ref w, .int dec, .int bel, .long ah, .long bh])), (w, .inr (2, [.ref wa, .int n])), (wa, .inl (cC, 60, .inl f))] sz) [(v, .inr (4, [.ref w, .int dec, .int bel, .long ah, .long bh])), (w, .inr (2, [.ref wa, .int n])), (wa, .inl (cC, 60, .inl f))]) (va_A [(v, .inr (4, [.ref w, .int dec, .int bel, .long ah, .long bh])), (w, .inr (2, [.ref wa, .int n])), (wa, .inl (cC, 60, .inl f))] sz)) 0 0 (va_A [(v, .inr (4, [.ref w, .int dec, .int bel, .long ah, .long bh])), (w, .inr (2, [.ref wa, .int n])), (wa, .inl (cC, 60, .inl f))] sz) := by
  refine Met.ofW (cc := b_Va_isStar) (maxL := 1) (ret := (some .boolean)) (by decide) rfl ?_
  intro p e s m args below meth c s₁ B hml hv
  obtain ⟨rfl, hsz, hP, hK, hD0⟩ := hv
  have hx := B.exec
  have hb := B.bytes
  have hr := B.returns
  have hts := atoms_spec (ws := w_Va_isStar) B.pre
  have hT : ∀ w ∈ TB, w.before _ s = true := fun w h => hts w (List.mem_cons_of_mem _ h)
  have hown : s.vm.findClass R_Va = some m.cls := findClass_of_methodNamed B.named
  have hlocks := B.notSynchronized
  subst hsz
  have hD := hD0.self (sz := s.heap.size)
  generalize hAe : va_A [(v, .inr (4, [.ref w, .int dec, .int bel, .long ah, .long bh])), (w, .inr (2, [.ref wa, .int n])), (wa, .inl (cC, 60, .inl f))] s.heap.size = A at hD ⊢
  have hA : ∀ q : Nat, s.heap.size ≤ q → A q := fun q h => by rw [← hAe]; exact Or.inr h
  have hS : va_S A s.heap s.heap [] := va_S.rf
  have hP : va_P (dC, dI) CL [(v, .inr (4, [.ref w, .int dec, .int bel, .long ah, .long bh])), (w, .inr (2, [.ref wa, .int n])), (wa, .inl (cC, 60, .inl f))] s.heap := hP
  have hl := lv_entry ([.ref v]) (n := 1) (Nat.le_of_ble_eq_true rfl)
  rw [lg_entry_eq]
  generalize (lg_sl ([.ref v]) ++ List.replicate (1 - (lg_sl ([.ref v])).length) Slot.unset).toArray = ls at hl ⊢
  have hl : lv_has ls 1 [(0, .ref v)] := hl
  refine lv_aload_n hx hb d_Va_isStar_0 rfl (lv_at hl 0 rfl) ?_
  refine va_get (D := (dC, dI)) (ci := 4) (v := .int dec) (C := R_Va) (T := F_Va) (N := 5) hx hb hT (in_Va) hown hK hP 0 rfl rfl 1 (by decide) (hT _ t_51) (fun _ h9 => h9) rfl d_Va_isStar_1 ?_
  refine lv_if_eq (tgt := 22) hx hb d_Va_isStar_4 (by decide) (fun c4_1 => ?_) (fun c4_1 => ?_)
  · skip
    refine lv_iconst (v := 0) hx hb d_Va_isStar_22 (by decide) ?_
    have hP9 := hP.sub (ws' := [(v, .inr (4, [.ref w, .int dec, .int bel, .long ah, .long bh])), (w, .inr (2, [.ref wa, .int n])), (wa, .inl (cC, 60, .inl f))]) [0, 1, 2] rfl
    have hD9 := hD.sub (ws' := [(v, .inr (4, [.ref w, .int dec, .int bel, .long ah, .long bh])), (w, .inr (2, [.ref wa, .int n])), (wa, .inl (cC, 60, .inl f))]) [0, 1, 2] (by decide) rfl
    have hK9 := hK.sub (tys' := [(cC, .char)]) [0] rfl
    have hq9 : (0 : Int32) = k_b (vaStar dec ah) := by simp [k_b, vaStar, c4_1]
    exact W.zret (v := 0) hx hb hr rfl (fun t ht hW => ⟨⟨0, (), rfl, hq9, by rw [ht]; exact hP9, va_K.moved hW.alike hK9, hD9⟩, hS.F ht⟩) hS.2.2 d_Va_isStar_23
  · skip
    refine lv_aload_n hx hb d_Va_isStar_7 rfl (lv_at hl 0 rfl) ?_
    refine va_get (D := (dC, dI)) (ci := 4) (v := .long ah) (C := R_Va) (T := F_Va) (N := 5) hx hb hT (in_Va) hown hK hP 0 rfl rfl 3 (by decide) (hT _ t_57) (fun _ h9 => h9) rfl d_Va_isStar_8 ?_
    refine lv_ldc2 (v := 99) hx hb hown (hT _ t_458) d_Va_isStar_11 ?_
    refine W.lcmp hx hb d_Va_isStar_14 ?_
    refine lv_if_gt (tgt := 22) hx hb d_Va_isStar_15 (by decide) (fun c15_2 => ?_) (fun c15_2 => ?_)
    · skip
      rw [lg_cmp_gt] at c15_2
      refine lv_iconst (v := 0) hx hb d_Va_isStar_22 (by decide) ?_
      have hP9 := hP.sub (ws' := [(v, .inr (4, [.ref w, .int dec, .int bel, .long ah, .long bh])), (w, .inr (2, [.ref wa, .int n])), (wa, .inl (cC, 60, .inl f))]) [0, 1, 2] rfl
      have hD9 := hD.sub (ws' := [(v, .inr (4, [.ref w, .int dec, .int bel, .long ah, .long bh])), (w, .inr (2, [.ref wa, .int n])), (wa, .inl (cC, 60, .inl f))]) [0, 1, 2] (by decide) rfl
      have hK9 := hK.sub (tys' := [(cC, .char)]) [0] rfl
      have hq9 : (0 : Int32) = k_b (vaStar dec ah) := by simp [k_b, vaStar, c4_1, c15_2]
      exact W.zret (v := 0) hx hb hr rfl (fun t ht hW => ⟨⟨0, (), rfl, hq9, by rw [ht]; exact hP9, va_K.moved hW.alike hK9, hD9⟩, hS.F ht⟩) hS.2.2 d_Va_isStar_23
    · skip
      rw [lg_cmp_gt] at c15_2
      refine lv_iconst (v := 1) hx hb d_Va_isStar_18 (by decide) ?_
      refine lv_goto (tgt := 23) hx hb d_Va_isStar_19 (by decide) ?_
      have hP9 := hP.sub (ws' := [(v, .inr (4, [.ref w, .int dec, .int bel, .long ah, .long bh])), (w, .inr (2, [.ref wa, .int n])), (wa, .inl (cC, 60, .inl f))]) [0, 1, 2] rfl
      have hD9 := hD.sub (ws' := [(v, .inr (4, [.ref w, .int dec, .int bel, .long ah, .long bh])), (w, .inr (2, [.ref wa, .int n])), (wa, .inl (cC, 60, .inl f))]) [0, 1, 2] (by decide) rfl
      have hK9 := hK.sub (tys' := [(cC, .char)]) [0] rfl
      have hq9 : (1 : Int32) = k_b (vaStar dec ah) := by simp [k_b, vaStar, c4_1, c15_2]
      exact W.zret (v := 1) hx hb hr rfl (fun t ht hW => ⟨⟨1, (), rfl, hq9, by rw [ht]; exact hP9, va_K.moved hW.alike hK9, hD9⟩, hS.F ht⟩) hS.2.2 d_Va_isStar_23

set_option maxHeartbeats 4000000 in
set_option maxRecDepth 100000 in
theorem c_Value_isMark (l : Launch) (dC : Nat → ClassId) (dI : Nat → Nat → Nat) (sz : Nat) (cC : ClassId) (v : Nat) (w : Nat) (wa : Nat) (dec : Int32) (bel : Int32) (ah : Int64) (bh : Int64) (f : Nat → Int32) (n : Int32)  : Met l y_Va_isMark w_Va_isMark ({ frames := 1, cells := 0, slots := 0, locals := 20 } : Room) (va_Pc [.ref v] (fun U => U.heap.size = sz ∧ va_P (dC, dI) CL [(v, .inr (4, [.ref w, .int dec, .int bel, .long ah, .long bh])), (w, .inr (2, [.ref wa, .int n])), (wa, .inl (cC, 60, .inl f))] U.heap ∧ va_K (dC, dI) CL [(cC, .char)] U ∧ va_D (fun _ => True) [(v, .inr (4, [.ref w, .int dec, .int bel, .long ah, .long bh])), (w, .inr (2, [.ref wa, .int n])), (wa, .inl (cC, 60, .inl f))])) (va_Qi (fun (r : Int32) (u : Unit) => r = k_b (vaMark dec bel ah n)) (fun (u : Unit) (t : State) => va_P (dC, dI) CL [(v, .inr (4, [.ref w, .int dec, .int bel, .long ah, .long bh])), (w, .inr (2, [.ref wa, .int n])), (wa, .inl (cC, 60, .inl f))] t.heap ∧ va_K (dC, dI) CL [(cC, .char)] t ∧ va_D (va_A [(v, .inr (4, [.ref w, .int dec, .int bel, .long ah, .long bh])), (w, .inr (2, [.ref wa, .int n])), (wa, .inl (cC, 60, .inl f))] sz) [(v, .inr (4, [.ref w, .int dec, .int bel, .long ah, .long bh])), (w, .inr (2, [.ref wa, .int n])), (wa, .inl (cC, 60, .inl f))]) (va_A [(v, .inr (4, [.ref w, .int dec, .int bel, .long ah, .long bh])), (w, .inr (2, [.ref wa, .int n])), (wa, .inl (cC, 60, .inl f))] sz)) 0 0 (va_A [(v, .inr (4, [.ref w, .int dec, .int bel, .long ah, .long bh])), (w, .inr (2, [.ref wa, .int n])), (wa, .inl (cC, 60, .inl f))] sz) := by
  refine Met.ofW (cc := b_Va_isMark) (maxL := 1) (ret := (some .boolean)) (by decide) rfl ?_
  intro p e s m args below meth c s₁ B hml hv
  obtain ⟨rfl, hsz, hP, hK, hD0⟩ := hv
  have hx := B.exec
  have hb := B.bytes
  have hr := B.returns
  have hts := atoms_spec (ws := w_Va_isMark) B.pre
  have hT : ∀ w ∈ TB, w.before _ s = true := fun w h => hts w (List.mem_cons_of_mem _ h)
  have hown : s.vm.findClass R_Va = some m.cls := findClass_of_methodNamed B.named
  have hlocks := B.notSynchronized
  subst hsz
  have hD := hD0.self (sz := s.heap.size)
  generalize hAe : va_A [(v, .inr (4, [.ref w, .int dec, .int bel, .long ah, .long bh])), (w, .inr (2, [.ref wa, .int n])), (wa, .inl (cC, 60, .inl f))] s.heap.size = A at hD ⊢
  have hA : ∀ q : Nat, s.heap.size ≤ q → A q := fun q h => by rw [← hAe]; exact Or.inr h
  have hS : va_S A s.heap s.heap [] := va_S.rf
  have hP : va_P (dC, dI) CL [(v, .inr (4, [.ref w, .int dec, .int bel, .long ah, .long bh])), (w, .inr (2, [.ref wa, .int n])), (wa, .inl (cC, 60, .inl f))] s.heap := hP
  have hl := lv_entry ([.ref v]) (n := 1) (Nat.le_of_ble_eq_true rfl)
  rw [lg_entry_eq]
  generalize (lg_sl ([.ref v]) ++ List.replicate (1 - (lg_sl ([.ref v])).length) Slot.unset).toArray = ls at hl ⊢
  have hl : lv_has ls 1 [(0, .ref v)] := hl
  refine lv_aload_n hx hb d_Va_isMark_0 rfl (lv_at hl 0 rfl) ?_
  refine va_get (D := (dC, dI)) (ci := 4) (v := .int dec) (C := R_Va) (T := F_Va) (N := 5) hx hb hT (in_Va) hown hK hP 0 rfl rfl 1 (by decide) (hT _ t_51) (fun _ h9 => h9) rfl d_Va_isMark_1 ?_
  refine lv_if_ne (tgt := 24) hx hb d_Va_isMark_4 (by decide) (fun c4_1 => ?_) (fun c4_1 => ?_)
  · skip
    refine lv_aload_n hx hb d_Va_isMark_24 rfl (lv_at hl 0 rfl) ?_
    have hPc := hP.sub (ws' := [(v, .inr (4, [.ref w, .int dec, .int bel, .long ah, .long bh])), (w, .inr (2, [.ref wa, .int n])), (wa, .inl (cC, 60, .inl f))]) [0, 1, 2] rfl
    have hDc := hD.sub (ws' := [(v, .inr (4, [.ref w, .int dec, .int bel, .long ah, .long bh])), (w, .inr (2, [.ref wa, .int n])), (wa, .inl (cC, 60, .inl f))]) [0, 1, 2] (by decide) rfl
    have hKc := hK.sub (tys' := [(cC, .char)]) [0] rfl
    have hFc := va_free (wc := [(v, .inr (4, [.ref w, .int dec, .int bel, .long ah, .long bh])), (w, .inr (2, [.ref wa, .int n])), (wa, .inl (cC, 60, .inl f))]) hD hS hA [0, 1, 2] rfl
    refine va_calll (va_runV (As := []) (rest := []) ⟨hx, hb, hml, hown, hT⟩ (c_Value_wholePart l dC dI s.heap.size cC v w wa dec bel ah bh f n ) (cwV 0 hT g_Va_70 rfl rfl rfl (by decide +kernel) ⟨Nat.le_of_ble_eq_true rfl, Nat.le_of_ble_eq_true rfl⟩) ⟨fun a U g mk q => by obtain ⟨q0, q1, qP, qK, qD⟩ := q; exact ⟨q0, q1, qP, va_K.moved (u := U) (U := U.calling g mk a) (Vm.Alike.refl U.vm) qK, qD⟩, va_recv hKc hPc (ci := 4) (q0 := 0) rfl rfl, fun U hU hW => ⟨rfl, by rw [hU], by rw [hU]; exact hPc, va_K.moved hW.alike hKc, hDc.weaken (fun _ _ _ _ => trivial)⟩⟩ rfl rfl hl.1 rfl (lv_room (Nat.le_of_ble_eq_true rfl)) d_Va_isMark_25 ⟨Nat.le_of_ble_eq_true rfl, Nat.le_of_ble_eq_true rfl⟩) hS (fun q _ h => hFc q h) hFc (fun x2 u t H1 locs ht hvm w25_2 hB hz1 hk1 hS => ?_)
    obtain ⟨hP1, hK1, hD1⟩ := hB
    rw [ht] at hP1
    try dsimp only at w25_2
    obtain ⟨hP, hD⟩ := va_join (wr := []) (w1 := [(v, .inr (4, [.ref w, .int dec, .int bel, .long ah, .long bh])), (w, .inr (2, [.ref wa, .int n])), (wa, .inl (cC, 60, .inl f))]) hP hD [0, 1, 2] [] rfl rfl (by decide) (by decide) hk1 hFc hP1 hD1
    generalize H1 = H at hP hS ⊢
    have hP : va_P (dC, dI) CL [(v, .inr (4, [.ref w, .int dec, .int bel, .long ah, .long bh])), (w, .inr (2, [.ref wa, .int n])), (wa, .inl (cC, 60, .inl f))] H := hP
    have hD : va_D A [(v, .inr (4, [.ref w, .int dec, .int bel, .long ah, .long bh])), (w, .inr (2, [.ref wa, .int n])), (wa, .inl (cC, 60, .inl f))] := hD
    refine lv_ldc2 (v := 32) hx hb hown (hT _ t_483) d_Va_isMark_28 ?_
    refine W.lcmp hx hb d_Va_isMark_31 ?_
    refine lv_if_lt (tgt := 50) hx hb d_Va_isMark_32 (by decide) (fun c32_3 => ?_) (fun c32_3 => ?_)
    · skip
      rw [lg_cmp_lt] at c32_3
      rw [w25_2] at c32_3
      refine lv_iconst (v := 0) hx hb d_Va_isMark_50 (by decide) ?_
      have hP9 := hP.sub (ws' := [(v, .inr (4, [.ref w, .int dec, .int bel, .long ah, .long bh])), (w, .inr (2, [.ref wa, .int n])), (wa, .inl (cC, 60, .inl f))]) [0, 1, 2] rfl
      have hD9 := hD.sub (ws' := [(v, .inr (4, [.ref w, .int dec, .int bel, .long ah, .long bh])), (w, .inr (2, [.ref wa, .int n])), (wa, .inl (cC, 60, .inl f))]) [0, 1, 2] (by decide) rfl
      have hK9 := hK.sub (tys' := [(cC, .char)]) [0] rfl
      have hq9 : (0 : Int32) = k_b (vaMark dec bel ah n) := by simp [k_b, vaMark, c4_1, c32_3]
      exact W.zret (v := 0) hx hb hr rfl (fun t ht hW => ⟨⟨0, (), rfl, hq9, by rw [ht]; exact hP9, va_K.moved hW.alike hK9, hD9⟩, hS.F ht⟩) hS.2.2 d_Va_isMark_51
    · skip
      rw [lg_cmp_lt] at c32_3
      rw [w25_2] at c32_3
      refine lv_aload_n hx hb d_Va_isMark_35 rfl (lv_at hl 0 rfl) ?_
      have hPc := hP.sub (ws' := [(v, .inr (4, [.ref w, .int dec, .int bel, .long ah, .long bh])), (w, .inr (2, [.ref wa, .int n])), (wa, .inl (cC, 60, .inl f))]) [0, 1, 2] rfl
      have hDc := hD.sub (ws' := [(v, .inr (4, [.ref w, .int dec, .int bel, .long ah, .long bh])), (w, .inr (2, [.ref wa, .int n])), (wa, .inl (cC, 60, .inl f))]) [0, 1, 2] (by decide) rfl
      have hKc := hK.sub (tys' := [(cC, .char)]) [0] rfl
      have hFc := va_free (wc := [(v, .inr (4, [.ref w, .int dec, .int bel, .long ah, .long bh])), (w, .inr (2, [.ref wa, .int n])), (wa, .inl (cC, 60, .inl f))]) hD hS hA [0, 1, 2] rfl
      refine va_calll (va_runV (As := []) (rest := []) ⟨hx, hb, hml, hown, hT⟩ (c_Value_wholePart l dC dI H.size cC v w wa dec bel ah bh f n ) (cwV 0 hT g_Va_70 rfl rfl rfl (by decide +kernel) ⟨Nat.le_of_ble_eq_true rfl, Nat.le_of_ble_eq_true rfl⟩) ⟨fun a U g mk q => by obtain ⟨q0, q1, qP, qK, qD⟩ := q; exact ⟨q0, q1, qP, va_K.moved (u := U) (U := U.calling g mk a) (Vm.Alike.refl U.vm) qK, qD⟩, va_recv hKc hPc (ci := 4) (q0 := 0) rfl rfl, fun U hU hW => ⟨rfl, by rw [hU], by rw [hU]; exact hPc, va_K.moved hW.alike hKc, hDc.weaken (fun _ _ _ _ => trivial)⟩⟩ rfl rfl hl.1 rfl (lv_room (Nat.le_of_ble_eq_true rfl)) d_Va_isMark_36 ⟨Nat.le_of_ble_eq_true rfl, Nat.le_of_ble_eq_true rfl⟩) hS (fun q _ h => hFc q h) hFc (fun x4 u t H1 locs ht hvm w36_4 hB hz1 hk1 hS => ?_)
      obtain ⟨hP1, hK1, hD1⟩ := hB
      rw [ht] at hP1
      try dsimp only at w36_4
      obtain ⟨hP, hD⟩ := va_join (wr := []) (w1 := [(v, .inr (4, [.ref w, .int dec, .int bel, .long ah, .long bh])), (w, .inr (2, [.ref wa, .int n])), (wa, .inl (cC, 60, .inl f))]) hP hD [0, 1, 2] [] rfl rfl (by decide) (by decide) hk1 hFc hP1 hD1
      generalize H1 = H at hP hS ⊢
      have hP : va_P (dC, dI) CL [(v, .inr (4, [.ref w, .int dec, .int bel, .long ah, .long bh])), (w, .inr (2, [.ref wa, .int n])), (wa, .inl (cC, 60, .inl f))] H := hP
      have hD : va_D A [(v, .inr (4, [.ref w, .int dec, .int bel, .long ah, .long bh])), (w, .inr (2, [.ref wa, .int n])), (wa, .inl (cC, 60, .inl f))] := hD
      refine lv_ldc2 (v := 126) hx hb hown (hT _ t_484) d_Va_isMark_39 ?_
      refine W.lcmp hx hb d_Va_isMark_42 ?_
      refine lv_if_gt (tgt := 50) hx hb d_Va_isMark_43 (by decide) (fun c43_5 => ?_) (fun c43_5 => ?_)
      · skip
        rw [lg_cmp_gt] at c43_5
        rw [w36_4] at c43_5
        refine lv_iconst (v := 0) hx hb d_Va_isMark_50 (by decide) ?_
        have hP9 := hP.sub (ws' := [(v, .inr (4, [.ref w, .int dec, .int bel, .long ah, .long bh])), (w, .inr (2, [.ref wa, .int n])), (wa, .inl (cC, 60, .inl f))]) [0, 1, 2] rfl
        have hD9 := hD.sub (ws' := [(v, .inr (4, [.ref w, .int dec, .int bel, .long ah, .long bh])), (w, .inr (2, [.ref wa, .int n])), (wa, .inl (cC, 60, .inl f))]) [0, 1, 2] (by decide) rfl
        have hK9 := hK.sub (tys' := [(cC, .char)]) [0] rfl
        have hq9 : (0 : Int32) = k_b (vaMark dec bel ah n) := by simp [k_b, vaMark, c4_1, c32_3, c43_5]
        exact W.zret (v := 0) hx hb hr rfl (fun t ht hW => ⟨⟨0, (), rfl, hq9, by rw [ht]; exact hP9, va_K.moved hW.alike hK9, hD9⟩, hS.F ht⟩) hS.2.2 d_Va_isMark_51
      · skip
        rw [lg_cmp_gt] at c43_5
        rw [w36_4] at c43_5
        refine lv_iconst (v := 1) hx hb d_Va_isMark_46 (by decide) ?_
        refine lv_goto (tgt := 51) hx hb d_Va_isMark_47 (by decide) ?_
        have hP9 := hP.sub (ws' := [(v, .inr (4, [.ref w, .int dec, .int bel, .long ah, .long bh])), (w, .inr (2, [.ref wa, .int n])), (wa, .inl (cC, 60, .inl f))]) [0, 1, 2] rfl
        have hD9 := hD.sub (ws' := [(v, .inr (4, [.ref w, .int dec, .int bel, .long ah, .long bh])), (w, .inr (2, [.ref wa, .int n])), (wa, .inl (cC, 60, .inl f))]) [0, 1, 2] (by decide) rfl
        have hK9 := hK.sub (tys' := [(cC, .char)]) [0] rfl
        have hq9 : (1 : Int32) = k_b (vaMark dec bel ah n) := by simp [k_b, vaMark, c4_1, c32_3, c43_5]
        exact W.zret (v := 1) hx hb hr rfl (fun t ht hW => ⟨⟨1, (), rfl, hq9, by rw [ht]; exact hP9, va_K.moved hW.alike hK9, hD9⟩, hS.F ht⟩) hS.2.2 d_Va_isMark_51
  · skip
    refine lv_aload_n hx hb d_Va_isMark_7 rfl (lv_at hl 0 rfl) ?_
    refine va_get (D := (dC, dI)) (ci := 4) (v := .ref w) (C := R_Va) (T := F_Va) (N := 5) hx hb hT (in_Va) hown hK hP 0 rfl rfl 0 (by decide) (hT _ t_49) (fun _ h9 => h9) rfl d_Va_isMark_8 ?_
    have hPc := hP.sub (ws' := [(w, .inr (2, [.ref wa, .int n])), (wa, .inl (cC, 60, .inl f))]) [1, 2] rfl
    have hDc := hD.sub (ws' := [(w, .inr (2, [.ref wa, .int n])), (wa, .inl (cC, 60, .inl f))]) [1, 2] (by decide) rfl
    have hKc := hK.sub (tys' := [(cC, .char)]) [0] rfl
    have hFc := va_free (wc := [(w, .inr (2, [.ref wa, .int n])), (wa, .inl (cC, 60, .inl f))]) hD hS hA [1, 2] rfl
    refine va_calli (va_runV (As := []) (rest := []) ⟨hx, hb, hml, hown, hT⟩ (c_Line_size l dC dI s.heap.size cC w wa 60 f n ) (cwV 0 hT g_Va_27 rfl rfl rfl (by decide +kernel) ⟨Nat.le_of_ble_eq_true rfl, Nat.le_of_ble_eq_true rfl⟩) ⟨fun a U g mk q => by obtain ⟨q0, q1, qP, qK, qD⟩ := q; exact ⟨q0, q1, qP, va_K.moved (u := U) (U := U.calling g mk a) (Vm.Alike.refl U.vm) qK, qD⟩, va_recv hKc hPc (ci := 2) (q0 := 0) rfl rfl, fun U hU hW => ⟨rfl, by rw [hU], by rw [hU]; exact hPc, va_K.moved hW.alike hKc, hDc.weaken (fun _ _ _ _ => trivial)⟩⟩ rfl rfl hl.1 rfl (lv_room (Nat.le_of_ble_eq_true rfl)) d_Va_isMark_11 ⟨Nat.le_of_ble_eq_true rfl, Nat.le_of_ble_eq_true rfl⟩) hS (fun q _ h => hFc q h) hFc (fun x6 u t H1 locs ht hvm w11_6 hB hz1 hk1 hS => ?_)
    obtain ⟨hP1, hK1, hD1⟩ := hB
    rw [ht] at hP1
    try dsimp only at w11_6
    obtain ⟨hP, hD⟩ := va_join (wr := [(v, .inr (4, [.ref w, .int dec, .int bel, .long ah, .long bh]))]) (w1 := [(w, .inr (2, [.ref wa, .int n])), (wa, .inl (cC, 60, .inl f))]) hP hD [1, 2] [0] rfl rfl (by decide) (by decide) hk1 hFc hP1 hD1
    generalize H1 = H at hP hS ⊢
    have hP : va_P (dC, dI) CL [(v, .inr (4, [.ref w, .int dec, .int bel, .long ah, .long bh])), (w, .inr (2, [.ref wa, .int n])), (wa, .inl (cC, 60, .inl f))] H := hP
    have hD : va_D A [(v, .inr (4, [.ref w, .int dec, .int bel, .long ah, .long bh])), (w, .inr (2, [.ref wa, .int n])), (wa, .inl (cC, 60, .inl f))] := hD
    refine lv_iconst (v := 1) hx hb d_Va_isMark_14 (by decide) ?_
    refine lv_icmp_ne (tgt := 22) hx hb d_Va_isMark_15 (by decide) (fun c15_7 => ?_) (fun c15_7 => ?_)
    · skip
      rw [w11_6] at c15_7
      refine lv_iconst (v := 0) hx hb d_Va_isMark_22 (by decide) ?_
      have hP9 := hP.sub (ws' := [(v, .inr (4, [.ref w, .int dec, .int bel, .long ah, .long bh])), (w, .inr (2, [.ref wa, .int n])), (wa, .inl (cC, 60, .inl f))]) [0, 1, 2] rfl
      have hD9 := hD.sub (ws' := [(v, .inr (4, [.ref w, .int dec, .int bel, .long ah, .long bh])), (w, .inr (2, [.ref wa, .int n])), (wa, .inl (cC, 60, .inl f))]) [0, 1, 2] (by decide) rfl
      have hK9 := hK.sub (tys' := [(cC, .char)]) [0] rfl
      have hq9 : (0 : Int32) = k_b (vaMark dec bel ah n) := by simp [k_b, vaMark, c4_1, c15_7]
      exact W.zret (v := 0) hx hb hr rfl (fun t ht hW => ⟨⟨0, (), rfl, hq9, by rw [ht]; exact hP9, va_K.moved hW.alike hK9, hD9⟩, hS.F ht⟩) hS.2.2 d_Va_isMark_23
    · skip
      rw [w11_6] at c15_7
      refine lv_iconst (v := 1) hx hb d_Va_isMark_18 (by decide) ?_
      refine lv_goto (tgt := 23) hx hb d_Va_isMark_19 (by decide) ?_
      have hP9 := hP.sub (ws' := [(v, .inr (4, [.ref w, .int dec, .int bel, .long ah, .long bh])), (w, .inr (2, [.ref wa, .int n])), (wa, .inl (cC, 60, .inl f))]) [0, 1, 2] rfl
      have hD9 := hD.sub (ws' := [(v, .inr (4, [.ref w, .int dec, .int bel, .long ah, .long bh])), (w, .inr (2, [.ref wa, .int n])), (wa, .inl (cC, 60, .inl f))]) [0, 1, 2] (by decide) rfl
      have hK9 := hK.sub (tys' := [(cC, .char)]) [0] rfl
      have hq9 : (1 : Int32) = k_b (vaMark dec bel ah n) := by simp [k_b, vaMark, c4_1, c15_7]
      exact W.zret (v := 1) hx hb hr rfl (fun t ht hW => ⟨⟨1, (), rfl, hq9, by rw [ht]; exact hP9, va_K.moved hW.alike hK9, hD9⟩, hS.F ht⟩) hS.2.2 d_Va_isMark_23

set_option maxHeartbeats 4000000 in
set_option maxRecDepth 100000 in
theorem c_Value_mark (l : Launch) (dC : Nat → ClassId) (dI : Nat → Nat → Nat) (sz : Nat) (cC : ClassId) (v : Nat) (w : Nat) (wa : Nat) (dec : Int32) (bel : Int32) (ah : Int64) (bh : Int64) (f : Nat → Int32) (n : Int32) (hn : lnOK 60 n) : Met l y_Va_mark w_Va_mark ({ frames := 1, cells := 0, slots := 0, locals := 21 } : Room) (va_Pc [.ref v] (fun U => U.heap.size = sz ∧ va_P (dC, dI) CL [(v, .inr (4, [.ref w, .int dec, .int bel, .long ah, .long bh])), (w, .inr (2, [.ref wa, .int n])), (wa, .inl (cC, 60, .inl f))] U.heap ∧ va_K (dC, dI) CL [(cC, .char)] U ∧ va_D (fun _ => True) [(v, .inr (4, [.ref w, .int dec, .int bel, .long ah, .long bh])), (w, .inr (2, [.ref wa, .int n])), (wa, .inl (cC, 60, .inl f))])) (va_Qi (fun (r : Int32) (u : Unit) => r = vaChar dec bel ah f n) (fun (u : Unit) (t : State) => va_P (dC, dI) CL [(v, .inr (4, [.ref w, .int dec, .int bel, .long ah, .long bh])), (w, .inr (2, [.ref wa, .int n])), (wa, .inl (cC, 60, .inl f))] t.heap ∧ va_K (dC, dI) CL [(cC, .char)] t ∧ va_D (va_A [(v, .inr (4, [.ref w, .int dec, .int bel, .long ah, .long bh])), (w, .inr (2, [.ref wa, .int n])), (wa, .inl (cC, 60, .inl f))] sz) [(v, .inr (4, [.ref w, .int dec, .int bel, .long ah, .long bh])), (w, .inr (2, [.ref wa, .int n])), (wa, .inl (cC, 60, .inl f))]) (va_A [(v, .inr (4, [.ref w, .int dec, .int bel, .long ah, .long bh])), (w, .inr (2, [.ref wa, .int n])), (wa, .inl (cC, 60, .inl f))] sz)) 0 0 (va_A [(v, .inr (4, [.ref w, .int dec, .int bel, .long ah, .long bh])), (w, .inr (2, [.ref wa, .int n])), (wa, .inl (cC, 60, .inl f))] sz) := by
  refine Met.ofW (cc := b_Va_mark) (maxL := 1) (ret := (some .int)) (by decide) rfl ?_
  intro p e s m args below meth c s₁ B hml hv
  obtain ⟨rfl, hsz, hP, hK, hD0⟩ := hv
  have hx := B.exec
  have hb := B.bytes
  have hr := B.returns
  have hts := atoms_spec (ws := w_Va_mark) B.pre
  have hT : ∀ w ∈ TB, w.before _ s = true := fun w h => hts w (List.mem_cons_of_mem _ h)
  have hown : s.vm.findClass R_Va = some m.cls := findClass_of_methodNamed B.named
  have hlocks := B.notSynchronized
  subst hsz
  have hD := hD0.self (sz := s.heap.size)
  generalize hAe : va_A [(v, .inr (4, [.ref w, .int dec, .int bel, .long ah, .long bh])), (w, .inr (2, [.ref wa, .int n])), (wa, .inl (cC, 60, .inl f))] s.heap.size = A at hD ⊢
  have hA : ∀ q : Nat, s.heap.size ≤ q → A q := fun q h => by rw [← hAe]; exact Or.inr h
  have hS : va_S A s.heap s.heap [] := va_S.rf
  have hP : va_P (dC, dI) CL [(v, .inr (4, [.ref w, .int dec, .int bel, .long ah, .long bh])), (w, .inr (2, [.ref wa, .int n])), (wa, .inl (cC, 60, .inl f))] s.heap := hP
  have hl := lv_entry ([.ref v]) (n := 1) (Nat.le_of_ble_eq_true rfl)
  rw [lg_entry_eq]
  generalize (lg_sl ([.ref v]) ++ List.replicate (1 - (lg_sl ([.ref v])).length) Slot.unset).toArray = ls at hl ⊢
  have hl : lv_has ls 1 [(0, .ref v)] := hl
  refine lv_aload_n hx hb d_Va_mark_0 rfl (lv_at hl 0 rfl) ?_
  refine va_get (D := (dC, dI)) (ci := 4) (v := .int dec) (C := R_Va) (T := F_Va) (N := 5) hx hb hT (in_Va) hown hK hP 0 rfl rfl 1 (by decide) (hT _ t_51) (fun _ h9 => h9) rfl d_Va_mark_1 ?_
  refine lv_if_eq (tgt := 15) hx hb d_Va_mark_4 (by decide) (fun c4_1 => ?_) (fun c4_1 => ?_)
  · skip
    refine lv_aload_n hx hb d_Va_mark_15 rfl (lv_at hl 0 rfl) ?_
    refine va_get (D := (dC, dI)) (ci := 4) (v := .ref w) (C := R_Va) (T := F_Va) (N := 5) hx hb hT (in_Va) hown hK hP 0 rfl rfl 0 (by decide) (hT _ t_49) (fun _ h9 => h9) rfl d_Va_mark_16 ?_
    refine lv_iconst (v := 0) hx hb d_Va_mark_19 (by decide) ?_
    have hPc := hP.sub (ws' := [(w, .inr (2, [.ref wa, .int n])), (wa, .inl (cC, 60, .inl f))]) [1, 2] rfl
    have hDc := hD.sub (ws' := [(w, .inr (2, [.ref wa, .int n])), (wa, .inl (cC, 60, .inl f))]) [1, 2] (by decide) rfl
    have hKc := hK.sub (tys' := [(cC, .char)]) [0] rfl
    have hFc := va_free (wc := [(w, .inr (2, [.ref wa, .int n])), (wa, .inl (cC, 60, .inl f))]) hD hS hA [1, 2] rfl
    refine va_calli (va_runV (As := [.int 0]) (rest := []) ⟨hx, hb, hml, hown, hT⟩ (c_Line_at l dC dI s.heap.size cC w wa 60 f n 0 (by first | assumption | omega)) (cwV 1 hT g_Va_35 rfl rfl rfl (by decide +kernel) ⟨Nat.le_of_ble_eq_true rfl, Nat.le_of_ble_eq_true rfl⟩) ⟨fun a U g mk q => by obtain ⟨q0, q1, qP, qK, qD⟩ := q; exact ⟨q0, q1, qP, va_K.moved (u := U) (U := U.calling g mk a) (Vm.Alike.refl U.vm) qK, qD⟩, va_recv hKc hPc (ci := 2) (q0 := 0) rfl rfl, fun U hU hW => ⟨rfl, by rw [hU], by rw [hU]; exact hPc, va_K.moved hW.alike hKc, hDc.weaken (fun _ _ _ _ => trivial)⟩⟩ rfl rfl hl.1 rfl (lv_room (Nat.le_of_ble_eq_true rfl)) d_Va_mark_20 ⟨Nat.le_of_ble_eq_true rfl, Nat.le_of_ble_eq_true rfl⟩) hS (fun q _ h => hFc q h) hFc (fun x2 u t H1 locs ht hvm w20_2 hB hz1 hk1 hS => ?_)
    obtain ⟨hP1, hK1, hD1⟩ := hB
    rw [ht] at hP1
    try dsimp only at w20_2
    obtain ⟨hP, hD⟩ := va_join (wr := [(v, .inr (4, [.ref w, .int dec, .int bel, .long ah, .long bh]))]) (w1 := [(w, .inr (2, [.ref wa, .int n])), (wa, .inl (cC, 60, .inl f))]) hP hD [1, 2] [0] rfl rfl (by decide) (by decide) hk1 hFc hP1 hD1
    generalize H1 = H at hP hS ⊢
    have hP : va_P (dC, dI) CL [(v, .inr (4, [.ref w, .int dec, .int bel, .long ah, .long bh])), (w, .inr (2, [.ref wa, .int n])), (wa, .inl (cC, 60, .inl f))] H := hP
    have hD : va_D A [(v, .inr (4, [.ref w, .int dec, .int bel, .long ah, .long bh])), (w, .inr (2, [.ref wa, .int n])), (wa, .inl (cC, 60, .inl f))] := hD
    have hP9 := hP.sub (ws' := [(v, .inr (4, [.ref w, .int dec, .int bel, .long ah, .long bh])), (w, .inr (2, [.ref wa, .int n])), (wa, .inl (cC, 60, .inl f))]) [0, 1, 2] rfl
    have hD9 := hD.sub (ws' := [(v, .inr (4, [.ref w, .int dec, .int bel, .long ah, .long bh])), (w, .inr (2, [.ref wa, .int n])), (wa, .inl (cC, 60, .inl f))]) [0, 1, 2] (by decide) rfl
    have hK9 := hK.sub (tys' := [(cC, .char)]) [0] rfl
    have hq9 : x2 = vaChar dec bel ah f n := by rw [vaChar, if_pos c4_1]; exact w20_2
    exact W.iret (v := x2) hx hb hr (fun t ht hW => ⟨⟨x2, (), rfl, hq9, by rw [ht]; exact hP9, va_K.moved hW.alike hK9, hD9⟩, hS.F ht⟩) hS.2.2 d_Va_mark_23
  · skip
    refine lv_aload_n hx hb d_Va_mark_7 rfl (lv_at hl 0 rfl) ?_
    have hPc := hP.sub (ws' := [(v, .inr (4, [.ref w, .int dec, .int bel, .long ah, .long bh])), (w, .inr (2, [.ref wa, .int n])), (wa, .inl (cC, 60, .inl f))]) [0, 1, 2] rfl
    have hDc := hD.sub (ws' := [(v, .inr (4, [.ref w, .int dec, .int bel, .long ah, .long bh])), (w, .inr (2, [.ref wa, .int n])), (wa, .inl (cC, 60, .inl f))]) [0, 1, 2] (by decide) rfl
    have hKc := hK.sub (tys' := [(cC, .char)]) [0] rfl
    have hFc := va_free (wc := [(v, .inr (4, [.ref w, .int dec, .int bel, .long ah, .long bh])), (w, .inr (2, [.ref wa, .int n])), (wa, .inl (cC, 60, .inl f))]) hD hS hA [0, 1, 2] rfl
    refine va_calll (va_runV (As := []) (rest := []) ⟨hx, hb, hml, hown, hT⟩ (c_Value_wholePart l dC dI s.heap.size cC v w wa dec bel ah bh f n ) (cwV 0 hT g_Va_70 rfl rfl rfl (by decide +kernel) ⟨Nat.le_of_ble_eq_true rfl, Nat.le_of_ble_eq_true rfl⟩) ⟨fun a U g mk q => by obtain ⟨q0, q1, qP, qK, qD⟩ := q; exact ⟨q0, q1, qP, va_K.moved (u := U) (U := U.calling g mk a) (Vm.Alike.refl U.vm) qK, qD⟩, va_recv hKc hPc (ci := 4) (q0 := 0) rfl rfl, fun U hU hW => ⟨rfl, by rw [hU], by rw [hU]; exact hPc, va_K.moved hW.alike hKc, hDc.weaken (fun _ _ _ _ => trivial)⟩⟩ rfl rfl hl.1 rfl (lv_room (Nat.le_of_ble_eq_true rfl)) d_Va_mark_8 ⟨Nat.le_of_ble_eq_true rfl, Nat.le_of_ble_eq_true rfl⟩) hS (fun q _ h => hFc q h) hFc (fun x3 u t H1 locs ht hvm w8_3 hB hz1 hk1 hS => ?_)
    obtain ⟨hP1, hK1, hD1⟩ := hB
    rw [ht] at hP1
    try dsimp only at w8_3
    obtain ⟨hP, hD⟩ := va_join (wr := []) (w1 := [(v, .inr (4, [.ref w, .int dec, .int bel, .long ah, .long bh])), (w, .inr (2, [.ref wa, .int n])), (wa, .inl (cC, 60, .inl f))]) hP hD [0, 1, 2] [] rfl rfl (by decide) (by decide) hk1 hFc hP1 hD1
    generalize H1 = H at hP hS ⊢
    have hP : va_P (dC, dI) CL [(v, .inr (4, [.ref w, .int dec, .int bel, .long ah, .long bh])), (w, .inr (2, [.ref wa, .int n])), (wa, .inl (cC, 60, .inl f))] H := hP
    have hD : va_D A [(v, .inr (4, [.ref w, .int dec, .int bel, .long ah, .long bh])), (w, .inr (2, [.ref wa, .int n])), (wa, .inl (cC, 60, .inl f))] := hD
    refine lv_l2i (v := x3.toInt32) hx hb d_Va_mark_11 rfl ?_
    refine lv_topi (fun x4 ex4 => ?_)
    refine lv_goto (tgt := 23) hx hb d_Va_mark_12 (by decide) ?_
    have hP9 := hP.sub (ws' := [(v, .inr (4, [.ref w, .int dec, .int bel, .long ah, .long bh])), (w, .inr (2, [.ref wa, .int n])), (wa, .inl (cC, 60, .inl f))]) [0, 1, 2] rfl
    have hD9 := hD.sub (ws' := [(v, .inr (4, [.ref w, .int dec, .int bel, .long ah, .long bh])), (w, .inr (2, [.ref wa, .int n])), (wa, .inl (cC, 60, .inl f))]) [0, 1, 2] (by decide) rfl
    have hK9 := hK.sub (tys' := [(cC, .char)]) [0] rfl
    have hq9 : x4 = vaChar dec bel ah f n := by rw [vaChar, if_neg c4_1, ← w8_3]; exact ex4
    exact W.iret (v := x4) hx hb hr (fun t ht hW => ⟨⟨x4, (), rfl, hq9, by rw [ht]; exact hP9, va_K.moved hW.alike hK9, hD9⟩, hS.F ht⟩) hS.2.2 d_Va_mark_23

set_option maxHeartbeats 4000000 in
set_option maxRecDepth 100000 in
theorem c_Value_matches (l : Launch) (dC : Nat → ClassId) (dI : Nat → Nat → Nat) (sz : Nat) (cC : ClassId) (v : Nat) (w : Nat) (wa : Nat) (dec : Int32) (bel : Int32) (ah : Int64) (bh : Int64) (f : Nat → Int32) (n : Int32) (v2 : Nat) (w2 : Nat) (wa2 : Nat) (dec2 : Int32) (bel2 : Int32) (ah2 : Int64) (bh2 : Int64) (f2 : Nat → Int32) (n2 : Int32) (hn : lnOK 60 n) (hn2 : lnOK 60 n2) : Met l y_Va_matches w_Va_matches ({ frames := 2, cells := 0, slots := 0, locals := 43 } : Room) (va_Pc [.ref v, .ref v2] (fun U => U.heap.size = sz ∧ va_P (dC, dI) CL [(v, .inr (4, [.ref w, .int dec, .int bel, .long ah, .long bh])), (w, .inr (2, [.ref wa, .int n])), (wa, .inl (cC, 60, .inl f)), (v2, .inr (4, [.ref w2, .int dec2, .int bel2, .long ah2, .long bh2])), (w2, .inr (2, [.ref wa2, .int n2])), (wa2, .inl (cC, 60, .inl f2))] U.heap ∧ va_K (dC, dI) CL [(cC, .char)] U ∧ va_D (fun _ => True) [(v, .inr (4, [.ref w, .int dec, .int bel, .long ah, .long bh])), (w, .inr (2, [.ref wa, .int n])), (wa, .inl (cC, 60, .inl f)), (v2, .inr (4, [.ref w2, .int dec2, .int bel2, .long ah2, .long bh2])), (w2, .inr (2, [.ref wa2, .int n2])), (wa2, .inl (cC, 60, .inl f2))])) (va_Qi (fun (r : Int32) (u : Unit) => r = k_b (vaSame dec dec2 f n f2 n2)) (fun (u : Unit) (t : State) => va_P (dC, dI) CL [(v, .inr (4, [.ref w, .int dec, .int bel, .long ah, .long bh])), (w, .inr (2, [.ref wa, .int n])), (wa, .inl (cC, 60, .inl f)), (v2, .inr (4, [.ref w2, .int dec2, .int bel2, .long ah2, .long bh2])), (w2, .inr (2, [.ref wa2, .int n2])), (wa2, .inl (cC, 60, .inl f2))] t.heap ∧ va_K (dC, dI) CL [(cC, .char)] t ∧ va_D (va_A [(v, .inr (4, [.ref w, .int dec, .int bel, .long ah, .long bh])), (w, .inr (2, [.ref wa, .int n])), (wa, .inl (cC, 60, .inl f)), (v2, .inr (4, [.ref w2, .int dec2, .int bel2, .long ah2, .long bh2])), (w2, .inr (2, [.ref wa2, .int n2])), (wa2, .inl (cC, 60, .inl f2))] sz) [(v, .inr (4, [.ref w, .int dec, .int bel, .long ah, .long bh])), (w, .inr (2, [.ref wa, .int n])), (wa, .inl (cC, 60, .inl f)), (v2, .inr (4, [.ref w2, .int dec2, .int bel2, .long ah2, .long bh2])), (w2, .inr (2, [.ref wa2, .int n2])), (wa2, .inl (cC, 60, .inl f2))]) (va_A [(v, .inr (4, [.ref w, .int dec, .int bel, .long ah, .long bh])), (w, .inr (2, [.ref wa, .int n])), (wa, .inl (cC, 60, .inl f)), (v2, .inr (4, [.ref w2, .int dec2, .int bel2, .long ah2, .long bh2])), (w2, .inr (2, [.ref wa2, .int n2])), (wa2, .inl (cC, 60, .inl f2))] sz)) 0 0 (va_A [(v, .inr (4, [.ref w, .int dec, .int bel, .long ah, .long bh])), (w, .inr (2, [.ref wa, .int n])), (wa, .inl (cC, 60, .inl f)), (v2, .inr (4, [.ref w2, .int dec2, .int bel2, .long ah2, .long bh2])), (w2, .inr (2, [.ref wa2, .int n2])), (wa2, .inl (cC, 60, .inl f2))] sz) := by
  refine Met.ofW (cc := b_Va_matches) (maxL := 2) (ret := (some .boolean)) (by decide) rfl ?_
  intro p e s m args below meth c s₁ B hml hv
  obtain ⟨rfl, hsz, hP, hK, hD0⟩ := hv
  have hx := B.exec
  have hb := B.bytes
  have hr := B.returns
  have hts := atoms_spec (ws := w_Va_matches) B.pre
  have hT : ∀ w ∈ TB, w.before _ s = true := fun w h => hts w (List.mem_cons_of_mem _ h)
  have hown : s.vm.findClass R_Va = some m.cls := findClass_of_methodNamed B.named
  have hlocks := B.notSynchronized
  subst hsz
  have hD := hD0.self (sz := s.heap.size)
  generalize hAe : va_A [(v, .inr (4, [.ref w, .int dec, .int bel, .long ah, .long bh])), (w, .inr (2, [.ref wa, .int n])), (wa, .inl (cC, 60, .inl f)), (v2, .inr (4, [.ref w2, .int dec2, .int bel2, .long ah2, .long bh2])), (w2, .inr (2, [.ref wa2, .int n2])), (wa2, .inl (cC, 60, .inl f2))] s.heap.size = A at hD ⊢
  have hA : ∀ q : Nat, s.heap.size ≤ q → A q := fun q h => by rw [← hAe]; exact Or.inr h
  have hS : va_S A s.heap s.heap [] := va_S.rf
  have hP : va_P (dC, dI) CL [(v, .inr (4, [.ref w, .int dec, .int bel, .long ah, .long bh])), (w, .inr (2, [.ref wa, .int n])), (wa, .inl (cC, 60, .inl f)), (v2, .inr (4, [.ref w2, .int dec2, .int bel2, .long ah2, .long bh2])), (w2, .inr (2, [.ref wa2, .int n2])), (wa2, .inl (cC, 60, .inl f2))] s.heap := hP
  have hl := lv_entry ([.ref v, .ref v2]) (n := 2) (Nat.le_of_ble_eq_true rfl)
  rw [lg_entry_eq]
  generalize (lg_sl ([.ref v, .ref v2]) ++ List.replicate (2 - (lg_sl ([.ref v, .ref v2])).length) Slot.unset).toArray = ls at hl ⊢
  have hl : lv_has ls 2 [(0, .ref v), (1, .ref v2)] := hl
  refine lv_aload_n hx hb d_Va_matches_0 rfl (lv_at hl 0 rfl) ?_
  refine va_get (D := (dC, dI)) (ci := 4) (v := .int dec) (C := R_Va) (T := F_Va) (N := 5) hx hb hT (in_Va) hown hK hP 0 rfl rfl 1 (by decide) (hT _ t_51) (fun _ h9 => h9) rfl d_Va_matches_1 ?_
  refine lv_aload_n hx hb d_Va_matches_4 rfl (lv_at hl 1 rfl) ?_
  refine va_get (D := (dC, dI)) (ci := 4) (v := .int dec2) (C := R_Va) (T := F_Va) (N := 5) hx hb hT (in_Va) hown hK hP 3 rfl rfl 1 (by decide) (hT _ t_51) (fun _ h9 => h9) rfl d_Va_matches_5 ?_
  refine lv_icmp_ne (tgt := 29) hx hb d_Va_matches_8 (by decide) (fun c8_1 => ?_) (fun c8_1 => ?_)
  · skip
    refine lv_iconst (v := 0) hx hb d_Va_matches_29 (by decide) ?_
    have hP9 := hP.sub (ws' := [(v, .inr (4, [.ref w, .int dec, .int bel, .long ah, .long bh])), (w, .inr (2, [.ref wa, .int n])), (wa, .inl (cC, 60, .inl f)), (v2, .inr (4, [.ref w2, .int dec2, .int bel2, .long ah2, .long bh2])), (w2, .inr (2, [.ref wa2, .int n2])), (wa2, .inl (cC, 60, .inl f2))]) [0, 1, 2, 3, 4, 5] rfl
    have hD9 := hD.sub (ws' := [(v, .inr (4, [.ref w, .int dec, .int bel, .long ah, .long bh])), (w, .inr (2, [.ref wa, .int n])), (wa, .inl (cC, 60, .inl f)), (v2, .inr (4, [.ref w2, .int dec2, .int bel2, .long ah2, .long bh2])), (w2, .inr (2, [.ref wa2, .int n2])), (wa2, .inl (cC, 60, .inl f2))]) [0, 1, 2, 3, 4, 5] (by decide) rfl
    have hK9 := hK.sub (tys' := [(cC, .char)]) [0] rfl
    have hq9 : (0 : Int32) = k_b (vaSame dec dec2 f n f2 n2) := by simp [k_b, vaSame, c8_1]
    exact W.zret (v := 0) hx hb hr rfl (fun t ht hW => ⟨⟨0, (), rfl, hq9, by rw [ht]; exact hP9, va_K.moved hW.alike hK9, hD9⟩, hS.F ht⟩) hS.2.2 d_Va_matches_30
  · skip
    refine lv_aload_n hx hb d_Va_matches_11 rfl (lv_at hl 0 rfl) ?_
    refine va_get (D := (dC, dI)) (ci := 4) (v := .ref w) (C := R_Va) (T := F_Va) (N := 5) hx hb hT (in_Va) hown hK hP 0 rfl rfl 0 (by decide) (hT _ t_49) (fun _ h9 => h9) rfl d_Va_matches_12 ?_
    refine lv_aload_n hx hb d_Va_matches_15 rfl (lv_at hl 1 rfl) ?_
    refine va_get (D := (dC, dI)) (ci := 4) (v := .ref w2) (C := R_Va) (T := F_Va) (N := 5) hx hb hT (in_Va) hown hK hP 3 rfl rfl 0 (by decide) (hT _ t_49) (fun _ h9 => h9) rfl d_Va_matches_16 ?_
    have hPc := hP.sub (ws' := [(w, .inr (2, [.ref wa, .int n])), (wa, .inl (cC, 60, .inl f)), (w2, .inr (2, [.ref wa2, .int n2])), (wa2, .inl (cC, 60, .inl f2))]) [1, 2, 4, 5] rfl
    have hDc := hD.sub (ws' := [(w, .inr (2, [.ref wa, .int n])), (wa, .inl (cC, 60, .inl f)), (w2, .inr (2, [.ref wa2, .int n2])), (wa2, .inl (cC, 60, .inl f2))]) [1, 2, 4, 5] (by decide) rfl
    have hKc := hK.sub (tys' := [(cC, .char)]) [0] rfl
    have hFc := va_free (wc := [(w, .inr (2, [.ref wa, .int n])), (wa, .inl (cC, 60, .inl f)), (w2, .inr (2, [.ref wa2, .int n2])), (wa2, .inl (cC, 60, .inl f2))]) hD hS hA [1, 2, 4, 5] rfl
    refine va_calli (va_runV (As := [.ref w2]) (rest := []) ⟨hx, hb, hml, hown, hT⟩ (c_Line_matches l dC dI s.heap.size cC w wa 60 f n w2 wa2 60 f2 n2 hn hn2) (cwV 1 hT g_Va_78 rfl rfl rfl (by decide +kernel) ⟨Nat.le_of_ble_eq_true rfl, Nat.le_of_ble_eq_true rfl⟩) ⟨fun a U g mk q => by obtain ⟨q0, q1, qP, qK, qD⟩ := q; exact ⟨q0, q1, qP, va_K.moved (u := U) (U := U.calling g mk a) (Vm.Alike.refl U.vm) qK, qD⟩, va_recv hKc hPc (ci := 2) (q0 := 0) rfl rfl, fun U hU hW => ⟨rfl, by rw [hU], by rw [hU]; exact hPc, va_K.moved hW.alike hKc, hDc.weaken (fun _ _ _ _ => trivial)⟩⟩ rfl rfl hl.1 rfl (lv_room (Nat.le_of_ble_eq_true rfl)) d_Va_matches_19 ⟨Nat.le_of_ble_eq_true rfl, Nat.le_of_ble_eq_true rfl⟩) hS (fun q _ h => hFc q h) hFc (fun x2 u t H1 locs ht hvm w19_2 hB hz1 hk1 hS => ?_)
    obtain ⟨hP1, hK1, hD1⟩ := hB
    rw [ht] at hP1
    try dsimp only at w19_2
    obtain ⟨hP, hD⟩ := va_join (wr := [(v, .inr (4, [.ref w, .int dec, .int bel, .long ah, .long bh])), (v2, .inr (4, [.ref w2, .int dec2, .int bel2, .long ah2, .long bh2]))]) (w1 := [(w, .inr (2, [.ref wa, .int n])), (wa, .inl (cC, 60, .inl f)), (w2, .inr (2, [.ref wa2, .int n2])), (wa2, .inl (cC, 60, .inl f2))]) hP hD [1, 2, 4, 5] [0, 3] rfl rfl (by decide) (by decide) hk1 hFc hP1 hD1
    generalize H1 = H at hP hS ⊢
    have hP : va_P (dC, dI) CL [(v, .inr (4, [.ref w, .int dec, .int bel, .long ah, .long bh])), (v2, .inr (4, [.ref w2, .int dec2, .int bel2, .long ah2, .long bh2])), (w, .inr (2, [.ref wa, .int n])), (wa, .inl (cC, 60, .inl f)), (w2, .inr (2, [.ref wa2, .int n2])), (wa2, .inl (cC, 60, .inl f2))] H := hP
    have hD : va_D A [(v, .inr (4, [.ref w, .int dec, .int bel, .long ah, .long bh])), (v2, .inr (4, [.ref w2, .int dec2, .int bel2, .long ah2, .long bh2])), (w, .inr (2, [.ref wa, .int n])), (wa, .inl (cC, 60, .inl f)), (w2, .inr (2, [.ref wa2, .int n2])), (wa2, .inl (cC, 60, .inl f2))] := hD
    refine lv_if_eq (tgt := 29) hx hb d_Va_matches_22 (by decide) (fun c22_3 => ?_) (fun c22_3 => ?_)
    · skip
      rw [w19_2, k_b_eq0] at c22_3
      refine lv_iconst (v := 0) hx hb d_Va_matches_29 (by decide) ?_
      have hP9 := hP.sub (ws' := [(v, .inr (4, [.ref w, .int dec, .int bel, .long ah, .long bh])), (w, .inr (2, [.ref wa, .int n])), (wa, .inl (cC, 60, .inl f)), (v2, .inr (4, [.ref w2, .int dec2, .int bel2, .long ah2, .long bh2])), (w2, .inr (2, [.ref wa2, .int n2])), (wa2, .inl (cC, 60, .inl f2))]) [0, 2, 3, 1, 4, 5] rfl
      have hD9 := hD.sub (ws' := [(v, .inr (4, [.ref w, .int dec, .int bel, .long ah, .long bh])), (w, .inr (2, [.ref wa, .int n])), (wa, .inl (cC, 60, .inl f)), (v2, .inr (4, [.ref w2, .int dec2, .int bel2, .long ah2, .long bh2])), (w2, .inr (2, [.ref wa2, .int n2])), (wa2, .inl (cC, 60, .inl f2))]) [0, 2, 3, 1, 4, 5] (by decide) rfl
      have hK9 := hK.sub (tys' := [(cC, .char)]) [0] rfl
      have hq9 : (0 : Int32) = k_b (vaSame dec dec2 f n f2 n2) := by simp [k_b, vaSame, c8_1, c22_3]
      exact W.zret (v := 0) hx hb hr rfl (fun t ht hW => ⟨⟨0, (), rfl, hq9, by rw [ht]; exact hP9, va_K.moved hW.alike hK9, hD9⟩, hS.F ht⟩) hS.2.2 d_Va_matches_30
    · skip
      rw [w19_2, k_b_eq0] at c22_3
      refine lv_iconst (v := 1) hx hb d_Va_matches_25 (by decide) ?_
      refine lv_goto (tgt := 30) hx hb d_Va_matches_26 (by decide) ?_
      have hP9 := hP.sub (ws' := [(v, .inr (4, [.ref w, .int dec, .int bel, .long ah, .long bh])), (w, .inr (2, [.ref wa, .int n])), (wa, .inl (cC, 60, .inl f)), (v2, .inr (4, [.ref w2, .int dec2, .int bel2, .long ah2, .long bh2])), (w2, .inr (2, [.ref wa2, .int n2])), (wa2, .inl (cC, 60, .inl f2))]) [0, 2, 3, 1, 4, 5] rfl
      have hD9 := hD.sub (ws' := [(v, .inr (4, [.ref w, .int dec, .int bel, .long ah, .long bh])), (w, .inr (2, [.ref wa, .int n])), (wa, .inl (cC, 60, .inl f)), (v2, .inr (4, [.ref w2, .int dec2, .int bel2, .long ah2, .long bh2])), (w2, .inr (2, [.ref wa2, .int n2])), (wa2, .inl (cC, 60, .inl f2))]) [0, 2, 3, 1, 4, 5] (by decide) rfl
      have hK9 := hK.sub (tys' := [(cC, .char)]) [0] rfl
      have hq9 : (1 : Int32) = k_b (vaSame dec dec2 f n f2 n2) := by simp [k_b, vaSame, c8_1, c22_3]
      exact W.zret (v := 1) hx hb hr rfl (fun t ht hW => ⟨⟨1, (), rfl, hq9, by rw [ht]; exact hP9, va_K.moved hW.alike hK9, hD9⟩, hS.F ht⟩) hS.2.2 d_Va_matches_30
