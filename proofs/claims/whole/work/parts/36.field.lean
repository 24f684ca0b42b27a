theorem t_5 : (.initialized R_Fi : Cond) ∈ TB := tb_of 5 (by decide +kernel) (by decide +kernel)
theorem t_76 : (.methodLink R_Fi 3 objectInit : Cond) ∈ TB := tb_of 76 (by decide +kernel) (by decide +kernel)
theorem t_77 : (.fieldLink R_Fi 40 R_Fi "minus" "Z" : Cond) ∈ TB := tb_of 77 (by decide +kernel) (by decide +kernel)
theorem t_79 : (.fieldLink R_Fi 44 R_Fi "plus" "Z" : Cond) ∈ TB := tb_of 79 (by decide +kernel) (by decide +kernel)
theorem t_80 : (.fieldLink R_Fi 47 R_Fi "zero" "Z" : Cond) ∈ TB := tb_of 80 (by decide +kernel) (by decide +kernel)
theorem t_81 : (.fieldLink R_Fi 50 R_Fi "sharp" "Z" : Cond) ∈ TB := tb_of 81 (by decide +kernel) (by decide +kernel)
theorem t_83 : (.fieldLink R_Fi 53 R_Fi "blank" "Z" : Cond) ∈ TB := tb_of 83 (by decide +kernel) (by decide +kernel)
theorem t_84 : (.fieldLink R_Fi 64 R_Fi "starWidth" "Z" : Cond) ∈ TB := tb_of 84 (by decide +kernel) (by decide +kernel)
theorem t_86 : (.fieldLink R_Fi 77 R_Fi "starPrecision" "Z" : Cond) ∈ TB := tb_of 86 (by decide +kernel) (by decide +kernel)
theorem t_88 : (.fieldLink R_Fi 67 R_Fi "width" "I" : Cond) ∈ TB := tb_of 88 (by decide +kernel) (by decide +kernel)
theorem t_91 : (.fieldLink R_Fi 74 R_Fi "precision" "I" : Cond) ∈ TB := tb_of 91 (by decide +kernel) (by decide +kernel)
theorem t_93 : (.fieldLink R_Fi 31 R_Fi "letter" "I" : Cond) ∈ TB := tb_of 93 (by decide +kernel) (by decide +kernel)
theorem t_94 : (.fieldLink R_Fi 37 R_Fi "sort" "I" : Cond) ∈ TB := tb_of 94 (by decide +kernel) (by decide +kernel)
theorem t_95 : (.fieldLink R_Fi 9 R_Fi "next" "I" : Cond) ∈ TB := tb_of 95 (by decide +kernel) (by decide +kernel)
theorem t_404 : (.methodLink R_Fi 15 y_Fi_readFlags : Cond) ∈ TB := tb_of 404 (by decide +kernel) (by decide +kernel)
theorem t_406 : (.instanceMethod y_Fi_readFlags : Cond) ∈ TB := tb_of 406 (by decide +kernel) (by decide +kernel)
theorem t_407 : (.code y_Fi_readFlags b_Fi_readFlags 2 none : Cond) ∈ TB := tb_of 407 (by decide +kernel) (by decide +kernel)
theorem t_408 : (.methodLink R_Fi 56 y_Ln_size : Cond) ∈ TB := tb_of 408 (by decide +kernel) (by decide +kernel)
theorem t_409 : (.methodLink R_Fi 25 y_Ln_at : Cond) ∈ TB := tb_of 409 (by decide +kernel) (by decide +kernel)
theorem t_410 : (.methodLink R_Fi 60 y_Fi_setFlag : Cond) ∈ TB := tb_of 410 (by decide +kernel) (by decide +kernel)
theorem t_412 : (.instanceMethod y_Fi_setFlag : Cond) ∈ TB := tb_of 412 (by decide +kernel) (by decide +kernel)
theorem t_413 : (.code y_Fi_setFlag b_Fi_setFlag 2 (some .boolean) : Cond) ∈ TB := tb_of 413 (by decide +kernel) (by decide +kernel)
theorem t_414 : (.methodLink R_Fi 19 y_Fi_readWidth : Cond) ∈ TB := tb_of 414 (by decide +kernel) (by decide +kernel)
theorem t_416 : (.instanceMethod y_Fi_readWidth : Cond) ∈ TB := tb_of 416 (by decide +kernel) (by decide +kernel)
theorem t_417 : (.code y_Fi_readWidth b_Fi_readWidth 2 none : Cond) ∈ TB := tb_of 417 (by decide +kernel) (by decide +kernel)
theorem t_418 : (.methodLink R_Fi 70 y_Fi_readNumber : Cond) ∈ TB := tb_of 418 (by decide +kernel) (by decide +kernel)
theorem t_420 : (.instanceMethod y_Fi_readNumber : Cond) ∈ TB := tb_of 420 (by decide +kernel) (by decide +kernel)
theorem t_421 : (.code y_Fi_readNumber b_Fi_readNumber 4 (some .int) : Cond) ∈ TB := tb_of 421 (by decide +kernel) (by decide +kernel)
theorem t_422 : (.methodLink R_Fi 80 y_Ln_digitsFrom : Cond) ∈ TB := tb_of 422 (by decide +kernel) (by decide +kernel)
theorem t_423 : (.methodLink R_Fi 83 Lib.Math.min.name : Cond) ∈ TB := tb_of 423 (by decide +kernel) (by decide +kernel)
theorem t_426 : (.methodLink R_Fi 89 y_Ln_numberAt : Cond) ∈ TB := tb_of 426 (by decide +kernel) (by decide +kernel)
theorem t_427 : (.methodLink R_Fi 22 y_Fi_readPrecision : Cond) ∈ TB := tb_of 427 (by decide +kernel) (by decide +kernel)
theorem t_429 : (.instanceMethod y_Fi_readPrecision : Cond) ∈ TB := tb_of 429 (by decide +kernel) (by decide +kernel)
theorem t_430 : (.code y_Fi_readPrecision b_Fi_readPrecision 2 none : Cond) ∈ TB := tb_of 430 (by decide +kernel) (by decide +kernel)
theorem t_431 : (.methodLink R_Fi 34 y_Fi_sortOf : Cond) ∈ TB := tb_of 431 (by decide +kernel) (by decide +kernel)
theorem t_432 : (.static y_Fi_sortOf : Cond) ∈ TB := tb_of 432 (by decide +kernel) (by decide +kernel)
theorem t_433 : (.code y_Fi_sortOf b_Fi_sortOf 1 (some .int) : Cond) ∈ TB := tb_of 433 (by decide +kernel) (by decide +kernel)
theorem t_467 : (.methodLink R_Fi 93 Lib.Math.abs.name : Cond) ∈ TB := tb_of 467 (by decide +kernel) (by decide +kernel)
theorem t_468 : (.static Lib.Math.abs.name : Cond) ∈ TB := tb_of 468 (by decide +kernel) (by decide +kernel)
theorem t_469 : (.code Lib.Math.abs.name Lib.Math.abs.code 1 (some .int) : Cond) ∈ TB := tb_of 469 (by decide +kernel) (by decide +kernel)
theorem t_478 : (.methodLink R_Fi 101 y_Va_isMark : Cond) ∈ TB := tb_of 478 (by decide +kernel) (by decide +kernel)
theorem t_479 : (.instanceMethod y_Va_isMark : Cond) ∈ TB := tb_of 479 (by decide +kernel) (by decide +kernel)
theorem t_480 : (.selects R_Va y_Va_isMark y_Va_isMark : Cond) ∈ TB := tb_of 480 (by decide +kernel) (by decide +kernel)
theorem t_481 : (.code y_Va_isMark b_Va_isMark 1 (some .boolean) : Cond) ∈ TB := tb_of 481 (by decide +kernel) (by decide +kernel)
theorem g_Fi_101 : GoodIn TB (wsV R_Fi 101 R_Va y_Va_isMark w_Va_isMark) := TB_V t_478 t_479 t_480 t_4 t_481
theorem g_Fi_15 : GoodIn TB (wsV R_Fi 15 R_Fi y_Fi_readFlags w_Fi_readFlags) := TB_V t_404 t_406 (tb_sel (y := y_Fi_readFlags) (n := 12) 5 (by decide +kernel)) t_5 t_407
theorem g_Fi_19 : GoodIn TB (wsV R_Fi 19 R_Fi y_Fi_readWidth w_Fi_readWidth) := TB_V t_414 t_416 (tb_sel (y := y_Fi_readWidth) (n := 12) 7 (by decide +kernel)) t_5 t_417
theorem g_Fi_22 : GoodIn TB (wsV R_Fi 22 R_Fi y_Fi_readPrecision w_Fi_readPrecision) := TB_V t_427 t_429 (tb_sel (y := y_Fi_readPrecision) (n := 12) 9 (by decide +kernel)) t_5 t_430
theorem g_Fi_25 : GoodIn TB (wsV R_Fi 25 R_Ln y_Ln_at w_Ln_at) := TB_V t_409 t_231 t_232 t_2 t_233
theorem g_Fi_34 : GoodIn TB (wsS R_Fi 34 y_Fi_sortOf w_Fi_sortOf) := TB_S t_431 t_432 t_5 t_433
theorem g_Fi_56 : GoodIn TB (wsV R_Fi 56 R_Ln y_Ln_size w_Ln_size) := TB_V t_408 t_214 t_215 t_2 t_216
theorem g_Fi_60 : GoodIn TB (wsV R_Fi 60 R_Fi y_Fi_setFlag w_Fi_setFlag) := TB_V t_410 t_412 (tb_sel (y := y_Fi_setFlag) (n := 12) 6 (by decide +kernel)) t_5 t_413
theorem g_Fi_70 : GoodIn TB (wsV R_Fi 70 R_Fi y_Fi_readNumber w_Fi_readNumber) := TB_V t_418 t_420 (tb_sel (y := y_Fi_readNumber) (n := 12) 8 (by decide +kernel)) t_5 t_421
theorem g_Fi_80 : GoodIn TB (wsV R_Fi 80 R_Ln y_Ln_digitsFrom w_Ln_digitsFrom) := TB_V t_422 t_275 t_276 t_2 t_277
theorem g_Fi_89 : GoodIn TB (wsV R_Fi 89 R_Ln y_Ln_numberAt w_Ln_numberAt) := TB_V t_426 t_282 t_283 t_2 t_284
set_option maxHeartbeats 4000000 in
set_option maxRecDepth 100000 in
theorem c_Field_init (l : Launch) (dC : Nat → ClassId) (dI : Nat → Nat → Nat) (sz : Nat) (fi : Nat) (mi : Int32) (pl : Int32) (ze : Int32) (sh : Int32) (bl : Int32) (sw : Int32) (sp : Int32) (wi : Int32) (pr : Int32) (le : Int32) (so : Int32) (nx : Int32)  : Met l y_Fi_init w_Fi_init ({ frames := 1, cells := 0, slots := 0, locals := 12 } : Room) (va_Pc [.ref fi] (fun U => U.heap.size = sz ∧ va_P (dC, dI) CL [(fi, .inr (1, [.int mi, .int pl, .int ze, .int sh, .int bl, .int sw, .int sp, .int wi, .int pr, .int le, .int so, .int nx]))] U.heap ∧ va_K (dC, dI) CL [] U ∧ va_D (fun _ => True) [(fi, .inr (1, [.int mi, .int pl, .int ze, .int sh, .int bl, .int sw, .int sp, .int wi, .int pr, .int le, .int so, .int nx]))])) (va_Qv (fun (u : Unit) => True) (fun (u : Unit) (t : State) => va_P (dC, dI) CL [(fi, .inr (1, [.int mi, .int pl, .int ze, .int sh, .int bl, .int sw, .int sp, .int wi, .int pr, .int le, .int so, .int nx]))] t.heap ∧ va_K (dC, dI) CL [] t ∧ va_D (va_A [(fi, .inr (1, [.int mi, .int pl, .int ze, .int sh, .int bl, .int sw, .int sp, .int wi, .int pr, .int le, .int so, .int nx]))] sz) [(fi, .inr (1, [.int mi, .int pl, .int ze, .int sh, .int bl, .int sw, .int sp, .int wi, .int pr, .int le, .int so, .int nx]))]) (va_A [(fi, .inr (1, [.int mi, .int pl, .int ze, .int sh, .int bl, .int sw, .int sp, .int wi, .int pr, .int le, .int so, .int nx]))] sz)) 0 0 (va_A [(fi, .inr (1, [.int mi, .int pl, .int ze, .int sh, .int bl, .int sw, .int sp, .int wi, .int pr, .int le, .int so, .int nx]))] sz) := by
  refine Met.ofW (cc := b_Fi_init) (maxL := 1) (ret := none) (by decide) rfl ?_
  intro p e s m args below meth c s₁ B hml hv
  obtain ⟨rfl, hsz, hP, hK, hD0⟩ := hv
  have hx := B.exec
  have hb := B.bytes
  have hr := B.returns
  have hts := atoms_spec (ws := w_Fi_init) B.pre
  have hT : ∀ w ∈ TB, w.before _ s = true := fun w h => hts w (List.mem_cons_of_mem _ h)
  have hown : s.vm.findClass R_Fi = some m.cls := findClass_of_methodNamed B.named
  have hlocks := B.notSynchronized
  have hin : meth.name = "<init>" := (name_of_methodNamed B.named B.method).1
  subst hsz
  have hD := hD0.self (sz := s.heap.size)
  generalize hAe : va_A [(fi, .inr (1, [.int mi, .int pl, .int ze, .int sh, .int bl, .int sw, .int sp, .int wi, .int pr, .int le, .int so, .int nx]))] s.heap.size = A at hD ⊢
  have hA : ∀ q : Nat, s.heap.size ≤ q → A q := fun q h => by rw [← hAe]; exact Or.inr h
  have hS : va_S A s.heap s.heap [] := va_S.rf
  have hP : va_P (dC, dI) CL [(fi, .inr (1, [.int mi, .int pl, .int ze, .int sh, .int bl, .int sw, .int sp, .int wi, .int pr, .int le, .int so, .int nx]))] s.heap := hP
  have hl := lv_entry ([.ref fi]) (n := 1) (Nat.le_of_ble_eq_true rfl)
  rw [lg_entry_eq]
  generalize (lg_sl ([.ref fi]) ++ List.replicate (1 - (lg_sl ([.ref fi])).length) Slot.unset).toArray = ls at hl ⊢
  have hl : lv_has ls 1 [(0, .ref fi)] := hl
  refine lv_aload_n hx hb d_Fi_init_0 rfl (lv_at hl 0 rfl) ?_
  refine W.objInit hx hb hown (hT _ t_76) (hT _ t_21) (hT _ t_22) rfl (by rw [hml]; exact hl.1) rfl d_Fi_init_1 (Nat.le_of_ble_eq_true rfl) (Nat.le_of_ble_eq_true rfl) ?_
  refine W.eq (g2 := F0 m 4 ls []) rfl ?_
  have hP9 := hP.sub (ws' := [(fi, .inr (1, [.int mi, .int pl, .int ze, .int sh, .int bl, .int sw, .int sp, .int wi, .int pr, .int le, .int so, .int nx]))]) [0] rfl
  have hD9 := hD.sub (ws' := [(fi, .inr (1, [.int mi, .int pl, .int ze, .int sh, .int bl, .int sw, .int sp, .int wi, .int pr, .int le, .int so, .int nx]))]) [0] (by decide) rfl
  have hK9 := hK.sub (tys' := []) [] rfl
  have hq9 : True := True.intro
  exact W.vret hx hb hr (fun t ht hW => ⟨⟨(), rfl, hq9, by rw [ht]; exact hP9, va_K.moved hW.alike hK9, hD9⟩, hS.F ht⟩) hS.2.2 d_Fi_init_4

set_option maxHeartbeats 4000000 in
set_option maxRecDepth 100000 in
theorem c_Field_setFlag (l : Launch) (dC : Nat → ClassId) (dI : Nat → Nat → Nat) (sz : Nat) (fi : Nat) (mi : Int32) (pl : Int32) (ze : Int32) (sh : Int32) (bl : Int32) (sw : Int32) (sp : Int32) (wi : Int32) (pr : Int32) (le : Int32) (so : Int32) (nx : Int32) (ch : Int32)  : Met l y_Fi_setFlag w_Fi_setFlag ({ frames := 0, cells := 0, slots := 0, locals := 0 } : Room) (va_Pc [.ref fi, .int ch] (fun U => U.heap.size = sz ∧ va_P (dC, dI) CL [(fi, .inr (1, [.int mi, .int pl, .int ze, .int sh, .int bl, .int sw, .int sp, .int wi, .int pr, .int le, .int so, .int nx]))] U.heap ∧ va_K (dC, dI) CL [] U ∧ va_D (fun _ => True) [(fi, .inr (1, [.int mi, .int pl, .int ze, .int sh, .int bl, .int sw, .int sp, .int wi, .int pr, .int le, .int so, .int nx]))])) (va_Qi (fun (r : Int32) (u : Int32 × Int32 × Int32 × Int32 × Int32) => match u with | (mi2, pl2, ze2, sh2, bl2) => r = k_b (flIs ch) ∧ (mi2, pl2, ze2, sh2, bl2) = flSet (mi, pl, ze, sh, bl) ch) (fun (u : Int32 × Int32 × Int32 × Int32 × Int32) (t : State) => match u with | (mi2, pl2, ze2, sh2, bl2) => va_P (dC, dI) CL [(fi, .inr (1, [.int mi2, .int pl2, .int ze2, .int sh2, .int bl2, .int sw, .int sp, .int wi, .int pr, .int le, .int so, .int nx]))] t.heap ∧ va_K (dC, dI) CL [] t ∧ va_D (va_A [(fi, .inr (1, [.int mi, .int pl, .int ze, .int sh, .int bl, .int sw, .int sp, .int wi, .int pr, .int le, .int so, .int nx]))] sz) [(fi, .inr (1, [.int mi2, .int pl2, .int ze2, .int sh2, .int bl2, .int sw, .int sp, .int wi, .int pr, .int le, .int so, .int nx]))]) (va_A [(fi, .inr (1, [.int mi, .int pl, .int ze, .int sh, .int bl, .int sw, .int sp, .int wi, .int pr, .int le, .int so, .int nx]))] sz)) 0 0 (va_A [(fi, .inr (1, [.int mi, .int pl, .int ze, .int sh, .int bl, .int sw, .int sp, .int wi, .int pr, .int le, .int so, .int nx]))] sz) := by
  refine Met.ofW (cc := b_Fi_setFlag) (maxL := 2) (ret := (some .boolean)) (by decide) rfl ?_
  intro p e s m args below meth c s₁ B hml hv
  obtain ⟨rfl, hsz, hP, hK, hD0⟩ := hv
  have hx := B.exec
  have hb := B.bytes
  have hr := B.returns
  have hts := atoms_spec (ws := w_Fi_setFlag) B.pre
  have hT : ∀ w ∈ TB, w.before _ s = true := fun w h => hts w (List.mem_cons_of_mem _ h)
  have hown : s.vm.findClass R_Fi = some m.cls := findClass_of_methodNamed B.named
  have hlocks := B.notSynchronized
  subst hsz
  have hD := hD0.self (sz := s.heap.size)
  generalize hAe : va_A [(fi, .inr (1, [.int mi, .int pl, .int ze, .int sh, .int bl, .int sw, .int sp, .int wi, .int pr, .int le, .int so, .int nx]))] s.heap.size = A at hD ⊢
  have hA : ∀ q : Nat, s.heap.size ≤ q → A q := fun q h => by rw [← hAe]; exact Or.inr h
  have hS : va_S A s.heap s.heap [] := va_S.rf
  have hP : va_P (dC, dI) CL [(fi, .inr (1, [.int mi, .int pl, .int ze, .int sh, .int bl, .int sw, .int sp, .int wi, .int pr, .int le, .int so, .int nx]))] s.heap := hP
  have hl := lv_entry ([.ref fi, .int ch]) (n := 2) (Nat.le_of_ble_eq_true rfl)
  rw [lg_entry_eq]
  generalize (lg_sl ([.ref fi, .int ch]) ++ List.replicate (2 - (lg_sl ([.ref fi, .int ch])).length) Slot.unset).toArray = ls at hl ⊢
  have hl : lv_has ls 2 [(0, .ref fi), (1, .int ch)] := hl
  refine lv_iload_n hx hb d_Fi_setFlag_0 rfl (lv_at hl 1 rfl) ?_
  by_cases k1_1 : ch = 32
  · refine lv_lookup (off := 79) (tgt := 80) hx hb d_Fi_setFlag_1 (by decide) (by rw [k1_1]; rfl) (by decide) ?_
    refine lv_aload_n hx hb d_Fi_setFlag_80 rfl (lv_at hl 0 rfl) ?_
    refine lv_iconst (v := 1) hx hb d_Fi_setFlag_81 (by decide) ?_
    refine va_put (D := (dC, dI)) (ci := 1) (v := .int 1) (ty := .boolean) (C := R_Fi) (T := F_Fi) (N := 12) hx hb hT (in_Fi) t_Fi t_Fi_ok n_Fi hown hK hP hD hS 0 rfl rfl 4 (by decide) (hT _ t_83) (fun _ h9 => h9) rfl (by decide +kernel) rfl rfl (Nat.le_of_ble_eq_true rfl) d_Fi_setFlag_82 (fun H locs hP hD hS => ?_)
    have hP : va_P (dC, dI) CL [(fi, .inr (1, [.int mi, .int pl, .int ze, .int sh, .int 1, .int sw, .int sp, .int wi, .int pr, .int le, .int so, .int nx]))] H := hP
    have hD : va_D A [(fi, .inr (1, [.int mi, .int pl, .int ze, .int sh, .int 1, .int sw, .int sp, .int wi, .int pr, .int le, .int so, .int nx]))] := hD
    refine lv_iconst (v := 1) hx hb d_Fi_setFlag_85 (by decide) ?_
    have hP9 := hP.sub (ws' := [(fi, .inr (1, [.int mi, .int pl, .int ze, .int sh, .int 1, .int sw, .int sp, .int wi, .int pr, .int le, .int so, .int nx]))]) [0] rfl
    have hD9 := hD.sub (ws' := [(fi, .inr (1, [.int mi, .int pl, .int ze, .int sh, .int 1, .int sw, .int sp, .int wi, .int pr, .int le, .int so, .int nx]))]) [0] (by decide) rfl
    have hK9 := hK.sub (tys' := []) [] rfl
    have hq9 : (1 : Int32) = k_b (flIs ch) ∧ (mi, pl, ze, sh, (1 : Int32)) = flSet (mi, pl, ze, sh, bl) ch := by simp [k_b, flIs, flSet, k1_1]
    exact W.zret (v := 1) hx hb hr rfl (fun t ht hW => ⟨⟨1, (mi, pl, ze, sh, 1), rfl, hq9, by rw [ht]; exact hP9, va_K.moved hW.alike hK9, hD9⟩, hS.F ht⟩) hS.2.2 d_Fi_setFlag_86
  · skip
    by_cases k1_2 : ch = 35
    · refine lv_lookup (off := 72) (tgt := 73) hx hb d_Fi_setFlag_1 (by decide) (by rw [k1_2]; rfl) (by decide) ?_
      refine lv_aload_n hx hb d_Fi_setFlag_73 rfl (lv_at hl 0 rfl) ?_
      refine lv_iconst (v := 1) hx hb d_Fi_setFlag_74 (by decide) ?_
      refine va_put (D := (dC, dI)) (ci := 1) (v := .int 1) (ty := .boolean) (C := R_Fi) (T := F_Fi) (N := 12) hx hb hT (in_Fi) t_Fi t_Fi_ok n_Fi hown hK hP hD hS 0 rfl rfl 3 (by decide) (hT _ t_81) (fun _ h9 => h9) rfl (by decide +kernel) rfl rfl (Nat.le_of_ble_eq_true rfl) d_Fi_setFlag_75 (fun H locs hP hD hS => ?_)
      have hP : va_P (dC, dI) CL [(fi, .inr (1, [.int mi, .int pl, .int ze, .int 1, .int bl, .int sw, .int sp, .int wi, .int pr, .int le, .int so, .int nx]))] H := hP
      have hD : va_D A [(fi, .inr (1, [.int mi, .int pl, .int ze, .int 1, .int bl, .int sw, .int sp, .int wi, .int pr, .int le, .int so, .int nx]))] := hD
      refine lv_iconst (v := 1) hx hb d_Fi_setFlag_78 (by decide) ?_
      have hP9 := hP.sub (ws' := [(fi, .inr (1, [.int mi, .int pl, .int ze, .int 1, .int bl, .int sw, .int sp, .int wi, .int pr, .int le, .int so, .int nx]))]) [0] rfl
      have hD9 := hD.sub (ws' := [(fi, .inr (1, [.int mi, .int pl, .int ze, .int 1, .int bl, .int sw, .int sp, .int wi, .int pr, .int le, .int so, .int nx]))]) [0] (by decide) rfl
      have hK9 := hK.sub (tys' := []) [] rfl
      have hq9 : (1 : Int32) = k_b (flIs ch) ∧ (mi, pl, ze, (1 : Int32), bl) = flSet (mi, pl, ze, sh, bl) ch := by simp [k_b, flIs, flSet, k1_1, k1_2]
      exact W.zret (v := 1) hx hb hr rfl (fun t ht hW => ⟨⟨1, (mi, pl, ze, 1, bl), rfl, hq9, by rw [ht]; exact hP9, va_K.moved hW.alike hK9, hD9⟩, hS.F ht⟩) hS.2.2 d_Fi_setFlag_79
    · skip
      by_cases k1_3 : ch = 43
      · refine lv_lookup (off := 58) (tgt := 59) hx hb d_Fi_setFlag_1 (by decide) (by rw [k1_3]; rfl) (by decide) ?_
        refine lv_aload_n hx hb d_Fi_setFlag_59 rfl (lv_at hl 0 rfl) ?_
        refine lv_iconst (v := 1) hx hb d_Fi_setFlag_60 (by decide) ?_
        refine va_put (D := (dC, dI)) (ci := 1) (v := .int 1) (ty := .boolean) (C := R_Fi) (T := F_Fi) (N := 12) hx hb hT (in_Fi) t_Fi t_Fi_ok n_Fi hown hK hP hD hS 0 rfl rfl 1 (by decide) (hT _ t_79) (fun _ h9 => h9) rfl (by decide +kernel) rfl rfl (Nat.le_of_ble_eq_true rfl) d_Fi_setFlag_61 (fun H locs hP hD hS => ?_)
        have hP : va_P (dC, dI) CL [(fi, .inr (1, [.int mi, .int 1, .int ze, .int sh, .int bl, .int sw, .int sp, .int wi, .int pr, .int le, .int so, .int nx]))] H := hP
        have hD : va_D A [(fi, .inr (1, [.int mi, .int 1, .int ze, .int sh, .int bl, .int sw, .int sp, .int wi, .int pr, .int le, .int so, .int nx]))] := hD
        refine lv_iconst (v := 1) hx hb d_Fi_setFlag_64 (by decide) ?_
        have hP9 := hP.sub (ws' := [(fi, .inr (1, [.int mi, .int 1, .int ze, .int sh, .int bl, .int sw, .int sp, .int wi, .int pr, .int le, .int so, .int nx]))]) [0] rfl
        have hD9 := hD.sub (ws' := [(fi, .inr (1, [.int mi, .int 1, .int ze, .int sh, .int bl, .int sw, .int sp, .int wi, .int pr, .int le, .int so, .int nx]))]) [0] (by decide) rfl
        have hK9 := hK.sub (tys' := []) [] rfl
        have hq9 : (1 : Int32) = k_b (flIs ch) ∧ (mi, (1 : Int32), ze, sh, bl) = flSet (mi, pl, ze, sh, bl) ch := by simp [k_b, flIs, flSet, k1_1, k1_2, k1_3]
        exact W.zret (v := 1) hx hb hr rfl (fun t ht hW => ⟨⟨1, (mi, 1, ze, sh, bl), rfl, hq9, by rw [ht]; exact hP9, va_K.moved hW.alike hK9, hD9⟩, hS.F ht⟩) hS.2.2 d_Fi_setFlag_65
      · skip
        by_cases k1_4 : ch = 45
        · refine lv_lookup (off := 51) (tgt := 52) hx hb d_Fi_setFlag_1 (by decide) (by rw [k1_4]; rfl) (by decide) ?_
          refine lv_aload_n hx hb d_Fi_setFlag_52 rfl (lv_at hl 0 rfl) ?_
          refine lv_iconst (v := 1) hx hb d_Fi_setFlag_53 (by decide) ?_
          refine va_put (D := (dC, dI)) (ci := 1) (v := .int 1) (ty := .boolean) (C := R_Fi) (T := F_Fi) (N := 12) hx hb hT (in_Fi) t_Fi t_Fi_ok n_Fi hown hK hP hD hS 0 rfl rfl 0 (by decide) (hT _ t_77) (fun _ h9 => h9) rfl (by decide +kernel) rfl rfl (Nat.le_of_ble_eq_true rfl) d_Fi_setFlag_54 (fun H locs hP hD hS => ?_)
          have hP : va_P (dC, dI) CL [(fi, .inr (1, [.int 1, .int pl, .int ze, .int sh, .int bl, .int sw, .int sp, .int wi, .int pr, .int le, .int so, .int nx]))] H := hP
          have hD : va_D A [(fi, .inr (1, [.int 1, .int pl, .int ze, .int sh, .int bl, .int sw, .int sp, .int wi, .int pr, .int le, .int so, .int nx]))] := hD
          refine lv_iconst (v := 1) hx hb d_Fi_setFlag_57 (by decide) ?_
          have hP9 := hP.sub (ws' := [(fi, .inr (1, [.int 1, .int pl, .int ze, .int sh, .int bl, .int sw, .int sp, .int wi, .int pr, .int le, .int so, .int nx]))]) [0] rfl
          have hD9 := hD.sub (ws' := [(fi, .inr (1, [.int 1, .int pl, .int ze, .int sh, .int bl, .int sw, .int sp, .int wi, .int pr, .int le, .int so, .int nx]))]) [0] (by decide) rfl
          have hK9 := hK.sub (tys' := []) [] rfl
          have hq9 : (1 : Int32) = k_b (flIs ch) ∧ ((1 : Int32), pl, ze, sh, bl) = flSet (mi, pl, ze, sh, bl) ch := by simp [k_b, flIs, flSet, k1_1, k1_2, k1_3, k1_4]
          exact W.zret (v := 1) hx hb hr rfl (fun t ht hW => ⟨⟨1, (1, pl, ze, sh, bl), rfl, hq9, by rw [ht]; exact hP9, va_K.moved hW.alike hK9, hD9⟩, hS.F ht⟩) hS.2.2 d_Fi_setFlag_58
        · skip
          by_cases k1_5 : ch = 48
          · refine lv_lookup (off := 65) (tgt := 66) hx hb d_Fi_setFlag_1 (by decide) (by rw [k1_5]; rfl) (by decide) ?_
            refine lv_aload_n hx hb d_Fi_setFlag_66 rfl (lv_at hl 0 rfl) ?_
            refine lv_iconst (v := 1) hx hb d_Fi_setFlag_67 (by decide) ?_
            refine va_put (D := (dC, dI)) (ci := 1) (v := .int 1) (ty := .boolean) (C := R_Fi) (T := F_Fi) (N := 12) hx hb hT (in_Fi) t_Fi t_Fi_ok n_Fi hown hK hP hD hS 0 rfl rfl 2 (by decide) (hT _ t_80) (fun _ h9 => h9) rfl (by decide +kernel) rfl rfl (Nat.le_of_ble_eq_true rfl) d_Fi_setFlag_68 (fun H locs hP hD hS => ?_)
            have hP : va_P (dC, dI) CL [(fi, .inr (1, [.int mi, .int pl, .int 1, .int sh, .int bl, .int sw, .int sp, .int wi, .int pr, .int le, .int so, .int nx]))] H := hP
            have hD : va_D A [(fi, .inr (1, [.int mi, .int pl, .int 1, .int sh, .int bl, .int sw, .int sp, .int wi, .int pr, .int le, .int so, .int nx]))] := hD
            refine lv_iconst (v := 1) hx hb d_Fi_setFlag_71 (by decide) ?_
            have hP9 := hP.sub (ws' := [(fi, .inr (1, [.int mi, .int pl, .int 1, .int sh, .int bl, .int sw, .int sp, .int wi, .int pr, .int le, .int so, .int nx]))]) [0] rfl
            have hD9 := hD.sub (ws' := [(fi, .inr (1, [.int mi, .int pl, .int 1, .int sh, .int bl, .int sw, .int sp, .int wi, .int pr, .int le, .int so, .int nx]))]) [0] (by decide) rfl
            have hK9 := hK.sub (tys' := []) [] rfl
            have hq9 : (1 : Int32) = k_b (flIs ch) ∧ (mi, pl, (1 : Int32), sh, bl) = flSet (mi, pl, ze, sh, bl) ch := by simp [k_b, flIs, flSet, k1_1, k1_2, k1_3, k1_4, k1_5]
            exact W.zret (v := 1) hx hb hr rfl (fun t ht hW => ⟨⟨1, (mi, pl, 1, sh, bl), rfl, hq9, by rw [ht]; exact hP9, va_K.moved hW.alike hK9, hD9⟩, hS.F ht⟩) hS.2.2 d_Fi_setFlag_72
          · skip
            refine lv_lookup (off := 86) (tgt := 87) hx hb d_Fi_setFlag_1 (by decide) (by show Op.lookupswitch.offset [(32, 79), (35, 72), (43, 58), (45, 51), (48, 65)] 86 ch.toInt = _; rw [lv_osw (a := 32) k1_1 (by decide), lv_osw (a := 35) k1_2 (by decide), lv_osw (a := 43) k1_3 (by decide), lv_osw (a := 45) k1_4 (by decide), lv_osw (a := 48) k1_5 (by decide)]; rfl) (by decide) ?_
            refine lv_iconst (v := 0) hx hb d_Fi_setFlag_87 (by decide) ?_
            have hP9 := hP.sub (ws' := [(fi, .inr (1, [.int mi, .int pl, .int ze, .int sh, .int bl, .int sw, .int sp, .int wi, .int pr, .int le, .int so, .int nx]))]) [0] rfl
            have hD9 := hD.sub (ws' := [(fi, .inr (1, [.int mi, .int pl, .int ze, .int sh, .int bl, .int sw, .int sp, .int wi, .int pr, .int le, .int so, .int nx]))]) [0] (by decide) rfl
            have hK9 := hK.sub (tys' := []) [] rfl
            have hq9 : (0 : Int32) = k_b (flIs ch) ∧ (mi, pl, ze, sh, bl) = flSet (mi, pl, ze, sh, bl) ch := by simp [k_b, flIs, flSet, k1_1, k1_2, k1_3, k1_4, k1_5]
            exact W.zret (v := 0) hx hb hr rfl (fun t ht hW => ⟨⟨0, (mi, pl, ze, sh, bl), rfl, hq9, by rw [ht]; exact hP9, va_K.moved hW.alike hK9, hD9⟩, hS.F ht⟩) hS.2.2 d_Fi_setFlag_88

set_option maxHeartbeats 4000000 in
set_option maxRecDepth 100000 in
theorem c_Field_readFlags (l : Launch) (dC : Nat → ClassId) (dI : Nat → Nat → Nat) (sz : Nat) (cC : ClassId) (fi : Nat) (mi : Int32) (pl : Int32) (ze : Int32) (sh : Int32) (bl : Int32) (sw : Int32) (sp : Int32) (wi : Int32) (pr : Int32) (le : Int32) (so : Int32) (nx : Int32) (hF : Nat) (aF : Nat) (roomF : Nat) (fF : Nat → Int32) (nF : Int32) (hn2 : lnOK roomF nF) : Met l y_Fi_readFlags w_Fi_readFlags ({ frames := 1, cells := 0, slots := 0, locals := 21 } : Room) (va_Pc [.ref fi, .ref hF] (fun U => U.heap.size = sz ∧ va_P (dC, dI) CL [(fi, .inr (1, [.int mi, .int pl, .int ze, .int sh, .int bl, .int sw, .int sp, .int wi, .int pr, .int le, .int so, .int nx])), (hF, .inr (2, [.ref aF, .int nF])), (aF, .inl (cC, roomF, .inl fF))] U.heap ∧ va_K (dC, dI) CL [(cC, .char)] U ∧ va_D (fun _ => True) [(fi, .inr (1, [.int mi, .int pl, .int ze, .int sh, .int bl, .int sw, .int sp, .int wi, .int pr, .int le, .int so, .int nx])), (hF, .inr (2, [.ref aF, .int nF])), (aF, .inl (cC, roomF, .inl fF))])) (va_Qv (fun (u : Int32 × Int32 × Int32 × Int32 × Int32 × Int32) => match u with | (mi2, pl2, ze2, sh2, bl2, nx2) => ((mi2, pl2, ze2, sh2, bl2), nx2) = flAll fF nF nx) (fun (u : Int32 × Int32 × Int32 × Int32 × Int32 × Int32) (t : State) => match u with | (mi2, pl2, ze2, sh2, bl2, nx2) => va_P (dC, dI) CL [(fi, .inr (1, [.int mi2, .int pl2, .int ze2, .int sh2, .int bl2, .int sw, .int sp, .int wi, .int pr, .int le, .int so, .int nx2])), (hF, .inr (2, [.ref aF, .int nF])), (aF, .inl (cC, roomF, .inl fF))] t.heap ∧ va_K (dC, dI) CL [(cC, .char)] t ∧ va_D (va_A [(fi, .inr (1, [.int mi, .int pl, .int ze, .int sh, .int bl, .int sw, .int sp, .int wi, .int pr, .int le, .int so, .int nx])), (hF, .inr (2, [.ref aF, .int nF])), (aF, .inl (cC, roomF, .inl fF))] sz) [(fi, .inr (1, [.int mi2, .int pl2, .int ze2, .int sh2, .int bl2, .int sw, .int sp, .int wi, .int pr, .int le, .int so, .int nx2])), (hF, .inr (2, [.ref aF, .int nF])), (aF, .inl (cC, roomF, .inl fF))]) (va_A [(fi, .inr (1, [.int mi, .int pl, .int ze, .int sh, .int bl, .int sw, .int sp, .int wi, .int pr, .int le, .int so, .int nx])), (hF, .inr (2, [.ref aF, .int nF])), (aF, .inl (cC, roomF, .inl fF))] sz)) 0 0 (va_A [(fi, .inr (1, [.int mi, .int pl, .int ze, .int sh, .int bl, .int sw, .int sp, .int wi, .int pr, .int le, .int so, .int nx])), (hF, .inr (2, [.ref aF, .int nF])), (aF, .inl (cC, roomF, .inl fF))] sz) := by
  refine Met.ofW (cc := b_Fi_readFlags) (maxL := 2) (ret := none) (by decide) rfl ?_
  intro p e s m args below meth c s₁ B hml hv
  obtain ⟨rfl, hsz, hP, hK, hD0⟩ := hv
  have hx := B.exec
  have hb := B.bytes
  have hr := B.returns
  have hts := atoms_spec (ws := w_Fi_readFlags) B.pre
  have hT : ∀ w ∈ TB, w.before _ s = true := fun w h => hts w (List.mem_cons_of_mem _ h)
  have hown : s.vm.findClass R_Fi = some m.cls := findClass_of_methodNamed B.named
  have hlocks := B.notSynchronized
  subst hsz
  have hD := hD0.self (sz := s.heap.size)
  generalize hAe : va_A [(fi, .inr (1, [.int mi, .int pl, .int ze, .int sh, .int bl, .int sw, .int sp, .int wi, .int pr, .int le, .int so, .int nx])), (hF, .inr (2, [.ref aF, .int nF])), (aF, .inl (cC, roomF, .inl fF))] s.heap.size = A at hD ⊢
  have hA : ∀ q : Nat, s.heap.size ≤ q → A q := fun q h => by rw [← hAe]; exact Or.inr h
  have hS : va_S A s.heap s.heap [] := va_S.rf
  have hP : va_P (dC, dI) CL [(fi, .inr (1, [.int mi, .int pl, .int ze, .int sh, .int bl, .int sw, .int sp, .int wi, .int pr, .int le, .int so, .int nx])), (hF, .inr (2, [.ref aF, .int nF])), (aF, .inl (cC, roomF, .inl fF))] s.heap := hP
  have hl := lv_entry ([.ref fi, .ref hF]) (n := 2) (Nat.le_of_ble_eq_true rfl)
  rw [lg_entry_eq]
  generalize (lg_sl ([.ref fi, .ref hF]) ++ List.replicate (2 - (lg_sl ([.ref fi, .ref hF])).length) Slot.unset).toArray = ls at hl ⊢
  have hl : lv_has ls 2 [(0, .ref fi), (1, .ref hF)] := hl
  refine k_Q (fun Q hQ => ?_)
  refine lv_aload_n hx hb d_Fi_readFlags_0 rfl (lv_at hl 0 rfl) ?_
  refine lv_iconst (v := 0) hx hb d_Fi_readFlags_1 (by decide) ?_
  refine va_put (D := (dC, dI)) (ci := 1) (v := .int 0) (ty := .boolean) (C := R_Fi) (T := F_Fi) (N := 12) hx hb hT (in_Fi) t_Fi t_Fi_ok n_Fi hown hK hP hD hS 0 rfl rfl 0 (by decide) (hT _ t_77) (fun _ h9 => h9) rfl (by decide +kernel) rfl rfl (Nat.le_of_ble_eq_true rfl) d_Fi_readFlags_2 (fun H locs hP hD hS => ?_)
  have hP : va_P (dC, dI) CL [(fi, .inr (1, [.int 0, .int pl, .int ze, .int sh, .int bl, .int sw, .int sp, .int wi, .int pr, .int le, .int so, .int nx])), (hF, .inr (2, [.ref aF, .int nF])), (aF, .inl (cC, roomF, .inl fF))] H := hP
  have hD : va_D A [(fi, .inr (1, [.int 0, .int pl, .int ze, .int sh, .int bl, .int sw, .int sp, .int wi, .int pr, .int le, .int so, .int nx])), (hF, .inr (2, [.ref aF, .int nF])), (aF, .inl (cC, roomF, .inl fF))] := hD
  refine lv_aload_n hx hb d_Fi_readFlags_5 rfl (lv_at hl 0 rfl) ?_
  refine lv_iconst (v := 0) hx hb d_Fi_readFlags_6 (by decide) ?_
  refine va_put (D := (dC, dI)) (ci := 1) (v := .int 0) (ty := .boolean) (C := R_Fi) (T := F_Fi) (N := 12) hx hb hT (in_Fi) t_Fi t_Fi_ok n_Fi hown hK hP hD hS 0 rfl rfl 1 (by decide) (hT _ t_79) (fun _ h9 => h9) rfl (by decide +kernel) rfl rfl (Nat.le_of_ble_eq_true rfl) d_Fi_readFlags_7 (fun H locs hP hD hS => ?_)
  have hP : va_P (dC, dI) CL [(fi, .inr (1, [.int 0, .int 0, .int ze, .int sh, .int bl, .int sw, .int sp, .int wi, .int pr, .int le, .int so, .int nx])), (hF, .inr (2, [.ref aF, .int nF])), (aF, .inl (cC, roomF, .inl fF))] H := hP
  have hD : va_D A [(fi, .inr (1, [.int 0, .int 0, .int ze, .int sh, .int bl, .int sw, .int sp, .int wi, .int pr, .int le, .int so, .int nx])), (hF, .inr (2, [.ref aF, .int nF])), (aF, .inl (cC, roomF, .inl fF))] := hD
  refine lv_aload_n hx hb d_Fi_readFlags_10 rfl (lv_at hl 0 rfl) ?_
  refine lv_iconst (v := 0) hx hb d_Fi_readFlags_11 (by decide) ?_
  refine va_put (D := (dC, dI)) (ci := 1) (v := .int 0) (ty := .boolean) (C := R_Fi) (T := F_Fi) (N := 12) hx hb hT (in_Fi) t_Fi t_Fi_ok n_Fi hown hK hP hD hS 0 rfl rfl 2 (by decide) (hT _ t_80) (fun _ h9 => h9) rfl (by decide +kernel) rfl rfl (Nat.le_of_ble_eq_true rfl) d_Fi_readFlags_12 (fun H locs hP hD hS => ?_)
  have hP : va_P (dC, dI) CL [(fi, .inr (1, [.int 0, .int 0, .int 0, .int sh, .int bl, .int sw, .int sp, .int wi, .int pr, .int le, .int so, .int nx])), (hF, .inr (2, [.ref aF, .int nF])), (aF, .inl (cC, roomF, .inl fF))] H := hP
  have hD : va_D A [(fi, .inr (1, [.int 0, .int 0, .int 0, .int sh, .int bl, .int sw, .int sp, .int wi, .int pr, .int le, .int so, .int nx])), (hF, .inr (2, [.ref aF, .int nF])), (aF, .inl (cC, roomF, .inl fF))] := hD
  refine lv_aload_n hx hb d_Fi_readFlags_15 rfl (lv_at hl 0 rfl) ?_
  refine lv_iconst (v := 0) hx hb d_Fi_readFlags_16 (by decide) ?_
  refine va_put (D := (dC, dI)) (ci := 1) (v := .int 0) (ty := .boolean) (C := R_Fi) (T := F_Fi) (N := 12) hx hb hT (in_Fi) t_Fi t_Fi_ok n_Fi hown hK hP hD hS 0 rfl rfl 3 (by decide) (hT _ t_81) (fun _ h9 => h9) rfl (by decide +kernel) rfl rfl (Nat.le_of_ble_eq_true rfl) d_Fi_readFlags_17 (fun H locs hP hD hS => ?_)
  have hP : va_P (dC, dI) CL [(fi, .inr (1, [.int 0, .int 0, .int 0, .int 0, .int bl, .int sw, .int sp, .int wi, .int pr, .int le, .int so, .int nx])), (hF, .inr (2, [.ref aF, .int nF])), (aF, .inl (cC, roomF, .inl fF))] H := hP
  have hD : va_D A [(fi, .inr (1, [.int 0, .int 0, .int 0, .int 0, .int bl, .int sw, .int sp, .int wi, .int pr, .int le, .int so, .int nx])), (hF, .inr (2, [.ref aF, .int nF])), (aF, .inl (cC, roomF, .inl fF))] := hD
  refine lv_aload_n hx hb d_Fi_readFlags_20 rfl (lv_at hl 0 rfl) ?_
  refine lv_iconst (v := 0) hx hb d_Fi_readFlags_21 (by decide) ?_
  refine va_put (D := (dC, dI)) (ci := 1) (v := .int 0) (ty := .boolean) (C := R_Fi) (T := F_Fi) (N := 12) hx hb hT (in_Fi) t_Fi t_Fi_ok n_Fi hown hK hP hD hS 0 rfl rfl 4 (by decide) (hT _ t_83) (fun _ h9 => h9) rfl (by decide +kernel) rfl rfl (Nat.le_of_ble_eq_true rfl) d_Fi_readFlags_22 (fun H locs hP hD hS => ?_)
  have hP : va_P (dC, dI) CL [(fi, .inr (1, [.int 0, .int 0, .int 0, .int 0, .int 0, .int sw, .int sp, .int wi, .int pr, .int le, .int so, .int nx])), (hF, .inr (2, [.ref aF, .int nF])), (aF, .inl (cC, roomF, .inl fF))] H := hP
  have hD : va_D A [(fi, .inr (1, [.int 0, .int 0, .int 0, .int 0, .int 0, .int sw, .int sp, .int wi, .int pr, .int le, .int so, .int nx])), (hF, .inr (2, [.ref aF, .int nF])), (aF, .inl (cC, roomF, .inl fF))] := hD
  have loop25 : ∀ (fuel : Nat) (mi1 : Int32) (pl1 : Int32) (ze1 : Int32) (sh1 : Int32) (bl1 : Int32) (nx1 : Int32) (H : Heap) (locs : List Loc) (ls : Array Slot), ((nF.toInt - nx1.toInt).toNat < fuel) → (flGo fF nF fuel (mi1, pl1, ze1, sh1, bl1) nx1 = flAll fF nF nx) → va_P (dC, dI) CL [(fi, .inr (1, [.int mi1, .int pl1, .int ze1, .int sh1, .int bl1, .int sw, .int sp, .int wi, .int pr, .int le, .int so, .int nx1])), (hF, .inr (2, [.ref aF, .int nF])), (aF, .inl (cC, roomF, .inl fF))] H → va_D A [(fi, .inr (1, [.int mi1, .int pl1, .int ze1, .int sh1, .int bl1, .int sw, .int sp, .int wi, .int pr, .int le, .int so, .int nx1])), (hF, .inr (2, [.ref aF, .int nF])), (aF, .inl (cC, roomF, .inl fF))] → va_S A s.heap H locs → lv_has ls 2 [(0, .ref fi), (1, .ref hF)] → W p l e (headSpec w_Fi_readFlags ({ frames := 1, cells := 0, slots := 0, locals := 21 } : Room)).room s m ([.ref fi, .ref hF] : List Value).toArray below meth c H locs 0 0 Q (F0 m 25 ls []) := by
    intro fuel
    induction fuel with
    | zero =>
      intro mi1 pl1 ze1 sh1 bl1 nx1 H locs ls hk hG hP hD hS hl
      exact absurd hk (Nat.not_lt_zero _)
    | succ fuel ih =>
      intro mi1 pl1 ze1 sh1 bl1 nx1 H locs ls hk hG hP hD hS hl
      refine lv_aload_n hx hb d_Fi_readFlags_25 rfl (lv_at hl 0 rfl) ?_
      refine va_get (D := (dC, dI)) (ci := 1) (v := .int nx1) (C := R_Fi) (T := F_Fi) (N := 12) hx hb hT (in_Fi) hown hK hP 0 rfl rfl 11 (by decide) (hT _ t_95) (fun _ h9 => h9) rfl d_Fi_readFlags_26 ?_
      refine lv_aload_n hx hb d_Fi_readFlags_29 rfl (lv_at hl 1 rfl) ?_
      have hPc := hP.sub (ws' := [(hF, .inr (2, [.ref aF, .int nF])), (aF, .inl (cC, roomF, .inl fF))]) [1, 2] rfl
      have hDc := hD.sub (ws' := [(hF, .inr (2, [.ref aF, .int nF])), (aF, .inl (cC, roomF, .inl fF))]) [1, 2] (by decide) rfl
      have hKc := hK.sub (tys' := [(cC, .char)]) [0] rfl
      have hFc := va_free (wc := [(hF, .inr (2, [.ref aF, .int nF])), (aF, .inl (cC, roomF, .inl fF))]) hD hS hA [1, 2] rfl
      refine va_calli (va_runV (As := []) (rest := [.int nx1]) ⟨hx, hb, hml, hown, hT⟩ (c_Line_size l dC dI H.size cC hF aF roomF fF nF ) (cwV 0 hT g_Fi_56 rfl rfl rfl (by decide +kernel) ⟨Nat.le_of_ble_eq_true rfl, Nat.le_of_ble_eq_true rfl⟩) ⟨fun a U g mk q => by obtain ⟨q0, q1, qP, qK, qD⟩ := q; exact ⟨q0, q1, qP, va_K.moved (u := U) (U := U.calling g mk a) (Vm.Alike.refl U.vm) qK, qD⟩, va_recv hKc hPc (ci := 2) (q0 := 0) rfl rfl, fun U hU hW => ⟨rfl, by rw [hU], by rw [hU]; exact hPc, va_K.moved hW.alike hKc, hDc.weaken (fun _ _ _ _ => trivial)⟩⟩ rfl rfl hl.1 rfl (lv_room (Nat.le_of_ble_eq_true rfl)) d_Fi_readFlags_30 ⟨Nat.le_of_ble_eq_true rfl, Nat.le_of_ble_eq_true rfl⟩) hS (fun q _ h => hFc q h) hFc (fun x1 u t H1 locs ht hvm w30_1 hB hz1 hk1 hS => ?_)
      obtain ⟨hP1, hK1, hD1⟩ := hB
      rw [ht] at hP1
      try dsimp only at w30_1
      obtain ⟨hP, hD⟩ := va_join (wr := [(fi, .inr (1, [.int mi1, .int pl1, .int ze1, .int sh1, .int bl1, .int sw, .int sp, .int wi, .int pr, .int le, .int so, .int nx1]))]) (w1 := [(hF, .inr (2, [.ref aF, .int nF])), (aF, .inl (cC, roomF, .inl fF))]) hP hD [1, 2] [0] rfl rfl (by decide) (by decide) hk1 hFc hP1 hD1
      generalize H1 = H at hP hS ⊢
      have hP : va_P (dC, dI) CL [(fi, .inr (1, [.int mi1, .int pl1, .int ze1, .int sh1, .int bl1, .int sw, .int sp, .int wi, .int pr, .int le, .int so, .int nx1])), (hF, .inr (2, [.ref aF, .int nF])), (aF, .inl (cC, roomF, .inl fF))] H := hP
      have hD : va_D A [(fi, .inr (1, [.int mi1, .int pl1, .int ze1, .int sh1, .int bl1, .int sw, .int sp, .int wi, .int pr, .int le, .int so, .int nx1])), (hF, .inr (2, [.ref aF, .int nF])), (aF, .inl (cC, roomF, .inl fF))] := hD
      refine lv_icmp_ge (tgt := 64) hx hb d_Fi_readFlags_33 (by decide) (fun c33_2 => ?_) (fun c33_2 => ?_)
      · skip
        rw [w30_1] at c33_2
        have hP9 := hP.sub (ws' := [(fi, .inr (1, [.int mi1, .int pl1, .int ze1, .int sh1, .int bl1, .int sw, .int sp, .int wi, .int pr, .int le, .int so, .int nx1])), (hF, .inr (2, [.ref aF, .int nF])), (aF, .inl (cC, roomF, .inl fF))]) [0, 1, 2] rfl
        have hD9 := hD.sub (ws' := [(fi, .inr (1, [.int mi1, .int pl1, .int ze1, .int sh1, .int bl1, .int sw, .int sp, .int wi, .int pr, .int le, .int so, .int nx1])), (hF, .inr (2, [.ref aF, .int nF])), (aF, .inl (cC, roomF, .inl fF))]) [0, 1, 2] (by decide) rfl
        have hK9 := hK.sub (tys' := [(cC, .char)]) [0] rfl
        have hq9 : ((mi1, pl1, ze1, sh1, bl1), nx1) = flAll fF nF nx := by have h9 := hG; rw [flGo, if_pos c33_2] at h9; exact h9
        subst hQ
        exact W.vret hx hb hr (fun t ht hW => ⟨⟨(mi1, pl1, ze1, sh1, bl1, nx1), rfl, hq9, by rw [ht]; exact hP9, va_K.moved hW.alike hK9, hD9⟩, hS.F ht⟩) hS.2.2 d_Fi_readFlags_64
      · skip
        rw [w30_1] at c33_2
        refine lv_aload_n hx hb d_Fi_readFlags_36 rfl (lv_at hl 0 rfl) ?_
        refine lv_aload_n hx hb d_Fi_readFlags_37 rfl (lv_at hl 1 rfl) ?_
        refine lv_aload_n hx hb d_Fi_readFlags_38 rfl (lv_at hl 0 rfl) ?_
        refine va_get (D := (dC, dI)) (ci := 1) (v := .int nx1) (C := R_Fi) (T := F_Fi) (N := 12) hx hb hT (in_Fi) hown hK hP 0 rfl rfl 11 (by decide) (hT _ t_95) (fun _ h9 => h9) rfl d_Fi_readFlags_39 ?_
        have hPc := hP.sub (ws' := [(hF, .inr (2, [.ref aF, .int nF])), (aF, .inl (cC, roomF, .inl fF))]) [1, 2] rfl
        have hDc := hD.sub (ws' := [(hF, .inr (2, [.ref aF, .int nF])), (aF, .inl (cC, roomF, .inl fF))]) [1, 2] (by decide) rfl
        have hKc := hK.sub (tys' := [(cC, .char)]) [0] rfl
        have hFc := va_free (wc := [(hF, .inr (2, [.ref aF, .int nF])), (aF, .inl (cC, roomF, .inl fF))]) hD hS hA [1, 2] rfl
        refine va_calli (va_runV (As := [.int nx1]) (rest := [.ref fi]) ⟨hx, hb, hml, hown, hT⟩ (c_Line_at l dC dI H.size cC hF aF roomF fF nF nx1 hn2) (cwV 1 hT g_Fi_25 rfl rfl rfl (by decide +kernel) ⟨Nat.le_of_ble_eq_true rfl, Nat.le_of_ble_eq_true rfl⟩) ⟨fun a U g mk q => by obtain ⟨q0, q1, qP, qK, qD⟩ := q; exact ⟨q0, q1, qP, va_K.moved (u := U) (U := U.calling g mk a) (Vm.Alike.refl U.vm) qK, qD⟩, va_recv hKc hPc (ci := 2) (q0 := 0) rfl rfl, fun U hU hW => ⟨rfl, by rw [hU], by rw [hU]; exact hPc, va_K.moved hW.alike hKc, hDc.weaken (fun _ _ _ _ => trivial)⟩⟩ rfl rfl hl.1 rfl (lv_room (Nat.le_of_ble_eq_true rfl)) d_Fi_readFlags_42 ⟨Nat.le_of_ble_eq_true rfl, Nat.le_of_ble_eq_true rfl⟩) hS (fun q _ h => hFc q h) hFc (fun x3 u t H1 locs ht hvm w42_3 hB hz1 hk1 hS => ?_)
        obtain ⟨hP1, hK1, hD1⟩ := hB
        rw [ht] at hP1
        try dsimp only at w42_3
        obtain ⟨hP, hD⟩ := va_join (wr := [(fi, .inr (1, [.int mi1, .int pl1, .int ze1, .int sh1, .int bl1, .int sw, .int sp, .int wi, .int pr, .int le, .int so, .int nx1]))]) (w1 := [(hF, .inr (2, [.ref aF, .int nF])), (aF, .inl (cC, roomF, .inl fF))]) hP hD [1, 2] [0] rfl rfl (by decide) (by decide) hk1 hFc hP1 hD1
        generalize H1 = H at hP hS ⊢
        have hP : va_P (dC, dI) CL [(fi, .inr (1, [.int mi1, .int pl1, .int ze1, .int sh1, .int bl1, .int sw, .int sp, .int wi, .int pr, .int le, .int so, .int nx1])), (hF, .inr (2, [.ref aF, .int nF])), (aF, .inl (cC, roomF, .inl fF))] H := hP
        have hD : va_D A [(fi, .inr (1, [.int mi1, .int pl1, .int ze1, .int sh1, .int bl1, .int sw, .int sp, .int wi, .int pr, .int le, .int so, .int nx1])), (hF, .inr (2, [.ref aF, .int nF])), (aF, .inl (cC, roomF, .inl fF))] := hD
        have hPc := hP.sub (ws' := [(fi, .inr (1, [.int mi1, .int pl1, .int ze1, .int sh1, .int bl1, .int sw, .int sp, .int wi, .int pr, .int le, .int so, .int nx1]))]) [0] rfl
        have hDc := hD.sub (ws' := [(fi, .inr (1, [.int mi1, .int pl1, .int ze1, .int sh1, .int bl1, .int sw, .int sp, .int wi, .int pr, .int le, .int so, .int nx1]))]) [0] (by decide) rfl
        have hKc := hK.sub (tys' := []) [] rfl
        have hFc := va_free (wc := [(fi, .inr (1, [.int mi1, .int pl1, .int ze1, .int sh1, .int bl1, .int sw, .int sp, .int wi, .int pr, .int le, .int so, .int nx1]))]) hD hS hA [0] rfl
        refine va_calli (va_runV (As := [.int x3]) (rest := []) ⟨hx, hb, hml, hown, hT⟩ (c_Field_setFlag l dC dI H.size fi mi1 pl1 ze1 sh1 bl1 sw sp wi pr le so nx1 x3 ) (cwV 1 hT g_Fi_60 rfl rfl rfl (by decide +kernel) ⟨Nat.le_of_ble_eq_true rfl, Nat.le_of_ble_eq_true rfl⟩) ⟨fun a U g mk q => by obtain ⟨q0, q1, qP, qK, qD⟩ := q; exact ⟨q0, q1, qP, va_K.moved (u := U) (U := U.calling g mk a) (Vm.Alike.refl U.vm) qK, qD⟩, va_recv hKc hPc (ci := 1) (q0 := 0) rfl rfl, fun U hU hW => ⟨rfl, by rw [hU], by rw [hU]; exact hPc, va_K.moved hW.alike hKc, hDc.weaken (fun _ _ _ _ => trivial)⟩⟩ rfl rfl hl.1 rfl (lv_room (Nat.le_of_ble_eq_true rfl)) d_Fi_readFlags_45 ⟨Nat.le_of_ble_eq_true rfl, Nat.le_of_ble_eq_true rfl⟩) hS (fun q _ h => hFc q h) hFc (fun x4 u t H1 locs ht hvm w45_9 hB hz1 hk1 hS => ?_)
        obtain ⟨mi_5, pl_6, ze_7, sh_8, bl_9⟩ := u
        obtain ⟨hP1, hK1, hD1⟩ := hB
        rw [ht] at hP1
        try dsimp only at w45_9
        obtain ⟨w45_9, w45_9b⟩ := w45_9
        obtain ⟨hP, hD⟩ := va_join (wr := [(hF, .inr (2, [.ref aF, .int nF])), (aF, .inl (cC, roomF, .inl fF))]) (w1 := [(fi, .inr (1, [.int mi_5, .int pl_6, .int ze_7, .int sh_8, .int bl_9, .int sw, .int sp, .int wi, .int pr, .int le, .int so, .int nx1]))]) hP hD [0] [1, 2] rfl rfl (by decide) (by decide) hk1 hFc hP1 hD1
        generalize H1 = H at hP hS ⊢
        have hP : va_P (dC, dI) CL [(hF, .inr (2, [.ref aF, .int nF])), (aF, .inl (cC, roomF, .inl fF)), (fi, .inr (1, [.int mi_5, .int pl_6, .int ze_7, .int sh_8, .int bl_9, .int sw, .int sp, .int wi, .int pr, .int le, .int so, .int nx1]))] H := hP
        have hD : va_D A [(hF, .inr (2, [.ref aF, .int nF])), (aF, .inl (cC, roomF, .inl fF)), (fi, .inr (1, [.int mi_5, .int pl_6, .int ze_7, .int sh_8, .int bl_9, .int sw, .int sp, .int wi, .int pr, .int le, .int so, .int nx1]))] := hD
        refine lv_if_eq (tgt := 64) hx hb d_Fi_readFlags_48 (by decide) (fun c48_10 => ?_) (fun c48_10 => ?_)
        · skip
          have hP9 := hP.sub (ws' := [(fi, .inr (1, [.int mi_5, .int pl_6, .int ze_7, .int sh_8, .int bl_9, .int sw, .int sp, .int wi, .int pr, .int le, .int so, .int nx1])), (hF, .inr (2, [.ref aF, .int nF])), (aF, .inl (cC, roomF, .inl fF))]) [2, 0, 1] rfl
          have hD9 := hD.sub (ws' := [(fi, .inr (1, [.int mi_5, .int pl_6, .int ze_7, .int sh_8, .int bl_9, .int sw, .int sp, .int wi, .int pr, .int le, .int so, .int nx1])), (hF, .inr (2, [.ref aF, .int nF])), (aF, .inl (cC, roomF, .inl fF))]) [2, 0, 1] (by decide) rfl
          have hK9 := hK.sub (tys' := [(cC, .char)]) [0] rfl
          have hq9 : ((mi_5, pl_6, ze_7, sh_8, bl_9), nx1) = flAll fF nF nx := by
            have h9 := hG
            have h8 := k_bF1 c48_10 w45_9
            rw [flGo, if_neg c33_2, ← w42_3, if_neg h8] at h9
            rw [fl_no h8] at w45_9b
            rw [w45_9b]; exact h9
          subst hQ
          exact W.vret hx hb hr (fun t ht hW => ⟨⟨(mi_5, pl_6, ze_7, sh_8, bl_9, nx1), rfl, hq9, by rw [ht]; exact hP9, va_K.moved hW.alike hK9, hD9⟩, hS.F ht⟩) hS.2.2 d_Fi_readFlags_64
        · skip
          refine lv_aload_n hx hb d_Fi_readFlags_51 rfl (lv_at hl 0 rfl) ?_
          refine lv_dup hx hb d_Fi_readFlags_52 rfl ?_
          refine va_get (D := (dC, dI)) (ci := 1) (v := .int nx1) (C := R_Fi) (T := F_Fi) (N := 12) hx hb hT (in_Fi) hown hK hP 2 rfl rfl 11 (by decide) (hT _ t_95) (fun _ h9 => h9) rfl d_Fi_readFlags_53 ?_
          refine lv_iconst (v := 1) hx hb d_Fi_readFlags_56 (by decide) ?_
          refine lv_iadd hx hb d_Fi_readFlags_57 ?_
          refine lv_topi (fun x11 ex11 => ?_)
          refine va_put (D := (dC, dI)) (ci := 1) (v := .int x11) (ty := .int) (C := R_Fi) (T := F_Fi) (N := 12) hx hb hT (in_Fi) t_Fi t_Fi_ok n_Fi hown hK hP hD hS 2 rfl rfl 11 (by decide) (hT _ t_95) (fun _ h9 => h9) rfl (by decide +kernel) rfl rfl (Nat.le_of_ble_eq_true rfl) d_Fi_readFlags_58 (fun H locs hP hD hS => ?_)
          have hP : va_P (dC, dI) CL [(hF, .inr (2, [.ref aF, .int nF])), (aF, .inl (cC, roomF, .inl fF)), (fi, .inr (1, [.int mi_5, .int pl_6, .int ze_7, .int sh_8, .int bl_9, .int sw, .int sp, .int wi, .int pr, .int le, .int so, .int x11]))] H := hP
          have hD : va_D A [(hF, .inr (2, [.ref aF, .int nF])), (aF, .inl (cC, roomF, .inl fF)), (fi, .inr (1, [.int mi_5, .int pl_6, .int ze_7, .int sh_8, .int bl_9, .int sw, .int sp, .int wi, .int pr, .int le, .int so, .int x11]))] := hD
          refine lv_goto (tgt := 25) hx hb d_Fi_readFlags_61 (by decide) ?_
          exact ih mi_5 pl_6 ze_7 sh_8 bl_9 x11 _ _ _ (by rw [ex11]; exact k_fuel c33_2 hk) (by have h9 := hG; rw [flGo, if_neg c33_2, ← w42_3, if_pos (k_bT1 c48_10 w45_9), ← w45_9b] at h9; rw [ex11]; exact h9) (hP.sub [2, 0, 1] rfl) (hD.sub [2, 0, 1] (by decide) rfl) hS (lv_sub hl [0, 1] rfl)
  exact loop25 ((nF.toInt - nx.toInt).toNat + 1) 0 0 0 0 0 nx _ _ _ (by omega) (rfl) hP hD hS (lv_sub hl [0, 1] rfl)

set_option maxHeartbeats 4000000 in
set_option maxRecDepth 100000 in
theorem c_Field_readNumber (l : Launch) (dC : Nat → ClassId) (dI : Nat → Nat → Nat) (sz : Nat) (cC : ClassId) (fi : Nat) (mi : Int32) (pl : Int32) (ze : Int32) (sh : Int32) (bl : Int32) (sw : Int32) (sp : Int32) (wi : Int32) (pr : Int32) (le : Int32) (so : Int32) (nx : Int32) (hF : Nat) (aF : Nat) (roomF : Nat) (fF : Nat → Int32) (nF : Int32) (hn2 : lnOK roomF nF) : Met l y_Fi_readNumber w_Fi_readNumber ({ frames := 2, cells := 0, slots := 0, locals := 46 } : Room) (va_Pc [.ref fi, .ref hF] (fun U => U.heap.size = sz ∧ va_P (dC, dI) CL [(fi, .inr (1, [.int mi, .int pl, .int ze, .int sh, .int bl, .int sw, .int sp, .int wi, .int pr, .int le, .int so, .int nx])), (hF, .inr (2, [.ref aF, .int nF])), (aF, .inl (cC, roomF, .inl fF))] U.heap ∧ va_K (dC, dI) CL [(cC, .char)] U ∧ va_D (fun _ => True) [(fi, .inr (1, [.int mi, .int pl, .int ze, .int sh, .int bl, .int sw, .int sp, .int wi, .int pr, .int le, .int so, .int nx])), (hF, .inr (2, [.ref aF, .int nF])), (aF, .inl (cC, roomF, .inl fF))])) (va_Qi (fun (r : Int32) (nx2 : Int32) => r = rnVal fF nF nx ∧ nx2 = nx + rnMany fF nF nx) (fun (nx2 : Int32) (t : State) => va_P (dC, dI) CL [(fi, .inr (1, [.int mi, .int pl, .int ze, .int sh, .int bl, .int sw, .int sp, .int wi, .int pr, .int le, .int so, .int nx2])), (hF, .inr (2, [.ref aF, .int nF])), (aF, .inl (cC, roomF, .inl fF))] t.heap ∧ va_K (dC, dI) CL [(cC, .char)] t ∧ va_D (va_A [(fi, .inr (1, [.int mi, .int pl, .int ze, .int sh, .int bl, .int sw, .int sp, .int wi, .int pr, .int le, .int so, .int nx])), (hF, .inr (2, [.ref aF, .int nF])), (aF, .inl (cC, roomF, .inl fF))] sz) [(fi, .inr (1, [.int mi, .int pl, .int ze, .int sh, .int bl, .int sw, .int sp, .int wi, .int pr, .int le, .int so, .int nx2])), (hF, .inr (2, [.ref aF, .int nF])), (aF, .inl (cC, roomF, .inl fF))]) (va_A [(fi, .inr (1, [.int mi, .int pl, .int ze, .int sh, .int bl, .int sw, .int sp, .int wi, .int pr, .int le, .int so, .int nx])), (hF, .inr (2, [.ref aF, .int nF])), (aF, .inl (cC, roomF, .inl fF))] sz)) 0 0 (va_A [(fi, .inr (1, [.int mi, .int pl, .int ze, .int sh, .int bl, .int sw, .int sp, .int wi, .int pr, .int le, .int so, .int nx])), (hF, .inr (2, [.ref aF, .int nF])), (aF, .inl (cC, roomF, .inl fF))] sz) := by
  refine Met.ofW (cc := b_Fi_readNumber) (maxL := 4) (ret := (some .int)) (by decide) rfl ?_
  intro p e s m args below meth c s₁ B hml hv
  obtain ⟨rfl, hsz, hP, hK, hD0⟩ := hv
  have hx := B.exec
  have hb := B.bytes
  have hr := B.returns
  have hts := atoms_spec (ws := w_Fi_readNumber) B.pre
  have hT : ∀ w ∈ TB, w.before _ s = true := fun w h => hts w (List.mem_cons_of_mem _ h)
  have hown : s.vm.findClass R_Fi = some m.cls := findClass_of_methodNamed B.named
  have hlocks := B.notSynchronized
  subst hsz
  have hD := hD0.self (sz := s.heap.size)
  generalize hAe : va_A [(fi, .inr (1, [.int mi, .int pl, .int ze, .int sh, .int bl, .int sw, .int sp, .int wi, .int pr, .int le, .int so, .int nx])), (hF, .inr (2, [.ref aF, .int nF])), (aF, .inl (cC, roomF, .inl fF))] s.heap.size = A at hD ⊢
  have hA : ∀ q : Nat, s.heap.size ≤ q → A q := fun q h => by rw [← hAe]; exact Or.inr h
  have hS : va_S A s.heap s.heap [] := va_S.rf
  have hP : va_P (dC, dI) CL [(fi, .inr (1, [.int mi, .int pl, .int ze, .int sh, .int bl, .int sw, .int sp, .int wi, .int pr, .int le, .int so, .int nx])), (hF, .inr (2, [.ref aF, .int nF])), (aF, .inl (cC, roomF, .inl fF))] s.heap := hP
  have hl := lv_entry ([.ref fi, .ref hF]) (n := 4) (Nat.le_of_ble_eq_true rfl)
  rw [lg_entry_eq]
  generalize (lg_sl ([.ref fi, .ref hF]) ++ List.replicate (4 - (lg_sl ([.ref fi, .ref hF])).length) Slot.unset).toArray = ls at hl ⊢
  have hl : lv_has ls 4 [(0, .ref fi), (1, .ref hF)] := hl
  refine lv_iconst (v := 2) hx hb d_Fi_readNumber_0 (by decide) ?_
  refine lv_aload_n hx hb d_Fi_readNumber_1 rfl (lv_at hl 1 rfl) ?_
  refine lv_aload_n hx hb d_Fi_readNumber_2 rfl (lv_at hl 0 rfl) ?_
  refine va_get (D := (dC, dI)) (ci := 1) (v := .int nx) (C := R_Fi) (T := F_Fi) (N := 12) hx hb hT (in_Fi) hown hK hP 0 rfl rfl 11 (by decide) (hT _ t_95) (fun _ h9 => h9) rfl d_Fi_readNumber_3 ?_
  have hPc := hP.sub (ws' := [(hF, .inr (2, [.ref aF, .int nF])), (aF, .inl (cC, roomF, .inl fF))]) [1, 2] rfl
  have hDc := hD.sub (ws' := [(hF, .inr (2, [.ref aF, .int nF])), (aF, .inl (cC, roomF, .inl fF))]) [1, 2] (by decide) rfl
  have hKc := hK.sub (tys' := [(cC, .char)]) [0] rfl
  have hFc := va_free (wc := [(hF, .inr (2, [.ref aF, .int nF])), (aF, .inl (cC, roomF, .inl fF))]) hD hS hA [1, 2] rfl
  refine va_calli (va_runV (As := [.int nx]) (rest := [.int 2]) ⟨hx, hb, hml, hown, hT⟩ (c_Line_digitsFrom l dC dI s.heap.size cC hF aF roomF fF nF nx hn2) (cwV 1 hT g_Fi_80 rfl rfl rfl (by decide +kernel) ⟨Nat.le_of_ble_eq_true rfl, Nat.le_of_ble_eq_true rfl⟩) ⟨fun a U g mk q => by obtain ⟨q0, q1, qP, qK, qD⟩ := q; exact ⟨q0, q1, qP, va_K.moved (u := U) (U := U.calling g mk a) (Vm.Alike.refl U.vm) qK, qD⟩, va_recv hKc hPc (ci := 2) (q0 := 0) rfl rfl, fun U hU hW => ⟨rfl, by rw [hU], by rw [hU]; exact hPc, va_K.moved hW.alike hKc, hDc.weaken (fun _ _ _ _ => trivial)⟩⟩ rfl rfl hl.1 rfl (lv_room (Nat.le_of_ble_eq_true rfl)) d_Fi_readNumber_6 ⟨Nat.le_of_ble_eq_true rfl, Nat.le_of_ble_eq_true rfl⟩) hS (fun q _ h => hFc q h) hFc (fun x1 u t H1 locs ht hvm w6_1 hB hz1 hk1 hS => ?_)
  obtain ⟨hP1, hK1, hD1⟩ := hB
  rw [ht] at hP1
  try dsimp only at w6_1
  obtain ⟨hP, hD⟩ := va_join (wr := [(fi, .inr (1, [.int mi, .int pl, .int ze, .int sh, .int bl, .int sw, .int sp, .int wi, .int pr, .int le, .int so, .int nx]))]) (w1 := [(hF, .inr (2, [.ref aF, .int nF])), (aF, .inl (cC, roomF, .inl fF))]) hP hD [1, 2] [0] rfl rfl (by decide) (by decide) hk1 hFc hP1 hD1
  generalize H1 = H at hP hS ⊢
  have hP : va_P (dC, dI) CL [(fi, .inr (1, [.int mi, .int pl, .int ze, .int sh, .int bl, .int sw, .int sp, .int wi, .int pr, .int le, .int so, .int nx])), (hF, .inr (2, [.ref aF, .int nF])), (aF, .inl (cC, roomF, .inl fF))] H := hP
  have hD : va_D A [(fi, .inr (1, [.int mi, .int pl, .int ze, .int sh, .int bl, .int sw, .int sp, .int wi, .int pr, .int le, .int so, .int nx])), (hF, .inr (2, [.ref aF, .int nF])), (aF, .inl (cC, roomF, .inl fF))] := hD
  refine va_mmin hx hb (hml.trans hl.1.symm) hown (hT _ t_423) (hT _ t_424) (hT _ t_3) (hT _ t_425) (Nat.le_of_ble_eq_true rfl) (Nat.le_of_ble_eq_true rfl) (Nat.le_of_ble_eq_true rfl) (Nat.le_of_ble_eq_true rfl) d_Fi_readNumber_9 ?_
  refine lv_topi (fun x2 ex2 => ?_)
  have hm : x2 = rnMany fF nF nx := by rw [rnMany, ← w6_1]; exact ex2
  refine lv_istore_n (lv' := [(2, .int x2), (0, .ref fi), (1, .ref hF)]) hx hb d_Fi_readNumber_12 rfl hl (by decide) rfl (fun ls hl => ?_)
  refine lv_aload_n hx hb d_Fi_readNumber_13 rfl (lv_at hl 2 rfl) ?_
  refine lv_aload_n hx hb d_Fi_readNumber_14 rfl (lv_at hl 1 rfl) ?_
  refine va_get (D := (dC, dI)) (ci := 1) (v := .int nx) (C := R_Fi) (T := F_Fi) (N := 12) hx hb hT (in_Fi) hown hK hP 0 rfl rfl 11 (by decide) (hT _ t_95) (fun _ h9 => h9) rfl d_Fi_readNumber_15 ?_
  refine lv_iload_n hx hb d_Fi_readNumber_18 rfl (lv_at hl 0 rfl) ?_
  have hPc := hP.sub (ws' := [(hF, .inr (2, [.ref aF, .int nF])), (aF, .inl (cC, roomF, .inl fF))]) [1, 2] rfl
  have hDc := hD.sub (ws' := [(hF, .inr (2, [.ref aF, .int nF])), (aF, .inl (cC, roomF, .inl fF))]) [1, 2] (by decide) rfl
  have hKc := hK.sub (tys' := [(cC, .char)]) [0] rfl
  have hFc := va_free (wc := [(hF, .inr (2, [.ref aF, .int nF])), (aF, .inl (cC, roomF, .inl fF))]) hD hS hA [1, 2] rfl
  refine va_calll (va_runV (As := [.int nx, .int x2]) (rest := []) ⟨hx, hb, hml, hown, hT⟩ (c_Line_numberAt l dC dI H.size cC hF aF roomF fF nF nx x2 hn2) (cwV 2 hT g_Fi_89 rfl rfl rfl (by decide +kernel) ⟨Nat.le_of_ble_eq_true rfl, Nat.le_of_ble_eq_true rfl⟩) ⟨fun a U g mk q => by obtain ⟨q0, q1, qP, qK, qD⟩ := q; exact ⟨q0, q1, qP, va_K.moved (u := U) (U := U.calling g mk a) (Vm.Alike.refl U.vm) qK, qD⟩, va_recv hKc hPc (ci := 2) (q0 := 0) rfl rfl, fun U hU hW => ⟨rfl, by rw [hU], by rw [hU]; exact hPc, va_K.moved hW.alike hKc, hDc.weaken (fun _ _ _ _ => trivial)⟩⟩ rfl rfl hl.1 rfl (lv_room (Nat.le_of_ble_eq_true rfl)) d_Fi_readNumber_19 ⟨Nat.le_of_ble_eq_true rfl, Nat.le_of_ble_eq_true rfl⟩) hS (fun q _ h => hFc q h) hFc (fun x3 u t H1 locs ht hvm w19_3 hB hz1 hk1 hS => ?_)
  obtain ⟨hP1, hK1, hD1⟩ := hB
  rw [ht] at hP1
  try dsimp only at w19_3
  obtain ⟨hP, hD⟩ := va_join (wr := [(fi, .inr (1, [.int mi, .int pl, .int ze, .int sh, .int bl, .int sw, .int sp, .int wi, .int pr, .int le, .int so, .int nx]))]) (w1 := [(hF, .inr (2, [.ref aF, .int nF])), (aF, .inl (cC, roomF, .inl fF))]) hP hD [1, 2] [0] rfl rfl (by decide) (by decide) hk1 hFc hP1 hD1
  generalize H1 = H at hP hS ⊢
  have hP : va_P (dC, dI) CL [(fi, .inr (1, [.int mi, .int pl, .int ze, .int sh, .int bl, .int sw, .int sp, .int wi, .int pr, .int le, .int so, .int nx])), (hF, .inr (2, [.ref aF, .int nF])), (aF, .inl (cC, roomF, .inl fF))] H := hP
  have hD : va_D A [(fi, .inr (1, [.int mi, .int pl, .int ze, .int sh, .int bl, .int sw, .int sp, .int wi, .int pr, .int le, .int so, .int nx])), (hF, .inr (2, [.ref aF, .int nF])), (aF, .inl (cC, roomF, .inl fF))] := hD
  refine lv_l2i (v := x3.toInt32) hx hb d_Fi_readNumber_22 rfl ?_
  refine lv_topi (fun x4 ex4 => ?_)
  refine lv_istore_n (lv' := [(3, .int x4), (2, .int x2), (0, .ref fi), (1, .ref hF)]) hx hb d_Fi_readNumber_23 rfl hl (by decide) rfl (fun ls hl => ?_)
  refine lv_aload_n hx hb d_Fi_readNumber_24 rfl (lv_at hl 2 rfl) ?_
  refine lv_dup hx hb d_Fi_readNumber_25 rfl ?_
  refine va_get (D := (dC, dI)) (ci := 1) (v := .int nx) (C := R_Fi) (T := F_Fi) (N := 12) hx hb hT (in_Fi) hown hK hP 0 rfl rfl 11 (by decide) (hT _ t_95) (fun _ h9 => h9) rfl d_Fi_readNumber_26 ?_
  refine lv_iload_n hx hb d_Fi_readNumber_29 rfl (lv_at hl 1 rfl) ?_
  refine lv_iadd hx hb d_Fi_readNumber_30 ?_
  refine lv_topi (fun x5 ex5 => ?_)
  refine va_put (D := (dC, dI)) (ci := 1) (v := .int x5) (ty := .int) (C := R_Fi) (T := F_Fi) (N := 12) hx hb hT (in_Fi) t_Fi t_Fi_ok n_Fi hown hK hP hD hS 0 rfl rfl 11 (by decide) (hT _ t_95) (fun _ h9 => h9) rfl (by decide +kernel) rfl rfl (Nat.le_of_ble_eq_true rfl) d_Fi_readNumber_31 (fun H locs hP hD hS => ?_)
  have hP : va_P (dC, dI) CL [(fi, .inr (1, [.int mi, .int pl, .int ze, .int sh, .int bl, .int sw, .int sp, .int wi, .int pr, .int le, .int so, .int x5])), (hF, .inr (2, [.ref aF, .int nF])), (aF, .inl (cC, roomF, .inl fF))] H := hP
  have hD : va_D A [(fi, .inr (1, [.int mi, .int pl, .int ze, .int sh, .int bl, .int sw, .int sp, .int wi, .int pr, .int le, .int so, .int x5])), (hF, .inr (2, [.ref aF, .int nF])), (aF, .inl (cC, roomF, .inl fF))] := hD
  refine lv_iload_n hx hb d_Fi_readNumber_34 rfl (lv_at hl 0 rfl) ?_
  have hP9 := hP.sub (ws' := [(fi, .inr (1, [.int mi, .int pl, .int ze, .int sh, .int bl, .int sw, .int sp, .int wi, .int pr, .int le, .int so, .int x5])), (hF, .inr (2, [.ref aF, .int nF])), (aF, .inl (cC, roomF, .inl fF))]) [0, 1, 2] rfl
  have hD9 := hD.sub (ws' := [(fi, .inr (1, [.int mi, .int pl, .int ze, .int sh, .int bl, .int sw, .int sp, .int wi, .int pr, .int le, .int so, .int x5])), (hF, .inr (2, [.ref aF, .int nF])), (aF, .inl (cC, roomF, .inl fF))]) [0, 1, 2] (by decide) rfl
  have hK9 := hK.sub (tys' := [(cC, .char)]) [0] rfl
  have hq9 : x4 = rnVal fF nF nx ∧ x5 = nx + rnMany fF nF nx := by refine ⟨?_, ?_⟩; (rw [rnVal, ← hm, ← w19_3]; exact ex4); (rw [← hm]; exact ex5)
  exact W.iret (v := x4) hx hb hr (fun t ht hW => ⟨⟨x4, x5, rfl, hq9, by rw [ht]; exact hP9, va_K.moved hW.alike hK9, hD9⟩, hS.F ht⟩) hS.2.2 d_Fi_readNumber_35

set_option maxHeartbeats 4000000 in
set_option maxRecDepth 100000 in
theorem c_Field_readWidth (l : Launch) (dC : Nat → ClassId) (dI : Nat → Nat → Nat) (sz : Nat) (cC : ClassId) (fi : Nat) (mi : Int32) (pl : Int32) (ze : Int32) (sh : Int32) (bl : Int32) (sw : Int32) (sp : Int32) (wi : Int32) (pr : Int32) (le : Int32) (so : Int32) (nx : Int32) (hF : Nat) (aF : Nat) (roomF : Nat) (fF : Nat → Int32) (nF : Int32) (hn2 : lnOK roomF nF) : Met l y_Fi_readWidth w_Fi_readWidth ({ frames := 3, cells := 0, slots := 0, locals := 69 } : Room) (va_Pc [.ref fi, .ref hF] (fun U => U.heap.size = sz ∧ va_P (dC, dI) CL [(fi, .inr (1, [.int mi, .int pl, .int ze, .int sh, .int bl, .int sw, .int sp, .int wi, .int pr, .int le, .int so, .int nx])), (hF, .inr (2, [.ref aF, .int nF])), (aF, .inl (cC, roomF, .inl fF))] U.heap ∧ va_K (dC, dI) CL [(cC, .char)] U ∧ va_D (fun _ => True) [(fi, .inr (1, [.int mi, .int pl, .int ze, .int sh, .int bl, .int sw, .int sp, .int wi, .int pr, .int le, .int so, .int nx])), (hF, .inr (2, [.ref aF, .int nF])), (aF, .inl (cC, roomF, .inl fF))])) (va_Qv (fun (u : Int32 × Int32 × Int32) => match u with | (sw2, wi2, nx2) => sw2 = rwS fF nF nx ∧ wi2 = rwW fF nF nx ∧ nx2 = rwN fF nF nx) (fun (u : Int32 × Int32 × Int32) (t : State) => match u with | (sw2, wi2, nx2) => va_P (dC, dI) CL [(fi, .inr (1, [.int mi, .int pl, .int ze, .int sh, .int bl, .int sw2, .int sp, .int wi2, .int pr, .int le, .int so, .int nx2])), (hF, .inr (2, [.ref aF, .int nF])), (aF, .inl (cC, roomF, .inl fF))] t.heap ∧ va_K (dC, dI) CL [(cC, .char)] t ∧ va_D (va_A [(fi, .inr (1, [.int mi, .int pl, .int ze, .int sh, .int bl, .int sw, .int sp, .int wi, .int pr, .int le, .int so, .int nx])), (hF, .inr (2, [.ref aF, .int nF])), (aF, .inl (cC, roomF, .inl fF))] sz) [(fi, .inr (1, [.int mi, .int pl, .int ze, .int sh, .int bl, .int sw2, .int sp, .int wi2, .int pr, .int le, .int so, .int nx2])), (hF, .inr (2, [.ref aF, .int nF])), (aF, .inl (cC, roomF, .inl fF))]) (va_A [(fi, .inr (1, [.int mi, .int pl, .int ze, .int sh, .int bl, .int sw, .int sp, .int wi, .int pr, .int le, .int so, .int nx])), (hF, .inr (2, [.ref aF, .int nF])), (aF, .inl (cC, roomF, .inl fF))] sz)) 0 0 (va_A [(fi, .inr (1, [.int mi, .int pl, .int ze, .int sh, .int bl, .int sw, .int sp, .int wi, .int pr, .int le, .int so, .int nx])), (hF, .inr (2, [.ref aF, .int nF])), (aF, .inl (cC, roomF, .inl fF))] sz) := by
  refine Met.ofW (cc := b_Fi_readWidth) (maxL := 2) (ret := none) (by decide) rfl ?_
  intro p e s m args below meth c s₁ B hml hv
  obtain ⟨rfl, hsz, hP, hK, hD0⟩ := hv
  have hx := B.exec
  have hb := B.bytes
  have hr := B.returns
  have hts := atoms_spec (ws := w_Fi_readWidth) B.pre
  have hT : ∀ w ∈ TB, w.before _ s = true := fun w h => hts w (List.mem_cons_of_mem _ h)
  have hown : s.vm.findClass R_Fi = some m.cls := findClass_of_methodNamed B.named
  have hlocks := B.notSynchronized
  subst hsz
  have hD := hD0.self (sz := s.heap.size)
  generalize hAe : va_A [(fi, .inr (1, [.int mi, .int pl, .int ze, .int sh, .int bl, .int sw, .int sp, .int wi, .int pr, .int le, .int so, .int nx])), (hF, .inr (2, [.ref aF, .int nF])), (aF, .inl (cC, roomF, .inl fF))] s.heap.size = A at hD ⊢
  have hA : ∀ q : Nat, s.heap.size ≤ q → A q := fun q h => by rw [← hAe]; exact Or.inr h
  have hS : va_S A s.heap s.heap [] := va_S.rf
  have hP : va_P (dC, dI) CL [(fi, .inr (1, [.int mi, .int pl, .int ze, .int sh, .int bl, .int sw, .int sp, .int wi, .int pr, .int le, .int so, .int nx])), (hF, .inr (2, [.ref aF, .int nF])), (aF, .inl (cC, roomF, .inl fF))] s.heap := hP
  have hl := lv_entry ([.ref fi, .ref hF]) (n := 2) (Nat.le_of_ble_eq_true rfl)
  rw [lg_entry_eq]
  generalize (lg_sl ([.ref fi, .ref hF]) ++ List.replicate (2 - (lg_sl ([.ref fi, .ref hF])).length) Slot.unset).toArray = ls at hl ⊢
  have hl : lv_has ls 2 [(0, .ref fi), (1, .ref hF)] := hl
  refine lv_aload_n hx hb d_Fi_readWidth_0 rfl (lv_at hl 0 rfl) ?_
  refine lv_aload_n hx hb d_Fi_readWidth_1 rfl (lv_at hl 1 rfl) ?_
  refine lv_aload_n hx hb d_Fi_readWidth_2 rfl (lv_at hl 0 rfl) ?_
  refine va_get (D := (dC, dI)) (ci := 1) (v := .int nx) (C := R_Fi) (T := F_Fi) (N := 12) hx hb hT (in_Fi) hown hK hP 0 rfl rfl 11 (by decide) (hT _ t_95) (fun _ h9 => h9) rfl d_Fi_readWidth_3 ?_
  have hPc := hP.sub (ws' := [(hF, .inr (2, [.ref aF, .int nF])), (aF, .inl (cC, roomF, .inl fF))]) [1, 2] rfl
  have hDc := hD.sub (ws' := [(hF, .inr (2, [.ref aF, .int nF])), (aF, .inl (cC, roomF, .inl fF))]) [1, 2] (by decide) rfl
  have hKc := hK.sub (tys' := [(cC, .char)]) [0] rfl
  have hFc := va_free (wc := [(hF, .inr (2, [.ref aF, .int nF])), (aF, .inl (cC, roomF, .inl fF))]) hD hS hA [1, 2] rfl
  refine va_calli (va_runV (As := [.int nx]) (rest := [.ref fi]) ⟨hx, hb, hml, hown, hT⟩ (c_Line_at l dC dI s.heap.size cC hF aF roomF fF nF nx hn2) (cwV 1 hT g_Fi_25 rfl rfl rfl (by decide +kernel) ⟨Nat.le_of_ble_eq_true rfl, Nat.le_of_ble_eq_true rfl⟩) ⟨fun a U g mk q => by obtain ⟨q0, q1, qP, qK, qD⟩ := q; exact ⟨q0, q1, qP, va_K.moved (u := U) (U := U.calling g mk a) (Vm.Alike.refl U.vm) qK, qD⟩, va_recv hKc hPc (ci := 2) (q0 := 0) rfl rfl, fun U hU hW => ⟨rfl, by rw [hU], by rw [hU]; exact hPc, va_K.moved hW.alike hKc, hDc.weaken (fun _ _ _ _ => trivial)⟩⟩ rfl rfl hl.1 rfl (lv_room (Nat.le_of_ble_eq_true rfl)) d_Fi_readWidth_6 ⟨Nat.le_of_ble_eq_true rfl, Nat.le_of_ble_eq_true rfl⟩) hS (fun q _ h => hFc q h) hFc (fun x1 u t H1 locs ht hvm w6_1 hB hz1 hk1 hS => ?_)
  obtain ⟨hP1, hK1, hD1⟩ := hB
  rw [ht] at hP1
  try dsimp only at w6_1
  obtain ⟨hP, hD⟩ := va_join (wr := [(fi, .inr (1, [.int mi, .int pl, .int ze, .int sh, .int bl, .int sw, .int sp, .int wi, .int pr, .int le, .int so, .int nx]))]) (w1 := [(hF, .inr (2, [.ref aF, .int nF])), (aF, .inl (cC, roomF, .inl fF))]) hP hD [1, 2] [0] rfl rfl (by decide) (by decide) hk1 hFc hP1 hD1
  generalize H1 = H at hP hS ⊢
  have hP : va_P (dC, dI) CL [(fi, .inr (1, [.int mi, .int pl, .int ze, .int sh, .int bl, .int sw, .int sp, .int wi, .int pr, .int le, .int so, .int nx])), (hF, .inr (2, [.ref aF, .int nF])), (aF, .inl (cC, roomF, .inl fF))] H := hP
  have hD : va_D A [(fi, .inr (1, [.int mi, .int pl, .int ze, .int sh, .int bl, .int sw, .int sp, .int wi, .int pr, .int le, .int so, .int nx])), (hF, .inr (2, [.ref aF, .int nF])), (aF, .inl (cC, roomF, .inl fF))] := hD
  refine lv_bipush (v := 42) hx hb d_Fi_readWidth_9 (by decide) ?_
  refine lv_icmp_ne (tgt := 18) hx hb d_Fi_readWidth_11 (by decide) (fun c11_2 => ?_) (fun c11_2 => ?_)
  · skip
    rw [w6_1] at c11_2
    refine lv_iconst (v := 0) hx hb d_Fi_readWidth_18 (by decide) ?_
    refine va_put (D := (dC, dI)) (ci := 1) (v := .int 0) (ty := .boolean) (C := R_Fi) (T := F_Fi) (N := 12) hx hb hT (in_Fi) t_Fi t_Fi_ok n_Fi hown hK hP hD hS 0 rfl rfl 5 (by decide) (hT _ t_84) (fun _ h9 => h9) rfl (by decide +kernel) rfl rfl (Nat.le_of_ble_eq_true rfl) d_Fi_readWidth_19 (fun H locs hP hD hS => ?_)
    have hP : va_P (dC, dI) CL [(fi, .inr (1, [.int mi, .int pl, .int ze, .int sh, .int bl, .int 0, .int sp, .int wi, .int pr, .int le, .int so, .int nx])), (hF, .inr (2, [.ref aF, .int nF])), (aF, .inl (cC, roomF, .inl fF))] H := hP
    have hD : va_D A [(fi, .inr (1, [.int mi, .int pl, .int ze, .int sh, .int bl, .int 0, .int sp, .int wi, .int pr, .int le, .int so, .int nx])), (hF, .inr (2, [.ref aF, .int nF])), (aF, .inl (cC, roomF, .inl fF))] := hD
    refine lv_aload_n hx hb d_Fi_readWidth_22 rfl (lv_at hl 0 rfl) ?_
    refine va_get (D := (dC, dI)) (ci := 1) (v := .int 0) (C := R_Fi) (T := F_Fi) (N := 12) hx hb hT (in_Fi) hown hK hP 0 rfl rfl 5 (by decide) (hT _ t_84) (fun _ h9 => h9) rfl d_Fi_readWidth_23 ?_
    refine lv_if_eq (tgt := 47) hx hb d_Fi_readWidth_26 (by decide) (fun c26_3 => ?_) (fun c26_3 => ?_)
    · skip
      refine lv_aload_n hx hb d_Fi_readWidth_47 rfl (lv_at hl 0 rfl) ?_
      refine lv_aload_n hx hb d_Fi_readWidth_48 rfl (lv_at hl 0 rfl) ?_
      refine lv_aload_n hx hb d_Fi_readWidth_49 rfl (lv_at hl 1 rfl) ?_
      have hPc := hP.sub (ws' := [(fi, .inr (1, [.int mi, .int pl, .int ze, .int sh, .int bl, .int 0, .int sp, .int wi, .int pr, .int le, .int so, .int nx])), (hF, .inr (2, [.ref aF, .int nF])), (aF, .inl (cC, roomF, .inl fF))]) [0, 1, 2] rfl
      have hDc := hD.sub (ws' := [(fi, .inr (1, [.int mi, .int pl, .int ze, .int sh, .int bl, .int 0, .int sp, .int wi, .int pr, .int le, .int so, .int nx])), (hF, .inr (2, [.ref aF, .int nF])), (aF, .inl (cC, roomF, .inl fF))]) [0, 1, 2] (by decide) rfl
      have hKc := hK.sub (tys' := [(cC, .char)]) [0] rfl
      have hFc := va_free (wc := [(fi, .inr (1, [.int mi, .int pl, .int ze, .int sh, .int bl, .int 0, .int sp, .int wi, .int pr, .int le, .int so, .int nx])), (hF, .inr (2, [.ref aF, .int nF])), (aF, .inl (cC, roomF, .inl fF))]) hD hS hA [0, 1, 2] rfl
      refine va_calli (va_runV (As := [.ref hF]) (rest := [.ref fi]) ⟨hx, hb, hml, hown, hT⟩ (c_Field_readNumber l dC dI H.size cC fi mi pl ze sh bl 0 sp wi pr le so nx hF aF roomF fF nF hn2) (cwV 1 hT g_Fi_70 rfl rfl rfl (by decide +kernel) ⟨Nat.le_of_ble_eq_true rfl, Nat.le_of_ble_eq_true rfl⟩) ⟨fun a U g mk q => by obtain ⟨q0, q1, qP, qK, qD⟩ := q; exact ⟨q0, q1, qP, va_K.moved (u := U) (U := U.calling g mk a) (Vm.Alike.refl U.vm) qK, qD⟩, va_recv hKc hPc (ci := 1) (q0 := 0) rfl rfl, fun U hU hW => ⟨rfl, by rw [hU], by rw [hU]; exact hPc, va_K.moved hW.alike hKc, hDc.weaken (fun _ _ _ _ => trivial)⟩⟩ rfl rfl hl.1 rfl (lv_room (Nat.le_of_ble_eq_true rfl)) d_Fi_readWidth_50 ⟨Nat.le_of_ble_eq_true rfl, Nat.le_of_ble_eq_true rfl⟩) hS (fun q _ h => hFc q h) hFc (fun x4 u t H1 locs ht hvm w50_5 hB hz1 hk1 hS => ?_)
      obtain ⟨nx_5, rfl⟩ : ∃ z, z = u := ⟨_, rfl⟩
      obtain ⟨hP1, hK1, hD1⟩ := hB
      rw [ht] at hP1
      try dsimp only at w50_5
      obtain ⟨w50_5, w50_5b⟩ := w50_5
      obtain ⟨hP, hD⟩ := va_join (wr := []) (w1 := [(fi, .inr (1, [.int mi, .int pl, .int ze, .int sh, .int bl, .int 0, .int sp, .int wi, .int pr, .int le, .int so, .int nx_5])), (hF, .inr (2, [.ref aF, .int nF])), (aF, .inl (cC, roomF, .inl fF))]) hP hD [0, 1, 2] [] rfl rfl (by decide) (by decide) hk1 hFc hP1 hD1
      generalize H1 = H at hP hS ⊢
      have hP : va_P (dC, dI) CL [(fi, .inr (1, [.int mi, .int pl, .int ze, .int sh, .int bl, .int 0, .int sp, .int wi, .int pr, .int le, .int so, .int nx_5])), (hF, .inr (2, [.ref aF, .int nF])), (aF, .inl (cC, roomF, .inl fF))] H := hP
      have hD : va_D A [(fi, .inr (1, [.int mi, .int pl, .int ze, .int sh, .int bl, .int 0, .int sp, .int wi, .int pr, .int le, .int so, .int nx_5])), (hF, .inr (2, [.ref aF, .int nF])), (aF, .inl (cC, roomF, .inl fF))] := hD
      refine va_put (D := (dC, dI)) (ci := 1) (v := .int x4) (ty := .int) (C := R_Fi) (T := F_Fi) (N := 12) hx hb hT (in_Fi) t_Fi t_Fi_ok n_Fi hown hK hP hD hS 0 rfl rfl 7 (by decide) (hT _ t_88) (fun _ h9 => h9) rfl (by decide +kernel) rfl rfl (Nat.le_of_ble_eq_true rfl) d_Fi_readWidth_53 (fun H locs hP hD hS => ?_)
      have hP : va_P (dC, dI) CL [(fi, .inr (1, [.int mi, .int pl, .int ze, .int sh, .int bl, .int 0, .int sp, .int x4, .int pr, .int le, .int so, .int nx_5])), (hF, .inr (2, [.ref aF, .int nF])), (aF, .inl (cC, roomF, .inl fF))] H := hP
      have hD : va_D A [(fi, .inr (1, [.int mi, .int pl, .int ze, .int sh, .int bl, .int 0, .int sp, .int x4, .int pr, .int le, .int so, .int nx_5])), (hF, .inr (2, [.ref aF, .int nF])), (aF, .inl (cC, roomF, .inl fF))] := hD
      have hP9 := hP.sub (ws' := [(fi, .inr (1, [.int mi, .int pl, .int ze, .int sh, .int bl, .int 0, .int sp, .int x4, .int pr, .int le, .int so, .int nx_5])), (hF, .inr (2, [.ref aF, .int nF])), (aF, .inl (cC, roomF, .inl fF))]) [0, 1, 2] rfl
      have hD9 := hD.sub (ws' := [(fi, .inr (1, [.int mi, .int pl, .int ze, .int sh, .int bl, .int 0, .int sp, .int x4, .int pr, .int le, .int so, .int nx_5])), (hF, .inr (2, [.ref aF, .int nF])), (aF, .inl (cC, roomF, .inl fF))]) [0, 1, 2] (by decide) rfl
      have hK9 := hK.sub (tys' := [(cC, .char)]) [0] rfl
      have hq9 : (0 : Int32) = rwS fF nF nx ∧ x4 = rwW fF nF nx ∧ nx_5 = rwN fF nF nx := by refine ⟨?_, ?_, ?_⟩; (simp [rwS, k_b, c11_2]); (rw [rwW, if_neg c11_2]; exact w50_5); (rw [rwN, if_neg c11_2]; exact w50_5b)
      exact W.vret hx hb hr (fun t ht hW => ⟨⟨(0, x4, nx_5), rfl, hq9, by rw [ht]; exact hP9, va_K.moved hW.alike hK9, hD9⟩, hS.F ht⟩) hS.2.2 d_Fi_readWidth_56
    · exact absurd c26_3 (by decide)
  · skip
    rw [w6_1] at c11_2
    refine lv_iconst (v := 1) hx hb d_Fi_readWidth_14 (by decide) ?_
    refine lv_goto (tgt := 19) hx hb d_Fi_readWidth_15 (by decide) ?_
    refine va_put (D := (dC, dI)) (ci := 1) (v := .int 1) (ty := .boolean) (C := R_Fi) (T := F_Fi) (N := 12) hx hb hT (in_Fi) t_Fi t_Fi_ok n_Fi hown hK hP hD hS 0 rfl rfl 5 (by decide) (hT _ t_84) (fun _ h9 => h9) rfl (by decide +kernel) rfl rfl (Nat.le_of_ble_eq_true rfl) d_Fi_readWidth_19 (fun H locs hP hD hS => ?_)
    have hP : va_P (dC, dI) CL [(fi, .inr (1, [.int mi, .int pl, .int ze, .int sh, .int bl, .int 1, .int sp, .int wi, .int pr, .int le, .int so, .int nx])), (hF, .inr (2, [.ref aF, .int nF])), (aF, .inl (cC, roomF, .inl fF))] H := hP
    have hD : va_D A [(fi, .inr (1, [.int mi, .int pl, .int ze, .int sh, .int bl, .int 1, .int sp, .int wi, .int pr, .int le, .int so, .int nx])), (hF, .inr (2, [.ref aF, .int nF])), (aF, .inl (cC, roomF, .inl fF))] := hD
    refine lv_aload_n hx hb d_Fi_readWidth_22 rfl (lv_at hl 0 rfl) ?_
    refine va_get (D := (dC, dI)) (ci := 1) (v := .int 1) (C := R_Fi) (T := F_Fi) (N := 12) hx hb hT (in_Fi) hown hK hP 0 rfl rfl 5 (by decide) (hT _ t_84) (fun _ h9 => h9) rfl d_Fi_readWidth_23 ?_
    refine lv_if_eq (tgt := 47) hx hb d_Fi_readWidth_26 (by decide) (fun c26_6 => ?_) (fun c26_6 => ?_)
    · exact absurd c26_6 (by decide)
    · skip
      refine lv_aload_n hx hb d_Fi_readWidth_29 rfl (lv_at hl 0 rfl) ?_
      refine lv_iconst (v := 0) hx hb d_Fi_readWidth_30 (by decide) ?_
      refine va_put (D := (dC, dI)) (ci := 1) (v := .int 0) (ty := .int) (C := R_Fi) (T := F_Fi) (N := 12) hx hb hT (in_Fi) t_Fi t_Fi_ok n_Fi hown hK hP hD hS 0 rfl rfl 7 (by decide) (hT _ t_88) (fun _ h9 => h9) rfl (by decide +kernel) rfl rfl (Nat.le_of_ble_eq_true rfl) d_Fi_readWidth_31 (fun H locs hP hD hS => ?_)
      have hP : va_P (dC, dI) CL [(fi, .inr (1, [.int mi, .int pl, .int ze, .int sh, .int bl, .int 1, .int sp, .int 0, .int pr, .int le, .int so, .int nx])), (hF, .inr (2, [.ref aF, .int nF])), (aF, .inl (cC, roomF, .inl fF))] H := hP
      have hD : va_D A [(fi, .inr (1, [.int mi, .int pl, .int ze, .int sh, .int bl, .int 1, .int sp, .int 0, .int pr, .int le, .int so, .int nx])), (hF, .inr (2, [.ref aF, .int nF])), (aF, .inl (cC, roomF, .inl fF))] := hD
      refine lv_aload_n hx hb d_Fi_readWidth_34 rfl (lv_at hl 0 rfl) ?_
      refine lv_dup hx hb d_Fi_readWidth_35 rfl ?_
      refine va_get (D := (dC, dI)) (ci := 1) (v := .int nx) (C := R_Fi) (T := F_Fi) (N := 12) hx hb hT (in_Fi) hown hK hP 0 rfl rfl 11 (by decide) (hT _ t_95) (fun _ h9 => h9) rfl d_Fi_readWidth_36 ?_
      refine lv_iconst (v := 1) hx hb d_Fi_readWidth_39 (by decide) ?_
      refine lv_iadd hx hb d_Fi_readWidth_40 ?_
      refine lv_topi (fun x7 ex7 => ?_)
      refine va_put (D := (dC, dI)) (ci := 1) (v := .int x7) (ty := .int) (C := R_Fi) (T := F_Fi) (N := 12) hx hb hT (in_Fi) t_Fi t_Fi_ok n_Fi hown hK hP hD hS 0 rfl rfl 11 (by decide) (hT _ t_95) (fun _ h9 => h9) rfl (by decide +kernel) rfl rfl (Nat.le_of_ble_eq_true rfl) d_Fi_readWidth_41 (fun H locs hP hD hS => ?_)
      have hP : va_P (dC, dI) CL [(fi, .inr (1, [.int mi, .int pl, .int ze, .int sh, .int bl, .int 1, .int sp, .int 0, .int pr, .int le, .int so, .int x7])), (hF, .inr (2, [.ref aF, .int nF])), (aF, .inl (cC, roomF, .inl fF))] H := hP
      have hD : va_D A [(fi, .inr (1, [.int mi, .int pl, .int ze, .int sh, .int bl, .int 1, .int sp, .int 0, .int pr, .int le, .int so, .int x7])), (hF, .inr (2, [.ref aF, .int nF])), (aF, .inl (cC, roomF, .inl fF))] := hD
      refine lv_goto (tgt := 56) hx hb d_Fi_readWidth_44 (by decide) ?_
      have hP9 := hP.sub (ws' := [(fi, .inr (1, [.int mi, .int pl, .int ze, .int sh, .int bl, .int 1, .int sp, .int 0, .int pr, .int le, .int so, .int x7])), (hF, .inr (2, [.ref aF, .int nF])), (aF, .inl (cC, roomF, .inl fF))]) [0, 1, 2] rfl
      have hD9 := hD.sub (ws' := [(fi, .inr (1, [.int mi, .int pl, .int ze, .int sh, .int bl, .int 1, .int sp, .int 0, .int pr, .int le, .int so, .int x7])), (hF, .inr (2, [.ref aF, .int nF])), (aF, .inl (cC, roomF, .inl fF))]) [0, 1, 2] (by decide) rfl
      have hK9 := hK.sub (tys' := [(cC, .char)]) [0] rfl
      have hq9 : (1 : Int32) = rwS fF nF nx ∧ (0 : Int32) = rwW fF nF nx ∧ x7 = rwN fF nF nx := by refine ⟨?_, ?_, ?_⟩; (simp [rwS, k_b, c11_2]); (rw [rwW, if_pos c11_2]); (rw [rwN, if_pos c11_2]; exact ex7)
      exact W.vret hx hb hr (fun t ht hW => ⟨⟨(1, 0, x7), rfl, hq9, by rw [ht]; exact hP9, va_K.moved hW.alike hK9, hD9⟩, hS.F ht⟩) hS.2.2 d_Fi_readWidth_56

set_option maxHeartbeats 4000000 in
set_option maxRecDepth 100000 in
theorem c_Field_readPrecision (l : Launch) (dC : Nat → ClassId) (dI : Nat → Nat → Nat) (sz : Nat) (cC : ClassId) (fi : Nat) (mi : Int32) (pl : Int32) (ze : Int32) (sh : Int32) (bl : Int32) (sw : Int32) (sp : Int32) (wi : Int32) (pr : Int32) (le : Int32) (so : Int32) (nx : Int32) (hF : Nat) (aF : Nat) (roomF : Nat) (fF : Nat → Int32) (nF : Int32) (hn2 : lnOK roomF nF) : Met l y_Fi_readPrecision w_Fi_readPrecision ({ frames := 3, cells := 0, slots := 0, locals := 69 } : Room) (va_Pc [.ref fi, .ref hF] (fun U => U.heap.size = sz ∧ va_P (dC, dI) CL [(fi, .inr (1, [.int mi, .int pl, .int ze, .int sh, .int bl, .int sw, .int sp, .int wi, .int pr, .int le, .int so, .int nx])), (hF, .inr (2, [.ref aF, .int nF])), (aF, .inl (cC, roomF, .inl fF))] U.heap ∧ va_K (dC, dI) CL [(cC, .char)] U ∧ va_D (fun _ => True) [(fi, .inr (1, [.int mi, .int pl, .int ze, .int sh, .int bl, .int sw, .int sp, .int wi, .int pr, .int le, .int so, .int nx])), (hF, .inr (2, [.ref aF, .int nF])), (aF, .inl (cC, roomF, .inl fF))])) (va_Qv (fun (u : Int32 × Int32 × Int32) => match u with | (sp2, pr2, nx2) => sp2 = rpS fF nF nx ∧ pr2 = rpP fF nF nx ∧ nx2 = rpN fF nF nx) (fun (u : Int32 × Int32 × Int32) (t : State) => match u with | (sp2, pr2, nx2) => va_P (dC, dI) CL [(fi, .inr (1, [.int mi, .int pl, .int ze, .int sh, .int bl, .int sw, .int sp2, .int wi, .int pr2, .int le, .int so, .int nx2])), (hF, .inr (2, [.ref aF, .int nF])), (aF, .inl (cC, roomF, .inl fF))] t.heap ∧ va_K (dC, dI) CL [(cC, .char)] t ∧ va_D (va_A [(fi, .inr (1, [.int mi, .int pl, .int ze, .int sh, .int bl, .int sw, .int sp, .int wi, .int pr, .int le, .int so, .int nx])), (hF, .inr (2, [.ref aF, .int nF])), (aF, .inl (cC, roomF, .inl fF))] sz) [(fi, .inr (1, [.int mi, .int pl, .int ze, .int sh, .int bl, .int sw, .int sp2, .int wi, .int pr2, .int le, .int so, .int nx2])), (hF, .inr (2, [.ref aF, .int nF])), (aF, .inl (cC, roomF, .inl fF))]) (va_A [(fi, .inr (1, [.int mi, .int pl, .int ze, .int sh, .int bl, .int sw, .int sp, .int wi, .int pr, .int le, .int so, .int nx])), (hF, .inr (2, [.ref aF, .int nF])), (aF, .inl (cC, roomF, .inl fF))] sz)) 0 0 (va_A [(fi, .inr (1, [.int mi, .int pl, .int ze, .int sh, .int bl, .int sw, .int sp, .int wi, .int pr, .int le, .int so, .int nx])), (hF, .inr (2, [.ref aF, .int nF])), (aF, .inl (cC, roomF, .inl fF))] sz) := by
  refine Met.ofW (cc := b_Fi_readPrecision) (maxL := 2) (ret := none) (by decide) rfl ?_
  intro p e s m args below meth c s₁ B hml hv
  obtain ⟨rfl, hsz, hP, hK, hD0⟩ := hv
  have hx := B.exec
  have hb := B.bytes
  have hr := B.returns
  have hts := atoms_spec (ws := w_Fi_readPrecision) B.pre
  have hT : ∀ w ∈ TB, w.before _ s = true := fun w h => hts w (List.mem_cons_of_mem _ h)
  have hown : s.vm.findClass R_Fi = some m.cls := findClass_of_methodNamed B.named
  have hlocks := B.notSynchronized
  subst hsz
  have hD := hD0.self (sz := s.heap.size)
  generalize hAe : va_A [(fi, .inr (1, [.int mi, .int pl, .int ze, .int sh, .int bl, .int sw, .int sp, .int wi, .int pr, .int le, .int so, .int nx])), (hF, .inr (2, [.ref aF, .int nF])), (aF, .inl (cC, roomF, .inl fF))] s.heap.size = A at hD ⊢
  have hA : ∀ q : Nat, s.heap.size ≤ q → A q := fun q h => by rw [← hAe]; exact Or.inr h
  have hS : va_S A s.heap s.heap [] := va_S.rf
  have hP : va_P (dC, dI) CL [(fi, .inr (1, [.int mi, .int pl, .int ze, .int sh, .int bl, .int sw, .int sp, .int wi, .int pr, .int le, .int so, .int nx])), (hF, .inr (2, [.ref aF, .int nF])), (aF, .inl (cC, roomF, .inl fF))] s.heap := hP
  have hl := lv_entry ([.ref fi, .ref hF]) (n := 2) (Nat.le_of_ble_eq_true rfl)
  rw [lg_entry_eq]
  generalize (lg_sl ([.ref fi, .ref hF]) ++ List.replicate (2 - (lg_sl ([.ref fi, .ref hF])).length) Slot.unset).toArray = ls at hl ⊢
  have hl : lv_has ls 2 [(0, .ref fi), (1, .ref hF)] := hl
  refine lv_aload_n hx hb d_Fi_readPrecision_0 rfl (lv_at hl 0 rfl) ?_
  refine lv_iconst (v := (-1)) hx hb d_Fi_readPrecision_1 (by decide) ?_
  refine va_put (D := (dC, dI)) (ci := 1) (v := .int (-1)) (ty := .int) (C := R_Fi) (T := F_Fi) (N := 12) hx hb hT (in_Fi) t_Fi t_Fi_ok n_Fi hown hK hP hD hS 0 rfl rfl 8 (by decide) (hT _ t_91) (fun _ h9 => h9) rfl (by decide +kernel) rfl rfl (Nat.le_of_ble_eq_true rfl) d_Fi_readPrecision_2 (fun H locs hP hD hS => ?_)
  have hP : va_P (dC, dI) CL [(fi, .inr (1, [.int mi, .int pl, .int ze, .int sh, .int bl, .int sw, .int sp, .int wi, .int (-1), .int le, .int so, .int nx])), (hF, .inr (2, [.ref aF, .int nF])), (aF, .inl (cC, roomF, .inl fF))] H := hP
  have hD : va_D A [(fi, .inr (1, [.int mi, .int pl, .int ze, .int sh, .int bl, .int sw, .int sp, .int wi, .int (-1), .int le, .int so, .int nx])), (hF, .inr (2, [.ref aF, .int nF])), (aF, .inl (cC, roomF, .inl fF))] := hD
  refine lv_aload_n hx hb d_Fi_readPrecision_5 rfl (lv_at hl 0 rfl) ?_
  refine lv_iconst (v := 0) hx hb d_Fi_readPrecision_6 (by decide) ?_
  refine va_put (D := (dC, dI)) (ci := 1) (v := .int 0) (ty := .boolean) (C := R_Fi) (T := F_Fi) (N := 12) hx hb hT (in_Fi) t_Fi t_Fi_ok n_Fi hown hK hP hD hS 0 rfl rfl 6 (by decide) (hT _ t_86) (fun _ h9 => h9) rfl (by decide +kernel) rfl rfl (Nat.le_of_ble_eq_true rfl) d_Fi_readPrecision_7 (fun H locs hP hD hS => ?_)
  have hP : va_P (dC, dI) CL [(fi, .inr (1, [.int mi, .int pl, .int ze, .int sh, .int bl, .int sw, .int 0, .int wi, .int (-1), .int le, .int so, .int nx])), (hF, .inr (2, [.ref aF, .int nF])), (aF, .inl (cC, roomF, .inl fF))] H := hP
  have hD : va_D A [(fi, .inr (1, [.int mi, .int pl, .int ze, .int sh, .int bl, .int sw, .int 0, .int wi, .int (-1), .int le, .int so, .int nx])), (hF, .inr (2, [.ref aF, .int nF])), (aF, .inl (cC, roomF, .inl fF))] := hD
  refine lv_aload_n hx hb d_Fi_readPrecision_10 rfl (lv_at hl 1 rfl) ?_
  refine lv_aload_n hx hb d_Fi_readPrecision_11 rfl (lv_at hl 0 rfl) ?_
  refine va_get (D := (dC, dI)) (ci := 1) (v := .int nx) (C := R_Fi) (T := F_Fi) (N := 12) hx hb hT (in_Fi) hown hK hP 0 rfl rfl 11 (by decide) (hT _ t_95) (fun _ h9 => h9) rfl d_Fi_readPrecision_12 ?_
  have hPc := hP.sub (ws' := [(hF, .inr (2, [.ref aF, .int nF])), (aF, .inl (cC, roomF, .inl fF))]) [1, 2] rfl
  have hDc := hD.sub (ws' := [(hF, .inr (2, [.ref aF, .int nF])), (aF, .inl (cC, roomF, .inl fF))]) [1, 2] (by decide) rfl
  have hKc := hK.sub (tys' := [(cC, .char)]) [0] rfl
  have hFc := va_free (wc := [(hF, .inr (2, [.ref aF, .int nF])), (aF, .inl (cC, roomF, .inl fF))]) hD hS hA [1, 2] rfl
  refine va_calli (va_runV (As := [.int nx]) (rest := []) ⟨hx, hb, hml, hown, hT⟩ (c_Line_at l dC dI H.size cC hF aF roomF fF nF nx hn2) (cwV 1 hT g_Fi_25 rfl rfl rfl (by decide +kernel) ⟨Nat.le_of_ble_eq_true rfl, Nat.le_of_ble_eq_true rfl⟩) ⟨fun a U g mk q => by obtain ⟨q0, q1, qP, qK, qD⟩ := q; exact ⟨q0, q1, qP, va_K.moved (u := U) (U := U.calling g mk a) (Vm.Alike.refl U.vm) qK, qD⟩, va_recv hKc hPc (ci := 2) (q0 := 0) rfl rfl, fun U hU hW => ⟨rfl, by rw [hU], by rw [hU]; exact hPc, va_K.moved hW.alike hKc, hDc.weaken (fun _ _ _ _ => trivial)⟩⟩ rfl rfl hl.1 rfl (lv_room (Nat.le_of_ble_eq_true rfl)) d_Fi_readPrecision_15 ⟨Nat.le_of_ble_eq_true rfl, Nat.le_of_ble_eq_true rfl⟩) hS (fun q _ h => hFc q h) hFc (fun x1 u t H1 locs ht hvm w15_1 hB hz1 hk1 hS => ?_)
  obtain ⟨hP1, hK1, hD1⟩ := hB
  rw [ht] at hP1
  try dsimp only at w15_1
  obtain ⟨hP, hD⟩ := va_join (wr := [(fi, .inr (1, [.int mi, .int pl, .int ze, .int sh, .int bl, .int sw, .int 0, .int wi, .int (-1), .int le, .int so, .int nx]))]) (w1 := [(hF, .inr (2, [.ref aF, .int nF])), (aF, .inl (cC, roomF, .inl fF))]) hP hD [1, 2] [0] rfl rfl (by decide) (by decide) hk1 hFc hP1 hD1
  generalize H1 = H at hP hS ⊢
  have hP : va_P (dC, dI) CL [(fi, .inr (1, [.int mi, .int pl, .int ze, .int sh, .int bl, .int sw, .int 0, .int wi, .int (-1), .int le, .int so, .int nx])), (hF, .inr (2, [.ref aF, .int nF])), (aF, .inl (cC, roomF, .inl fF))] H := hP
  have hD : va_D A [(fi, .inr (1, [.int mi, .int pl, .int ze, .int sh, .int bl, .int sw, .int 0, .int wi, .int (-1), .int le, .int so, .int nx])), (hF, .inr (2, [.ref aF, .int nF])), (aF, .inl (cC, roomF, .inl fF))] := hD
  refine lv_bipush (v := 46) hx hb d_Fi_readPrecision_18 (by decide) ?_
  refine lv_icmp_eq (tgt := 24) hx hb d_Fi_readPrecision_20 (by decide) (fun c20_2 => ?_) (fun c20_2 => ?_)
  · skip
    rw [w15_1] at c20_2
    refine lv_aload_n hx hb d_Fi_readPrecision_24 rfl (lv_at hl 0 rfl) ?_
    refine lv_dup hx hb d_Fi_readPrecision_25 rfl ?_
    refine va_get (D := (dC, dI)) (ci := 1) (v := .int nx) (C := R_Fi) (T := F_Fi) (N := 12) hx hb hT (in_Fi) hown hK hP 0 rfl rfl 11 (by decide) (hT _ t_95) (fun _ h9 => h9) rfl d_Fi_readPrecision_26 ?_
    refine lv_iconst (v := 1) hx hb d_Fi_readPrecision_29 (by decide) ?_
    refine lv_iadd hx hb d_Fi_readPrecision_30 ?_
    refine lv_topi (fun x3 ex3 => ?_)
    refine va_put (D := (dC, dI)) (ci := 1) (v := .int x3) (ty := .int) (C := R_Fi) (T := F_Fi) (N := 12) hx hb hT (in_Fi) t_Fi t_Fi_ok n_Fi hown hK hP hD hS 0 rfl rfl 11 (by decide) (hT _ t_95) (fun _ h9 => h9) rfl (by decide +kernel) rfl rfl (Nat.le_of_ble_eq_true rfl) d_Fi_readPrecision_31 (fun H locs hP hD hS => ?_)
    have hP : va_P (dC, dI) CL [(fi, .inr (1, [.int mi, .int pl, .int ze, .int sh, .int bl, .int sw, .int 0, .int wi, .int (-1), .int le, .int so, .int x3])), (hF, .inr (2, [.ref aF, .int nF])), (aF, .inl (cC, roomF, .inl fF))] H := hP
    have hD : va_D A [(fi, .inr (1, [.int mi, .int pl, .int ze, .int sh, .int bl, .int sw, .int 0, .int wi, .int (-1), .int le, .int so, .int x3])), (hF, .inr (2, [.ref aF, .int nF])), (aF, .inl (cC, roomF, .inl fF))] := hD
    refine lv_aload_n hx hb d_Fi_readPrecision_34 rfl (lv_at hl 0 rfl) ?_
    refine lv_aload_n hx hb d_Fi_readPrecision_35 rfl (lv_at hl 1 rfl) ?_
    refine lv_aload_n hx hb d_Fi_readPrecision_36 rfl (lv_at hl 0 rfl) ?_
    refine va_get (D := (dC, dI)) (ci := 1) (v := .int x3) (C := R_Fi) (T := F_Fi) (N := 12) hx hb hT (in_Fi) hown hK hP 0 rfl rfl 11 (by decide) (hT _ t_95) (fun _ h9 => h9) rfl d_Fi_readPrecision_37 ?_
    have hPc := hP.sub (ws' := [(hF, .inr (2, [.ref aF, .int nF])), (aF, .inl (cC, roomF, .inl fF))]) [1, 2] rfl
    have hDc := hD.sub (ws' := [(hF, .inr (2, [.ref aF, .int nF])), (aF, .inl (cC, roomF, .inl fF))]) [1, 2] (by decide) rfl
    have hKc := hK.sub (tys' := [(cC, .char)]) [0] rfl
    have hFc := va_free (wc := [(hF, .inr (2, [.ref aF, .int nF])), (aF, .inl (cC, roomF, .inl fF))]) hD hS hA [1, 2] rfl
    refine va_calli (va_runV (As := [.int x3]) (rest := [.ref fi]) ⟨hx, hb, hml, hown, hT⟩ (c_Line_at l dC dI H.size cC hF aF roomF fF nF x3 hn2) (cwV 1 hT g_Fi_25 rfl rfl rfl (by decide +kernel) ⟨Nat.le_of_ble_eq_true rfl, Nat.le_of_ble_eq_true rfl⟩) ⟨fun a U g mk q => by obtain ⟨q0, q1, qP, qK, qD⟩ := q; exact ⟨q0, q1, qP, va_K.moved (u := U) (U := U.calling g mk a) (Vm.Alike.refl U.vm) qK, qD⟩, va_recv hKc hPc (ci := 2) (q0 := 0) rfl rfl, fun U hU hW => ⟨rfl, by rw [hU], by rw [hU]; exact hPc, va_K.moved hW.alike hKc, hDc.weaken (fun _ _ _ _ => trivial)⟩⟩ rfl rfl hl.1 rfl (lv_room (Nat.le_of_ble_eq_true rfl)) d_Fi_readPrecision_40 ⟨Nat.le_of_ble_eq_true rfl, Nat.le_of_ble_eq_true rfl⟩) hS (fun q _ h => hFc q h) hFc (fun x4 u t H1 locs ht hvm w40_4 hB hz1 hk1 hS => ?_)
    obtain ⟨hP1, hK1, hD1⟩ := hB
    rw [ht] at hP1
    try dsimp only at w40_4
    obtain ⟨hP, hD⟩ := va_join (wr := [(fi, .inr (1, [.int mi, .int pl, .int ze, .int sh, .int bl, .int sw, .int 0, .int wi, .int (-1), .int le, .int so, .int x3]))]) (w1 := [(hF, .inr (2, [.ref aF, .int nF])), (aF, .inl (cC, roomF, .inl fF))]) hP hD [1, 2] [0] rfl rfl (by decide) (by decide) hk1 hFc hP1 hD1
    generalize H1 = H at hP hS ⊢
    have hP : va_P (dC, dI) CL [(fi, .inr (1, [.int mi, .int pl, .int ze, .int sh, .int bl, .int sw, .int 0, .int wi, .int (-1), .int le, .int so, .int x3])), (hF, .inr (2, [.ref aF, .int nF])), (aF, .inl (cC, roomF, .inl fF))] H := hP
    have hD : va_D A [(fi, .inr (1, [.int mi, .int pl, .int ze, .int sh, .int bl, .int sw, .int 0, .int wi, .int (-1), .int le, .int so, .int x3])), (hF, .inr (2, [.ref aF, .int nF])), (aF, .inl (cC, roomF, .inl fF))] := hD
    refine lv_bipush (v := 42) hx hb d_Fi_readPrecision_43 (by decide) ?_
    refine lv_icmp_ne (tgt := 52) hx hb d_Fi_readPrecision_45 (by decide) (fun c45_5 => ?_) (fun c45_5 => ?_)
    · skip
      rw [w40_4, ex3] at c45_5
      refine lv_iconst (v := 0) hx hb d_Fi_readPrecision_52 (by decide) ?_
      refine va_put (D := (dC, dI)) (ci := 1) (v := .int 0) (ty := .boolean) (C := R_Fi) (T := F_Fi) (N := 12) hx hb hT (in_Fi) t_Fi t_Fi_ok n_Fi hown hK hP hD hS 0 rfl rfl 6 (by decide) (hT _ t_86) (fun _ h9 => h9) rfl (by decide +kernel) rfl rfl (Nat.le_of_ble_eq_true rfl) d_Fi_readPrecision_53 (fun H locs hP hD hS => ?_)
      have hP : va_P (dC, dI) CL [(fi, .inr (1, [.int mi, .int pl, .int ze, .int sh, .int bl, .int sw, .int 0, .int wi, .int (-1), .int le, .int so, .int x3])), (hF, .inr (2, [.ref aF, .int nF])), (aF, .inl (cC, roomF, .inl fF))] H := hP
      have hD : va_D A [(fi, .inr (1, [.int mi, .int pl, .int ze, .int sh, .int bl, .int sw, .int 0, .int wi, .int (-1), .int le, .int so, .int x3])), (hF, .inr (2, [.ref aF, .int nF])), (aF, .inl (cC, roomF, .inl fF))] := hD
      refine lv_aload_n hx hb d_Fi_readPrecision_56 rfl (lv_at hl 0 rfl) ?_
      refine va_get (D := (dC, dI)) (ci := 1) (v := .int 0) (C := R_Fi) (T := F_Fi) (N := 12) hx hb hT (in_Fi) hown hK hP 0 rfl rfl 6 (by decide) (hT _ t_86) (fun _ h9 => h9) rfl d_Fi_readPrecision_57 ?_
      refine lv_if_eq (tgt := 76) hx hb d_Fi_readPrecision_60 (by decide) (fun c60_6 => ?_) (fun c60_6 => ?_)
      · skip
        refine lv_aload_n hx hb d_Fi_readPrecision_76 rfl (lv_at hl 0 rfl) ?_
        refine lv_aload_n hx hb d_Fi_readPrecision_77 rfl (lv_at hl 0 rfl) ?_
        refine lv_aload_n hx hb d_Fi_readPrecision_78 rfl (lv_at hl 1 rfl) ?_
        have hPc := hP.sub (ws' := [(fi, .inr (1, [.int mi, .int pl, .int ze, .int sh, .int bl, .int sw, .int 0, .int wi, .int (-1), .int le, .int so, .int x3])), (hF, .inr (2, [.ref aF, .int nF])), (aF, .inl (cC, roomF, .inl fF))]) [0, 1, 2] rfl
        have hDc := hD.sub (ws' := [(fi, .inr (1, [.int mi, .int pl, .int ze, .int sh, .int bl, .int sw, .int 0, .int wi, .int (-1), .int le, .int so, .int x3])), (hF, .inr (2, [.ref aF, .int nF])), (aF, .inl (cC, roomF, .inl fF))]) [0, 1, 2] (by decide) rfl
        have hKc := hK.sub (tys' := [(cC, .char)]) [0] rfl
        have hFc := va_free (wc := [(fi, .inr (1, [.int mi, .int pl, .int ze, .int sh, .int bl, .int sw, .int 0, .int wi, .int (-1), .int le, .int so, .int x3])), (hF, .inr (2, [.ref aF, .int nF])), (aF, .inl (cC, roomF, .inl fF))]) hD hS hA [0, 1, 2] rfl
        refine va_calli (va_runV (As := [.ref hF]) (rest := [.ref fi]) ⟨hx, hb, hml, hown, hT⟩ (c_Field_readNumber l dC dI H.size cC fi mi pl ze sh bl sw 0 wi (-1) le so x3 hF aF roomF fF nF hn2) (cwV 1 hT g_Fi_70 rfl rfl rfl (by decide +kernel) ⟨Nat.le_of_ble_eq_true rfl, Nat.le_of_ble_eq_true rfl⟩) ⟨fun a U g mk q => by obtain ⟨q0, q1, qP, qK, qD⟩ := q; exact ⟨q0, q1, qP, va_K.moved (u := U) (U := U.calling g mk a) (Vm.Alike.refl U.vm) qK, qD⟩, va_recv hKc hPc (ci := 1) (q0 := 0) rfl rfl, fun U hU hW => ⟨rfl, by rw [hU], by rw [hU]; exact hPc, va_K.moved hW.alike hKc, hDc.weaken (fun _ _ _ _ => trivial)⟩⟩ rfl rfl hl.1 rfl (lv_room (Nat.le_of_ble_eq_true rfl)) d_Fi_readPrecision_79 ⟨Nat.le_of_ble_eq_true rfl, Nat.le_of_ble_eq_true rfl⟩) hS (fun q _ h => hFc q h) hFc (fun x7 u t H1 locs ht hvm w79_8 hB hz1 hk1 hS => ?_)
        obtain ⟨nx_8, rfl⟩ : ∃ z, z = u := ⟨_, rfl⟩
        obtain ⟨hP1, hK1, hD1⟩ := hB
        rw [ht] at hP1
        try dsimp only at w79_8
        obtain ⟨w79_8, w79_8b⟩ := w79_8
        obtain ⟨hP, hD⟩ := va_join (wr := []) (w1 := [(fi, .inr (1, [.int mi, .int pl, .int ze, .int sh, .int bl, .int sw, .int 0, .int wi, .int (-1), .int le, .int so, .int nx_8])), (hF, .inr (2, [.ref aF, .int nF])), (aF, .inl (cC, roomF, .inl fF))]) hP hD [0, 1, 2] [] rfl rfl (by decide) (by decide) hk1 hFc hP1 hD1
        generalize H1 = H at hP hS ⊢
        have hP : va_P (dC, dI) CL [(fi, .inr (1, [.int mi, .int pl, .int ze, .int sh, .int bl, .int sw, .int 0, .int wi, .int (-1), .int le, .int so, .int nx_8])), (hF, .inr (2, [.ref aF, .int nF])), (aF, .inl (cC, roomF, .inl fF))] H := hP
        have hD : va_D A [(fi, .inr (1, [.int mi, .int pl, .int ze, .int sh, .int bl, .int sw, .int 0, .int wi, .int (-1), .int le, .int so, .int nx_8])), (hF, .inr (2, [.ref aF, .int nF])), (aF, .inl (cC, roomF, .inl fF))] := hD
        refine va_put (D := (dC, dI)) (ci := 1) (v := .int x7) (ty := .int) (C := R_Fi) (T := F_Fi) (N := 12) hx hb hT (in_Fi) t_Fi t_Fi_ok n_Fi hown hK hP hD hS 0 rfl rfl 8 (by decide) (hT _ t_91) (fun _ h9 => h9) rfl (by decide +kernel) rfl rfl (Nat.le_of_ble_eq_true rfl) d_Fi_readPrecision_82 (fun H locs hP hD hS => ?_)
        have hP : va_P (dC, dI) CL [(fi, .inr (1, [.int mi, .int pl, .int ze, .int sh, .int bl, .int sw, .int 0, .int wi, .int x7, .int le, .int so, .int nx_8])), (hF, .inr (2, [.ref aF, .int nF])), (aF, .inl (cC, roomF, .inl fF))] H := hP
        have hD : va_D A [(fi, .inr (1, [.int mi, .int pl, .int ze, .int sh, .int bl, .int sw, .int 0, .int wi, .int x7, .int le, .int so, .int nx_8])), (hF, .inr (2, [.ref aF, .int nF])), (aF, .inl (cC, roomF, .inl fF))] := hD
        have hP9 := hP.sub (ws' := [(fi, .inr (1, [.int mi, .int pl, .int ze, .int sh, .int bl, .int sw, .int 0, .int wi, .int x7, .int le, .int so, .int nx_8])), (hF, .inr (2, [.ref aF, .int nF])), (aF, .inl (cC, roomF, .inl fF))]) [0, 1, 2] rfl
        have hD9 := hD.sub (ws' := [(fi, .inr (1, [.int mi, .int pl, .int ze, .int sh, .int bl, .int sw, .int 0, .int wi, .int x7, .int le, .int so, .int nx_8])), (hF, .inr (2, [.ref aF, .int nF])), (aF, .inl (cC, roomF, .inl fF))]) [0, 1, 2] (by decide) rfl
        have hK9 := hK.sub (tys' := [(cC, .char)]) [0] rfl
        have hq9 : (0 : Int32) = rpS fF nF nx ∧ x7 = rpP fF nF nx ∧ nx_8 = rpN fF nF nx := by refine ⟨?_, ?_, ?_⟩; (simp [rpS, k_b, c20_2, c45_5]); (rw [rpP, if_pos c20_2, if_neg c45_5, ← ex3]; exact w79_8); (rw [rpN, if_pos c20_2, if_neg c45_5, ← ex3]; exact w79_8b)
        exact W.vret hx hb hr (fun t ht hW => ⟨⟨(0, x7, nx_8), rfl, hq9, by rw [ht]; exact hP9, va_K.moved hW.alike hK9, hD9⟩, hS.F ht⟩) hS.2.2 d_Fi_readPrecision_85
      · exact absurd c60_6 (by decide)
    · skip
      rw [w40_4, ex3] at c45_5
      refine lv_iconst (v := 1) hx hb d_Fi_readPrecision_48 (by decide) ?_
      refine lv_goto (tgt := 53) hx hb d_Fi_readPrecision_49 (by decide) ?_
      refine va_put (D := (dC, dI)) (ci := 1) (v := .int 1) (ty := .boolean) (C := R_Fi) (T := F_Fi) (N := 12) hx hb hT (in_Fi) t_Fi t_Fi_ok n_Fi hown hK hP hD hS 0 rfl rfl 6 (by decide) (hT _ t_86) (fun _ h9 => h9) rfl (by decide +kernel) rfl rfl (Nat.le_of_ble_eq_true rfl) d_Fi_readPrecision_53 (fun H locs hP hD hS => ?_)
      have hP : va_P (dC, dI) CL [(fi, .inr (1, [.int mi, .int pl, .int ze, .int sh, .int bl, .int sw, .int 1, .int wi, .int (-1), .int le, .int so, .int x3])), (hF, .inr (2, [.ref aF, .int nF])), (aF, .inl (cC, roomF, .inl fF))] H := hP
      have hD : va_D A [(fi, .inr (1, [.int mi, .int pl, .int ze, .int sh, .int bl, .int sw, .int 1, .int wi, .int (-1), .int le, .int so, .int x3])), (hF, .inr (2, [.ref aF, .int nF])), (aF, .inl (cC, roomF, .inl fF))] := hD
      refine lv_aload_n hx hb d_Fi_readPrecision_56 rfl (lv_at hl 0 rfl) ?_
      refine va_get (D := (dC, dI)) (ci := 1) (v := .int 1) (C := R_Fi) (T := F_Fi) (N := 12) hx hb hT (in_Fi) hown hK hP 0 rfl rfl 6 (by decide) (hT _ t_86) (fun _ h9 => h9) rfl d_Fi_readPrecision_57 ?_
      refine lv_if_eq (tgt := 76) hx hb d_Fi_readPrecision_60 (by decide) (fun c60_9 => ?_) (fun c60_9 => ?_)
      · exact absurd c60_9 (by decide)
      · skip
        refine lv_aload_n hx hb d_Fi_readPrecision_63 rfl (lv_at hl 0 rfl) ?_
        refine lv_dup hx hb d_Fi_readPrecision_64 rfl ?_
        refine va_get (D := (dC, dI)) (ci := 1) (v := .int x3) (C := R_Fi) (T := F_Fi) (N := 12) hx hb hT (in_Fi) hown hK hP 0 rfl rfl 11 (by decide) (hT _ t_95) (fun _ h9 => h9) rfl d_Fi_readPrecision_65 ?_
        refine lv_iconst (v := 1) hx hb d_Fi_readPrecision_68 (by decide) ?_
        refine lv_iadd hx hb d_Fi_readPrecision_69 ?_
        refine lv_topi (fun x10 ex10 => ?_)
        refine va_put (D := (dC, dI)) (ci := 1) (v := .int x10) (ty := .int) (C := R_Fi) (T := F_Fi) (N := 12) hx hb hT (in_Fi) t_Fi t_Fi_ok n_Fi hown hK hP hD hS 0 rfl rfl 11 (by decide) (hT _ t_95) (fun _ h9 => h9) rfl (by decide +kernel) rfl rfl (Nat.le_of_ble_eq_true rfl) d_Fi_readPrecision_70 (fun H locs hP hD hS => ?_)
        have hP : va_P (dC, dI) CL [(fi, .inr (1, [.int mi, .int pl, .int ze, .int sh, .int bl, .int sw, .int 1, .int wi, .int (-1), .int le, .int so, .int x10])), (hF, .inr (2, [.ref aF, .int nF])), (aF, .inl (cC, roomF, .inl fF))] H := hP
        have hD : va_D A [(fi, .inr (1, [.int mi, .int pl, .int ze, .int sh, .int bl, .int sw, .int 1, .int wi, .int (-1), .int le, .int so, .int x10])), (hF, .inr (2, [.ref aF, .int nF])), (aF, .inl (cC, roomF, .inl fF))] := hD
        refine lv_goto (tgt := 85) hx hb d_Fi_readPrecision_73 (by decide) ?_
        have hP9 := hP.sub (ws' := [(fi, .inr (1, [.int mi, .int pl, .int ze, .int sh, .int bl, .int sw, .int 1, .int wi, .int (-1), .int le, .int so, .int x10])), (hF, .inr (2, [.ref aF, .int nF])), (aF, .inl (cC, roomF, .inl fF))]) [0, 1, 2] rfl
        have hD9 := hD.sub (ws' := [(fi, .inr (1, [.int mi, .int pl, .int ze, .int sh, .int bl, .int sw, .int 1, .int wi, .int (-1), .int le, .int so, .int x10])), (hF, .inr (2, [.ref aF, .int nF])), (aF, .inl (cC, roomF, .inl fF))]) [0, 1, 2] (by decide) rfl
        have hK9 := hK.sub (tys' := [(cC, .char)]) [0] rfl
        have hq9 : (1 : Int32) = rpS fF nF nx ∧ (-1 : Int32) = rpP fF nF nx ∧ x10 = rpN fF nF nx := by refine ⟨?_, ?_, ?_⟩; (simp [rpS, k_b, c20_2, c45_5]); (rw [rpP, if_pos c20_2, if_pos c45_5]); (rw [rpN, if_pos c20_2, if_pos c45_5, ← ex3]; exact ex10)
        exact W.vret hx hb hr (fun t ht hW => ⟨⟨(1, (-1), x10), rfl, hq9, by rw [ht]; exact hP9, va_K.moved hW.alike hK9, hD9⟩, hS.F ht⟩) hS.2.2 d_Fi_readPrecision_85
  · skip
    rw [w15_1] at c20_2
    have hP9 := hP.sub (ws' := [(fi, .inr (1, [.int mi, .int pl, .int ze, .int sh, .int bl, .int sw, .int 0, .int wi, .int (-1), .int le, .int so, .int nx])), (hF, .inr (2, [.ref aF, .int nF])), (aF, .inl (cC, roomF, .inl fF))]) [0, 1, 2] rfl
    have hD9 := hD.sub (ws' := [(fi, .inr (1, [.int mi, .int pl, .int ze, .int sh, .int bl, .int sw, .int 0, .int wi, .int (-1), .int le, .int so, .int nx])), (hF, .inr (2, [.ref aF, .int nF])), (aF, .inl (cC, roomF, .inl fF))]) [0, 1, 2] (by decide) rfl
    have hK9 := hK.sub (tys' := [(cC, .char)]) [0] rfl
    have hq9 : (0 : Int32) = rpS fF nF nx ∧ (-1 : Int32) = rpP fF nF nx ∧ nx = rpN fF nF nx := by simp [rpS, rpP, rpN, c20_2]
    exact W.vret hx hb hr (fun t ht hW => ⟨⟨(0, (-1), nx), rfl, hq9, by rw [ht]; exact hP9, va_K.moved hW.alike hK9, hD9⟩, hS.F ht⟩) hS.2.2 d_Fi_readPrecision_23

set_option maxHeartbeats 4000000 in
set_option maxRecDepth 100000 in
theorem c_Field_sortOf (l : Launch) (dC : Nat → ClassId) (dI : Nat → Nat → Nat) (sz : Nat) (ch : Int32)  : Met l y_Fi_sortOf w_Fi_sortOf ({ frames := 0, cells := 0, slots := 0, locals := 0 } : Room) (va_Pc [.int ch] (fun U => U.heap.size = sz ∧ va_P (dC, dI) CL [] U.heap ∧ va_K (dC, dI) CL [] U ∧ va_D (fun _ => True) [])) (va_Qi (fun (r : Int32) (u : Unit) => r = soOf ch) (fun (u : Unit) (t : State) => va_P (dC, dI) CL [] t.heap ∧ va_K (dC, dI) CL [] t ∧ va_D (va_A [] sz) []) (va_A [] sz)) 0 0 (va_A [] sz) := by
  refine Met.ofW (cc := b_Fi_sortOf) (maxL := 1) (ret := (some .int)) (by decide) rfl ?_
  intro p e s m args below meth c s₁ B hml hv
  obtain ⟨rfl, hsz, hP, hK, hD0⟩ := hv
  have hx := B.exec
  have hb := B.bytes
  have hr := B.returns
  have hts := atoms_spec (ws := w_Fi_sortOf) B.pre
  have hT : ∀ w ∈ TB, w.before _ s = true := fun w h => hts w (List.mem_cons_of_mem _ h)
  have hown : s.vm.findClass R_Fi = some m.cls := findClass_of_methodNamed B.named
  have hlocks := B.notSynchronized
  subst hsz
  have hD := hD0.self (sz := s.heap.size)
  generalize hAe : va_A [] s.heap.size = A at hD ⊢
  have hA : ∀ q : Nat, s.heap.size ≤ q → A q := fun q h => by rw [← hAe]; exact Or.inr h
  have hS : va_S A s.heap s.heap [] := va_S.rf
  have hP : va_P (dC, dI) CL [] s.heap := hP
  have hl := lv_entry ([.int ch]) (n := 1) (Nat.le_of_ble_eq_true rfl)
  rw [lg_entry_eq]
  generalize (lg_sl ([.int ch]) ++ List.replicate (1 - (lg_sl ([.int ch])).length) Slot.unset).toArray = ls at hl ⊢
  have hl : lv_has ls 1 [(0, .int ch)] := hl
  refine lv_iload_n hx hb d_Fi_sortOf_0 rfl (lv_at hl 0 rfl) ?_
  by_cases hin : ch.toInt < 69 ∨ 120 < ch.toInt
  · refine lv_tableOut (tgt := 230) hx hb d_Fi_sortOf_1 hin (by decide) ?_
    have hso := so_out hin
    refine lv_iconst (v := 0) hx hb d_Fi_sortOf_230 (by decide) ?_
    have hP9 := hP.sub (ws' := []) [] rfl
    have hD9 := hD.sub (ws' := []) [] (by decide) rfl
    have hK9 := hK.sub (tys' := []) [] rfl
    have hq9 : (0 : Int32) = soOf ch := by exact hso.symm
    exact W.iret (v := 0) hx hb hr (fun t ht hW => ⟨⟨0, (), rfl, hq9, by rw [ht]; exact hP9, va_K.moved hW.alike hK9, hD9⟩, hS.F ht⟩) hS.2.2 d_Fi_sortOf_231
  · have hi1 : ¬ ch.toInt < 69 := fun q => hin (Or.inl q)
    have hi2 : ¬ 120 < ch.toInt := fun q => hin (Or.inr q)
    have ho := so_off hi1 hi2
    rcases so_vals ch with hso | hso | hso | hso
    · refine lv_tableIn (off := 223) (tgt := 224) hx hb d_Fi_sortOf_1 hi1 hi2 (by rw [hso] at ho; exact ho) (by decide) ?_
      refine lv_iconst (v := 1) hx hb d_Fi_sortOf_224 (by decide) ?_
      have hP9 := hP.sub (ws' := []) [] rfl
      have hD9 := hD.sub (ws' := []) [] (by decide) rfl
      have hK9 := hK.sub (tys' := []) [] rfl
      have hq9 : (1 : Int32) = soOf ch := by exact hso.symm
      exact W.iret (v := 1) hx hb hr (fun t ht hW => ⟨⟨1, (), rfl, hq9, by rw [ht]; exact hP9, va_K.moved hW.alike hK9, hD9⟩, hS.F ht⟩) hS.2.2 d_Fi_sortOf_225
    · refine lv_tableIn (off := 225) (tgt := 226) hx hb d_Fi_sortOf_1 hi1 hi2 (by rw [hso] at ho; exact ho) (by decide) ?_
      refine lv_iconst (v := 2) hx hb d_Fi_sortOf_226 (by decide) ?_
      have hP9 := hP.sub (ws' := []) [] rfl
      have hD9 := hD.sub (ws' := []) [] (by decide) rfl
      have hK9 := hK.sub (tys' := []) [] rfl
      have hq9 : (2 : Int32) = soOf ch := by exact hso.symm
      exact W.iret (v := 2) hx hb hr (fun t ht hW => ⟨⟨2, (), rfl, hq9, by rw [ht]; exact hP9, va_K.moved hW.alike hK9, hD9⟩, hS.F ht⟩) hS.2.2 d_Fi_sortOf_227
    · refine lv_tableIn (off := 227) (tgt := 228) hx hb d_Fi_sortOf_1 hi1 hi2 (by rw [hso] at ho; exact ho) (by decide) ?_
      refine lv_iconst (v := 3) hx hb d_Fi_sortOf_228 (by decide) ?_
      have hP9 := hP.sub (ws' := []) [] rfl
      have hD9 := hD.sub (ws' := []) [] (by decide) rfl
      have hK9 := hK.sub (tys' := []) [] rfl
      have hq9 : (3 : Int32) = soOf ch := by exact hso.symm
      exact W.iret (v := 3) hx hb hr (fun t ht hW => ⟨⟨3, (), rfl, hq9, by rw [ht]; exact hP9, va_K.moved hW.alike hK9, hD9⟩, hS.F ht⟩) hS.2.2 d_Fi_sortOf_229
    · refine lv_tableIn (off := 229) (tgt := 230) hx hb d_Fi_sortOf_1 hi1 hi2 (by rw [hso] at ho; exact ho) (by decide) ?_
      refine lv_iconst (v := 0) hx hb d_Fi_sortOf_230 (by decide) ?_
      have hP9 := hP.sub (ws' := []) [] rfl
      have hD9 := hD.sub (ws' := []) [] (by decide) rfl
      have hK9 := hK.sub (tys' := []) [] rfl
      have hq9 : (0 : Int32) = soOf ch := by exact hso.symm
      exact W.iret (v := 0) hx hb hr (fun t ht hW => ⟨⟨0, (), rfl, hq9, by rw [ht]; exact hP9, va_K.moved hW.alike hK9, hD9⟩, hS.F ht⟩) hS.2.2 d_Fi_sortOf_231

set_option maxHeartbeats 4000000 in
set_option maxRecDepth 100000 in
theorem c_Field_read (l : Launch) (dC : Nat → ClassId) (dI : Nat → Nat → Nat) (sz : Nat) (cC : ClassId) (fi : Nat) (mi : Int32) (pl : Int32) (ze : Int32) (sh : Int32) (bl : Int32) (sw : Int32) (sp : Int32) (wi : Int32) (pr : Int32) (le : Int32) (so : Int32) (nx : Int32) (hF : Nat) (aF : Nat) (roomF : Nat) (fF : Nat → Int32) (nF : Int32) (place : Int32) (hn2 : lnOK roomF nF) : Met l y_Fi_read w_Fi_read ({ frames := 4, cells := 0, slots := 0, locals := 90 } : Room) (va_Pc [.ref fi, .ref hF, .int place] (fun U => U.heap.size = sz ∧ va_P (dC, dI) CL [(fi, .inr (1, [.int mi, .int pl, .int ze, .int sh, .int bl, .int sw, .int sp, .int wi, .int pr, .int le, .int so, .int nx])), (hF, .inr (2, [.ref aF, .int nF])), (aF, .inl (cC, roomF, .inl fF))] U.heap ∧ va_K (dC, dI) CL [(cC, .char)] U ∧ va_D (fun _ => True) [(fi, .inr (1, [.int mi, .int pl, .int ze, .int sh, .int bl, .int sw, .int sp, .int wi, .int pr, .int le, .int so, .int nx])), (hF, .inr (2, [.ref aF, .int nF])), (aF, .inl (cC, roomF, .inl fF))])) (va_Qi (fun (r : Int32) (u : Int32 × Int32 × Int32 × Int32 × Int32 × Int32 × Int32 × Int32 × Int32 × Int32 × Int32 × Int32) => match u with | (mi2, pl2, ze2, sh2, bl2, sw2, sp2, wi2, pr2, le2, so2, nx2) => ((mi2, pl2, ze2, sh2, bl2), sw2, sp2, wi2, pr2, le2, so2, nx2) = fiRead fF nF place ∧ r = k_b (!decide (so2 = 0))) (fun (u : Int32 × Int32 × Int32 × Int32 × Int32 × Int32 × Int32 × Int32 × Int32 × Int32 × Int32 × Int32) (t : State) => match u with | (mi2, pl2, ze2, sh2, bl2, sw2, sp2, wi2, pr2, le2, so2, nx2) => va_P (dC, dI) CL [(fi, .inr (1, [.int mi2, .int pl2, .int ze2, .int sh2, .int bl2, .int sw2, .int sp2, .int wi2, .int pr2, .int le2, .int so2, .int nx2])), (hF, .inr (2, [.ref aF, .int nF])), (aF, .inl (cC, roomF, .inl fF))] t.heap ∧ va_K (dC, dI) CL [(cC, .char)] t ∧ va_D (va_A [(fi, .inr (1, [.int mi, .int pl, .int ze, .int sh, .int bl, .int sw, .int sp, .int wi, .int pr, .int le, .int so, .int nx])), (hF, .inr (2, [.ref aF, .int nF])), (aF, .inl (cC, roomF, .inl fF))] sz) [(fi, .inr (1, [.int mi2, .int pl2, .int ze2, .int sh2, .int bl2, .int sw2, .int sp2, .int wi2, .int pr2, .int le2, .int so2, .int nx2])), (hF, .inr (2, [.ref aF, .int nF])), (aF, .inl (cC, roomF, .inl fF))]) (va_A [(fi, .inr (1, [.int mi, .int pl, .int ze, .int sh, .int bl, .int sw, .int sp, .int wi, .int pr, .int le, .int so, .int nx])), (hF, .inr (2, [.ref aF, .int nF])), (aF, .inl (cC, roomF, .inl fF))] sz)) 0 0 (va_A [(fi, .inr (1, [.int mi, .int pl, .int ze, .int sh, .int bl, .int sw, .int sp, .int wi, .int pr, .int le, .int so, .int nx])), (hF, .inr (2, [.ref aF, .int nF])), (aF, .inl (cC, roomF, .inl fF))] sz) := by
  refine Met.ofW (cc := b_Fi_read) (maxL := 3) (ret := (some .boolean)) (by decide) rfl ?_
  intro p e s m args below meth c s₁ B hml hv
  obtain ⟨rfl, hsz, hP, hK, hD0⟩ := hv
  have hx := B.exec
  have hb := B.bytes
  have hr := B.returns
  have hts := atoms_spec (ws := w_Fi_read) B.pre
  have hT : ∀ w ∈ TB, w.before _ s = true := fun w h => hts w (List.mem_cons_of_mem _ h)
  have hown : s.vm.findClass R_Fi = some m.cls := findClass_of_methodNamed B.named
  have hlocks := B.notSynchronized
  subst hsz
  have hD := hD0.self (sz := s.heap.size)
  generalize hAe : va_A [(fi, .inr (1, [.int mi, .int pl, .int ze, .int sh, .int bl, .int sw, .int sp, .int wi, .int pr, .int le, .int so, .int nx])), (hF, .inr (2, [.ref aF, .int nF])), (aF, .inl (cC, roomF, .inl fF))] s.heap.size = A at hD ⊢
  have hA : ∀ q : Nat, s.heap.size ≤ q → A q := fun q h => by rw [← hAe]; exact Or.inr h
  have hS : va_S A s.heap s.heap [] := va_S.rf
  have hP : va_P (dC, dI) CL [(fi, .inr (1, [.int mi, .int pl, .int ze, .int sh, .int bl, .int sw, .int sp, .int wi, .int pr, .int le, .int so, .int nx])), (hF, .inr (2, [.ref aF, .int nF])), (aF, .inl (cC, roomF, .inl fF))] s.heap := hP
  have hl := lv_entry ([.ref fi, .ref hF, .int place]) (n := 3) (Nat.le_of_ble_eq_true rfl)
  rw [lg_entry_eq]
  generalize (lg_sl ([.ref fi, .ref hF, .int place]) ++ List.replicate (3 - (lg_sl ([.ref fi, .ref hF, .int place])).length) Slot.unset).toArray = ls at hl ⊢
  have hl : lv_has ls 3 [(0, .ref fi), (1, .ref hF), (2, .int place)] := hl
  refine lv_aload_n hx hb d_Fi_read_0 rfl (lv_at hl 0 rfl) ?_
  refine lv_iload_n hx hb d_Fi_read_1 rfl (lv_at hl 2 rfl) ?_
  refine lv_iconst (v := 1) hx hb d_Fi_read_2 (by decide) ?_
  refine lv_iadd hx hb d_Fi_read_3 ?_
  refine lv_topi (fun x1 ex1 => ?_)
  refine va_put (D := (dC, dI)) (ci := 1) (v := .int x1) (ty := .int) (C := R_Fi) (T := F_Fi) (N := 12) hx hb hT (in_Fi) t_Fi t_Fi_ok n_Fi hown hK hP hD hS 0 rfl rfl 11 (by decide) (hT _ t_95) (fun _ h9 => h9) rfl (by decide +kernel) rfl rfl (Nat.le_of_ble_eq_true rfl) d_Fi_read_4 (fun H locs hP hD hS => ?_)
  have hP : va_P (dC, dI) CL [(fi, .inr (1, [.int mi, .int pl, .int ze, .int sh, .int bl, .int sw, .int sp, .int wi, .int pr, .int le, .int so, .int x1])), (hF, .inr (2, [.ref aF, .int nF])), (aF, .inl (cC, roomF, .inl fF))] H := hP
  have hD : va_D A [(fi, .inr (1, [.int mi, .int pl, .int ze, .int sh, .int bl, .int sw, .int sp, .int wi, .int pr, .int le, .int so, .int x1])), (hF, .inr (2, [.ref aF, .int nF])), (aF, .inl (cC, roomF, .inl fF))] := hD
  refine lv_aload_n hx hb d_Fi_read_7 rfl (lv_at hl 0 rfl) ?_
  refine lv_aload_n hx hb d_Fi_read_8 rfl (lv_at hl 1 rfl) ?_
  have hPc := hP.sub (ws' := [(fi, .inr (1, [.int mi, .int pl, .int ze, .int sh, .int bl, .int sw, .int sp, .int wi, .int pr, .int le, .int so, .int x1])), (hF, .inr (2, [.ref aF, .int nF])), (aF, .inl (cC, roomF, .inl fF))]) [0, 1, 2] rfl
  have hDc := hD.sub (ws' := [(fi, .inr (1, [.int mi, .int pl, .int ze, .int sh, .int bl, .int sw, .int sp, .int wi, .int pr, .int le, .int so, .int x1])), (hF, .inr (2, [.ref aF, .int nF])), (aF, .inl (cC, roomF, .inl fF))]) [0, 1, 2] (by decide) rfl
  have hKc := hK.sub (tys' := [(cC, .char)]) [0] rfl
  have hFc := va_free (wc := [(fi, .inr (1, [.int mi, .int pl, .int ze, .int sh, .int bl, .int sw, .int sp, .int wi, .int pr, .int le, .int so, .int x1])), (hF, .inr (2, [.ref aF, .int nF])), (aF, .inl (cC, roomF, .inl fF))]) hD hS hA [0, 1, 2] rfl
  refine va_callv (va_runV (As := [.ref hF]) (rest := []) ⟨hx, hb, hml, hown, hT⟩ (c_Field_readFlags l dC dI H.size cC fi mi pl ze sh bl sw sp wi pr le so x1 hF aF roomF fF nF hn2) (cwV 1 hT g_Fi_15 rfl rfl rfl (by decide +kernel) ⟨Nat.le_of_ble_eq_true rfl, Nat.le_of_ble_eq_true rfl⟩) ⟨fun a U g mk q => by obtain ⟨q0, q1, qP, qK, qD⟩ := q; exact ⟨q0, q1, qP, va_K.moved (u := U) (U := U.calling g mk a) (Vm.Alike.refl U.vm) qK, qD⟩, va_recv hKc hPc (ci := 1) (q0 := 0) rfl rfl, fun U hU hW => ⟨rfl, by rw [hU], by rw [hU]; exact hPc, va_K.moved hW.alike hKc, hDc.weaken (fun _ _ _ _ => trivial)⟩⟩ rfl rfl hl.1 rfl (lv_room (Nat.le_of_ble_eq_true rfl)) d_Fi_read_9 ⟨Nat.le_of_ble_eq_true rfl, Nat.le_of_ble_eq_true rfl⟩) hS (fun q _ h => hFc q h) hFc (fun u t H1 locs ht hvm w9_7 hB hz1 hk1 hS => ?_)
  obtain ⟨mi_2, pl_3, ze_4, sh_5, bl_6, nx_7⟩ := u
  obtain ⟨hP1, hK1, hD1⟩ := hB
  rw [ht] at hP1
  try dsimp only at w9_7
  obtain ⟨hP, hD⟩ := va_join (wr := []) (w1 := [(fi, .inr (1, [.int mi_2, .int pl_3, .int ze_4, .int sh_5, .int bl_6, .int sw, .int sp, .int wi, .int pr, .int le, .int so, .int nx_7])), (hF, .inr (2, [.ref aF, .int nF])), (aF, .inl (cC, roomF, .inl fF))]) hP hD [0, 1, 2] [] rfl rfl (by decide) (by decide) hk1 hFc hP1 hD1
  generalize H1 = H at hP hS ⊢
  have hP : va_P (dC, dI) CL [(fi, .inr (1, [.int mi_2, .int pl_3, .int ze_4, .int sh_5, .int bl_6, .int sw, .int sp, .int wi, .int pr, .int le, .int so, .int nx_7])), (hF, .inr (2, [.ref aF, .int nF])), (aF, .inl (cC, roomF, .inl fF))] H := hP
  have hD : va_D A [(fi, .inr (1, [.int mi_2, .int pl_3, .int ze_4, .int sh_5, .int bl_6, .int sw, .int sp, .int wi, .int pr, .int le, .int so, .int nx_7])), (hF, .inr (2, [.ref aF, .int nF])), (aF, .inl (cC, roomF, .inl fF))] := hD
  refine lv_aload_n hx hb d_Fi_read_12 rfl (lv_at hl 0 rfl) ?_
  refine lv_aload_n hx hb d_Fi_read_13 rfl (lv_at hl 1 rfl) ?_
  have hPc := hP.sub (ws' := [(fi, .inr (1, [.int mi_2, .int pl_3, .int ze_4, .int sh_5, .int bl_6, .int sw, .int sp, .int wi, .int pr, .int le, .int so, .int nx_7])), (hF, .inr (2, [.ref aF, .int nF])), (aF, .inl (cC, roomF, .inl fF))]) [0, 1, 2] rfl
  have hDc := hD.sub (ws' := [(fi, .inr (1, [.int mi_2, .int pl_3, .int ze_4, .int sh_5, .int bl_6, .int sw, .int sp, .int wi, .int pr, .int le, .int so, .int nx_7])), (hF, .inr (2, [.ref aF, .int nF])), (aF, .inl (cC, roomF, .inl fF))]) [0, 1, 2] (by decide) rfl
  have hKc := hK.sub (tys' := [(cC, .char)]) [0] rfl
  have hFc := va_free (wc := [(fi, .inr (1, [.int mi_2, .int pl_3, .int ze_4, .int sh_5, .int bl_6, .int sw, .int sp, .int wi, .int pr, .int le, .int so, .int nx_7])), (hF, .inr (2, [.ref aF, .int nF])), (aF, .inl (cC, roomF, .inl fF))]) hD hS hA [0, 1, 2] rfl
  refine va_callv (va_runV (As := [.ref hF]) (rest := []) ⟨hx, hb, hml, hown, hT⟩ (c_Field_readWidth l dC dI H.size cC fi mi_2 pl_3 ze_4 sh_5 bl_6 sw sp wi pr le so nx_7 hF aF roomF fF nF hn2) (cwV 1 hT g_Fi_19 rfl rfl rfl (by decide +kernel) ⟨Nat.le_of_ble_eq_true rfl, Nat.le_of_ble_eq_true rfl⟩) ⟨fun a U g mk q => by obtain ⟨q0, q1, qP, qK, qD⟩ := q; exact ⟨q0, q1, qP, va_K.moved (u := U) (U := U.calling g mk a) (Vm.Alike.refl U.vm) qK, qD⟩, va_recv hKc hPc (ci := 1) (q0 := 0) rfl rfl, fun U hU hW => ⟨rfl, by rw [hU], by rw [hU]; exact hPc, va_K.moved hW.alike hKc, hDc.weaken (fun _ _ _ _ => trivial)⟩⟩ rfl rfl hl.1 rfl (lv_room (Nat.le_of_ble_eq_true rfl)) d_Fi_read_14 ⟨Nat.le_of_ble_eq_true rfl, Nat.le_of_ble_eq_true rfl⟩) hS (fun q _ h => hFc q h) hFc (fun u t H1 locs ht hvm w14_10 hB hz1 hk1 hS => ?_)
  obtain ⟨sw_8, wi_9, nx_10⟩ := u
  obtain ⟨hP1, hK1, hD1⟩ := hB
  rw [ht] at hP1
  try dsimp only at w14_10
  obtain ⟨w14_10, w14_10b, w14_10c⟩ := w14_10
  obtain ⟨hP, hD⟩ := va_join (wr := []) (w1 := [(fi, .inr (1, [.int mi_2, .int pl_3, .int ze_4, .int sh_5, .int bl_6, .int sw_8, .int sp, .int wi_9, .int pr, .int le, .int so, .int nx_10])), (hF, .inr (2, [.ref aF, .int nF])), (aF, .inl (cC, roomF, .inl fF))]) hP hD [0, 1, 2] [] rfl rfl (by decide) (by decide) hk1 hFc hP1 hD1
  generalize H1 = H at hP hS ⊢
  have hP : va_P (dC, dI) CL [(fi, .inr (1, [.int mi_2, .int pl_3, .int ze_4, .int sh_5, .int bl_6, .int sw_8, .int sp, .int wi_9, .int pr, .int le, .int so, .int nx_10])), (hF, .inr (2, [.ref aF, .int nF])), (aF, .inl (cC, roomF, .inl fF))] H := hP
  have hD : va_D A [(fi, .inr (1, [.int mi_2, .int pl_3, .int ze_4, .int sh_5, .int bl_6, .int sw_8, .int sp, .int wi_9, .int pr, .int le, .int so, .int nx_10])), (hF, .inr (2, [.ref aF, .int nF])), (aF, .inl (cC, roomF, .inl fF))] := hD
  refine lv_aload_n hx hb d_Fi_read_17 rfl (lv_at hl 0 rfl) ?_
  refine lv_aload_n hx hb d_Fi_read_18 rfl (lv_at hl 1 rfl) ?_
  have hPc := hP.sub (ws' := [(fi, .inr (1, [.int mi_2, .int pl_3, .int ze_4, .int sh_5, .int bl_6, .int sw_8, .int sp, .int wi_9, .int pr, .int le, .int so, .int nx_10])), (hF, .inr (2, [.ref aF, .int nF])), (aF, .inl (cC, roomF, .inl fF))]) [0, 1, 2] rfl
  have hDc := hD.sub (ws' := [(fi, .inr (1, [.int mi_2, .int pl_3, .int ze_4, .int sh_5, .int bl_6, .int sw_8, .int sp, .int wi_9, .int pr, .int le, .int so, .int nx_10])), (hF, .inr (2, [.ref aF, .int nF])), (aF, .inl (cC, roomF, .inl fF))]) [0, 1, 2] (by decide) rfl
  have hKc := hK.sub (tys' := [(cC, .char)]) [0] rfl
  have hFc := va_free (wc := [(fi, .inr (1, [.int mi_2, .int pl_3, .int ze_4, .int sh_5, .int bl_6, .int sw_8, .int sp, .int wi_9, .int pr, .int le, .int so, .int nx_10])), (hF, .inr (2, [.ref aF, .int nF])), (aF, .inl (cC, roomF, .inl fF))]) hD hS hA [0, 1, 2] rfl
  refine va_callv (va_runV (As := [.ref hF]) (rest := []) ⟨hx, hb, hml, hown, hT⟩ (c_Field_readPrecision l dC dI H.size cC fi mi_2 pl_3 ze_4 sh_5 bl_6 sw_8 sp wi_9 pr le so nx_10 hF aF roomF fF nF hn2) (cwV 1 hT g_Fi_22 rfl rfl rfl (by decide +kernel) ⟨Nat.le_of_ble_eq_true rfl, Nat.le_of_ble_eq_true rfl⟩) ⟨fun a U g mk q => by obtain ⟨q0, q1, qP, qK, qD⟩ := q; exact ⟨q0, q1, qP, va_K.moved (u := U) (U := U.calling g mk a) (Vm.Alike.refl U.vm) qK, qD⟩, va_recv hKc hPc (ci := 1) (q0 := 0) rfl rfl, fun U hU hW => ⟨rfl, by rw [hU], by rw [hU]; exact hPc, va_K.moved hW.alike hKc, hDc.weaken (fun _ _ _ _ => trivial)⟩⟩ rfl rfl hl.1 rfl (lv_room (Nat.le_of_ble_eq_true rfl)) d_Fi_read_19 ⟨Nat.le_of_ble_eq_true rfl, Nat.le_of_ble_eq_true rfl⟩) hS (fun q _ h => hFc q h) hFc (fun u t H1 locs ht hvm w19_13 hB hz1 hk1 hS => ?_)
  obtain ⟨sp_11, pr_12, nx_13⟩ := u
  obtain ⟨hP1, hK1, hD1⟩ := hB
  rw [ht] at hP1
  try dsimp only at w19_13
  obtain ⟨w19_13, w19_13b, w19_13c⟩ := w19_13
  obtain ⟨hP, hD⟩ := va_join (wr := []) (w1 := [(fi, .inr (1, [.int mi_2, .int pl_3, .int ze_4, .int sh_5, .int bl_6, .int sw_8, .int sp_11, .int wi_9, .int pr_12, .int le, .int so, .int nx_13])), (hF, .inr (2, [.ref aF, .int nF])), (aF, .inl (cC, roomF, .inl fF))]) hP hD [0, 1, 2] [] rfl rfl (by decide) (by decide) hk1 hFc hP1 hD1
  generalize H1 = H at hP hS ⊢
  have hP : va_P (dC, dI) CL [(fi, .inr (1, [.int mi_2, .int pl_3, .int ze_4, .int sh_5, .int bl_6, .int sw_8, .int sp_11, .int wi_9, .int pr_12, .int le, .int so, .int nx_13])), (hF, .inr (2, [.ref aF, .int nF])), (aF, .inl (cC, roomF, .inl fF))] H := hP
  have hD : va_D A [(fi, .inr (1, [.int mi_2, .int pl_3, .int ze_4, .int sh_5, .int bl_6, .int sw_8, .int sp_11, .int wi_9, .int pr_12, .int le, .int so, .int nx_13])), (hF, .inr (2, [.ref aF, .int nF])), (aF, .inl (cC, roomF, .inl fF))] := hD
  refine lv_aload_n hx hb d_Fi_read_22 rfl (lv_at hl 0 rfl) ?_
  refine lv_aload_n hx hb d_Fi_read_23 rfl (lv_at hl 1 rfl) ?_
  refine lv_aload_n hx hb d_Fi_read_24 rfl (lv_at hl 0 rfl) ?_
  refine va_get (D := (dC, dI)) (ci := 1) (v := .int nx_13) (C := R_Fi) (T := F_Fi) (N := 12) hx hb hT (in_Fi) hown hK hP 0 rfl rfl 11 (by decide) (hT _ t_95) (fun _ h9 => h9) rfl d_Fi_read_25 ?_
  have hPc := hP.sub (ws' := [(hF, .inr (2, [.ref aF, .int nF])), (aF, .inl (cC, roomF, .inl fF))]) [1, 2] rfl
  have hDc := hD.sub (ws' := [(hF, .inr (2, [.ref aF, .int nF])), (aF, .inl (cC, roomF, .inl fF))]) [1, 2] (by decide) rfl
  have hKc := hK.sub (tys' := [(cC, .char)]) [0] rfl
  have hFc := va_free (wc := [(hF, .inr (2, [.ref aF, .int nF])), (aF, .inl (cC, roomF, .inl fF))]) hD hS hA [1, 2] rfl
  refine va_calli (va_runV (As := [.int nx_13]) (rest := [.ref fi]) ⟨hx, hb, hml, hown, hT⟩ (c_Line_at l dC dI H.size cC hF aF roomF fF nF nx_13 hn2) (cwV 1 hT g_Fi_25 rfl rfl rfl (by decide +kernel) ⟨Nat.le_of_ble_eq_true rfl, Nat.le_of_ble_eq_true rfl⟩) ⟨fun a U g mk q => by obtain ⟨q0, q1, qP, qK, qD⟩ := q; exact ⟨q0, q1, qP, va_K.moved (u := U) (U := U.calling g mk a) (Vm.Alike.refl U.vm) qK, qD⟩, va_recv hKc hPc (ci := 2) (q0 := 0) rfl rfl, fun U hU hW => ⟨rfl, by rw [hU], by rw [hU]; exact hPc, va_K.moved hW.alike hKc, hDc.weaken (fun _ _ _ _ => trivial)⟩⟩ rfl rfl hl.1 rfl (lv_room (Nat.le_of_ble_eq_true rfl)) d_Fi_read_28 ⟨Nat.le_of_ble_eq_true rfl, Nat.le_of_ble_eq_true rfl⟩) hS (fun q _ h => hFc q h) hFc (fun x14 u t H1 locs ht hvm w28_14 hB hz1 hk1 hS => ?_)
  obtain ⟨hP1, hK1, hD1⟩ := hB
  rw [ht] at hP1
  try dsimp only at w28_14
  obtain ⟨hP, hD⟩ := va_join (wr := [(fi, .inr (1, [.int mi_2, .int pl_3, .int ze_4, .int sh_5, .int bl_6, .int sw_8, .int sp_11, .int wi_9, .int pr_12, .int le, .int so, .int nx_13]))]) (w1 := [(hF, .inr (2, [.ref aF, .int nF])), (aF, .inl (cC, roomF, .inl fF))]) hP hD [1, 2] [0] rfl rfl (by decide) (by decide) hk1 hFc hP1 hD1
  generalize H1 = H at hP hS ⊢
  have hP : va_P (dC, dI) CL [(fi, .inr (1, [.int mi_2, .int pl_3, .int ze_4, .int sh_5, .int bl_6, .int sw_8, .int sp_11, .int wi_9, .int pr_12, .int le, .int so, .int nx_13])), (hF, .inr (2, [.ref aF, .int nF])), (aF, .inl (cC, roomF, .inl fF))] H := hP
  have hD : va_D A [(fi, .inr (1, [.int mi_2, .int pl_3, .int ze_4, .int sh_5, .int bl_6, .int sw_8, .int sp_11, .int wi_9, .int pr_12, .int le, .int so, .int nx_13])), (hF, .inr (2, [.ref aF, .int nF])), (aF, .inl (cC, roomF, .inl fF))] := hD
  refine va_put (D := (dC, dI)) (ci := 1) (v := .int x14) (ty := .int) (C := R_Fi) (T := F_Fi) (N := 12) hx hb hT (in_Fi) t_Fi t_Fi_ok n_Fi hown hK hP hD hS 0 rfl rfl 9 (by decide) (hT _ t_93) (fun _ h9 => h9) rfl (by decide +kernel) rfl rfl (Nat.le_of_ble_eq_true rfl) d_Fi_read_31 (fun H locs hP hD hS => ?_)
  have hP : va_P (dC, dI) CL [(fi, .inr (1, [.int mi_2, .int pl_3, .int ze_4, .int sh_5, .int bl_6, .int sw_8, .int sp_11, .int wi_9, .int pr_12, .int x14, .int so, .int nx_13])), (hF, .inr (2, [.ref aF, .int nF])), (aF, .inl (cC, roomF, .inl fF))] H := hP
  have hD : va_D A [(fi, .inr (1, [.int mi_2, .int pl_3, .int ze_4, .int sh_5, .int bl_6, .int sw_8, .int sp_11, .int wi_9, .int pr_12, .int x14, .int so, .int nx_13])), (hF, .inr (2, [.ref aF, .int nF])), (aF, .inl (cC, roomF, .inl fF))] := hD
  refine lv_aload_n hx hb d_Fi_read_34 rfl (lv_at hl 0 rfl) ?_
  refine lv_aload_n hx hb d_Fi_read_35 rfl (lv_at hl 0 rfl) ?_
  refine va_get (D := (dC, dI)) (ci := 1) (v := .int x14) (C := R_Fi) (T := F_Fi) (N := 12) hx hb hT (in_Fi) hown hK hP 0 rfl rfl 9 (by decide) (hT _ t_93) (fun _ h9 => h9) rfl d_Fi_read_36 ?_
  have hPc := hP.sub (ws' := []) [] rfl
  have hDc := hD.sub (ws' := []) [] (by decide) rfl
  have hKc := hK.sub (tys' := []) [] rfl
  have hFc := va_free (wc := []) hD hS hA [] rfl
  refine va_calli (va_runS (As := [.int x14]) (rest := [.ref fi]) ⟨hx, hb, hml, hown, hT⟩ (c_Field_sortOf l dC dI H.size x14 ) (cwS 1 hT g_Fi_34 rfl rfl rfl (by decide +kernel) ⟨Nat.le_of_ble_eq_true rfl, Nat.le_of_ble_eq_true rfl⟩) ⟨fun a U g mk q => by obtain ⟨q0, q1, qP, qK, qD⟩ := q; exact ⟨q0, q1, qP, va_K.moved (u := U) (U := U.calling g mk a) (Vm.Alike.refl U.vm) qK, qD⟩, fun U hU hW => ⟨rfl, by rw [hU], by rw [hU]; exact hPc, va_K.moved hW.alike hKc, hDc.weaken (fun _ _ _ _ => trivial)⟩⟩ rfl rfl hl.1 rfl (lv_room (Nat.le_of_ble_eq_true rfl)) d_Fi_read_39 ⟨Nat.le_of_ble_eq_true rfl, Nat.le_of_ble_eq_true rfl⟩) hS (fun q _ h => hFc q h) hFc (fun x15 u t H1 locs ht hvm w39_15 hB hz1 hk1 hS => ?_)
  obtain ⟨hP1, hK1, hD1⟩ := hB
  rw [ht] at hP1
  try dsimp only at w39_15
  obtain ⟨hP, hD⟩ := va_join (wr := [(fi, .inr (1, [.int mi_2, .int pl_3, .int ze_4, .int sh_5, .int bl_6, .int sw_8, .int sp_11, .int wi_9, .int pr_12, .int x14, .int so, .int nx_13])), (hF, .inr (2, [.ref aF, .int nF])), (aF, .inl (cC, roomF, .inl fF))]) (w1 := []) hP hD [] [0, 1, 2] rfl rfl (by decide) (by decide) hk1 hFc hP1 hD1
  generalize H1 = H at hP hS ⊢
  have hP : va_P (dC, dI) CL [(fi, .inr (1, [.int mi_2, .int pl_3, .int ze_4, .int sh_5, .int bl_6, .int sw_8, .int sp_11, .int wi_9, .int pr_12, .int x14, .int so, .int nx_13])), (hF, .inr (2, [.ref aF, .int nF])), (aF, .inl (cC, roomF, .inl fF))] H := hP
  have hD : va_D A [(fi, .inr (1, [.int mi_2, .int pl_3, .int ze_4, .int sh_5, .int bl_6, .int sw_8, .int sp_11, .int wi_9, .int pr_12, .int x14, .int so, .int nx_13])), (hF, .inr (2, [.ref aF, .int nF])), (aF, .inl (cC, roomF, .inl fF))] := hD
  refine va_put (D := (dC, dI)) (ci := 1) (v := .int x15) (ty := .int) (C := R_Fi) (T := F_Fi) (N := 12) hx hb hT (in_Fi) t_Fi t_Fi_ok n_Fi hown hK hP hD hS 0 rfl rfl 10 (by decide) (hT _ t_94) (fun _ h9 => h9) rfl (by decide +kernel) rfl rfl (Nat.le_of_ble_eq_true rfl) d_Fi_read_42 (fun H locs hP hD hS => ?_)
  have hP : va_P (dC, dI) CL [(fi, .inr (1, [.int mi_2, .int pl_3, .int ze_4, .int sh_5, .int bl_6, .int sw_8, .int sp_11, .int wi_9, .int pr_12, .int x14, .int x15, .int nx_13])), (hF, .inr (2, [.ref aF, .int nF])), (aF, .inl (cC, roomF, .inl fF))] H := hP
  have hD : va_D A [(fi, .inr (1, [.int mi_2, .int pl_3, .int ze_4, .int sh_5, .int bl_6, .int sw_8, .int sp_11, .int wi_9, .int pr_12, .int x14, .int x15, .int nx_13])), (hF, .inr (2, [.ref aF, .int nF])), (aF, .inl (cC, roomF, .inl fF))] := hD
  refine lv_aload_n hx hb d_Fi_read_45 rfl (lv_at hl 0 rfl) ?_
  refine lv_dup hx hb d_Fi_read_46 rfl ?_
  refine va_get (D := (dC, dI)) (ci := 1) (v := .int nx_13) (C := R_Fi) (T := F_Fi) (N := 12) hx hb hT (in_Fi) hown hK hP 0 rfl rfl 11 (by decide) (hT _ t_95) (fun _ h9 => h9) rfl d_Fi_read_47 ?_
  refine lv_iconst (v := 1) hx hb d_Fi_read_50 (by decide) ?_
  refine lv_iadd hx hb d_Fi_read_51 ?_
  refine lv_topi (fun x16 ex16 => ?_)
  refine va_put (D := (dC, dI)) (ci := 1) (v := .int x16) (ty := .int) (C := R_Fi) (T := F_Fi) (N := 12) hx hb hT (in_Fi) t_Fi t_Fi_ok n_Fi hown hK hP hD hS 0 rfl rfl 11 (by decide) (hT _ t_95) (fun _ h9 => h9) rfl (by decide +kernel) rfl rfl (Nat.le_of_ble_eq_true rfl) d_Fi_read_52 (fun H locs hP hD hS => ?_)
  have hP : va_P (dC, dI) CL [(fi, .inr (1, [.int mi_2, .int pl_3, .int ze_4, .int sh_5, .int bl_6, .int sw_8, .int sp_11, .int wi_9, .int pr_12, .int x14, .int x15, .int x16])), (hF, .inr (2, [.ref aF, .int nF])), (aF, .inl (cC, roomF, .inl fF))] H := hP
  have hD : va_D A [(fi, .inr (1, [.int mi_2, .int pl_3, .int ze_4, .int sh_5, .int bl_6, .int sw_8, .int sp_11, .int wi_9, .int pr_12, .int x14, .int x15, .int x16])), (hF, .inr (2, [.ref aF, .int nF])), (aF, .inl (cC, roomF, .inl fF))] := hD
  refine lv_aload_n hx hb d_Fi_read_55 rfl (lv_at hl 0 rfl) ?_
  refine va_get (D := (dC, dI)) (ci := 1) (v := .int x15) (C := R_Fi) (T := F_Fi) (N := 12) hx hb hT (in_Fi) hown hK hP 0 rfl rfl 10 (by decide) (hT _ t_94) (fun _ h9 => h9) rfl d_Fi_read_56 ?_
  refine lv_if_eq (tgt := 66) hx hb d_Fi_read_59 (by decide) (fun c59_17 => ?_) (fun c59_17 => ?_)
  · skip
    refine lv_iconst (v := 0) hx hb d_Fi_read_66 (by decide) ?_
    have hP9 := hP.sub (ws' := [(fi, .inr (1, [.int mi_2, .int pl_3, .int ze_4, .int sh_5, .int bl_6, .int sw_8, .int sp_11, .int wi_9, .int pr_12, .int x14, .int x15, .int x16])), (hF, .inr (2, [.ref aF, .int nF])), (aF, .inl (cC, roomF, .inl fF))]) [0, 1, 2] rfl
    have hD9 := hD.sub (ws' := [(fi, .inr (1, [.int mi_2, .int pl_3, .int ze_4, .int sh_5, .int bl_6, .int sw_8, .int sp_11, .int wi_9, .int pr_12, .int x14, .int x15, .int x16])), (hF, .inr (2, [.ref aF, .int nF])), (aF, .inl (cC, roomF, .inl fF))]) [0, 1, 2] (by decide) rfl
    have hK9 := hK.sub (tys' := [(cC, .char)]) [0] rfl
    have hq9 : ((mi_2, pl_3, ze_4, sh_5, bl_6), sw_8, sp_11, wi_9, pr_12, x14, x15, x16) = fiRead fF nF place ∧ (0 : Int32) = k_b (!decide (x15 = 0)) := by
      refine ⟨?_, by simp [k_b, c59_17]⟩
      unfold fiRead
      rw [← ex1, ← w9_7]; dsimp only; rw [← w14_10c, ← w19_13c, ← w28_14, ← w39_15, ← w14_10, ← w14_10b, ← w19_13, ← w19_13b, ex16]
    exact W.zret (v := 0) hx hb hr rfl (fun t ht hW => ⟨⟨0, (mi_2, pl_3, ze_4, sh_5, bl_6, sw_8, sp_11, wi_9, pr_12, x14, x15, x16), rfl, hq9, by rw [ht]; exact hP9, va_K.moved hW.alike hK9, hD9⟩, hS.F ht⟩) hS.2.2 d_Fi_read_67
  · skip
    refine lv_iconst (v := 1) hx hb d_Fi_read_62 (by decide) ?_
    refine lv_goto (tgt := 67) hx hb d_Fi_read_63 (by decide) ?_
    have hP9 := hP.sub (ws' := [(fi, .inr (1, [.int mi_2, .int pl_3, .int ze_4, .int sh_5, .int bl_6, .int sw_8, .int sp_11, .int wi_9, .int pr_12, .int x14, .int x15, .int x16])), (hF, .inr (2, [.ref aF, .int nF])), (aF, .inl (cC, roomF, .inl fF))]) [0, 1, 2] rfl
    have hD9 := hD.sub (ws' := [(fi, .inr (1, [.int mi_2, .int pl_3, .int ze_4, .int sh_5, .int bl_6, .int sw_8, .int sp_11, .int wi_9, .int pr_12, .int x14, .int x15, .int x16])), (hF, .inr (2, [.ref aF, .int nF])), (aF, .inl (cC, roomF, .inl fF))]) [0, 1, 2] (by decide) rfl
    have hK9 := hK.sub (tys' := [(cC, .char)]) [0] rfl
    have hq9 : ((mi_2, pl_3, ze_4, sh_5, bl_6), sw_8, sp_11, wi_9, pr_12, x14, x15, x16) = fiRead fF nF place ∧ (1 : Int32) = k_b (!decide (x15 = 0)) := by
      refine ⟨?_, by simp [k_b, c59_17]⟩
      unfold fiRead
      rw [← ex1, ← w9_7]; dsimp only; rw [← w14_10c, ← w19_13c, ← w28_14, ← w39_15, ← w14_10, ← w14_10b, ← w19_13, ← w19_13b, ex16]
    exact W.zret (v := 1) hx hb hr rfl (fun t ht hW => ⟨⟨1, (mi_2, pl_3, ze_4, sh_5, bl_6, sw_8, sp_11, wi_9, pr_12, x14, x15, x16), rfl, hq9, by rw [ht]; exact hP9, va_K.moved hW.alike hK9, hD9⟩, hS.F ht⟩) hS.2.2 d_Fi_read_67

set_option maxHeartbeats 4000000 in
set_option maxRecDepth 100000 in
theorem c_Field_giveWidth (l : Launch) (dC : Nat → ClassId) (dI : Nat → Nat → Nat) (sz : Nat) (fi : Nat) (mi : Int32) (pl : Int32) (ze : Int32) (sh : Int32) (bl : Int32) (sw : Int32) (sp : Int32) (wi : Int32) (pr : Int32) (le : Int32) (so : Int32) (nx : Int32) (num : Int32)  : Met l y_Fi_giveWidth w_Fi_giveWidth ({ frames := 1, cells := 0, slots := 0, locals := 14 } : Room) (va_Pc [.ref fi, .int num] (fun U => U.heap.size = sz ∧ va_P (dC, dI) CL [(fi, .inr (1, [.int mi, .int pl, .int ze, .int sh, .int bl, .int sw, .int sp, .int wi, .int pr, .int le, .int so, .int nx]))] U.heap ∧ va_K (dC, dI) CL [] U ∧ va_D (fun _ => True) [(fi, .inr (1, [.int mi, .int pl, .int ze, .int sh, .int bl, .int sw, .int sp, .int wi, .int pr, .int le, .int so, .int nx]))])) (va_Qv (fun (u : Int32 × Int32) => match u with | (mi2, wi2) => mi2 = (if 0 ≤ num then mi else 1) ∧ wi2 = fiAbs num) (fun (u : Int32 × Int32) (t : State) => match u with | (mi2, wi2) => va_P (dC, dI) CL [(fi, .inr (1, [.int mi2, .int pl, .int ze, .int sh, .int bl, .int sw, .int sp, .int wi2, .int pr, .int le, .int so, .int nx]))] t.heap ∧ va_K (dC, dI) CL [] t ∧ va_D (va_A [(fi, .inr (1, [.int mi, .int pl, .int ze, .int sh, .int bl, .int sw, .int sp, .int wi, .int pr, .int le, .int so, .int nx]))] sz) [(fi, .inr (1, [.int mi2, .int pl, .int ze, .int sh, .int bl, .int sw, .int sp, .int wi2, .int pr, .int le, .int so, .int nx]))]) (va_A [(fi, .inr (1, [.int mi, .int pl, .int ze, .int sh, .int bl, .int sw, .int sp, .int wi, .int pr, .int le, .int so, .int nx]))] sz)) 0 0 (va_A [(fi, .inr (1, [.int mi, .int pl, .int ze, .int sh, .int bl, .int sw, .int sp, .int wi, .int pr, .int le, .int so, .int nx]))] sz) := by
  refine Met.ofW (cc := b_Fi_giveWidth) (maxL := 2) (ret := none) (by decide) rfl ?_
  intro p e s m args below meth c s₁ B hml hv
  obtain ⟨rfl, hsz, hP, hK, hD0⟩ := hv
  have hx := B.exec
  have hb := B.bytes
  have hr := B.returns
  have hts := atoms_spec (ws := w_Fi_giveWidth) B.pre
  have hT : ∀ w ∈ TB, w.before _ s = true := fun w h => hts w (List.mem_cons_of_mem _ h)
  have hown : s.vm.findClass R_Fi = some m.cls := findClass_of_methodNamed B.named
  have hlocks := B.notSynchronized
  subst hsz
  have hD := hD0.self (sz := s.heap.size)
  generalize hAe : va_A [(fi, .inr (1, [.int mi, .int pl, .int ze, .int sh, .int bl, .int sw, .int sp, .int wi, .int pr, .int le, .int so, .int nx]))] s.heap.size = A at hD ⊢
  have hA : ∀ q : Nat, s.heap.size ≤ q → A q := fun q h => by rw [← hAe]; exact Or.inr h
  have hS : va_S A s.heap s.heap [] := va_S.rf
  have hP : va_P (dC, dI) CL [(fi, .inr (1, [.int mi, .int pl, .int ze, .int sh, .int bl, .int sw, .int sp, .int wi, .int pr, .int le, .int so, .int nx]))] s.heap := hP
  have hl := lv_entry ([.ref fi, .int num]) (n := 2) (Nat.le_of_ble_eq_true rfl)
  rw [lg_entry_eq]
  generalize (lg_sl ([.ref fi, .int num]) ++ List.replicate (2 - (lg_sl ([.ref fi, .int num])).length) Slot.unset).toArray = ls at hl ⊢
  have hl : lv_has ls 2 [(0, .ref fi), (1, .int num)] := hl
  refine lv_iload_n hx hb d_Fi_giveWidth_0 rfl (lv_at hl 1 rfl) ?_
  refine lv_if_ge (tgt := 9) hx hb d_Fi_giveWidth_1 (by decide) (fun c1_1 => ?_) (fun c1_1 => ?_)
  · skip
    refine lv_aload_n hx hb d_Fi_giveWidth_9 rfl (lv_at hl 0 rfl) ?_
    refine lv_iload_n hx hb d_Fi_giveWidth_10 rfl (lv_at hl 1 rfl) ?_
    refine va_mabs hx hb (hml.trans hl.1.symm) hown (hT _ t_467) (hT _ t_468) (hT _ t_3) (hT _ t_469) (Nat.le_of_ble_eq_true rfl) (Nat.le_of_ble_eq_true rfl) (Nat.le_of_ble_eq_true rfl) (Nat.le_of_ble_eq_true rfl) d_Fi_giveWidth_11 ?_
    refine lv_topi (fun x2 ex2 => ?_)
    refine va_put (D := (dC, dI)) (ci := 1) (v := .int x2) (ty := .int) (C := R_Fi) (T := F_Fi) (N := 12) hx hb hT (in_Fi) t_Fi t_Fi_ok n_Fi hown hK hP hD hS 0 rfl rfl 7 (by decide) (hT _ t_88) (fun _ h9 => h9) rfl (by decide +kernel) rfl rfl (Nat.le_of_ble_eq_true rfl) d_Fi_giveWidth_14 (fun H locs hP hD hS => ?_)
    have hP : va_P (dC, dI) CL [(fi, .inr (1, [.int mi, .int pl, .int ze, .int sh, .int bl, .int sw, .int sp, .int x2, .int pr, .int le, .int so, .int nx]))] H := hP
    have hD : va_D A [(fi, .inr (1, [.int mi, .int pl, .int ze, .int sh, .int bl, .int sw, .int sp, .int x2, .int pr, .int le, .int so, .int nx]))] := hD
    have hP9 := hP.sub (ws' := [(fi, .inr (1, [.int mi, .int pl, .int ze, .int sh, .int bl, .int sw, .int sp, .int x2, .int pr, .int le, .int so, .int nx]))]) [0] rfl
    have hD9 := hD.sub (ws' := [(fi, .inr (1, [.int mi, .int pl, .int ze, .int sh, .int bl, .int sw, .int sp, .int x2, .int pr, .int le, .int so, .int nx]))]) [0] (by decide) rfl
    have hK9 := hK.sub (tys' := []) [] rfl
    have hq9 : mi = (if 0 ≤ num then mi else 1) ∧ x2 = fiAbs num := by refine ⟨?_, ex2⟩; simp [c1_1]
    exact W.vret hx hb hr (fun t ht hW => ⟨⟨(mi, x2), rfl, hq9, by rw [ht]; exact hP9, va_K.moved hW.alike hK9, hD9⟩, hS.F ht⟩) hS.2.2 d_Fi_giveWidth_17
  · skip
    refine lv_aload_n hx hb d_Fi_giveWidth_4 rfl (lv_at hl 0 rfl) ?_
    refine lv_iconst (v := 1) hx hb d_Fi_giveWidth_5 (by decide) ?_
    refine va_put (D := (dC, dI)) (ci := 1) (v := .int 1) (ty := .boolean) (C := R_Fi) (T := F_Fi) (N := 12) hx hb hT (in_Fi) t_Fi t_Fi_ok n_Fi hown hK hP hD hS 0 rfl rfl 0 (by decide) (hT _ t_77) (fun _ h9 => h9) rfl (by decide +kernel) rfl rfl (Nat.le_of_ble_eq_true rfl) d_Fi_giveWidth_6 (fun H locs hP hD hS => ?_)
    have hP : va_P (dC, dI) CL [(fi, .inr (1, [.int 1, .int pl, .int ze, .int sh, .int bl, .int sw, .int sp, .int wi, .int pr, .int le, .int so, .int nx]))] H := hP
    have hD : va_D A [(fi, .inr (1, [.int 1, .int pl, .int ze, .int sh, .int bl, .int sw, .int sp, .int wi, .int pr, .int le, .int so, .int nx]))] := hD
    refine lv_aload_n hx hb d_Fi_giveWidth_9 rfl (lv_at hl 0 rfl) ?_
    refine lv_iload_n hx hb d_Fi_giveWidth_10 rfl (lv_at hl 1 rfl) ?_
    refine va_mabs hx hb (hml.trans hl.1.symm) hown (hT _ t_467) (hT _ t_468) (hT _ t_3) (hT _ t_469) (Nat.le_of_ble_eq_true rfl) (Nat.le_of_ble_eq_true rfl) (Nat.le_of_ble_eq_true rfl) (Nat.le_of_ble_eq_true rfl) d_Fi_giveWidth_11 ?_
    refine lv_topi (fun x3 ex3 => ?_)
    refine va_put (D := (dC, dI)) (ci := 1) (v := .int x3) (ty := .int) (C := R_Fi) (T := F_Fi) (N := 12) hx hb hT (in_Fi) t_Fi t_Fi_ok n_Fi hown hK hP hD hS 0 rfl rfl 7 (by decide) (hT _ t_88) (fun _ h9 => h9) rfl (by decide +kernel) rfl rfl (Nat.le_of_ble_eq_true rfl) d_Fi_giveWidth_14 (fun H locs hP hD hS => ?_)
    have hP : va_P (dC, dI) CL [(fi, .inr (1, [.int 1, .int pl, .int ze, .int sh, .int bl, .int sw, .int sp, .int x3, .int pr, .int le, .int so, .int nx]))] H := hP
    have hD : va_D A [(fi, .inr (1, [.int 1, .int pl, .int ze, .int sh, .int bl, .int sw, .int sp, .int x3, .int pr, .int le, .int so, .int nx]))] := hD
    have hP9 := hP.sub (ws' := [(fi, .inr (1, [.int 1, .int pl, .int ze, .int sh, .int bl, .int sw, .int sp, .int x3, .int pr, .int le, .int so, .int nx]))]) [0] rfl
    have hD9 := hD.sub (ws' := [(fi, .inr (1, [.int 1, .int pl, .int ze, .int sh, .int bl, .int sw, .int sp, .int x3, .int pr, .int le, .int so, .int nx]))]) [0] (by decide) rfl
    have hK9 := hK.sub (tys' := []) [] rfl
    have hq9 : (1 : Int32) = (if 0 ≤ num then mi else 1) ∧ x3 = fiAbs num := by refine ⟨?_, ex3⟩; simp [c1_1]
    exact W.vret hx hb hr (fun t ht hW => ⟨⟨(1, x3), rfl, hq9, by rw [ht]; exact hP9, va_K.moved hW.alike hK9, hD9⟩, hS.F ht⟩) hS.2.2 d_Fi_giveWidth_17

set_option maxHeartbeats 4000000 in
set_option maxRecDepth 100000 in
theorem c_Field_givePrecision (l : Launch) (dC : Nat → ClassId) (dI : Nat → Nat → Nat) (sz : Nat) (fi : Nat) (mi : Int32) (pl : Int32) (ze : Int32) (sh : Int32) (bl : Int32) (sw : Int32) (sp : Int32) (wi : Int32) (pr : Int32) (le : Int32) (so : Int32) (nx : Int32) (num : Int32)  : Met l y_Fi_givePrecision w_Fi_givePrecision ({ frames := 0, cells := 0, slots := 0, locals := 0 } : Room) (va_Pc [.ref fi, .int num] (fun U => U.heap.size = sz ∧ va_P (dC, dI) CL [(fi, .inr (1, [.int mi, .int pl, .int ze, .int sh, .int bl, .int sw, .int sp, .int wi, .int pr, .int le, .int so, .int nx]))] U.heap ∧ va_K (dC, dI) CL [] U ∧ va_D (fun _ => True) [(fi, .inr (1, [.int mi, .int pl, .int ze, .int sh, .int bl, .int sw, .int sp, .int wi, .int pr, .int le, .int so, .int nx]))])) (va_Qv (fun (pr2 : Int32) => pr2 = if 0 ≤ num then num else -1) (fun (pr2 : Int32) (t : State) => va_P (dC, dI) CL [(fi, .inr (1, [.int mi, .int pl, .int ze, .int sh, .int bl, .int sw, .int sp, .int wi, .int pr2, .int le, .int so, .int nx]))] t.heap ∧ va_K (dC, dI) CL [] t ∧ va_D (va_A [(fi, .inr (1, [.int mi, .int pl, .int ze, .int sh, .int bl, .int sw, .int sp, .int wi, .int pr, .int le, .int so, .int nx]))] sz) [(fi, .inr (1, [.int mi, .int pl, .int ze, .int sh, .int bl, .int sw, .int sp, .int wi, .int pr2, .int le, .int so, .int nx]))]) (va_A [(fi, .inr (1, [.int mi, .int pl, .int ze, .int sh, .int bl, .int sw, .int sp, .int wi, .int pr, .int le, .int so, .int nx]))] sz)) 0 0 (va_A [(fi, .inr (1, [.int mi, .int pl, .int ze, .int sh, .int bl, .int sw, .int sp, .int wi, .int pr, .int le, .int so, .int nx]))] sz) := by
  refine Met.ofW (cc := b_Fi_givePrecision) (maxL := 2) (ret := none) (by decide) rfl ?_
  intro p e s m args below meth c s₁ B hml hv
  obtain ⟨rfl, hsz, hP, hK, hD0⟩ := hv
  have hx := B.exec
  have hb := B.bytes
  have hr := B.returns
  have hts := atoms_spec (ws := w_Fi_givePrecision) B.pre
  have hT : ∀ w ∈ TB, w.before _ s = true := fun w h => hts w (List.mem_cons_of_mem _ h)
  have hown : s.vm.findClass R_Fi = some m.cls := findClass_of_methodNamed B.named
  have hlocks := B.notSynchronized
  subst hsz
  have hD := hD0.self (sz := s.heap.size)
  generalize hAe : va_A [(fi, .inr (1, [.int mi, .int pl, .int ze, .int sh, .int bl, .int sw, .int sp, .int wi, .int pr, .int le, .int so, .int nx]))] s.heap.size = A at hD ⊢
  have hA : ∀ q : Nat, s.heap.size ≤ q → A q := fun q h => by rw [← hAe]; exact Or.inr h
  have hS : va_S A s.heap s.heap [] := va_S.rf
  have hP : va_P (dC, dI) CL [(fi, .inr (1, [.int mi, .int pl, .int ze, .int sh, .int bl, .int sw, .int sp, .int wi, .int pr, .int le, .int so, .int nx]))] s.heap := hP
  have hl := lv_entry ([.ref fi, .int num]) (n := 2) (Nat.le_of_ble_eq_true rfl)
  rw [lg_entry_eq]
  generalize (lg_sl ([.ref fi, .int num]) ++ List.replicate (2 - (lg_sl ([.ref fi, .int num])).length) Slot.unset).toArray = ls at hl ⊢
  have hl : lv_has ls 2 [(0, .ref fi), (1, .int num)] := hl
  refine lv_aload_n hx hb d_Fi_givePrecision_0 rfl (lv_at hl 0 rfl) ?_
  refine lv_iload_n hx hb d_Fi_givePrecision_1 rfl (lv_at hl 1 rfl) ?_
  refine lv_if_ge (tgt := 9) hx hb d_Fi_givePrecision_2 (by decide) (fun c2_1 => ?_) (fun c2_1 => ?_)
  · skip
    refine lv_iload_n hx hb d_Fi_givePrecision_9 rfl (lv_at hl 1 rfl) ?_
    refine va_put (D := (dC, dI)) (ci := 1) (v := .int num) (ty := .int) (C := R_Fi) (T := F_Fi) (N := 12) hx hb hT (in_Fi) t_Fi t_Fi_ok n_Fi hown hK hP hD hS 0 rfl rfl 8 (by decide) (hT _ t_91) (fun _ h9 => h9) rfl (by decide +kernel) rfl rfl (Nat.le_of_ble_eq_true rfl) d_Fi_givePrecision_10 (fun H locs hP hD hS => ?_)
    have hP : va_P (dC, dI) CL [(fi, .inr (1, [.int mi, .int pl, .int ze, .int sh, .int bl, .int sw, .int sp, .int wi, .int num, .int le, .int so, .int nx]))] H := hP
    have hD : va_D A [(fi, .inr (1, [.int mi, .int pl, .int ze, .int sh, .int bl, .int sw, .int sp, .int wi, .int num, .int le, .int so, .int nx]))] := hD
    have hP9 := hP.sub (ws' := [(fi, .inr (1, [.int mi, .int pl, .int ze, .int sh, .int bl, .int sw, .int sp, .int wi, .int num, .int le, .int so, .int nx]))]) [0] rfl
    have hD9 := hD.sub (ws' := [(fi, .inr (1, [.int mi, .int pl, .int ze, .int sh, .int bl, .int sw, .int sp, .int wi, .int num, .int le, .int so, .int nx]))]) [0] (by decide) rfl
    have hK9 := hK.sub (tys' := []) [] rfl
    have hq9 : num = if 0 ≤ num then num else -1 := by simp [c2_1]
    exact W.vret hx hb hr (fun t ht hW => ⟨⟨num, rfl, hq9, by rw [ht]; exact hP9, va_K.moved hW.alike hK9, hD9⟩, hS.F ht⟩) hS.2.2 d_Fi_givePrecision_13
  · skip
    refine lv_iconst (v := (-1)) hx hb d_Fi_givePrecision_5 (by decide) ?_
    refine lv_goto (tgt := 10) hx hb d_Fi_givePrecision_6 (by decide) ?_
    refine va_put (D := (dC, dI)) (ci := 1) (v := .int (-1)) (ty := .int) (C := R_Fi) (T := F_Fi) (N := 12) hx hb hT (in_Fi) t_Fi t_Fi_ok n_Fi hown hK hP hD hS 0 rfl rfl 8 (by decide) (hT _ t_91) (fun _ h9 => h9) rfl (by decide +kernel) rfl rfl (Nat.le_of_ble_eq_true rfl) d_Fi_givePrecision_10 (fun H locs hP hD hS => ?_)
    have hP : va_P (dC, dI) CL [(fi, .inr (1, [.int mi, .int pl, .int ze, .int sh, .int bl, .int sw, .int sp, .int wi, .int (-1), .int le, .int so, .int nx]))] H := hP
    have hD : va_D A [(fi, .inr (1, [.int mi, .int pl, .int ze, .int sh, .int bl, .int sw, .int sp, .int wi, .int (-1), .int le, .int so, .int nx]))] := hD
    have hP9 := hP.sub (ws' := [(fi, .inr (1, [.int mi, .int pl, .int ze, .int sh, .int bl, .int sw, .int sp, .int wi, .int (-1), .int le, .int so, .int nx]))]) [0] rfl
    have hD9 := hD.sub (ws' := [(fi, .inr (1, [.int mi, .int pl, .int ze, .int sh, .int bl, .int sw, .int sp, .int wi, .int (-1), .int le, .int so, .int nx]))]) [0] (by decide) rfl
    have hK9 := hK.sub (tys' := []) [] rfl
    have hq9 : (-1 : Int32) = if 0 ≤ num then num else -1 := by simp [c2_1]
    exact W.vret hx hb hr (fun t ht hW => ⟨⟨(-1), rfl, hq9, by rw [ht]; exact hP9, va_K.moved hW.alike hK9, hD9⟩, hS.F ht⟩) hS.2.2 d_Fi_givePrecision_13

set_option maxHeartbeats 4000000 in
set_option maxRecDepth 100000 in
theorem c_Field_precisionOr (l : Launch) (dC : Nat → ClassId) (dI : Nat → Nat → Nat) (sz : Nat) (fi : Nat) (mi : Int32) (pl : Int32) (ze : Int32) (sh : Int32) (bl : Int32) (sw : Int32) (sp : Int32) (wi : Int32) (pr : Int32) (le : Int32) (so : Int32) (nx : Int32) (other : Int32)  : Met l y_Fi_precisionOr w_Fi_precisionOr ({ frames := 0, cells := 0, slots := 0, locals := 0 } : Room) (va_Pc [.ref fi, .int other] (fun U => U.heap.size = sz ∧ va_P (dC, dI) CL [(fi, .inr (1, [.int mi, .int pl, .int ze, .int sh, .int bl, .int sw, .int sp, .int wi, .int pr, .int le, .int so, .int nx]))] U.heap ∧ va_K (dC, dI) CL [] U ∧ va_D (fun _ => True) [(fi, .inr (1, [.int mi, .int pl, .int ze, .int sh, .int bl, .int sw, .int sp, .int wi, .int pr, .int le, .int so, .int nx]))])) (va_Qi (fun (r : Int32) (u : Unit) => r = fiOr pr other) (fun (u : Unit) (t : State) => va_P (dC, dI) CL [(fi, .inr (1, [.int mi, .int pl, .int ze, .int sh, .int bl, .int sw, .int sp, .int wi, .int pr, .int le, .int so, .int nx]))] t.heap ∧ va_K (dC, dI) CL [] t ∧ va_D (va_A [(fi, .inr (1, [.int mi, .int pl, .int ze, .int sh, .int bl, .int sw, .int sp, .int wi, .int pr, .int le, .int so, .int nx]))] sz) [(fi, .inr (1, [.int mi, .int pl, .int ze, .int sh, .int bl, .int sw, .int sp, .int wi, .int pr, .int le, .int so, .int nx]))]) (va_A [(fi, .inr (1, [.int mi, .int pl, .int ze, .int sh, .int bl, .int sw, .int sp, .int wi, .int pr, .int le, .int so, .int nx]))] sz)) 0 0 (va_A [(fi, .inr (1, [.int mi, .int pl, .int ze, .int sh, .int bl, .int sw, .int sp, .int wi, .int pr, .int le, .int so, .int nx]))] sz) := by
  refine Met.ofW (cc := b_Fi_precisionOr) (maxL := 2) (ret := (some .int)) (by decide) rfl ?_
  intro p e s m args below meth c s₁ B hml hv
  obtain ⟨rfl, hsz, hP, hK, hD0⟩ := hv
  have hx := B.exec
  have hb := B.bytes
  have hr := B.returns
  have hts := atoms_spec (ws := w_Fi_precisionOr) B.pre
  have hT : ∀ w ∈ TB, w.before _ s = true := fun w h => hts w (List.mem_cons_of_mem _ h)
  have hown : s.vm.findClass R_Fi = some m.cls := findClass_of_methodNamed B.named
  have hlocks := B.notSynchronized
  subst hsz
  have hD := hD0.self (sz := s.heap.size)
  generalize hAe : va_A [(fi, .inr (1, [.int mi, .int pl, .int ze, .int sh, .int bl, .int sw, .int sp, .int wi, .int pr, .int le, .int so, .int nx]))] s.heap.size = A at hD ⊢
  have hA : ∀ q : Nat, s.heap.size ≤ q → A q := fun q h => by rw [← hAe]; exact Or.inr h
  have hS : va_S A s.heap s.heap [] := va_S.rf
  have hP : va_P (dC, dI) CL [(fi, .inr (1, [.int mi, .int pl, .int ze, .int sh, .int bl, .int sw, .int sp, .int wi, .int pr, .int le, .int so, .int nx]))] s.heap := hP
  have hl := lv_entry ([.ref fi, .int other]) (n := 2) (Nat.le_of_ble_eq_true rfl)
  rw [lg_entry_eq]
  generalize (lg_sl ([.ref fi, .int other]) ++ List.replicate (2 - (lg_sl ([.ref fi, .int other])).length) Slot.unset).toArray = ls at hl ⊢
  have hl : lv_has ls 2 [(0, .ref fi), (1, .int other)] := hl
  refine lv_aload_n hx hb d_Fi_precisionOr_0 rfl (lv_at hl 0 rfl) ?_
  refine va_get (D := (dC, dI)) (ci := 1) (v := .int pr) (C := R_Fi) (T := F_Fi) (N := 12) hx hb hT (in_Fi) hown hK hP 0 rfl rfl 8 (by decide) (hT _ t_91) (fun _ h9 => h9) rfl d_Fi_precisionOr_1 ?_
  refine lv_iconst (v := (-1)) hx hb d_Fi_precisionOr_4 (by decide) ?_
  refine lv_icmp_ne (tgt := 12) hx hb d_Fi_precisionOr_5 (by decide) (fun c5_1 => ?_) (fun c5_1 => ?_)
  · skip
    refine lv_aload_n hx hb d_Fi_precisionOr_12 rfl (lv_at hl 0 rfl) ?_
    refine va_get (D := (dC, dI)) (ci := 1) (v := .int pr) (C := R_Fi) (T := F_Fi) (N := 12) hx hb hT (in_Fi) hown hK hP 0 rfl rfl 8 (by decide) (hT _ t_91) (fun _ h9 => h9) rfl d_Fi_precisionOr_13 ?_
    have hP9 := hP.sub (ws' := [(fi, .inr (1, [.int mi, .int pl, .int ze, .int sh, .int bl, .int sw, .int sp, .int wi, .int pr, .int le, .int so, .int nx]))]) [0] rfl
    have hD9 := hD.sub (ws' := [(fi, .inr (1, [.int mi, .int pl, .int ze, .int sh, .int bl, .int sw, .int sp, .int wi, .int pr, .int le, .int so, .int nx]))]) [0] (by decide) rfl
    have hK9 := hK.sub (tys' := []) [] rfl
    have hq9 : pr = fiOr pr other := by simp [fiOr, c5_1]
    exact W.iret (v := pr) hx hb hr (fun t ht hW => ⟨⟨pr, (), rfl, hq9, by rw [ht]; exact hP9, va_K.moved hW.alike hK9, hD9⟩, hS.F ht⟩) hS.2.2 d_Fi_precisionOr_16
  · skip
    refine lv_iload_n hx hb d_Fi_precisionOr_8 rfl (lv_at hl 1 rfl) ?_
    refine lv_goto (tgt := 16) hx hb d_Fi_precisionOr_9 (by decide) ?_
    have hP9 := hP.sub (ws' := [(fi, .inr (1, [.int mi, .int pl, .int ze, .int sh, .int bl, .int sw, .int sp, .int wi, .int pr, .int le, .int so, .int nx]))]) [0] rfl
    have hD9 := hD.sub (ws' := [(fi, .inr (1, [.int mi, .int pl, .int ze, .int sh, .int bl, .int sw, .int sp, .int wi, .int pr, .int le, .int so, .int nx]))]) [0] (by decide) rfl
    have hK9 := hK.sub (tys' := []) [] rfl
    have hq9 : other = fiOr pr other := by simp [fiOr, c5_1]
    exact W.iret (v := other) hx hb hr (fun t ht hW => ⟨⟨other, (), rfl, hq9, by rw [ht]; exact hP9, va_K.moved hW.alike hK9, hD9⟩, hS.F ht⟩) hS.2.2 d_Fi_precisionOr_16

set_option maxHeartbeats 4000000 in
set_option maxRecDepth 100000 in
theorem c_Field_takes (l : Launch) (dC : Nat → ClassId) (dI : Nat → Nat → Nat) (sz : Nat) (cC : ClassId) (fi : Nat) (mi : Int32) (pl : Int32) (ze : Int32) (sh : Int32) (bl : Int32) (sw : Int32) (sp : Int32) (wi : Int32) (pr : Int32) (le : Int32) (so : Int32) (nx : Int32) (v : Nat) (w : Nat) (wa : Nat) (dec : Int32) (bel : Int32) (ah : Int64) (bh : Int64) (f : Nat → Int32) (n : Int32) (hd : dec = 0 ∨ dec = 1) : Met l y_Fi_takes w_Fi_takes ({ frames := 2, cells := 0, slots := 0, locals := 40 } : Room) (va_Pc [.ref fi, .ref v] (fun U => U.heap.size = sz ∧ va_P (dC, dI) CL [(fi, .inr (1, [.int mi, .int pl, .int ze, .int sh, .int bl, .int sw, .int sp, .int wi, .int pr, .int le, .int so, .int nx])), (v, .inr (4, [.ref w, .int dec, .int bel, .long ah, .long bh])), (w, .inr (2, [.ref wa, .int n])), (wa, .inl (cC, 60, .inl f))] U.heap ∧ va_K (dC, dI) CL [(cC, .char)] U ∧ va_D (fun _ => True) [(fi, .inr (1, [.int mi, .int pl, .int ze, .int sh, .int bl, .int sw, .int sp, .int wi, .int pr, .int le, .int so, .int nx])), (v, .inr (4, [.ref w, .int dec, .int bel, .long ah, .long bh])), (w, .inr (2, [.ref wa, .int n])), (wa, .inl (cC, 60, .inl f))] ∧ kN U)) (va_Qi (fun (r : Int32) (u : Unit) => r = fiTakes so le dec bel ah n) (fun (u : Unit) (t : State) => va_P (dC, dI) CL [(fi, .inr (1, [.int mi, .int pl, .int ze, .int sh, .int bl, .int sw, .int sp, .int wi, .int pr, .int le, .int so, .int nx])), (v, .inr (4, [.ref w, .int dec, .int bel, .long ah, .long bh])), (w, .inr (2, [.ref wa, .int n])), (wa, .inl (cC, 60, .inl f))] t.heap ∧ va_K (dC, dI) CL [(cC, .char)] t ∧ va_D (va_A [(fi, .inr (1, [.int mi, .int pl, .int ze, .int sh, .int bl, .int sw, .int sp, .int wi, .int pr, .int le, .int so, .int nx])), (v, .inr (4, [.ref w, .int dec, .int bel, .long ah, .long bh])), (w, .inr (2, [.ref wa, .int n])), (wa, .inl (cC, 60, .inl f))] sz) [(fi, .inr (1, [.int mi, .int pl, .int ze, .int sh, .int bl, .int sw, .int sp, .int wi, .int pr, .int le, .int so, .int nx])), (v, .inr (4, [.ref w, .int dec, .int bel, .long ah, .long bh])), (w, .inr (2, [.ref wa, .int n])), (wa, .inl (cC, 60, .inl f))]) (va_A [(fi, .inr (1, [.int mi, .int pl, .int ze, .int sh, .int bl, .int sw, .int sp, .int wi, .int pr, .int le, .int so, .int nx])), (v, .inr (4, [.ref w, .int dec, .int bel, .long ah, .long bh])), (w, .inr (2, [.ref wa, .int n])), (wa, .inl (cC, 60, .inl f))] sz)) 0 0 (va_A [(fi, .inr (1, [.int mi, .int pl, .int ze, .int sh, .int bl, .int sw, .int sp, .int wi, .int pr, .int le, .int so, .int nx])), (v, .inr (4, [.ref w, .int dec, .int bel, .long ah, .long bh])), (w, .inr (2, [.ref wa, .int n])), (wa, .inl (cC, 60, .inl f))] sz) := by
  refine Met.ofW (cc := b_Fi_takes) (maxL := 2) (ret := (some .boolean)) (by decide) rfl ?_
  intro p e s m args below meth c s₁ B hml hv
  obtain ⟨rfl, hsz, hP, hK, hD0, hN⟩ := hv
  have hx := B.exec
  have hb := B.bytes
  have hr := B.returns
  have hts := atoms_spec (ws := w_Fi_takes) B.pre
  have hT : ∀ w ∈ TB, w.before _ s = true := fun w h => hts w (List.mem_cons_of_mem _ h)
  have hown : s.vm.findClass R_Fi = some m.cls := findClass_of_methodNamed B.named
  have hlocks := B.notSynchronized
  subst hsz
  have hD := hD0.self (sz := s.heap.size)
  generalize hAe : va_A [(fi, .inr (1, [.int mi, .int pl, .int ze, .int sh, .int bl, .int sw, .int sp, .int wi, .int pr, .int le, .int so, .int nx])), (v, .inr (4, [.ref w, .int dec, .int bel, .long ah, .long bh])), (w, .inr (2, [.ref wa, .int n])), (wa, .inl (cC, 60, .inl f))] s.heap.size = A at hD ⊢
  have hA : ∀ q : Nat, s.heap.size ≤ q → A q := fun q h => by rw [← hAe]; exact Or.inr h
  have hS : va_S A s.heap s.heap [] := va_S.rf
  have hP : va_P (dC, dI) CL [(fi, .inr (1, [.int mi, .int pl, .int ze, .int sh, .int bl, .int sw, .int sp, .int wi, .int pr, .int le, .int so, .int nx])), (v, .inr (4, [.ref w, .int dec, .int bel, .long ah, .long bh])), (w, .inr (2, [.ref wa, .int n])), (wa, .inl (cC, 60, .inl f))] s.heap := hP
  have hl := lv_entry ([.ref fi, .ref v]) (n := 2) (Nat.le_of_ble_eq_true rfl)
  rw [lg_entry_eq]
  generalize (lg_sl ([.ref fi, .ref v]) ++ List.replicate (2 - (lg_sl ([.ref fi, .ref v])).length) Slot.unset).toArray = ls at hl ⊢
  have hl : lv_has ls 2 [(0, .ref fi), (1, .ref v)] := hl
  refine lv_aload_n hx hb d_Fi_takes_0 rfl (lv_at hl 0 rfl) ?_
  refine va_get (D := (dC, dI)) (ci := 1) (v := .int so) (C := R_Fi) (T := F_Fi) (N := 12) hx hb hT (in_Fi) hown hK hP 0 rfl rfl 10 (by decide) (hT _ t_94) (fun _ h9 => h9) rfl d_Fi_takes_1 ?_
  refine lv_iconst (v := 3) hx hb d_Fi_takes_4 (by decide) ?_
  refine lv_icmp_eq (tgt := 13) hx hb d_Fi_takes_5 (by decide) (fun c5_1 => ?_) (fun c5_1 => ?_)
  · skip
    refine lv_aload_n hx hb d_Fi_takes_13 rfl (lv_at hl 0 rfl) ?_
    refine va_get (D := (dC, dI)) (ci := 1) (v := .int le) (C := R_Fi) (T := F_Fi) (N := 12) hx hb hT (in_Fi) hown hK hP 0 rfl rfl 9 (by decide) (hT _ t_93) (fun _ h9 => h9) rfl d_Fi_takes_14 ?_
    refine lv_bipush (v := 99) hx hb d_Fi_takes_17 (by decide) ?_
    refine lv_icmp_ne (tgt := 29) hx hb d_Fi_takes_19 (by decide) (fun c19_2 => ?_) (fun c19_2 => ?_)
    · skip
      refine lv_iconst (v := 1) hx hb d_Fi_takes_29 (by decide) ?_
      refine lv_goto (tgt := 34) hx hb d_Fi_takes_30 (by decide) ?_
      have hP9 := hP.sub (ws' := [(fi, .inr (1, [.int mi, .int pl, .int ze, .int sh, .int bl, .int sw, .int sp, .int wi, .int pr, .int le, .int so, .int nx])), (v, .inr (4, [.ref w, .int dec, .int bel, .long ah, .long bh])), (w, .inr (2, [.ref wa, .int n])), (wa, .inl (cC, 60, .inl f))]) [0, 1, 2, 3] rfl
      have hD9 := hD.sub (ws' := [(fi, .inr (1, [.int mi, .int pl, .int ze, .int sh, .int bl, .int sw, .int sp, .int wi, .int pr, .int le, .int so, .int nx])), (v, .inr (4, [.ref w, .int dec, .int bel, .long ah, .long bh])), (w, .inr (2, [.ref wa, .int n])), (wa, .inl (cC, 60, .inl f))]) [0, 1, 2, 3] (by decide) rfl
      have hK9 := hK.sub (tys' := [(cC, .char)]) [0] rfl
      have hq9 : (1 : Int32) = fiTakes so le dec bel ah n := by simp [fiTakes, k_b, c5_1, c19_2]
      exact W.zret (v := 1) hx hb hr rfl (fun t ht hW => ⟨⟨1, (), rfl, hq9, by rw [ht]; exact hP9, va_K.moved hW.alike hK9, hD9⟩, hS.F ht⟩) hS.2.2 d_Fi_takes_34
    · skip
      refine lv_aload_n hx hb d_Fi_takes_22 rfl (lv_at hl 1 rfl) ?_
      have hPc := hP.sub (ws' := [(v, .inr (4, [.ref w, .int dec, .int bel, .long ah, .long bh])), (w, .inr (2, [.ref wa, .int n])), (wa, .inl (cC, 60, .inl f))]) [1, 2, 3] rfl
      have hDc := hD.sub (ws' := [(v, .inr (4, [.ref w, .int dec, .int bel, .long ah, .long bh])), (w, .inr (2, [.ref wa, .int n])), (wa, .inl (cC, 60, .inl f))]) [1, 2, 3] (by decide) rfl
      have hKc := hK.sub (tys' := [(cC, .char)]) [0] rfl
      have hFc := va_free (wc := [(v, .inr (4, [.ref w, .int dec, .int bel, .long ah, .long bh])), (w, .inr (2, [.ref wa, .int n])), (wa, .inl (cC, 60, .inl f))]) hD hS hA [1, 2, 3] rfl
      refine va_calli (va_runV (As := []) (rest := []) ⟨hx, hb, hml, hown, hT⟩ (c_Value_isMark l dC dI s.heap.size cC v w wa dec bel ah bh f n ) (cwV 0 hT g_Fi_101 rfl rfl rfl (by decide +kernel) ⟨Nat.le_of_ble_eq_true rfl, Nat.le_of_ble_eq_true rfl⟩) ⟨fun a U g mk q => by obtain ⟨q0, q1, qP, qK, qD⟩ := q; exact ⟨q0, q1, qP, va_K.moved (u := U) (U := U.calling g mk a) (Vm.Alike.refl U.vm) qK, qD⟩, va_recv hKc hPc (ci := 4) (q0 := 0) rfl rfl, fun U hU hW => ⟨rfl, by rw [hU], by rw [hU]; exact hPc, va_K.moved hW.alike hKc, hDc.weaken (fun _ _ _ _ => trivial)⟩⟩ rfl rfl hl.1 rfl (lv_room (Nat.le_of_ble_eq_true rfl)) d_Fi_takes_23 ⟨Nat.le_of_ble_eq_true rfl, Nat.le_of_ble_eq_true rfl⟩) hS (fun q _ h => hFc q h) hFc (fun x3 u t H1 locs ht hvm w23_3 hB hz1 hk1 hS => ?_)
      obtain ⟨hP1, hK1, hD1⟩ := hB
      rw [ht] at hP1
      try dsimp only at w23_3
      obtain ⟨hP, hD⟩ := va_join (wr := [(fi, .inr (1, [.int mi, .int pl, .int ze, .int sh, .int bl, .int sw, .int sp, .int wi, .int pr, .int le, .int so, .int nx]))]) (w1 := [(v, .inr (4, [.ref w, .int dec, .int bel, .long ah, .long bh])), (w, .inr (2, [.ref wa, .int n])), (wa, .inl (cC, 60, .inl f))]) hP hD [1, 2, 3] [0] rfl rfl (by decide) (by decide) hk1 hFc hP1 hD1
      generalize H1 = H at hP hS ⊢
      have hP : va_P (dC, dI) CL [(fi, .inr (1, [.int mi, .int pl, .int ze, .int sh, .int bl, .int sw, .int sp, .int wi, .int pr, .int le, .int so, .int nx])), (v, .inr (4, [.ref w, .int dec, .int bel, .long ah, .long bh])), (w, .inr (2, [.ref wa, .int n])), (wa, .inl (cC, 60, .inl f))] H := hP
      have hD : va_D A [(fi, .inr (1, [.int mi, .int pl, .int ze, .int sh, .int bl, .int sw, .int sp, .int wi, .int pr, .int le, .int so, .int nx])), (v, .inr (4, [.ref w, .int dec, .int bel, .long ah, .long bh])), (w, .inr (2, [.ref wa, .int n])), (wa, .inl (cC, 60, .inl f))] := hD
      refine lv_if_eq (tgt := 33) hx hb d_Fi_takes_26 (by decide) (fun c26_4 => ?_) (fun c26_4 => ?_)
      · skip
        rw [w23_3, k_b_eq0] at c26_4
        refine lv_iconst (v := 0) hx hb d_Fi_takes_33 (by decide) ?_
        have hP9 := hP.sub (ws' := [(fi, .inr (1, [.int mi, .int pl, .int ze, .int sh, .int bl, .int sw, .int sp, .int wi, .int pr, .int le, .int so, .int nx])), (v, .inr (4, [.ref w, .int dec, .int bel, .long ah, .long bh])), (w, .inr (2, [.ref wa, .int n])), (wa, .inl (cC, 60, .inl f))]) [0, 1, 2, 3] rfl
        have hD9 := hD.sub (ws' := [(fi, .inr (1, [.int mi, .int pl, .int ze, .int sh, .int bl, .int sw, .int sp, .int wi, .int pr, .int le, .int so, .int nx])), (v, .inr (4, [.ref w, .int dec, .int bel, .long ah, .long bh])), (w, .inr (2, [.ref wa, .int n])), (wa, .inl (cC, 60, .inl f))]) [0, 1, 2, 3] (by decide) rfl
        have hK9 := hK.sub (tys' := [(cC, .char)]) [0] rfl
        have hq9 : (0 : Int32) = fiTakes so le dec bel ah n := by simp [fiTakes, k_b, c5_1, c19_2, c26_4]
        exact W.zret (v := 0) hx hb hr rfl (fun t ht hW => ⟨⟨0, (), rfl, hq9, by rw [ht]; exact hP9, va_K.moved hW.alike hK9, hD9⟩, hS.F ht⟩) hS.2.2 d_Fi_takes_34
      · skip
        rw [w23_3, k_b_eq0] at c26_4
        refine lv_iconst (v := 1) hx hb d_Fi_takes_29 (by decide) ?_
        refine lv_goto (tgt := 34) hx hb d_Fi_takes_30 (by decide) ?_
        have hP9 := hP.sub (ws' := [(fi, .inr (1, [.int mi, .int pl, .int ze, .int sh, .int bl, .int sw, .int sp, .int wi, .int pr, .int le, .int so, .int nx])), (v, .inr (4, [.ref w, .int dec, .int bel, .long ah, .long bh])), (w, .inr (2, [.ref wa, .int n])), (wa, .inl (cC, 60, .inl f))]) [0, 1, 2, 3] rfl
        have hD9 := hD.sub (ws' := [(fi, .inr (1, [.int mi, .int pl, .int ze, .int sh, .int bl, .int sw, .int sp, .int wi, .int pr, .int le, .int so, .int nx])), (v, .inr (4, [.ref w, .int dec, .int bel, .long ah, .long bh])), (w, .inr (2, [.ref wa, .int n])), (wa, .inl (cC, 60, .inl f))]) [0, 1, 2, 3] (by decide) rfl
        have hK9 := hK.sub (tys' := [(cC, .char)]) [0] rfl
        have hq9 : (1 : Int32) = fiTakes so le dec bel ah n := by simp [fiTakes, k_b, c5_1, c19_2, c26_4]
        exact W.zret (v := 1) hx hb hr rfl (fun t ht hW => ⟨⟨1, (), rfl, hq9, by rw [ht]; exact hP9, va_K.moved hW.alike hK9, hD9⟩, hS.F ht⟩) hS.2.2 d_Fi_takes_34
  · skip
    refine lv_aload_n hx hb d_Fi_takes_8 rfl (lv_at hl 1 rfl) ?_
    refine va_getN (D := (dC, dI)) (ci := 4) (v := .int dec) (C := R_Va) (T := F_Va) (N := 5) hx hb hT (in_Va) hown hK hP 1 rfl rfl 1 (by decide) (va_Nw.use rfl (kN_52 hN)) (fun _ h9 => h9) rfl d_Fi_takes_9 ?_
    have hP9 := hP.sub (ws' := [(fi, .inr (1, [.int mi, .int pl, .int ze, .int sh, .int bl, .int sw, .int sp, .int wi, .int pr, .int le, .int so, .int nx])), (v, .inr (4, [.ref w, .int dec, .int bel, .long ah, .long bh])), (w, .inr (2, [.ref wa, .int n])), (wa, .inl (cC, 60, .inl f))]) [0, 1, 2, 3] rfl
    have hD9 := hD.sub (ws' := [(fi, .inr (1, [.int mi, .int pl, .int ze, .int sh, .int bl, .int sw, .int sp, .int wi, .int pr, .int le, .int so, .int nx])), (v, .inr (4, [.ref w, .int dec, .int bel, .long ah, .long bh])), (w, .inr (2, [.ref wa, .int n])), (wa, .inl (cC, 60, .inl f))]) [0, 1, 2, 3] (by decide) rfl
    have hK9 := hK.sub (tys' := [(cC, .char)]) [0] rfl
    have hq9 : dec = fiTakes so le dec bel ah n := by rw [fiTakes, if_neg c5_1]
    exact W.zret (v := dec) hx hb hr (by rcases hd with rfl | rfl <;> rfl) (fun t ht hW => ⟨⟨dec, (), rfl, hq9, by rw [ht]; exact hP9, va_K.moved hW.alike hK9, hD9⟩, hS.F ht⟩) hS.2.2 d_Fi_takes_12

set_option maxHeartbeats 4000000 in
set_option maxRecDepth 100000 in
theorem c_Field_signFor (l : Launch) (dC : Nat → ClassId) (dI : Nat → Nat → Nat) (sz : Nat) (fi : Nat) (mi : Int32) (pl : Int32) (ze : Int32) (sh : Int32) (bl : Int32) (sw : Int32) (sp : Int32) (wi : Int32) (pr : Int32) (le : Int32) (so : Int32) (nx : Int32) (bw : Int32)  : Met l y_Fi_signFor w_Fi_signFor ({ frames := 0, cells := 0, slots := 0, locals := 0 } : Room) (va_Pc [.ref fi, .int bw] (fun U => U.heap.size = sz ∧ va_P (dC, dI) CL [(fi, .inr (1, [.int mi, .int pl, .int ze, .int sh, .int bl, .int sw, .int sp, .int wi, .int pr, .int le, .int so, .int nx]))] U.heap ∧ va_K (dC, dI) CL [] U ∧ va_D (fun _ => True) [(fi, .inr (1, [.int mi, .int pl, .int ze, .int sh, .int bl, .int sw, .int sp, .int wi, .int pr, .int le, .int so, .int nx]))])) (va_Qi (fun (r : Int32) (u : Unit) => r = fiSign bw pl bl) (fun (u : Unit) (t : State) => va_P (dC, dI) CL [(fi, .inr (1, [.int mi, .int pl, .int ze, .int sh, .int bl, .int sw, .int sp, .int wi, .int pr, .int le, .int so, .int nx]))] t.heap ∧ va_K (dC, dI) CL [] t ∧ va_D (va_A [(fi, .inr (1, [.int mi, .int pl, .int ze, .int sh, .int bl, .int sw, .int sp, .int wi, .int pr, .int le, .int so, .int nx]))] sz) [(fi, .inr (1, [.int mi, .int pl, .int ze, .int sh, .int bl, .int sw, .int sp, .int wi, .int pr, .int le, .int so, .int nx]))]) (va_A [(fi, .inr (1, [.int mi, .int pl, .int ze, .int sh, .int bl, .int sw, .int sp, .int wi, .int pr, .int le, .int so, .int nx]))] sz)) 0 0 (va_A [(fi, .inr (1, [.int mi, .int pl, .int ze, .int sh, .int bl, .int sw, .int sp, .int wi, .int pr, .int le, .int so, .int nx]))] sz) := by
  refine Met.ofW (cc := b_Fi_signFor) (maxL := 2) (ret := (some .int)) (by decide) rfl ?_
  intro p e s m args below meth c s₁ B hml hv
  obtain ⟨rfl, hsz, hP, hK, hD0⟩ := hv
  have hx := B.exec
  have hb := B.bytes
  have hr := B.returns
  have hts := atoms_spec (ws := w_Fi_signFor) B.pre
  have hT : ∀ w ∈ TB, w.before _ s = true := fun w h => hts w (List.mem_cons_of_mem _ h)
  have hown : s.vm.findClass R_Fi = some m.cls := findClass_of_methodNamed B.named
  have hlocks := B.notSynchronized
  subst hsz
  have hD := hD0.self (sz := s.heap.size)
  generalize hAe : va_A [(fi, .inr (1, [.int mi, .int pl, .int ze, .int sh, .int bl, .int sw, .int sp, .int wi, .int pr, .int le, .int so, .int nx]))] s.heap.size = A at hD ⊢
  have hA : ∀ q : Nat, s.heap.size ≤ q → A q := fun q h => by rw [← hAe]; exact Or.inr h
  have hS : va_S A s.heap s.heap [] := va_S.rf
  have hP : va_P (dC, dI) CL [(fi, .inr (1, [.int mi, .int pl, .int ze, .int sh, .int bl, .int sw, .int sp, .int wi, .int pr, .int le, .int so, .int nx]))] s.heap := hP
  have hl := lv_entry ([.ref fi, .int bw]) (n := 2) (Nat.le_of_ble_eq_true rfl)
  rw [lg_entry_eq]
  generalize (lg_sl ([.ref fi, .int bw]) ++ List.replicate (2 - (lg_sl ([.ref fi, .int bw])).length) Slot.unset).toArray = ls at hl ⊢
  have hl : lv_has ls 2 [(0, .ref fi), (1, .int bw)] := hl
  refine lv_iload_n hx hb d_Fi_signFor_0 rfl (lv_at hl 1 rfl) ?_
  refine lv_if_eq (tgt := 7) hx hb d_Fi_signFor_1 (by decide) (fun c1_1 => ?_) (fun c1_1 => ?_)
  · skip
    refine lv_aload_n hx hb d_Fi_signFor_7 rfl (lv_at hl 0 rfl) ?_
    refine va_get (D := (dC, dI)) (ci := 1) (v := .int pl) (C := R_Fi) (T := F_Fi) (N := 12) hx hb hT (in_Fi) hown hK hP 0 rfl rfl 1 (by decide) (hT _ t_79) (fun _ h9 => h9) rfl d_Fi_signFor_8 ?_
    refine lv_if_eq (tgt := 17) hx hb d_Fi_signFor_11 (by decide) (fun c11_2 => ?_) (fun c11_2 => ?_)
    · skip
      refine lv_aload_n hx hb d_Fi_signFor_17 rfl (lv_at hl 0 rfl) ?_
      refine va_get (D := (dC, dI)) (ci := 1) (v := .int bl) (C := R_Fi) (T := F_Fi) (N := 12) hx hb hT (in_Fi) hown hK hP 0 rfl rfl 4 (by decide) (hT _ t_83) (fun _ h9 => h9) rfl d_Fi_signFor_18 ?_
      refine lv_if_eq (tgt := 29) hx hb d_Fi_signFor_21 (by decide) (fun c21_3 => ?_) (fun c21_3 => ?_)
      · skip
        refine lv_iconst (v := (-1)) hx hb d_Fi_signFor_29 (by decide) ?_
        have hP9 := hP.sub (ws' := [(fi, .inr (1, [.int mi, .int pl, .int ze, .int sh, .int bl, .int sw, .int sp, .int wi, .int pr, .int le, .int so, .int nx]))]) [0] rfl
        have hD9 := hD.sub (ws' := [(fi, .inr (1, [.int mi, .int pl, .int ze, .int sh, .int bl, .int sw, .int sp, .int wi, .int pr, .int le, .int so, .int nx]))]) [0] (by decide) rfl
        have hK9 := hK.sub (tys' := []) [] rfl
        have hq9 : (-1 : Int32) = fiSign bw pl bl := by simp [fiSign, c1_1, c11_2, c21_3]
        exact W.iret (v := (-1)) hx hb hr (fun t ht hW => ⟨⟨(-1), (), rfl, hq9, by rw [ht]; exact hP9, va_K.moved hW.alike hK9, hD9⟩, hS.F ht⟩) hS.2.2 d_Fi_signFor_30
      · skip
        refine lv_bipush (v := 32) hx hb d_Fi_signFor_24 (by decide) ?_
        refine lv_goto (tgt := 30) hx hb d_Fi_signFor_26 (by decide) ?_
        have hP9 := hP.sub (ws' := [(fi, .inr (1, [.int mi, .int pl, .int ze, .int sh, .int bl, .int sw, .int sp, .int wi, .int pr, .int le, .int so, .int nx]))]) [0] rfl
        have hD9 := hD.sub (ws' := [(fi, .inr (1, [.int mi, .int pl, .int ze, .int sh, .int bl, .int sw, .int sp, .int wi, .int pr, .int le, .int so, .int nx]))]) [0] (by decide) rfl
        have hK9 := hK.sub (tys' := []) [] rfl
        have hq9 : (32 : Int32) = fiSign bw pl bl := by simp [fiSign, c1_1, c11_2, c21_3]
        exact W.iret (v := 32) hx hb hr (fun t ht hW => ⟨⟨32, (), rfl, hq9, by rw [ht]; exact hP9, va_K.moved hW.alike hK9, hD9⟩, hS.F ht⟩) hS.2.2 d_Fi_signFor_30
    · skip
      refine lv_bipush (v := 43) hx hb d_Fi_signFor_14 (by decide) ?_
      have hP9 := hP.sub (ws' := [(fi, .inr (1, [.int mi, .int pl, .int ze, .int sh, .int bl, .int sw, .int sp, .int wi, .int pr, .int le, .int so, .int nx]))]) [0] rfl
      have hD9 := hD.sub (ws' := [(fi, .inr (1, [.int mi, .int pl, .int ze, .int sh, .int bl, .int sw, .int sp, .int wi, .int pr, .int le, .int so, .int nx]))]) [0] (by decide) rfl
      have hK9 := hK.sub (tys' := []) [] rfl
      have hq9 : (43 : Int32) = fiSign bw pl bl := by simp [fiSign, c1_1, c11_2]
      exact W.iret (v := 43) hx hb hr (fun t ht hW => ⟨⟨43, (), rfl, hq9, by rw [ht]; exact hP9, va_K.moved hW.alike hK9, hD9⟩, hS.F ht⟩) hS.2.2 d_Fi_signFor_16
  · skip
    refine lv_bipush (v := 45) hx hb d_Fi_signFor_4 (by decide) ?_
    have hP9 := hP.sub (ws' := [(fi, .inr (1, [.int mi, .int pl, .int ze, .int sh, .int bl, .int sw, .int sp, .int wi, .int pr, .int le, .int so, .int nx]))]) [0] rfl
    have hD9 := hD.sub (ws' := [(fi, .inr (1, [.int mi, .int pl, .int ze, .int sh, .int bl, .int sw, .int sp, .int wi, .int pr, .int le, .int so, .int nx]))]) [0] (by decide) rfl
    have hK9 := hK.sub (tys' := []) [] rfl
    have hq9 : (45 : Int32) = fiSign bw pl bl := by simp [fiSign, c1_1]
    exact W.iret (v := 45) hx hb hr (fun t ht hW => ⟨⟨45, (), rfl, hq9, by rw [ht]; exact hP9, va_K.moved hW.alike hK9, hD9⟩, hS.F ht⟩) hS.2.2 d_Fi_signFor_6

set_option maxHeartbeats 4000000 in
set_option maxRecDepth 100000 in
theorem c_Field_padsWithZeros (l : Launch) (dC : Nat → ClassId) (dI : Nat → Nat → Nat) (sz : Nat) (fi : Nat) (mi : Int32) (pl : Int32) (ze : Int32) (sh : Int32) (bl : Int32) (sw : Int32) (sp : Int32) (wi : Int32) (pr : Int32) (le : Int32) (so : Int32) (nx : Int32)  : Met l y_Fi_padsWithZeros w_Fi_padsWithZeros ({ frames := 0, cells := 0, slots := 0, locals := 0 } : Room) (va_Pc [.ref fi] (fun U => U.heap.size = sz ∧ va_P (dC, dI) CL [(fi, .inr (1, [.int mi, .int pl, .int ze, .int sh, .int bl, .int sw, .int sp, .int wi, .int pr, .int le, .int so, .int nx]))] U.heap ∧ va_K (dC, dI) CL [] U ∧ va_D (fun _ => True) [(fi, .inr (1, [.int mi, .int pl, .int ze, .int sh, .int bl, .int sw, .int sp, .int wi, .int pr, .int le, .int so, .int nx]))])) (va_Qi (fun (r : Int32) (u : Unit) => r = k_b (fiZeros ze mi so)) (fun (u : Unit) (t : State) => va_P (dC, dI) CL [(fi, .inr (1, [.int mi, .int pl, .int ze, .int sh, .int bl, .int sw, .int sp, .int wi, .int pr, .int le, .int so, .int nx]))] t.heap ∧ va_K (dC, dI) CL [] t ∧ va_D (va_A [(fi, .inr (1, [.int mi, .int pl, .int ze, .int sh, .int bl, .int sw, .int sp, .int wi, .int pr, .int le, .int so, .int nx]))] sz) [(fi, .inr (1, [.int mi, .int pl, .int ze, .int sh, .int bl, .int sw, .int sp, .int wi, .int pr, .int le, .int so, .int nx]))]) (va_A [(fi, .inr (1, [.int mi, .int pl, .int ze, .int sh, .int bl, .int sw, .int sp, .int wi, .int pr, .int le, .int so, .int nx]))] sz)) 0 0 (va_A [(fi, .inr (1, [.int mi, .int pl, .int ze, .int sh, .int bl, .int sw, .int sp, .int wi, .int pr, .int le, .int so, .int nx]))] sz) := by
  refine Met.ofW (cc := b_Fi_padsWithZeros) (maxL := 1) (ret := (some .boolean)) (by decide) rfl ?_
  intro p e s m args below meth c s₁ B hml hv
  obtain ⟨rfl, hsz, hP, hK, hD0⟩ := hv
  have hx := B.exec
  have hb := B.bytes
  have hr := B.returns
  have hts := atoms_spec (ws := w_Fi_padsWithZeros) B.pre
  have hT : ∀ w ∈ TB, w.before _ s = true := fun w h => hts w (List.mem_cons_of_mem _ h)
  have hown : s.vm.findClass R_Fi = some m.cls := findClass_of_methodNamed B.named
  have hlocks := B.notSynchronized
  subst hsz
  have hD := hD0.self (sz := s.heap.size)
  generalize hAe : va_A [(fi, .inr (1, [.int mi, .int pl, .int ze, .int sh, .int bl, .int sw, .int sp, .int wi, .int pr, .int le, .int so, .int nx]))] s.heap.size = A at hD ⊢
  have hA : ∀ q : Nat, s.heap.size ≤ q → A q := fun q h => by rw [← hAe]; exact Or.inr h
  have hS : va_S A s.heap s.heap [] := va_S.rf
  have hP : va_P (dC, dI) CL [(fi, .inr (1, [.int mi, .int pl, .int ze, .int sh, .int bl, .int sw, .int sp, .int wi, .int pr, .int le, .int so, .int nx]))] s.heap := hP
  have hl := lv_entry ([.ref fi]) (n := 1) (Nat.le_of_ble_eq_true rfl)
  rw [lg_entry_eq]
  generalize (lg_sl ([.ref fi]) ++ List.replicate (1 - (lg_sl ([.ref fi])).length) Slot.unset).toArray = ls at hl ⊢
  have hl : lv_has ls 1 [(0, .ref fi)] := hl
  refine lv_aload_n hx hb d_Fi_padsWithZeros_0 rfl (lv_at hl 0 rfl) ?_
  refine va_get (D := (dC, dI)) (ci := 1) (v := .int ze) (C := R_Fi) (T := F_Fi) (N := 12) hx hb hT (in_Fi) hown hK hP 0 rfl rfl 2 (by decide) (hT _ t_80) (fun _ h9 => h9) rfl d_Fi_padsWithZeros_1 ?_
  refine lv_if_eq (tgt := 26) hx hb d_Fi_padsWithZeros_4 (by decide) (fun c4_1 => ?_) (fun c4_1 => ?_)
  · skip
    refine lv_iconst (v := 0) hx hb d_Fi_padsWithZeros_26 (by decide) ?_
    have hP9 := hP.sub (ws' := [(fi, .inr (1, [.int mi, .int pl, .int ze, .int sh, .int bl, .int sw, .int sp, .int wi, .int pr, .int le, .int so, .int nx]))]) [0] rfl
    have hD9 := hD.sub (ws' := [(fi, .inr (1, [.int mi, .int pl, .int ze, .int sh, .int bl, .int sw, .int sp, .int wi, .int pr, .int le, .int so, .int nx]))]) [0] (by decide) rfl
    have hK9 := hK.sub (tys' := []) [] rfl
    have hq9 : (0 : Int32) = k_b (fiZeros ze mi so) := by simp [k_b, fiZeros, c4_1]
    exact W.zret (v := 0) hx hb hr rfl (fun t ht hW => ⟨⟨0, (), rfl, hq9, by rw [ht]; exact hP9, va_K.moved hW.alike hK9, hD9⟩, hS.F ht⟩) hS.2.2 d_Fi_padsWithZeros_27
  · skip
    refine lv_aload_n hx hb d_Fi_padsWithZeros_7 rfl (lv_at hl 0 rfl) ?_
    refine va_get (D := (dC, dI)) (ci := 1) (v := .int mi) (C := R_Fi) (T := F_Fi) (N := 12) hx hb hT (in_Fi) hown hK hP 0 rfl rfl 0 (by decide) (hT _ t_77) (fun _ h9 => h9) rfl d_Fi_padsWithZeros_8 ?_
    refine lv_if_ne (tgt := 26) hx hb d_Fi_padsWithZeros_11 (by decide) (fun c11_2 => ?_) (fun c11_2 => ?_)
    · skip
      refine lv_iconst (v := 0) hx hb d_Fi_padsWithZeros_26 (by decide) ?_
      have hP9 := hP.sub (ws' := [(fi, .inr (1, [.int mi, .int pl, .int ze, .int sh, .int bl, .int sw, .int sp, .int wi, .int pr, .int le, .int so, .int nx]))]) [0] rfl
      have hD9 := hD.sub (ws' := [(fi, .inr (1, [.int mi, .int pl, .int ze, .int sh, .int bl, .int sw, .int sp, .int wi, .int pr, .int le, .int so, .int nx]))]) [0] (by decide) rfl
      have hK9 := hK.sub (tys' := []) [] rfl
      have hq9 : (0 : Int32) = k_b (fiZeros ze mi so) := by simp [k_b, fiZeros, c4_1, c11_2]
      exact W.zret (v := 0) hx hb hr rfl (fun t ht hW => ⟨⟨0, (), rfl, hq9, by rw [ht]; exact hP9, va_K.moved hW.alike hK9, hD9⟩, hS.F ht⟩) hS.2.2 d_Fi_padsWithZeros_27
    · skip
      refine lv_aload_n hx hb d_Fi_padsWithZeros_14 rfl (lv_at hl 0 rfl) ?_
      refine va_get (D := (dC, dI)) (ci := 1) (v := .int so) (C := R_Fi) (T := F_Fi) (N := 12) hx hb hT (in_Fi) hown hK hP 0 rfl rfl 10 (by decide) (hT _ t_94) (fun _ h9 => h9) rfl d_Fi_padsWithZeros_15 ?_
      refine lv_iconst (v := 3) hx hb d_Fi_padsWithZeros_18 (by decide) ?_
      refine lv_icmp_eq (tgt := 26) hx hb d_Fi_padsWithZeros_19 (by decide) (fun c19_3 => ?_) (fun c19_3 => ?_)
      · skip
        refine lv_iconst (v := 0) hx hb d_Fi_padsWithZeros_26 (by decide) ?_
        have hP9 := hP.sub (ws' := [(fi, .inr (1, [.int mi, .int pl, .int ze, .int sh, .int bl, .int sw, .int sp, .int wi, .int pr, .int le, .int so, .int nx]))]) [0] rfl
        have hD9 := hD.sub (ws' := [(fi, .inr (1, [.int mi, .int pl, .int ze, .int sh, .int bl, .int sw, .int sp, .int wi, .int pr, .int le, .int so, .int nx]))]) [0] (by decide) rfl
        have hK9 := hK.sub (tys' := []) [] rfl
        have hq9 : (0 : Int32) = k_b (fiZeros ze mi so) := by simp [k_b, fiZeros, c4_1, c11_2, c19_3]
        exact W.zret (v := 0) hx hb hr rfl (fun t ht hW => ⟨⟨0, (), rfl, hq9, by rw [ht]; exact hP9, va_K.moved hW.alike hK9, hD9⟩, hS.F ht⟩) hS.2.2 d_Fi_padsWithZeros_27
      · skip
        refine lv_iconst (v := 1) hx hb d_Fi_padsWithZeros_22 (by decide) ?_
        refine lv_goto (tgt := 27) hx hb d_Fi_padsWithZeros_23 (by decide) ?_
        have hP9 := hP.sub (ws' := [(fi, .inr (1, [.int mi, .int pl, .int ze, .int sh, .int bl, .int sw, .int sp, .int wi, .int pr, .int le, .int so, .int nx]))]) [0] rfl
        have hD9 := hD.sub (ws' := [(fi, .inr (1, [.int mi, .int pl, .int ze, .int sh, .int bl, .int sw, .int sp, .int wi, .int pr, .int le, .int so, .int nx]))]) [0] (by decide) rfl
        have hK9 := hK.sub (tys' := []) [] rfl
        have hq9 : (1 : Int32) = k_b (fiZeros ze mi so) := by simp [k_b, fiZeros, c4_1, c11_2, c19_3]
        exact W.zret (v := 1) hx hb hr rfl (fun t ht hW => ⟨⟨1, (), rfl, hq9, by rw [ht]; exact hP9, va_K.moved hW.alike hK9, hD9⟩, hS.F ht⟩) hS.2.2 d_Fi_padsWithZeros_27
