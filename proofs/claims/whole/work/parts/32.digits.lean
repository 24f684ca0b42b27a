theorem t_7 : (.initialized R_Dg : Cond) ∈ TB := tb_of 7 (by decide +kernel) (by decide +kernel)
theorem t_135 : (.methodLink R_Dg 1 objectInit : Cond) ∈ TB := tb_of 135 (by decide +kernel) (by decide +kernel)
theorem t_136 : (.fieldLink R_Dg 9 R_Dg "row" "[I" : Cond) ∈ TB := tb_of 136 (by decide +kernel) (by decide +kernel)
theorem t_140 : (.arrayClass .int : Cond) ∈ TB := tb_of 140 (by decide +kernel) (by decide +kernel)
theorem t_424 : (.static Lib.Math.min.name : Cond) ∈ TB := tb_of 424 (by decide +kernel) (by decide +kernel)
theorem t_425 : (.code Lib.Math.min.name Lib.Math.min.code 2 (some .int) : Cond) ∈ TB := tb_of 425 (by decide +kernel) (by decide +kernel)
theorem t_520 : (.constantLong R_Dg 19 10 : Cond) ∈ TB := tb_of 520 (by decide +kernel) (by decide +kernel)
theorem t_525 : (.methodLink R_Dg 28 y_Dg_goesUp : Cond) ∈ TB := tb_of 525 (by decide +kernel) (by decide +kernel)
theorem t_527 : (.instanceMethod y_Dg_goesUp : Cond) ∈ TB := tb_of 527 (by decide +kernel) (by decide +kernel)
theorem t_528 : (.code y_Dg_goesUp b_Dg_goesUp 3 (some .boolean) : Cond) ∈ TB := tb_of 528 (by decide +kernel) (by decide +kernel)
theorem t_533 : (.methodLink R_Dg 24 y_Dg_first : Cond) ∈ TB := tb_of 533 (by decide +kernel) (by decide +kernel)
theorem t_534 : (.instanceMethod y_Dg_first : Cond) ∈ TB := tb_of 534 (by decide +kernel) (by decide +kernel)
theorem t_535 : (.selects R_Dg y_Dg_first y_Dg_first : Cond) ∈ TB := tb_of 535 (by decide +kernel) (by decide +kernel)
theorem t_536 : (.code y_Dg_first b_Dg_first 2 (some .int) : Cond) ∈ TB := tb_of 536 (by decide +kernel) (by decide +kernel)
theorem t_537 : (.methodLink R_Dg 32 Lib.Math.min.name : Cond) ∈ TB := tb_of 537 (by decide +kernel) (by decide +kernel)
theorem t_538 : (.methodLink R_Dg 38 y_Dg_digitAt : Cond) ∈ TB := tb_of 538 (by decide +kernel) (by decide +kernel)
theorem t_540 : (.instanceMethod y_Dg_digitAt : Cond) ∈ TB := tb_of 540 (by decide +kernel) (by decide +kernel)
theorem t_541 : (.code y_Dg_digitAt b_Dg_digitAt 2 (some .int) : Cond) ∈ TB := tb_of 541 (by decide +kernel) (by decide +kernel)
theorem t_542 : (.methodLink R_Dg 42 y_Ln_add : Cond) ∈ TB := tb_of 542 (by decide +kernel) (by decide +kernel)
theorem g_Dg_24 : GoodIn TB (wsV R_Dg 24 R_Dg y_Dg_first w_Dg_first) := TB_V t_533 t_534 t_535 t_7 t_536
theorem g_Dg_28 : GoodIn TB (wsV R_Dg 28 R_Dg y_Dg_goesUp w_Dg_goesUp) := TB_V t_525 t_527 (tb_sel (y := y_Dg_goesUp) (n := 1) 18 (by decide +kernel)) t_7 t_528
theorem g_Dg_38 : GoodIn TB (wsV R_Dg 38 R_Dg y_Dg_digitAt w_Dg_digitAt) := TB_V t_538 t_540 (tb_sel (y := y_Dg_digitAt) (n := 1) 19 (by decide +kernel)) t_7 t_541
theorem g_Dg_42 : GoodIn TB (wsV R_Dg 42 R_Ln y_Ln_add w_Ln_add) := TB_V t_542 t_206 t_207 t_2 t_208
set_option maxHeartbeats 4000000 in
set_option maxRecDepth 100000 in
theorem c_Digits_init (l : Launch) (dC : Nat → ClassId) (dI : Nat → Nat → Nat) (sz : Nat) (cI : ClassId) (g : Nat)  : Met l y_Dg_init w_Dg_init ({ frames := 1, cells := 1, slots := 31, locals := 12 } : Room) (va_Pc [.ref g] (fun U => U.heap.size = sz ∧ va_P (dC, dI) CL [(g, .inr (0, [.null]))] U.heap ∧ va_K (dC, dI) CL [(cI, .int)] U ∧ va_D (fun _ => True) [(g, .inr (0, [.null]))])) (va_Qv (fun (u : Unit) => True) (fun (u : Unit) (t : State) => ∃ ra : Nat, va_P (dC, dI) CL [(g, .inr (0, [.ref ra])), (ra, .inl (cI, 31, .inl (fun _ => 0)))] t.heap ∧ va_K (dC, dI) CL [(cI, .int)] t ∧ va_D (va_A [(g, .inr (0, [.null]))] sz) [(g, .inr (0, [.ref ra])), (ra, .inl (cI, 31, .inl (fun _ => 0)))]) (va_A [(g, .inr (0, [.null]))] sz)) 1 31 (va_A [(g, .inr (0, [.null]))] sz) := by
  refine Met.ofW (cc := b_Dg_init) (maxL := 1) (ret := none) (by decide) rfl ?_
  intro p e s m args below meth c s₁ B hml hv
  obtain ⟨rfl, hsz, hP, hK, hD0⟩ := hv
  have hx := B.exec
  have hb := B.bytes
  have hr := B.returns
  have hts := atoms_spec (ws := w_Dg_init) B.pre
  have hT : ∀ w ∈ TB, w.before _ s = true := fun w h => hts w (List.mem_cons_of_mem _ h)
  have hown : s.vm.findClass R_Dg = some m.cls := findClass_of_methodNamed B.named
  have hlocks := B.notSynchronized
  have hin : meth.name = "<init>" := (name_of_methodNamed B.named B.method).1
  subst hsz
  have hD := hD0.self (sz := s.heap.size)
  generalize hAe : va_A [(g, .inr (0, [.null]))] s.heap.size = A at hD ⊢
  have hA : ∀ q : Nat, s.heap.size ≤ q → A q := fun q h => by rw [← hAe]; exact Or.inr h
  have hS : va_S A s.heap s.heap [] := va_S.rf
  have hP : va_P (dC, dI) CL [(g, .inr (0, [.null]))] s.heap := hP
  have hl := lv_entry ([.ref g]) (n := 1) (Nat.le_of_ble_eq_true rfl)
  rw [lg_entry_eq]
  generalize (lg_sl ([.ref g]) ++ List.replicate (1 - (lg_sl ([.ref g])).length) Slot.unset).toArray = ls at hl ⊢
  have hl : lv_has ls 1 [(0, .ref g)] := hl
  refine lv_aload_n hx hb d_Dg_init_0 rfl (lv_at hl 0 rfl) ?_
  refine W.objInit hx hb hown (hT _ t_135) (hT _ t_21) (hT _ t_22) rfl (by rw [hml]; exact hl.1) rfl d_Dg_init_1 (Nat.le_of_ble_eq_true rfl) (Nat.le_of_ble_eq_true rfl) ?_
  refine W.eq (g2 := F0 m 4 ls []) rfl ?_
  refine lv_aload_n hx hb d_Dg_init_4 rfl (lv_at hl 0 rfl) ?_
  refine lv_bipush (v := 31) hx hb d_Dg_init_5 (by decide) ?_
  refine va_newa (atype := .int) (n := 31) (N' := 31) (a0 := (31, .inl (fun _ => 0))) hx hb (hT _ t_140) (ty := .int) rfl hK hP hD hS hA (fun _ => rfl) (by decide) (by decide) (by decide) (Nat.le_of_ble_eq_true rfl) (Nat.le_of_ble_eq_true rfl) d_Dg_init_7 (fun q1 cA2 H hK hP hD hS => ?_)
  obtain rfl : cI = cA2 := k_sameI hK 0 1 rfl rfl
  have hK := hK.sub (tys' := [(cI, .int)]) [0] rfl
  have hP : va_P (dC, dI) CL [(g, .inr (0, [.null])), (q1, .inl (cI, 31, .inl (fun _ => 0)))] H := hP
  have hD : va_D A [(g, .inr (0, [.null])), (q1, .inl (cI, 31, .inl (fun _ => 0)))] := hD
  refine va_putF (D := (dC, dI)) (ci := 0) (v := .ref q1) (ty := (.array .int)) (C := R_Dg) (T := F_Dg) (N := 1) hx hb hT (in_Dg) t_Dg t_Dg_ok n_Dg hown hK hP hD hS 0 rfl rfl 0 (by decide) (hT _ t_136) (fun _ h9 => h9) rfl hin rfl (by decide +kernel) rfl rfl (Nat.le_of_ble_eq_true rfl) d_Dg_init_9 (fun H locs hP hD hS => ?_)
  have hP : va_P (dC, dI) CL [(g, .inr (0, [.ref q1])), (q1, .inl (cI, 31, .inl (fun _ => 0)))] H := hP
  have hD : va_D A [(g, .inr (0, [.ref q1])), (q1, .inl (cI, 31, .inl (fun _ => 0)))] := hD
  have hP9 := hP.sub (ws' := [(g, .inr (0, [.ref q1])), (q1, .inl (cI, 31, .inl (fun _ => 0)))]) [0, 1] rfl
  have hD9 := hD.sub (ws' := [(g, .inr (0, [.ref q1])), (q1, .inl (cI, 31, .inl (fun _ => 0)))]) [0, 1] (by decide) rfl
  have hK9 := hK.sub (tys' := [(cI, .int)]) [0] rfl
  have hq9 : True := True.intro
  refine W.widen (k := 1) (n := 31) (Nat.le_of_ble_eq_true rfl) (Nat.le_of_ble_eq_true rfl) ?_
  exact W.vret hx hb hr (fun t ht hW => ⟨⟨(), rfl, hq9, q1, by rw [ht]; exact hP9, va_K.moved hW.alike hK9, hD9⟩, hS.F ht⟩) hS.2.2 d_Dg_init_12

set_option maxHeartbeats 4000000 in
set_option maxRecDepth 100000 in
theorem c_Digits_load (l : Launch) (dC : Nat → ClassId) (dI : Nat → Nat → Nat) (sz : Nat) (cI : ClassId) (cC : ClassId) (g : Nat) (ra : Nat) (row : Nat → Int32) (v : Nat) (w : Nat) (wa : Nat) (dec : Int32) (bel : Int32) (ah : Int64) (bh : Int64) (f : Nat → Int32) (n : Int32)  : Met l y_Dg_load w_Dg_load ({ frames := 0, cells := 0, slots := 0, locals := 0 } : Room) (va_Pc [.ref g, .ref v] (fun U => U.heap.size = sz ∧ va_P (dC, dI) CL [(g, .inr (0, [.ref ra])), (ra, .inl (cI, 31, .inl row)), (v, .inr (4, [.ref w, .int dec, .int bel, .long ah, .long bh])), (w, .inr (2, [.ref wa, .int n])), (wa, .inl (cC, 60, .inl f))] U.heap ∧ va_K (dC, dI) CL [(cI, .int), (cC, .char)] U ∧ va_D (fun _ => True) [(g, .inr (0, [.ref ra])), (ra, .inl (cI, 31, .inl row)), (v, .inr (4, [.ref w, .int dec, .int bel, .long ah, .long bh])), (w, .inr (2, [.ref wa, .int n])), (wa, .inl (cC, 60, .inl f))] ∧ kN U)) (va_Qv (fun (row2 : (Nat → Int32)) => row2 = dgLd bh ah row) (fun (row2 : (Nat → Int32)) (t : State) => va_P (dC, dI) CL [(g, .inr (0, [.ref ra])), (ra, .inl (cI, 31, .inl row2)), (v, .inr (4, [.ref w, .int dec, .int bel, .long ah, .long bh])), (w, .inr (2, [.ref wa, .int n])), (wa, .inl (cC, 60, .inl f))] t.heap ∧ va_K (dC, dI) CL [(cI, .int), (cC, .char)] t ∧ va_D (va_A [(g, .inr (0, [.ref ra])), (ra, .inl (cI, 31, .inl row)), (v, .inr (4, [.ref w, .int dec, .int bel, .long ah, .long bh])), (w, .inr (2, [.ref wa, .int n])), (wa, .inl (cC, 60, .inl f))] sz) [(g, .inr (0, [.ref ra])), (ra, .inl (cI, 31, .inl row2)), (v, .inr (4, [.ref w, .int dec, .int bel, .long ah, .long bh])), (w, .inr (2, [.ref wa, .int n])), (wa, .inl (cC, 60, .inl f))]) (va_A [(g, .inr (0, [.ref ra])), (ra, .inl (cI, 31, .inl row)), (v, .inr (4, [.ref w, .int dec, .int bel, .long ah, .long bh])), (w, .inr (2, [.ref wa, .int n])), (wa, .inl (cC, 60, .inl f))] sz)) 0 0 (va_A [(g, .inr (0, [.ref ra])), (ra, .inl (cI, 31, .inl row)), (v, .inr (4, [.ref w, .int dec, .int bel, .long ah, .long bh])), (w, .inr (2, [.ref wa, .int n])), (wa, .inl (cC, 60, .inl f))] sz) := by
  refine Met.ofW (cc := b_Dg_load) (maxL := 5) (ret := none) (by decide) rfl ?_
  intro p e s m args below meth c s₁ B hml hv
  obtain ⟨rfl, hsz, hP, hK, hD0, hN⟩ := hv
  have hx := B.exec
  have hb := B.bytes
  have hr := B.returns
  have hts := atoms_spec (ws := w_Dg_load) B.pre
  have hT : ∀ w ∈ TB, w.before _ s = true := fun w h => hts w (List.mem_cons_of_mem _ h)
  have hown : s.vm.findClass R_Dg = some m.cls := findClass_of_methodNamed B.named
  have hlocks := B.notSynchronized
  subst hsz
  have hD := hD0.self (sz := s.heap.size)
  generalize hAe : va_A [(g, .inr (0, [.ref ra])), (ra, .inl (cI, 31, .inl row)), (v, .inr (4, [.ref w, .int dec, .int bel, .long ah, .long bh])), (w, .inr (2, [.ref wa, .int n])), (wa, .inl (cC, 60, .inl f))] s.heap.size = A at hD ⊢
  have hA : ∀ q : Nat, s.heap.size ≤ q → A q := fun q h => by rw [← hAe]; exact Or.inr h
  have hS : va_S A s.heap s.heap [] := va_S.rf
  have hP : va_P (dC, dI) CL [(g, .inr (0, [.ref ra])), (ra, .inl (cI, 31, .inl row)), (v, .inr (4, [.ref w, .int dec, .int bel, .long ah, .long bh])), (w, .inr (2, [.ref wa, .int n])), (wa, .inl (cC, 60, .inl f))] s.heap := hP
  have hl := lv_entry ([.ref g, .ref v]) (n := 5) (Nat.le_of_ble_eq_true rfl)
  rw [lg_entry_eq]
  generalize (lg_sl ([.ref g, .ref v]) ++ List.replicate (5 - (lg_sl ([.ref g, .ref v])).length) Slot.unset).toArray = ls at hl ⊢
  have hl : lv_has ls 5 [(0, .ref g), (1, .ref v)] := hl
  refine k_Q (fun Q hQ => ?_)
  refine lv_aload_n hx hb d_Dg_load_0 rfl (lv_at hl 1 rfl) ?_
  refine va_getN (D := (dC, dI)) (ci := 4) (v := .long bh) (C := R_Va) (T := F_Va) (N := 5) hx hb hT (in_Va) hown hK hP 2 rfl rfl 4 (by decide) (va_Nw.use rfl (kN_58 hN)) (fun _ h9 => h9) rfl d_Dg_load_1 ?_
  refine lv_lstore_n (lv' := [(2, .long bh), (0, .ref g), (1, .ref v)]) hx hb d_Dg_load_4 rfl hl (by decide) rfl (fun ls hl => ?_)
  refine lv_bipush (v := 30) hx hb d_Dg_load_5 (by decide) ?_
  refine lv_istore (lv' := [(4, .int 30), (2, .long bh), (0, .ref g), (1, .ref v)]) hx hb d_Dg_load_7 hl (by decide) rfl (fun ls hl => ?_)
  have loop9 : ∀ (fuel : Nat) (i : Int32) (y9 : Int64) (r1 : Nat → Int32) (H : Heap) (locs : List Loc) (ls : Array Slot), ((i.toInt - 19 + 1).toNat < fuel) → (i.toInt ≤ 30) → (dgLoad 19 fuel i y9 r1 = dgLoad 19 13 30 bh row) → va_P (dC, dI) CL [(g, .inr (0, [.ref ra])), (ra, .inl (cI, 31, .inl r1)), (v, .inr (4, [.ref w, .int dec, .int bel, .long ah, .long bh])), (w, .inr (2, [.ref wa, .int n])), (wa, .inl (cC, 60, .inl f))] H → va_D A [(g, .inr (0, [.ref ra])), (ra, .inl (cI, 31, .inl r1)), (v, .inr (4, [.ref w, .int dec, .int bel, .long ah, .long bh])), (w, .inr (2, [.ref wa, .int n])), (wa, .inl (cC, 60, .inl f))] → va_S A s.heap H locs → lv_has ls 5 [(4, .int i), (2, .long y9), (0, .ref g), (1, .ref v)] → W p l e (headSpec w_Dg_load ({ frames := 0, cells := 0, slots := 0, locals := 0 } : Room)).room s m ([.ref g, .ref v] : List Value).toArray below meth c H locs 0 0 Q (F0 m 9 ls []) := by
    intro fuel
    induction fuel with
    | zero =>
      intro i y9 r1 H locs ls hk hi hG hP hD hS hl
      exact absurd hk (Nat.not_lt_zero _)
    | succ fuel ih =>
      intro i y9 r1 H locs ls hk hi hG hP hD hS hl
      refine lv_iload hx hb d_Dg_load_9 (lv_at hl 0 rfl) ?_
      refine lv_bipush (v := 19) hx hb d_Dg_load_11 (by decide) ?_
      refine lv_icmp_lt (tgt := 41) hx hb d_Dg_load_13 (by decide) (fun c13_1 => ?_) (fun c13_1 => ?_)
      · skip
        have hE1 : r1 = dgLoad 19 13 30 bh row := by have h9 := hG; rw [dgLoad, if_pos c13_1] at h9; exact h9
        refine lv_aload_n hx hb d_Dg_load_41 rfl (lv_at hl 3 rfl) ?_
        refine va_getN (D := (dC, dI)) (ci := 4) (v := .long ah) (C := R_Va) (T := F_Va) (N := 5) hx hb hT (in_Va) hown hK hP 2 rfl rfl 3 (by decide) (va_Nw.use rfl (kN_55 hN)) (fun _ h9 => h9) rfl d_Dg_load_42 ?_
        refine lv_lstore_n (lv' := [(2, .long ah), (4, .int i), (0, .ref g), (1, .ref v)]) hx hb d_Dg_load_45 rfl hl (by decide) rfl (fun ls hl => ?_)
        refine lv_bipush (v := 18) hx hb d_Dg_load_46 (by decide) ?_
        refine lv_istore (lv' := [(4, .int 18), (2, .long ah), (0, .ref g), (1, .ref v)]) hx hb d_Dg_load_48 hl (by decide) rfl (fun ls hl => ?_)
        have loop50 : ∀ (fuel : Nat) (i : Int32) (y9 : Int64) (r2 : Nat → Int32) (H : Heap) (locs : List Loc) (ls : Array Slot), ((i.toInt - 0 + 1).toNat < fuel) → (i.toInt ≤ 30) → (dgLoad 0 fuel i y9 r2 = dgLoad 0 20 18 ah r1) → va_P (dC, dI) CL [(g, .inr (0, [.ref ra])), (ra, .inl (cI, 31, .inl r2)), (v, .inr (4, [.ref w, .int dec, .int bel, .long ah, .long bh])), (w, .inr (2, [.ref wa, .int n])), (wa, .inl (cC, 60, .inl f))] H → va_D A [(g, .inr (0, [.ref ra])), (ra, .inl (cI, 31, .inl r2)), (v, .inr (4, [.ref w, .int dec, .int bel, .long ah, .long bh])), (w, .inr (2, [.ref wa, .int n])), (wa, .inl (cC, 60, .inl f))] → va_S A s.heap H locs → lv_has ls 5 [(4, .int i), (2, .long y9), (0, .ref g), (1, .ref v)] → W p l e (headSpec w_Dg_load ({ frames := 0, cells := 0, slots := 0, locals := 0 } : Room)).room s m ([.ref g, .ref v] : List Value).toArray below meth c H locs 0 0 Q (F0 m 50 ls []) := by
          intro fuel
          induction fuel with
          | zero =>
            intro i y9 r2 H locs ls hk hi hG hP hD hS hl
            exact absurd hk (Nat.not_lt_zero _)
          | succ fuel ih =>
            intro i y9 r2 H locs ls hk hi hG hP hD hS hl
            refine lv_iload hx hb d_Dg_load_50 (lv_at hl 0 rfl) ?_
            refine lv_if_lt (tgt := 80) hx hb d_Dg_load_52 (by decide) (fun c52_2 => ?_) (fun c52_2 => ?_)
            · skip
              have hP9 := hP.sub (ws' := [(g, .inr (0, [.ref ra])), (ra, .inl (cI, 31, .inl r2)), (v, .inr (4, [.ref w, .int dec, .int bel, .long ah, .long bh])), (w, .inr (2, [.ref wa, .int n])), (wa, .inl (cC, 60, .inl f))]) [0, 1, 2, 3, 4] rfl
              have hD9 := hD.sub (ws' := [(g, .inr (0, [.ref ra])), (ra, .inl (cI, 31, .inl r2)), (v, .inr (4, [.ref w, .int dec, .int bel, .long ah, .long bh])), (w, .inr (2, [.ref wa, .int n])), (wa, .inl (cC, 60, .inl f))]) [0, 1, 2, 3, 4] (by decide) rfl
              have hK9 := hK.sub (tys' := [(cI, .int), (cC, .char)]) [0, 1] rfl
              have hq9 : r2 = dgLd bh ah row := by have h9 := hG; rw [dgLoad, if_pos c52_2] at h9; rw [dgLd, ← hE1]; exact h9
              subst hQ
              exact W.vret hx hb hr (fun t ht hW => ⟨⟨r2, rfl, hq9, by rw [ht]; exact hP9, va_K.moved hW.alike hK9, hD9⟩, hS.F ht⟩) hS.2.2 d_Dg_load_80
            · skip
              refine lv_aload_n hx hb d_Dg_load_55 rfl (lv_at hl 2 rfl) ?_
              refine va_get (D := (dC, dI)) (ci := 0) (v := .ref ra) (C := R_Dg) (T := F_Dg) (N := 1) hx hb hT (in_Dg) hown hK hP 0 rfl rfl 0 (by decide) (hT _ t_136) (fun _ h9 => h9) rfl d_Dg_load_56 ?_
              refine lv_iload hx hb d_Dg_load_59 (lv_at hl 0 rfl) ?_
              refine lv_lload_n hx hb d_Dg_load_61 rfl (lv_at hl 1 rfl) ?_
              refine lv_ldc2 (v := 10) hx hb hown (hT _ t_520) d_Dg_load_62 ?_
              refine lv_lrem hx hb d_Dg_load_65 (by decide) ?_
              refine lv_topl (fun x3 ex3 => ?_)
              refine lv_l2i (v := x3.toInt32) hx hb d_Dg_load_66 rfl ?_
              refine lv_topi (fun x4 ex4 => ?_)
              refine va_iast hx hb hK hP hD hS 1 0 rfl rfl (vp_in_iff.mpr ⟨by have q0 := c52_2; simp only [k_lt, k_le, l_0, l_1, l_2, l_12, l_18, l_19, l_30, l_31, l_64] at q0; omega, by omega⟩) d_Dg_load_67 (fun H locs hP hD hS => ?_)
              have hP : va_P (dC, dI) CL [(g, .inr (0, [.ref ra])), (ra, .inl (cI, 31, .inl (upd r2 i.toNatClampNeg x4))), (v, .inr (4, [.ref w, .int dec, .int bel, .long ah, .long bh])), (w, .inr (2, [.ref wa, .int n])), (wa, .inl (cC, 60, .inl f))] H := hP
              have hD : va_D A [(g, .inr (0, [.ref ra])), (ra, .inl (cI, 31, .inl (upd r2 i.toNatClampNeg x4))), (v, .inr (4, [.ref w, .int dec, .int bel, .long ah, .long bh])), (w, .inr (2, [.ref wa, .int n])), (wa, .inl (cC, 60, .inl f))] := hD
              refine lv_lload_n hx hb d_Dg_load_68 rfl (lv_at hl 1 rfl) ?_
              refine lv_ldc2 (v := 10) hx hb hown (hT _ t_520) d_Dg_load_69 ?_
              refine lv_ldiv hx hb d_Dg_load_72 (by decide) ?_
              refine lv_topl (fun x5 ex5 => ?_)
              refine lv_lstore_n (lv' := [(2, .long x5), (4, .int i), (0, .ref g), (1, .ref v)]) hx hb d_Dg_load_73 rfl hl (by decide) rfl (fun ls hl => ?_)
              obtain ⟨x6, ex6⟩ : ∃ y : Int32, y = i + (-1) := ⟨_, rfl⟩
              refine lv_iinc (v := x6) (lv' := [(4, .int x6), (2, .long x5), (0, .ref g), (1, .ref v)]) hx hb d_Dg_load_74 hl (k := 1) rfl (by rw [ex6]; rfl) (by decide) rfl (fun ls hl => ?_)
              refine lv_goto (tgt := 50) hx hb d_Dg_load_77 (by decide) ?_
              exact ih x6 x5 (upd r2 i.toNatClampNeg x4) _ _ _ (by rw [ex6, k_decm (by have q0 := c52_2; simp only [k_lt, k_le, l_0, l_1, l_2, l_12, l_18, l_19, l_30, l_31, l_64] at q0; omega)]; have q0 := c52_2; simp only [k_lt, k_le, l_0, l_1, l_2, l_12, l_18, l_19, l_30, l_31, l_64] at q0; omega) (by rw [ex6, k_decm (by have q0 := c52_2; simp only [k_lt, k_le, l_0, l_1, l_2, l_12, l_18, l_19, l_30, l_31, l_64] at q0; omega)]; omega) (by have h9 := hG; rw [dgLoad, if_neg c52_2] at h9; subst ex3 ex4 ex5 ex6; exact h9) (hP.sub [0, 1, 2, 3, 4] rfl) (hD.sub [0, 1, 2, 3, 4] (by decide) rfl) hS (lv_sub hl [0, 1, 2, 3] rfl)
        exact loop50 20 18 ah r1 _ _ _ (by rw [l_18]; decide) (by rw [l_18]; decide) (rfl) hP hD hS (lv_sub hl [0, 1, 2, 3] rfl)
      · skip
        refine lv_aload_n hx hb d_Dg_load_16 rfl (lv_at hl 2 rfl) ?_
        refine va_get (D := (dC, dI)) (ci := 0) (v := .ref ra) (C := R_Dg) (T := F_Dg) (N := 1) hx hb hT (in_Dg) hown hK hP 0 rfl rfl 0 (by decide) (hT _ t_136) (fun _ h9 => h9) rfl d_Dg_load_17 ?_
        refine lv_iload hx hb d_Dg_load_20 (lv_at hl 0 rfl) ?_
        refine lv_lload_n hx hb d_Dg_load_22 rfl (lv_at hl 1 rfl) ?_
        refine lv_ldc2 (v := 10) hx hb hown (hT _ t_520) d_Dg_load_23 ?_
        refine lv_lrem hx hb d_Dg_load_26 (by decide) ?_
        refine lv_topl (fun x7 ex7 => ?_)
        refine lv_l2i (v := x7.toInt32) hx hb d_Dg_load_27 rfl ?_
        refine lv_topi (fun x8 ex8 => ?_)
        refine va_iast hx hb hK hP hD hS 1 0 rfl rfl (vp_in_iff.mpr ⟨by have q0 := c13_1; simp only [k_lt, k_le, l_0, l_1, l_2, l_12, l_18, l_19, l_30, l_31, l_64] at q0; omega, by omega⟩) d_Dg_load_28 (fun H locs hP hD hS => ?_)
        have hP : va_P (dC, dI) CL [(g, .inr (0, [.ref ra])), (ra, .inl (cI, 31, .inl (upd r1 i.toNatClampNeg x8))), (v, .inr (4, [.ref w, .int dec, .int bel, .long ah, .long bh])), (w, .inr (2, [.ref wa, .int n])), (wa, .inl (cC, 60, .inl f))] H := hP
        have hD : va_D A [(g, .inr (0, [.ref ra])), (ra, .inl (cI, 31, .inl (upd r1 i.toNatClampNeg x8))), (v, .inr (4, [.ref w, .int dec, .int bel, .long ah, .long bh])), (w, .inr (2, [.ref wa, .int n])), (wa, .inl (cC, 60, .inl f))] := hD
        refine lv_lload_n hx hb d_Dg_load_29 rfl (lv_at hl 1 rfl) ?_
        refine lv_ldc2 (v := 10) hx hb hown (hT _ t_520) d_Dg_load_30 ?_
        refine lv_ldiv hx hb d_Dg_load_33 (by decide) ?_
        refine lv_topl (fun x9 ex9 => ?_)
        refine lv_lstore_n (lv' := [(2, .long x9), (4, .int i), (0, .ref g), (1, .ref v)]) hx hb d_Dg_load_34 rfl hl (by decide) rfl (fun ls hl => ?_)
        obtain ⟨x10, ex10⟩ : ∃ y : Int32, y = i + (-1) := ⟨_, rfl⟩
        refine lv_iinc (v := x10) (lv' := [(4, .int x10), (2, .long x9), (0, .ref g), (1, .ref v)]) hx hb d_Dg_load_35 hl (k := 1) rfl (by rw [ex10]; rfl) (by decide) rfl (fun ls hl => ?_)
        refine lv_goto (tgt := 9) hx hb d_Dg_load_38 (by decide) ?_
        exact ih x10 x9 (upd r1 i.toNatClampNeg x8) _ _ _ (by rw [ex10, k_decm (by have q0 := c13_1; simp only [k_lt, k_le, l_0, l_1, l_2, l_12, l_18, l_19, l_30, l_31, l_64] at q0; omega)]; have q0 := c13_1; simp only [k_lt, k_le, l_0, l_1, l_2, l_12, l_18, l_19, l_30, l_31, l_64] at q0; omega) (by rw [ex10, k_decm (by have q0 := c13_1; simp only [k_lt, k_le, l_0, l_1, l_2, l_12, l_18, l_19, l_30, l_31, l_64] at q0; omega)]; omega) (by have h9 := hG; rw [dgLoad, if_neg c13_1] at h9; subst ex7 ex8 ex9 ex10; exact h9) (hP.sub [0, 1, 2, 3, 4] rfl) (hD.sub [0, 1, 2, 3, 4] (by decide) rfl) hS (lv_sub hl [0, 1, 2, 3] rfl)
  exact loop9 13 30 bh row _ _ _ (by rw [l_30]; decide) (by rw [l_30]; decide) (rfl) hP hD hS (lv_sub hl [0, 1, 2, 3] rfl)

set_option maxHeartbeats 4000000 in
set_option maxRecDepth 100000 in
theorem c_Digits_first (l : Launch) (dC : Nat → ClassId) (dI : Nat → Nat → Nat) (sz : Nat) (cI : ClassId) (g : Nat) (ra : Nat) (row : Nat → Int32)  : Met l y_Dg_first w_Dg_first ({ frames := 0, cells := 0, slots := 0, locals := 0 } : Room) (va_Pc [.ref g] (fun U => U.heap.size = sz ∧ va_P (dC, dI) CL [(g, .inr (0, [.ref ra])), (ra, .inl (cI, 31, .inl row))] U.heap ∧ va_K (dC, dI) CL [(cI, .int)] U ∧ va_D (fun _ => True) [(g, .inr (0, [.ref ra])), (ra, .inl (cI, 31, .inl row))])) (va_Qi (fun (r : Int32) (u : Unit) => r = dgFst row) (fun (u : Unit) (t : State) => va_P (dC, dI) CL [(g, .inr (0, [.ref ra])), (ra, .inl (cI, 31, .inl row))] t.heap ∧ va_K (dC, dI) CL [(cI, .int)] t ∧ va_D (va_A [(g, .inr (0, [.ref ra])), (ra, .inl (cI, 31, .inl row))] sz) [(g, .inr (0, [.ref ra])), (ra, .inl (cI, 31, .inl row))]) (va_A [(g, .inr (0, [.ref ra])), (ra, .inl (cI, 31, .inl row))] sz)) 0 0 (va_A [(g, .inr (0, [.ref ra])), (ra, .inl (cI, 31, .inl row))] sz) := by
  refine Met.ofW (cc := b_Dg_first) (maxL := 2) (ret := (some .int)) (by decide) rfl ?_
  intro p e s m args below meth c s₁ B hml hv
  obtain ⟨rfl, hsz, hP, hK, hD0⟩ := hv
  have hx := B.exec
  have hb := B.bytes
  have hr := B.returns
  have hts := atoms_spec (ws := w_Dg_first) B.pre
  have hT : ∀ w ∈ TB, w.before _ s = true := fun w h => hts w (List.mem_cons_of_mem _ h)
  have hown : s.vm.findClass R_Dg = some m.cls := findClass_of_methodNamed B.named
  have hlocks := B.notSynchronized
  subst hsz
  have hD := hD0.self (sz := s.heap.size)
  generalize hAe : va_A [(g, .inr (0, [.ref ra])), (ra, .inl (cI, 31, .inl row))] s.heap.size = A at hD ⊢
  have hA : ∀ q : Nat, s.heap.size ≤ q → A q := fun q h => by rw [← hAe]; exact Or.inr h
  have hS : va_S A s.heap s.heap [] := va_S.rf
  have hP : va_P (dC, dI) CL [(g, .inr (0, [.ref ra])), (ra, .inl (cI, 31, .inl row))] s.heap := hP
  have hl := lv_entry ([.ref g]) (n := 2) (Nat.le_of_ble_eq_true rfl)
  rw [lg_entry_eq]
  generalize (lg_sl ([.ref g]) ++ List.replicate (2 - (lg_sl ([.ref g])).length) Slot.unset).toArray = ls at hl ⊢
  have hl : lv_has ls 2 [(0, .ref g)] := hl
  refine k_Q (fun Q hQ => ?_)
  refine lv_iconst (v := 0) hx hb d_Dg_first_0 (by decide) ?_
  refine lv_istore_n (lv' := [(1, .int 0), (0, .ref g)]) hx hb d_Dg_first_1 rfl hl (by decide) rfl (fun ls hl => ?_)
  have loop2 : ∀ (fuel : Nat) (i : Int32) (H : Heap) (locs : List Loc) (ls : Array Slot), ((31 - i.toInt).toNat < fuel) → (0 ≤ i.toInt) → (dgFirst row fuel i = dgFst row) → va_P (dC, dI) CL [(g, .inr (0, [.ref ra])), (ra, .inl (cI, 31, .inl row))] H → va_D A [(g, .inr (0, [.ref ra])), (ra, .inl (cI, 31, .inl row))] → va_S A s.heap H locs → lv_has ls 2 [(1, .int i), (0, .ref g)] → W p l e (headSpec w_Dg_first ({ frames := 0, cells := 0, slots := 0, locals := 0 } : Room)).room s m ([.ref g] : List Value).toArray below meth c H locs 0 0 Q (F0 m 2 ls []) := by
    intro fuel
    induction fuel with
    | zero =>
      intro i H locs ls hk hi hG hP hD hS hl
      exact absurd hk (Nat.not_lt_zero _)
    | succ fuel ih =>
      intro i H locs ls hk hi hG hP hD hS hl
      refine lv_iload_n hx hb d_Dg_first_2 rfl (lv_at hl 0 rfl) ?_
      refine lv_bipush (v := 31) hx hb d_Dg_first_3 (by decide) ?_
      refine lv_icmp_ge (tgt := 25) hx hb d_Dg_first_5 (by decide) (fun c5_1 => ?_) (fun c5_1 => ?_)
      · skip
        refine lv_bipush (v := 18) hx hb d_Dg_first_25 (by decide) ?_
        have hP9 := hP.sub (ws' := [(g, .inr (0, [.ref ra])), (ra, .inl (cI, 31, .inl row))]) [0, 1] rfl
        have hD9 := hD.sub (ws' := [(g, .inr (0, [.ref ra])), (ra, .inl (cI, 31, .inl row))]) [0, 1] (by decide) rfl
        have hK9 := hK.sub (tys' := [(cI, .int)]) [0] rfl
        have hq9 : (18 : Int32) = dgFst row := by have h9 := hG; rw [dgFirst, if_pos c5_1] at h9; exact h9
        subst hQ
        exact W.iret (v := 18) hx hb hr (fun t ht hW => ⟨⟨18, (), rfl, hq9, by rw [ht]; exact hP9, va_K.moved hW.alike hK9, hD9⟩, hS.F ht⟩) hS.2.2 d_Dg_first_27
      · skip
        refine lv_aload_n hx hb d_Dg_first_8 rfl (lv_at hl 1 rfl) ?_
        refine va_get (D := (dC, dI)) (ci := 0) (v := .ref ra) (C := R_Dg) (T := F_Dg) (N := 1) hx hb hT (in_Dg) hown hK hP 0 rfl rfl 0 (by decide) (hT _ t_136) (fun _ h9 => h9) rfl d_Dg_first_9 ?_
        refine lv_iload_n hx hb d_Dg_first_12 rfl (lv_at hl 0 rfl) ?_
        refine va_iald hx hb hK hP 1 0 rfl rfl (vp_in_iff.mpr ⟨hi, by have q0 := c5_1; simp only [k_lt, k_le, l_0, l_1, l_2, l_12, l_18, l_19, l_30, l_31, l_64] at q0; omega⟩) d_Dg_first_13 ?_
        refine lv_topi (fun x2 ex2 => ?_)
        refine lv_if_eq (tgt := 19) hx hb d_Dg_first_14 (by decide) (fun c14_3 => ?_) (fun c14_3 => ?_)
        · skip
          obtain ⟨x4, ex4⟩ : ∃ y : Int32, y = i + 1 := ⟨_, rfl⟩
          refine lv_iinc (v := x4) (lv' := [(1, .int x4), (0, .ref g)]) hx hb d_Dg_first_19 hl (k := 0) rfl (by rw [ex4]; rfl) (by decide) rfl (fun ls hl => ?_)
          refine lv_goto (tgt := 2) hx hb d_Dg_first_22 (by decide) ?_
          exact ih x4 _ _ _ (by rw [ex4, k_inc31 (by have q0 := c5_1; simp only [k_lt, k_le, l_0, l_1, l_2, l_12, l_18, l_19, l_30, l_31, l_64] at q0; omega)]; have q0 := c5_1; simp only [k_lt, k_le, l_0, l_1, l_2, l_12, l_18, l_19, l_30, l_31, l_64] at q0; omega) (by rw [ex4, k_inc31 (by have q0 := c5_1; simp only [k_lt, k_le, l_0, l_1, l_2, l_12, l_18, l_19, l_30, l_31, l_64] at q0; omega)]; omega) (by have h9 := hG; rw [dgFirst, if_neg c5_1, if_pos (by rw [← ex2]; exact c14_3)] at h9; rw [ex4]; exact h9) (hP.sub [0, 1] rfl) (hD.sub [0, 1] (by decide) rfl) hS (lv_sub hl [0, 1] rfl)
        · skip
          refine lv_iload_n hx hb d_Dg_first_17 rfl (lv_at hl 0 rfl) ?_
          have hP9 := hP.sub (ws' := [(g, .inr (0, [.ref ra])), (ra, .inl (cI, 31, .inl row))]) [0, 1] rfl
          have hD9 := hD.sub (ws' := [(g, .inr (0, [.ref ra])), (ra, .inl (cI, 31, .inl row))]) [0, 1] (by decide) rfl
          have hK9 := hK.sub (tys' := [(cI, .int)]) [0] rfl
          have hq9 : i = dgFst row := by have h9 := hG; rw [dgFirst, if_neg c5_1, if_neg (by rw [← ex2]; exact c14_3)] at h9; exact h9
          subst hQ
          exact W.iret (v := i) hx hb hr (fun t ht hW => ⟨⟨i, (), rfl, hq9, by rw [ht]; exact hP9, va_K.moved hW.alike hK9, hD9⟩, hS.F ht⟩) hS.2.2 d_Dg_first_18
  exact loop2 32 0 _ _ _ (by rw [l_0]; decide) (by rw [l_0]; decide) (rfl) hP hD hS (lv_sub hl [0, 1] rfl)

set_option maxHeartbeats 4000000 in
set_option maxRecDepth 100000 in
theorem c_Digits_exponent (l : Launch) (dC : Nat → ClassId) (dI : Nat → Nat → Nat) (sz : Nat) (cI : ClassId) (g : Nat) (ra : Nat) (row : Nat → Int32)  : Met l y_Dg_exponent w_Dg_exponent ({ frames := 1, cells := 0, slots := 0, locals := 21 } : Room) (va_Pc [.ref g] (fun U => U.heap.size = sz ∧ va_P (dC, dI) CL [(g, .inr (0, [.ref ra])), (ra, .inl (cI, 31, .inl row))] U.heap ∧ va_K (dC, dI) CL [(cI, .int)] U ∧ va_D (fun _ => True) [(g, .inr (0, [.ref ra])), (ra, .inl (cI, 31, .inl row))])) (va_Qi (fun (r : Int32) (u : Unit) => r = dgExp row) (fun (u : Unit) (t : State) => va_P (dC, dI) CL [(g, .inr (0, [.ref ra])), (ra, .inl (cI, 31, .inl row))] t.heap ∧ va_K (dC, dI) CL [(cI, .int)] t ∧ va_D (va_A [(g, .inr (0, [.ref ra])), (ra, .inl (cI, 31, .inl row))] sz) [(g, .inr (0, [.ref ra])), (ra, .inl (cI, 31, .inl row))]) (va_A [(g, .inr (0, [.ref ra])), (ra, .inl (cI, 31, .inl row))] sz)) 0 0 (va_A [(g, .inr (0, [.ref ra])), (ra, .inl (cI, 31, .inl row))] sz) := by
  refine Met.ofW (cc := b_Dg_exponent) (maxL := 1) (ret := (some .int)) (by decide) rfl ?_
  intro p e s m args below meth c s₁ B hml hv
  obtain ⟨rfl, hsz, hP, hK, hD0⟩ := hv
  have hx := B.exec
  have hb := B.bytes
  have hr := B.returns
  have hts := atoms_spec (ws := w_Dg_exponent) B.pre
  have hT : ∀ w ∈ TB, w.before _ s = true := fun w h => hts w (List.mem_cons_of_mem _ h)
  have hown : s.vm.findClass R_Dg = some m.cls := findClass_of_methodNamed B.named
  have hlocks := B.notSynchronized
  subst hsz
  have hD := hD0.self (sz := s.heap.size)
  generalize hAe : va_A [(g, .inr (0, [.ref ra])), (ra, .inl (cI, 31, .inl row))] s.heap.size = A at hD ⊢
  have hA : ∀ q : Nat, s.heap.size ≤ q → A q := fun q h => by rw [← hAe]; exact Or.inr h
  have hS : va_S A s.heap s.heap [] := va_S.rf
  have hP : va_P (dC, dI) CL [(g, .inr (0, [.ref ra])), (ra, .inl (cI, 31, .inl row))] s.heap := hP
  have hl := lv_entry ([.ref g]) (n := 1) (Nat.le_of_ble_eq_true rfl)
  rw [lg_entry_eq]
  generalize (lg_sl ([.ref g]) ++ List.replicate (1 - (lg_sl ([.ref g])).length) Slot.unset).toArray = ls at hl ⊢
  have hl : lv_has ls 1 [(0, .ref g)] := hl
  refine lv_bipush (v := 18) hx hb d_Dg_exponent_0 (by decide) ?_
  refine lv_aload_n hx hb d_Dg_exponent_2 rfl (lv_at hl 0 rfl) ?_
  have hPc := hP.sub (ws' := [(g, .inr (0, [.ref ra])), (ra, .inl (cI, 31, .inl row))]) [0, 1] rfl
  have hDc := hD.sub (ws' := [(g, .inr (0, [.ref ra])), (ra, .inl (cI, 31, .inl row))]) [0, 1] (by decide) rfl
  have hKc := hK.sub (tys' := [(cI, .int)]) [0] rfl
  have hFc := va_free (wc := [(g, .inr (0, [.ref ra])), (ra, .inl (cI, 31, .inl row))]) hD hS hA [0, 1] rfl
  refine va_calli (va_runV (As := []) (rest := [.int 18]) ⟨hx, hb, hml, hown, hT⟩ (c_Digits_first l dC dI s.heap.size cI g ra row ) (cwV 0 hT g_Dg_24 rfl rfl rfl (by decide +kernel) ⟨Nat.le_of_ble_eq_true rfl, Nat.le_of_ble_eq_true rfl⟩) ⟨fun a U g mk q => by obtain ⟨q0, q1, qP, qK, qD⟩ := q; exact ⟨q0, q1, qP, va_K.moved (u := U) (U := U.calling g mk a) (Vm.Alike.refl U.vm) qK, qD⟩, va_recv hKc hPc (ci := 0) (q0 := 0) rfl rfl, fun U hU hW => ⟨rfl, by rw [hU], by rw [hU]; exact hPc, va_K.moved hW.alike hKc, hDc.weaken (fun _ _ _ _ => trivial)⟩⟩ rfl rfl hl.1 rfl (lv_room (Nat.le_of_ble_eq_true rfl)) d_Dg_exponent_3 ⟨Nat.le_of_ble_eq_true rfl, Nat.le_of_ble_eq_true rfl⟩) hS (fun q _ h => hFc q h) hFc (fun x1 u t H1 locs ht hvm w3_1 hB hz1 hk1 hS => ?_)
  obtain ⟨hP1, hK1, hD1⟩ := hB
  rw [ht] at hP1
  try dsimp only at w3_1
  obtain ⟨hP, hD⟩ := va_join (wr := []) (w1 := [(g, .inr (0, [.ref ra])), (ra, .inl (cI, 31, .inl row))]) hP hD [0, 1] [] rfl rfl (by decide) (by decide) hk1 hFc hP1 hD1
  generalize H1 = H at hP hS ⊢
  have hP : va_P (dC, dI) CL [(g, .inr (0, [.ref ra])), (ra, .inl (cI, 31, .inl row))] H := hP
  have hD : va_D A [(g, .inr (0, [.ref ra])), (ra, .inl (cI, 31, .inl row))] := hD
  refine lv_isub hx hb d_Dg_exponent_6 ?_
  refine lv_topi (fun x2 ex2 => ?_)
  have hP9 := hP.sub (ws' := [(g, .inr (0, [.ref ra])), (ra, .inl (cI, 31, .inl row))]) [0, 1] rfl
  have hD9 := hD.sub (ws' := [(g, .inr (0, [.ref ra])), (ra, .inl (cI, 31, .inl row))]) [0, 1] (by decide) rfl
  have hK9 := hK.sub (tys' := [(cI, .int)]) [0] rfl
  have hq9 : x2 = dgExp row := by rw [dgExp, ← w3_1]; exact ex2
  exact W.iret (v := x2) hx hb hr (fun t ht hW => ⟨⟨x2, (), rfl, hq9, by rw [ht]; exact hP9, va_K.moved hW.alike hK9, hD9⟩, hS.F ht⟩) hS.2.2 d_Dg_exponent_7

set_option maxHeartbeats 4000000 in
set_option maxRecDepth 100000 in
theorem c_Digits_goesUp (l : Launch) (dC : Nat → ClassId) (dI : Nat → Nat → Nat) (sz : Nat) (cI : ClassId) (g : Nat) (ra : Nat) (row : Nat → Int32) (kept : Int32) (hka : 1 ≤ kept.toInt) (hkb : kept.toInt < 31) : Met l y_Dg_goesUp w_Dg_goesUp ({ frames := 0, cells := 0, slots := 0, locals := 0 } : Room) (va_Pc [.ref g, .int kept] (fun U => U.heap.size = sz ∧ va_P (dC, dI) CL [(g, .inr (0, [.ref ra])), (ra, .inl (cI, 31, .inl row))] U.heap ∧ va_K (dC, dI) CL [(cI, .int)] U ∧ va_D (fun _ => True) [(g, .inr (0, [.ref ra])), (ra, .inl (cI, 31, .inl row))])) (va_Qi (fun (r : Int32) (u : Unit) => r = k_b (dgUp row kept)) (fun (u : Unit) (t : State) => va_P (dC, dI) CL [(g, .inr (0, [.ref ra])), (ra, .inl (cI, 31, .inl row))] t.heap ∧ va_K (dC, dI) CL [(cI, .int)] t ∧ va_D (va_A [(g, .inr (0, [.ref ra])), (ra, .inl (cI, 31, .inl row))] sz) [(g, .inr (0, [.ref ra])), (ra, .inl (cI, 31, .inl row))]) (va_A [(g, .inr (0, [.ref ra])), (ra, .inl (cI, 31, .inl row))] sz)) 0 0 (va_A [(g, .inr (0, [.ref ra])), (ra, .inl (cI, 31, .inl row))] sz) := by
  refine Met.ofW (cc := b_Dg_goesUp) (maxL := 3) (ret := (some .boolean)) (by decide) rfl ?_
  intro p e s m args below meth c s₁ B hml hv
  obtain ⟨rfl, hsz, hP, hK, hD0⟩ := hv
  have hx := B.exec
  have hb := B.bytes
  have hr := B.returns
  have hts := atoms_spec (ws := w_Dg_goesUp) B.pre
  have hT : ∀ w ∈ TB, w.before _ s = true := fun w h => hts w (List.mem_cons_of_mem _ h)
  have hown : s.vm.findClass R_Dg = some m.cls := findClass_of_methodNamed B.named
  have hlocks := B.notSynchronized
  subst hsz
  have hD := hD0.self (sz := s.heap.size)
  generalize hAe : va_A [(g, .inr (0, [.ref ra])), (ra, .inl (cI, 31, .inl row))] s.heap.size = A at hD ⊢
  have hA : ∀ q : Nat, s.heap.size ≤ q → A q := fun q h => by rw [← hAe]; exact Or.inr h
  have hS : va_S A s.heap s.heap [] := va_S.rf
  have hP : va_P (dC, dI) CL [(g, .inr (0, [.ref ra])), (ra, .inl (cI, 31, .inl row))] s.heap := hP
  have hl := lv_entry ([.ref g, .int kept]) (n := 3) (Nat.le_of_ble_eq_true rfl)
  rw [lg_entry_eq]
  generalize (lg_sl ([.ref g, .int kept]) ++ List.replicate (3 - (lg_sl ([.ref g, .int kept])).length) Slot.unset).toArray = ls at hl ⊢
  have hl : lv_has ls 3 [(0, .ref g), (1, .int kept)] := hl
  refine k_Q (fun Q hQ => ?_)
  refine lv_aload_n hx hb d_Dg_goesUp_0 rfl (lv_at hl 0 rfl) ?_
  refine va_get (D := (dC, dI)) (ci := 0) (v := .ref ra) (C := R_Dg) (T := F_Dg) (N := 1) hx hb hT (in_Dg) hown hK hP 0 rfl rfl 0 (by decide) (hT _ t_136) (fun _ h9 => h9) rfl d_Dg_goesUp_1 ?_
  refine lv_iload_n hx hb d_Dg_goesUp_4 rfl (lv_at hl 1 rfl) ?_
  refine va_iald hx hb hK hP 1 0 rfl rfl (vp_in_iff.mpr ⟨by omega, hkb⟩) d_Dg_goesUp_5 ?_
  refine lv_topi (fun x1 ex1 => ?_)
  refine lv_iconst (v := 5) hx hb d_Dg_goesUp_6 (by decide) ?_
  refine lv_icmp_eq (tgt := 26) hx hb d_Dg_goesUp_7 (by decide) (fun c7_2 => ?_) (fun c7_2 => ?_)
  · skip
    have h5 : row kept.toNatClampNeg = 5 := by rw [← ex1]; exact c7_2
    refine lv_iload_n hx hb d_Dg_goesUp_26 rfl (lv_at hl 1 rfl) ?_
    refine lv_iconst (v := 1) hx hb d_Dg_goesUp_27 (by decide) ?_
    refine lv_iadd hx hb d_Dg_goesUp_28 ?_
    refine lv_topi (fun x3 ex3 => ?_)
    refine lv_istore_n (lv' := [(2, .int x3), (0, .ref g), (1, .int kept)]) hx hb d_Dg_goesUp_29 rfl hl (by decide) rfl (fun ls hl => ?_)
    have loop30 : ∀ (fuel : Nat) (i : Int32) (H : Heap) (locs : List Loc) (ls : Array Slot), ((31 - i.toInt).toNat < fuel) → (0 ≤ i.toInt) → (dgAny row fuel i = dgAny row 32 (kept + 1)) → va_P (dC, dI) CL [(g, .inr (0, [.ref ra])), (ra, .inl (cI, 31, .inl row))] H → va_D A [(g, .inr (0, [.ref ra])), (ra, .inl (cI, 31, .inl row))] → va_S A s.heap H locs → lv_has ls 3 [(2, .int i), (0, .ref g), (1, .int kept)] → W p l e (headSpec w_Dg_goesUp ({ frames := 0, cells := 0, slots := 0, locals := 0 } : Room)).room s m ([.ref g, .int kept] : List Value).toArray below meth c H locs 0 0 Q (F0 m 30 ls []) := by
      intro fuel
      induction fuel with
      | zero =>
        intro i H locs ls hk hi hG hP hD hS hl
        exact absurd hk (Nat.not_lt_zero _)
      | succ fuel ih =>
        intro i H locs ls hk hi hG hP hD hS hl
        refine lv_iload_n hx hb d_Dg_goesUp_30 rfl (lv_at hl 0 rfl) ?_
        refine lv_bipush (v := 31) hx hb d_Dg_goesUp_31 (by decide) ?_
        refine lv_icmp_ge (tgt := 53) hx hb d_Dg_goesUp_33 (by decide) (fun c33_4 => ?_) (fun c33_4 => ?_)
        · skip
          refine lv_aload_n hx hb d_Dg_goesUp_53 rfl (lv_at hl 1 rfl) ?_
          refine va_get (D := (dC, dI)) (ci := 0) (v := .ref ra) (C := R_Dg) (T := F_Dg) (N := 1) hx hb hT (in_Dg) hown hK hP 0 rfl rfl 0 (by decide) (hT _ t_136) (fun _ h9 => h9) rfl d_Dg_goesUp_54 ?_
          refine lv_iload_n hx hb d_Dg_goesUp_57 rfl (lv_at hl 2 rfl) ?_
          refine lv_iconst (v := 1) hx hb d_Dg_goesUp_58 (by decide) ?_
          refine lv_isub hx hb d_Dg_goesUp_59 ?_
          refine lv_topi (fun x5 ex5 => ?_)
          refine va_iald hx hb hK hP 1 0 rfl rfl (by rw [ex5]; exact vp_in_iff.mpr ⟨by rw [k_subl hka]; omega, by rw [k_subl hka]; omega⟩) d_Dg_goesUp_60 ?_
          refine lv_topi (fun x6 ex6 => ?_)
          refine lv_iconst (v := 2) hx hb d_Dg_goesUp_61 (by decide) ?_
          refine lv_irem hx hb d_Dg_goesUp_62 (by decide) ?_
          refine lv_topi (fun x7 ex7 => ?_)
          refine lv_iconst (v := 1) hx hb d_Dg_goesUp_63 (by decide) ?_
          refine lv_icmp_ne (tgt := 71) hx hb d_Dg_goesUp_64 (by decide) (fun c64_8 => ?_) (fun c64_8 => ?_)
          · skip
            refine lv_iconst (v := 0) hx hb d_Dg_goesUp_71 (by decide) ?_
            have hP9 := hP.sub (ws' := [(g, .inr (0, [.ref ra])), (ra, .inl (cI, 31, .inl row))]) [0, 1] rfl
            have hD9 := hD.sub (ws' := [(g, .inr (0, [.ref ra])), (ra, .inl (cI, 31, .inl row))]) [0, 1] (by decide) rfl
            have hK9 := hK.sub (tys' := [(cI, .int)]) [0] rfl
            have hq9 : (0 : Int32) = k_b (dgUp row kept) := by have h9 := hG; rw [dgAny, if_pos c33_4] at h9; rw [dgUp, if_pos h5, ← h9]; have h8 := c64_8; subst ex5 ex6 ex7; simp [k_b, h8]
            subst hQ
            exact W.zret (v := 0) hx hb hr rfl (fun t ht hW => ⟨⟨0, (), rfl, hq9, by rw [ht]; exact hP9, va_K.moved hW.alike hK9, hD9⟩, hS.F ht⟩) hS.2.2 d_Dg_goesUp_72
          · skip
            refine lv_iconst (v := 1) hx hb d_Dg_goesUp_67 (by decide) ?_
            refine lv_goto (tgt := 72) hx hb d_Dg_goesUp_68 (by decide) ?_
            have hP9 := hP.sub (ws' := [(g, .inr (0, [.ref ra])), (ra, .inl (cI, 31, .inl row))]) [0, 1] rfl
            have hD9 := hD.sub (ws' := [(g, .inr (0, [.ref ra])), (ra, .inl (cI, 31, .inl row))]) [0, 1] (by decide) rfl
            have hK9 := hK.sub (tys' := [(cI, .int)]) [0] rfl
            have hq9 : (1 : Int32) = k_b (dgUp row kept) := by have h9 := hG; rw [dgAny, if_pos c33_4] at h9; rw [dgUp, if_pos h5, ← h9]; have h8 := c64_8; subst ex5 ex6 ex7; simp [k_b, h8]
            subst hQ
            exact W.zret (v := 1) hx hb hr rfl (fun t ht hW => ⟨⟨1, (), rfl, hq9, by rw [ht]; exact hP9, va_K.moved hW.alike hK9, hD9⟩, hS.F ht⟩) hS.2.2 d_Dg_goesUp_72
        · skip
          refine lv_aload_n hx hb d_Dg_goesUp_36 rfl (lv_at hl 1 rfl) ?_
          refine va_get (D := (dC, dI)) (ci := 0) (v := .ref ra) (C := R_Dg) (T := F_Dg) (N := 1) hx hb hT (in_Dg) hown hK hP 0 rfl rfl 0 (by decide) (hT _ t_136) (fun _ h9 => h9) rfl d_Dg_goesUp_37 ?_
          refine lv_iload_n hx hb d_Dg_goesUp_40 rfl (lv_at hl 0 rfl) ?_
          refine va_iald hx hb hK hP 1 0 rfl rfl (vp_in_iff.mpr ⟨hi, by have q0 := c33_4; simp only [k_lt, k_le, l_0, l_1, l_2, l_12, l_18, l_19, l_30, l_31, l_64] at q0; omega⟩) d_Dg_goesUp_41 ?_
          refine lv_topi (fun x9 ex9 => ?_)
          refine lv_if_eq (tgt := 47) hx hb d_Dg_goesUp_42 (by decide) (fun c42_10 => ?_) (fun c42_10 => ?_)
          · skip
            obtain ⟨x11, ex11⟩ : ∃ y : Int32, y = i + 1 := ⟨_, rfl⟩
            refine lv_iinc (v := x11) (lv' := [(2, .int x11), (0, .ref g), (1, .int kept)]) hx hb d_Dg_goesUp_47 hl (k := 0) rfl (by rw [ex11]; rfl) (by decide) rfl (fun ls hl => ?_)
            refine lv_goto (tgt := 30) hx hb d_Dg_goesUp_50 (by decide) ?_
            exact ih x11 _ _ _ (by rw [ex11, k_inc31 (by have q0 := c33_4; simp only [k_lt, k_le, l_0, l_1, l_2, l_12, l_18, l_19, l_30, l_31, l_64] at q0; omega)]; have q0 := c33_4; simp only [k_lt, k_le, l_0, l_1, l_2, l_12, l_18, l_19, l_30, l_31, l_64] at q0; omega) (by rw [ex11, k_inc31 (by have q0 := c33_4; simp only [k_lt, k_le, l_0, l_1, l_2, l_12, l_18, l_19, l_30, l_31, l_64] at q0; omega)]; omega) (by have h9 := hG; rw [dgAny, if_neg c33_4, if_pos (by rw [← ex9]; exact c42_10)] at h9; rw [ex11]; exact h9) (hP.sub [0, 1] rfl) (hD.sub [0, 1] (by decide) rfl) hS (lv_sub hl [0, 1, 2] rfl)
          · skip
            refine lv_iconst (v := 1) hx hb d_Dg_goesUp_45 (by decide) ?_
            have hP9 := hP.sub (ws' := [(g, .inr (0, [.ref ra])), (ra, .inl (cI, 31, .inl row))]) [0, 1] rfl
            have hD9 := hD.sub (ws' := [(g, .inr (0, [.ref ra])), (ra, .inl (cI, 31, .inl row))]) [0, 1] (by decide) rfl
            have hK9 := hK.sub (tys' := [(cI, .int)]) [0] rfl
            have hq9 : (1 : Int32) = k_b (dgUp row kept) := by have h9 := hG; rw [dgAny, if_neg c33_4, if_neg (by rw [← ex9]; exact c42_10)] at h9; rw [dgUp, if_pos h5, ← h9]; rfl
            subst hQ
            exact W.zret (v := 1) hx hb hr rfl (fun t ht hW => ⟨⟨1, (), rfl, hq9, by rw [ht]; exact hP9, va_K.moved hW.alike hK9, hD9⟩, hS.F ht⟩) hS.2.2 d_Dg_goesUp_46
    exact loop30 32 x3 _ _ _ (by rw [ex3, k_inc31 hkb]; omega) (by rw [ex3, k_inc31 hkb]; omega) (by rw [ex3]) hP hD hS (lv_sub hl [0, 1, 2] rfl)
  · skip
    refine lv_aload_n hx hb d_Dg_goesUp_10 rfl (lv_at hl 0 rfl) ?_
    refine va_get (D := (dC, dI)) (ci := 0) (v := .ref ra) (C := R_Dg) (T := F_Dg) (N := 1) hx hb hT (in_Dg) hown hK hP 0 rfl rfl 0 (by decide) (hT _ t_136) (fun _ h9 => h9) rfl d_Dg_goesUp_11 ?_
    refine lv_iload_n hx hb d_Dg_goesUp_14 rfl (lv_at hl 1 rfl) ?_
    refine va_iald hx hb hK hP 1 0 rfl rfl (vp_in_iff.mpr ⟨by omega, hkb⟩) d_Dg_goesUp_15 ?_
    refine lv_topi (fun x12 ex12 => ?_)
    refine lv_iconst (v := 5) hx hb d_Dg_goesUp_16 (by decide) ?_
    refine lv_icmp_le (tgt := 24) hx hb d_Dg_goesUp_17 (by decide) (fun c17_13 => ?_) (fun c17_13 => ?_)
    · skip
      refine lv_iconst (v := 0) hx hb d_Dg_goesUp_24 (by decide) ?_
      have hP9 := hP.sub (ws' := [(g, .inr (0, [.ref ra])), (ra, .inl (cI, 31, .inl row))]) [0, 1] rfl
      have hD9 := hD.sub (ws' := [(g, .inr (0, [.ref ra])), (ra, .inl (cI, 31, .inl row))]) [0, 1] (by decide) rfl
      have hK9 := hK.sub (tys' := [(cI, .int)]) [0] rfl
      have hq9 : (0 : Int32) = k_b (dgUp row kept) := by rw [dgUp, if_neg (by rw [← ex1]; exact c7_2), ← ex12]; simp [k_b, c17_13]
      subst hQ
      exact W.zret (v := 0) hx hb hr rfl (fun t ht hW => ⟨⟨0, (), rfl, hq9, by rw [ht]; exact hP9, va_K.moved hW.alike hK9, hD9⟩, hS.F ht⟩) hS.2.2 d_Dg_goesUp_25
    · skip
      refine lv_iconst (v := 1) hx hb d_Dg_goesUp_20 (by decide) ?_
      refine lv_goto (tgt := 25) hx hb d_Dg_goesUp_21 (by decide) ?_
      have hP9 := hP.sub (ws' := [(g, .inr (0, [.ref ra])), (ra, .inl (cI, 31, .inl row))]) [0, 1] rfl
      have hD9 := hD.sub (ws' := [(g, .inr (0, [.ref ra])), (ra, .inl (cI, 31, .inl row))]) [0, 1] (by decide) rfl
      have hK9 := hK.sub (tys' := [(cI, .int)]) [0] rfl
      have hq9 : (1 : Int32) = k_b (dgUp row kept) := by rw [dgUp, if_neg (by rw [← ex1]; exact c7_2), ← ex12]; simp [k_b, c17_13]
      subst hQ
      exact W.zret (v := 1) hx hb hr rfl (fun t ht hW => ⟨⟨1, (), rfl, hq9, by rw [ht]; exact hP9, va_K.moved hW.alike hK9, hD9⟩, hS.F ht⟩) hS.2.2 d_Dg_goesUp_25

set_option maxHeartbeats 4000000 in
set_option maxRecDepth 100000 in
theorem c_Digits_round (l : Launch) (dC : Nat → ClassId) (dI : Nat → Nat → Nat) (sz : Nat) (cI : ClassId) (g : Nat) (ra : Nat) (row : Nat → Int32) (kept : Int32)  : Met l y_Dg_round w_Dg_round ({ frames := 1, cells := 0, slots := 0, locals := 22 } : Room) (va_Pc [.ref g, .int kept] (fun U => U.heap.size = sz ∧ va_P (dC, dI) CL [(g, .inr (0, [.ref ra])), (ra, .inl (cI, 31, .inl row))] U.heap ∧ va_K (dC, dI) CL [(cI, .int)] U ∧ va_D (fun _ => True) [(g, .inr (0, [.ref ra])), (ra, .inl (cI, 31, .inl row))])) (va_Qv (fun (row2 : (Nat → Int32)) => row2 = dgRound row kept) (fun (row2 : (Nat → Int32)) (t : State) => va_P (dC, dI) CL [(g, .inr (0, [.ref ra])), (ra, .inl (cI, 31, .inl row2))] t.heap ∧ va_K (dC, dI) CL [(cI, .int)] t ∧ va_D (va_A [(g, .inr (0, [.ref ra])), (ra, .inl (cI, 31, .inl row))] sz) [(g, .inr (0, [.ref ra])), (ra, .inl (cI, 31, .inl row2))]) (va_A [(g, .inr (0, [.ref ra])), (ra, .inl (cI, 31, .inl row))] sz)) 0 0 (va_A [(g, .inr (0, [.ref ra])), (ra, .inl (cI, 31, .inl row))] sz) := by
  refine Met.ofW (cc := b_Dg_round) (maxL := 4) (ret := none) (by decide) rfl ?_
  intro p e s m args below meth c s₁ B hml hv
  obtain ⟨rfl, hsz, hP, hK, hD0⟩ := hv
  have hx := B.exec
  have hb := B.bytes
  have hr := B.returns
  have hts := atoms_spec (ws := w_Dg_round) B.pre
  have hT : ∀ w ∈ TB, w.before _ s = true := fun w h => hts w (List.mem_cons_of_mem _ h)
  have hown : s.vm.findClass R_Dg = some m.cls := findClass_of_methodNamed B.named
  have hlocks := B.notSynchronized
  subst hsz
  have hD := hD0.self (sz := s.heap.size)
  generalize hAe : va_A [(g, .inr (0, [.ref ra])), (ra, .inl (cI, 31, .inl row))] s.heap.size = A at hD ⊢
  have hA : ∀ q : Nat, s.heap.size ≤ q → A q := fun q h => by rw [← hAe]; exact Or.inr h
  have hS : va_S A s.heap s.heap [] := va_S.rf
  have hP : va_P (dC, dI) CL [(g, .inr (0, [.ref ra])), (ra, .inl (cI, 31, .inl row))] s.heap := hP
  have hl := lv_entry ([.ref g, .int kept]) (n := 4) (Nat.le_of_ble_eq_true rfl)
  rw [lg_entry_eq]
  generalize (lg_sl ([.ref g, .int kept]) ++ List.replicate (4 - (lg_sl ([.ref g, .int kept])).length) Slot.unset).toArray = ls at hl ⊢
  have hl : lv_has ls 4 [(0, .ref g), (1, .int kept)] := hl
  refine k_Q (fun Q hQ => ?_)
  refine lv_iload_n hx hb d_Dg_round_0 rfl (lv_at hl 1 rfl) ?_
  refine lv_iconst (v := 1) hx hb d_Dg_round_1 (by decide) ?_
  refine lv_icmp_lt (tgt := 11) hx hb d_Dg_round_2 (by decide) (fun c2_1 => ?_) (fun c2_1 => ?_)
  · skip
    have hP9 := hP.sub (ws' := [(g, .inr (0, [.ref ra])), (ra, .inl (cI, 31, .inl row))]) [0, 1] rfl
    have hD9 := hD.sub (ws' := [(g, .inr (0, [.ref ra])), (ra, .inl (cI, 31, .inl row))]) [0, 1] (by decide) rfl
    have hK9 := hK.sub (tys' := [(cI, .int)]) [0] rfl
    have hq9 : row = dgRound row kept := by rw [dgRound]; simp [c2_1]
    subst hQ
    exact W.vret hx hb hr (fun t ht hW => ⟨⟨row, rfl, hq9, by rw [ht]; exact hP9, va_K.moved hW.alike hK9, hD9⟩, hS.F ht⟩) hS.2.2 d_Dg_round_11
  · skip
    refine lv_iload_n hx hb d_Dg_round_5 rfl (lv_at hl 1 rfl) ?_
    refine lv_bipush (v := 31) hx hb d_Dg_round_6 (by decide) ?_
    refine lv_icmp_lt (tgt := 12) hx hb d_Dg_round_8 (by decide) (fun c8_2 => ?_) (fun c8_2 => ?_)
    · skip
      have hka : 1 ≤ kept.toInt := by have q0 := c2_1; simp only [k_lt, k_le, l_0, l_1, l_2, l_12, l_18, l_19, l_30, l_31, l_64] at q0; omega
      have hkb : kept.toInt < 31 := by have q0 := c8_2; simp only [k_lt, k_le, l_0, l_1, l_2, l_12, l_18, l_19, l_30, l_31, l_64] at q0; omega
      have hDd : dgRound row kept = dgCar 32 (kept - 1) (k_b (dgUp row kept)) (dgClr 32 kept row) := by rw [dgRound]; simp [c2_1, c8_2]
      refine lv_aload_n hx hb d_Dg_round_12 rfl (lv_at hl 0 rfl) ?_
      refine lv_iload_n hx hb d_Dg_round_13 rfl (lv_at hl 1 rfl) ?_
      have hPc := hP.sub (ws' := [(g, .inr (0, [.ref ra])), (ra, .inl (cI, 31, .inl row))]) [0, 1] rfl
      have hDc := hD.sub (ws' := [(g, .inr (0, [.ref ra])), (ra, .inl (cI, 31, .inl row))]) [0, 1] (by decide) rfl
      have hKc := hK.sub (tys' := [(cI, .int)]) [0] rfl
      have hFc := va_free (wc := [(g, .inr (0, [.ref ra])), (ra, .inl (cI, 31, .inl row))]) hD hS hA [0, 1] rfl
      refine va_calli (va_runV (As := [.int kept]) (rest := []) ⟨hx, hb, hml, hown, hT⟩ (c_Digits_goesUp l dC dI s.heap.size cI g ra row kept hka hkb) (cwV 1 hT g_Dg_28 rfl rfl rfl (by decide +kernel) ⟨Nat.le_of_ble_eq_true rfl, Nat.le_of_ble_eq_true rfl⟩) ⟨fun a U g mk q => by obtain ⟨q0, q1, qP, qK, qD⟩ := q; exact ⟨q0, q1, qP, va_K.moved (u := U) (U := U.calling g mk a) (Vm.Alike.refl U.vm) qK, qD⟩, va_recv hKc hPc (ci := 0) (q0 := 0) rfl rfl, fun U hU hW => ⟨rfl, by rw [hU], by rw [hU]; exact hPc, va_K.moved hW.alike hKc, hDc.weaken (fun _ _ _ _ => trivial)⟩⟩ rfl rfl hl.1 rfl (lv_room (Nat.le_of_ble_eq_true rfl)) d_Dg_round_14 ⟨Nat.le_of_ble_eq_true rfl, Nat.le_of_ble_eq_true rfl⟩) hS (fun q _ h => hFc q h) hFc (fun x3 u t H1 locs ht hvm w14_3 hB hz1 hk1 hS => ?_)
      obtain ⟨hP1, hK1, hD1⟩ := hB
      rw [ht] at hP1
      try dsimp only at w14_3
      obtain ⟨hP, hD⟩ := va_join (wr := []) (w1 := [(g, .inr (0, [.ref ra])), (ra, .inl (cI, 31, .inl row))]) hP hD [0, 1] [] rfl rfl (by decide) (by decide) hk1 hFc hP1 hD1
      generalize H1 = H at hP hS ⊢
      have hP : va_P (dC, dI) CL [(g, .inr (0, [.ref ra])), (ra, .inl (cI, 31, .inl row))] H := hP
      have hD : va_D A [(g, .inr (0, [.ref ra])), (ra, .inl (cI, 31, .inl row))] := hD
      refine lv_istore_n (lv' := [(2, .int x3), (0, .ref g), (1, .int kept)]) hx hb d_Dg_round_17 rfl hl (by decide) rfl (fun ls hl => ?_)
      refine lv_iload_n hx hb d_Dg_round_18 rfl (lv_at hl 2 rfl) ?_
      refine lv_istore_n (lv' := [(3, .int kept), (2, .int x3), (0, .ref g), (1, .int kept)]) hx hb d_Dg_round_19 rfl hl (by decide) rfl (fun ls hl => ?_)
      have loop20 : ∀ (fuel : Nat) (i : Int32) (r1 : Nat → Int32) (H : Heap) (locs : List Loc) (ls : Array Slot), ((31 - i.toInt).toNat < fuel) → (0 ≤ i.toInt) → (dgClr fuel i r1 = dgClr 32 kept row) → va_P (dC, dI) CL [(g, .inr (0, [.ref ra])), (ra, .inl (cI, 31, .inl r1))] H → va_D A [(g, .inr (0, [.ref ra])), (ra, .inl (cI, 31, .inl r1))] → va_S A s.heap H locs → lv_has ls 4 [(3, .int i), (2, .int x3), (0, .ref g), (1, .int kept)] → W p l e (headSpec w_Dg_round ({ frames := 1, cells := 0, slots := 0, locals := 22 } : Room)).room s m ([.ref g, .int kept] : List Value).toArray below meth c H locs 0 0 Q (F0 m 20 ls []) := by
        intro fuel
        induction fuel with
        | zero =>
          intro i r1 H locs ls hk hi hG hP hD hS hl
          exact absurd hk (Nat.not_lt_zero _)
        | succ fuel ih =>
          intro i r1 H locs ls hk hi hG hP hD hS hl
          refine lv_iload_n hx hb d_Dg_round_20 rfl (lv_at hl 0 rfl) ?_
          refine lv_bipush (v := 31) hx hb d_Dg_round_21 (by decide) ?_
          refine lv_icmp_ge (tgt := 39) hx hb d_Dg_round_23 (by decide) (fun c23_4 => ?_) (fun c23_4 => ?_)
          · skip
            have hE1 : r1 = dgClr 32 kept row := by have h9 := hG; rw [dgClr, if_pos c23_4] at h9; exact h9
            refine lv_iload_n hx hb d_Dg_round_39 rfl (lv_at hl 3 rfl) ?_
            refine lv_iconst (v := 1) hx hb d_Dg_round_40 (by decide) ?_
            refine lv_isub hx hb d_Dg_round_41 ?_
            refine lv_topi (fun x5 ex5 => ?_)
            refine lv_istore_n (lv' := [(3, .int x5), (2, .int x3), (0, .ref g), (1, .int kept)]) hx hb d_Dg_round_42 rfl hl (by decide) rfl (fun ls hl => ?_)
            have loop43 : ∀ (fuel : Nat) (i : Int32) (up9 : Int32) (r2 : Nat → Int32) (H : Heap) (locs : List Loc) (ls : Array Slot), ((i.toInt + 1).toNat < fuel) → (i.toInt < 31) → (dgCar fuel i up9 r2 = dgRound row kept) → va_P (dC, dI) CL [(g, .inr (0, [.ref ra])), (ra, .inl (cI, 31, .inl r2))] H → va_D A [(g, .inr (0, [.ref ra])), (ra, .inl (cI, 31, .inl r2))] → va_S A s.heap H locs → lv_has ls 4 [(3, .int i), (2, .int up9), (0, .ref g), (1, .int kept)] → W p l e (headSpec w_Dg_round ({ frames := 1, cells := 0, slots := 0, locals := 22 } : Room)).room s m ([.ref g, .int kept] : List Value).toArray below meth c H locs 0 0 Q (F0 m 43 ls []) := by
              intro fuel
              induction fuel with
              | zero =>
                intro i up9 r2 H locs ls hk hi hG hP hD hS hl
                exact absurd hk (Nat.not_lt_zero _)
              | succ fuel ih =>
                intro i up9 r2 H locs ls hk hi hG hP hD hS hl
                refine lv_iload_n hx hb d_Dg_round_43 rfl (lv_at hl 0 rfl) ?_
                refine lv_if_lt (tgt := 96) hx hb d_Dg_round_44 (by decide) (fun c44_6 => ?_) (fun c44_6 => ?_)
                · skip
                  have hP9 := hP.sub (ws' := [(g, .inr (0, [.ref ra])), (ra, .inl (cI, 31, .inl r2))]) [0, 1] rfl
                  have hD9 := hD.sub (ws' := [(g, .inr (0, [.ref ra])), (ra, .inl (cI, 31, .inl r2))]) [0, 1] (by decide) rfl
                  have hK9 := hK.sub (tys' := [(cI, .int)]) [0] rfl
                  have hq9 : r2 = dgRound row kept := by have h9 := hG; rw [dgCar, if_pos c44_6] at h9; exact h9
                  subst hQ
                  exact W.vret hx hb hr (fun t ht hW => ⟨⟨r2, rfl, hq9, by rw [ht]; exact hP9, va_K.moved hW.alike hK9, hD9⟩, hS.F ht⟩) hS.2.2 d_Dg_round_96
                · skip
                  refine lv_iload_n hx hb d_Dg_round_47 rfl (lv_at hl 1 rfl) ?_
                  refine lv_if_eq (tgt := 96) hx hb d_Dg_round_48 (by decide) (fun c48_7 => ?_) (fun c48_7 => ?_)
                  · skip
                    have hP9 := hP.sub (ws' := [(g, .inr (0, [.ref ra])), (ra, .inl (cI, 31, .inl r2))]) [0, 1] rfl
                    have hD9 := hD.sub (ws' := [(g, .inr (0, [.ref ra])), (ra, .inl (cI, 31, .inl r2))]) [0, 1] (by decide) rfl
                    have hK9 := hK.sub (tys' := [(cI, .int)]) [0] rfl
                    have hq9 : r2 = dgRound row kept := by have h9 := hG; rw [dgCar, if_neg c44_6, if_pos c48_7] at h9; exact h9
                    subst hQ
                    exact W.vret hx hb hr (fun t ht hW => ⟨⟨r2, rfl, hq9, by rw [ht]; exact hP9, va_K.moved hW.alike hK9, hD9⟩, hS.F ht⟩) hS.2.2 d_Dg_round_96
                  · skip
                    refine lv_aload_n hx hb d_Dg_round_51 rfl (lv_at hl 2 rfl) ?_
                    refine va_get (D := (dC, dI)) (ci := 0) (v := .ref ra) (C := R_Dg) (T := F_Dg) (N := 1) hx hb hT (in_Dg) hown hK hP 0 rfl rfl 0 (by decide) (hT _ t_136) (fun _ h9 => h9) rfl d_Dg_round_52 ?_
                    refine lv_iload_n hx hb d_Dg_round_55 rfl (lv_at hl 0 rfl) ?_
                    refine va_iald hx hb hK hP 1 0 rfl rfl (vp_in_iff.mpr ⟨by have q0 := c44_6; simp only [k_lt, k_le, l_0, l_1, l_2, l_12, l_18, l_19, l_30, l_31, l_64] at q0; omega, hi⟩) d_Dg_round_56 ?_
                    refine lv_topi (fun x8 ex8 => ?_)
                    refine lv_bipush (v := 9) hx hb d_Dg_round_57 (by decide) ?_
                    refine lv_icmp_ne (tgt := 66) hx hb d_Dg_round_59 (by decide) (fun c59_9 => ?_) (fun c59_9 => ?_)
                    · skip
                      refine lv_iconst (v := 0) hx hb d_Dg_round_66 (by decide) ?_
                      refine lv_istore_n (lv' := [(2, .int 0), (3, .int i), (0, .ref g), (1, .int kept)]) hx hb d_Dg_round_67 rfl hl (by decide) rfl (fun ls hl => ?_)
                      refine lv_aload_n hx hb d_Dg_round_68 rfl (lv_at hl 2 rfl) ?_
                      refine va_get (D := (dC, dI)) (ci := 0) (v := .ref ra) (C := R_Dg) (T := F_Dg) (N := 1) hx hb hT (in_Dg) hown hK hP 0 rfl rfl 0 (by decide) (hT _ t_136) (fun _ h9 => h9) rfl d_Dg_round_69 ?_
                      refine lv_iload_n hx hb d_Dg_round_72 rfl (lv_at hl 1 rfl) ?_
                      refine lv_iload_n hx hb d_Dg_round_73 rfl (lv_at hl 0 rfl) ?_
                      refine lv_if_eq (tgt := 81) hx hb d_Dg_round_74 (by decide) (fun c74_10 => ?_) (fun c74_10 => ?_)
                      · skip
                        refine lv_aload_n hx hb d_Dg_round_81 rfl (lv_at hl 2 rfl) ?_
                        refine va_get (D := (dC, dI)) (ci := 0) (v := .ref ra) (C := R_Dg) (T := F_Dg) (N := 1) hx hb hT (in_Dg) hown hK hP 0 rfl rfl 0 (by decide) (hT _ t_136) (fun _ h9 => h9) rfl d_Dg_round_82 ?_
                        refine lv_iload_n hx hb d_Dg_round_85 rfl (lv_at hl 1 rfl) ?_
                        refine va_iald hx hb hK hP 1 0 rfl rfl (vp_in_iff.mpr ⟨by have q0 := c44_6; simp only [k_lt, k_le, l_0, l_1, l_2, l_12, l_18, l_19, l_30, l_31, l_64] at q0; omega, hi⟩) d_Dg_round_86 ?_
                        refine lv_topi (fun x11 ex11 => ?_)
                        refine lv_iconst (v := 1) hx hb d_Dg_round_87 (by decide) ?_
                        refine lv_iadd hx hb d_Dg_round_88 ?_
                        refine lv_topi (fun x12 ex12 => ?_)
                        refine va_iast hx hb hK hP hD hS 1 0 rfl rfl (vp_in_iff.mpr ⟨by have q0 := c44_6; simp only [k_lt, k_le, l_0, l_1, l_2, l_12, l_18, l_19, l_30, l_31, l_64] at q0; omega, hi⟩) d_Dg_round_89 (fun H locs hP hD hS => ?_)
                        have hP : va_P (dC, dI) CL [(g, .inr (0, [.ref ra])), (ra, .inl (cI, 31, .inl (upd r2 i.toNatClampNeg x12)))] H := hP
                        have hD : va_D A [(g, .inr (0, [.ref ra])), (ra, .inl (cI, 31, .inl (upd r2 i.toNatClampNeg x12)))] := hD
                        obtain ⟨x13, ex13⟩ : ∃ y : Int32, y = i + (-1) := ⟨_, rfl⟩
                        refine lv_iinc (v := x13) (lv' := [(3, .int x13), (2, .int 0), (0, .ref g), (1, .int kept)]) hx hb d_Dg_round_90 hl (k := 1) rfl (by rw [ex13]; rfl) (by decide) rfl (fun ls hl => ?_)
                        refine lv_goto (tgt := 43) hx hb d_Dg_round_93 (by decide) ?_
                        exact ih x13 0 (upd r2 i.toNatClampNeg x12) _ _ _ (by rw [ex13, k_decm (by have q0 := c44_6; simp only [k_lt, k_le, l_0, l_1, l_2, l_12, l_18, l_19, l_30, l_31, l_64] at q0; omega)]; have q0 := c44_6; simp only [k_lt, k_le, l_0, l_1, l_2, l_12, l_18, l_19, l_30, l_31, l_64] at q0; omega) (by rw [ex13, k_decm (by have q0 := c44_6; simp only [k_lt, k_le, l_0, l_1, l_2, l_12, l_18, l_19, l_30, l_31, l_64] at q0; omega)]; omega) (by have h9 := hG; have h7 := c59_9; rw [ex8] at h7; rw [dgCar, if_neg c44_6, if_neg c48_7] at h9; simp only [h7, if_true, if_false, decide_true, decide_false, k_b_true, k_b_false, not_false_eq_true, if_neg, if_pos] at h9; subst ex8 ex11 ex12 ex13; exact h9) (hP.sub [0, 1] rfl) (hD.sub [0, 1] (by decide) rfl) hS (lv_sub hl [0, 1, 2, 3] rfl)
                      · exact absurd c74_10 (by decide)
                    · skip
                      refine lv_iconst (v := 1) hx hb d_Dg_round_62 (by decide) ?_
                      refine lv_goto (tgt := 67) hx hb d_Dg_round_63 (by decide) ?_
                      refine lv_istore_n (lv' := [(2, .int 1), (3, .int i), (0, .ref g), (1, .int kept)]) hx hb d_Dg_round_67 rfl hl (by decide) rfl (fun ls hl => ?_)
                      refine lv_aload_n hx hb d_Dg_round_68 rfl (lv_at hl 2 rfl) ?_
                      refine va_get (D := (dC, dI)) (ci := 0) (v := .ref ra) (C := R_Dg) (T := F_Dg) (N := 1) hx hb hT (in_Dg) hown hK hP 0 rfl rfl 0 (by decide) (hT _ t_136) (fun _ h9 => h9) rfl d_Dg_round_69 ?_
                      refine lv_iload_n hx hb d_Dg_round_72 rfl (lv_at hl 1 rfl) ?_
                      refine lv_iload_n hx hb d_Dg_round_73 rfl (lv_at hl 0 rfl) ?_
                      refine lv_if_eq (tgt := 81) hx hb d_Dg_round_74 (by decide) (fun c74_14 => ?_) (fun c74_14 => ?_)
                      · exact absurd c74_14 (by decide)
                      · skip
                        refine lv_iconst (v := 0) hx hb d_Dg_round_77 (by decide) ?_
                        refine lv_goto (tgt := 89) hx hb d_Dg_round_78 (by decide) ?_
                        refine va_iast hx hb hK hP hD hS 1 0 rfl rfl (vp_in_iff.mpr ⟨by have q0 := c44_6; simp only [k_lt, k_le, l_0, l_1, l_2, l_12, l_18, l_19, l_30, l_31, l_64] at q0; omega, hi⟩) d_Dg_round_89 (fun H locs hP hD hS => ?_)
                        have hP : va_P (dC, dI) CL [(g, .inr (0, [.ref ra])), (ra, .inl (cI, 31, .inl (upd r2 i.toNatClampNeg 0)))] H := hP
                        have hD : va_D A [(g, .inr (0, [.ref ra])), (ra, .inl (cI, 31, .inl (upd r2 i.toNatClampNeg 0)))] := hD
                        obtain ⟨x15, ex15⟩ : ∃ y : Int32, y = i + (-1) := ⟨_, rfl⟩
                        refine lv_iinc (v := x15) (lv' := [(3, .int x15), (2, .int 1), (0, .ref g), (1, .int kept)]) hx hb d_Dg_round_90 hl (k := 1) rfl (by rw [ex15]; rfl) (by decide) rfl (fun ls hl => ?_)
                        refine lv_goto (tgt := 43) hx hb d_Dg_round_93 (by decide) ?_
                        exact ih x15 1 (upd r2 i.toNatClampNeg 0) _ _ _ (by rw [ex15, k_decm (by have q0 := c44_6; simp only [k_lt, k_le, l_0, l_1, l_2, l_12, l_18, l_19, l_30, l_31, l_64] at q0; omega)]; have q0 := c44_6; simp only [k_lt, k_le, l_0, l_1, l_2, l_12, l_18, l_19, l_30, l_31, l_64] at q0; omega) (by rw [ex15, k_decm (by have q0 := c44_6; simp only [k_lt, k_le, l_0, l_1, l_2, l_12, l_18, l_19, l_30, l_31, l_64] at q0; omega)]; omega) (by have h9 := hG; have h7 := c59_9; rw [ex8] at h7; rw [dgCar, if_neg c44_6, if_neg c48_7] at h9; simp only [h7, if_true, if_false, decide_true, decide_false, k_b_true, k_b_false, not_false_eq_true, if_neg, if_pos] at h9; subst ex8 ex15; exact h9) (hP.sub [0, 1] rfl) (hD.sub [0, 1] (by decide) rfl) hS (lv_sub hl [0, 1, 2, 3] rfl)
            exact loop43 32 x5 x3 r1 _ _ _ (by rw [ex5, k_subl hka]; omega) (by rw [ex5, k_subl hka]; omega) (by rw [hDd, ← hE1, ex5, ← w14_3]) hP hD hS (lv_sub hl [0, 1, 2, 3] rfl)
          · skip
            refine lv_aload_n hx hb d_Dg_round_26 rfl (lv_at hl 2 rfl) ?_
            refine va_get (D := (dC, dI)) (ci := 0) (v := .ref ra) (C := R_Dg) (T := F_Dg) (N := 1) hx hb hT (in_Dg) hown hK hP 0 rfl rfl 0 (by decide) (hT _ t_136) (fun _ h9 => h9) rfl d_Dg_round_27 ?_
            refine lv_iload_n hx hb d_Dg_round_30 rfl (lv_at hl 0 rfl) ?_
            refine lv_iconst (v := 0) hx hb d_Dg_round_31 (by decide) ?_
            refine va_iast hx hb hK hP hD hS 1 0 rfl rfl (vp_in_iff.mpr ⟨hi, by have q0 := c23_4; simp only [k_lt, k_le, l_0, l_1, l_2, l_12, l_18, l_19, l_30, l_31, l_64] at q0; omega⟩) d_Dg_round_32 (fun H locs hP hD hS => ?_)
            have hP : va_P (dC, dI) CL [(g, .inr (0, [.ref ra])), (ra, .inl (cI, 31, .inl (upd r1 i.toNatClampNeg 0)))] H := hP
            have hD : va_D A [(g, .inr (0, [.ref ra])), (ra, .inl (cI, 31, .inl (upd r1 i.toNatClampNeg 0)))] := hD
            obtain ⟨x16, ex16⟩ : ∃ y : Int32, y = i + 1 := ⟨_, rfl⟩
            refine lv_iinc (v := x16) (lv' := [(3, .int x16), (2, .int x3), (0, .ref g), (1, .int kept)]) hx hb d_Dg_round_33 hl (k := 0) rfl (by rw [ex16]; rfl) (by decide) rfl (fun ls hl => ?_)
            refine lv_goto (tgt := 20) hx hb d_Dg_round_36 (by decide) ?_
            exact ih x16 (upd r1 i.toNatClampNeg 0) _ _ _ (by rw [ex16, k_inc31 (by have q0 := c23_4; simp only [k_lt, k_le, l_0, l_1, l_2, l_12, l_18, l_19, l_30, l_31, l_64] at q0; omega)]; have q0 := c23_4; simp only [k_lt, k_le, l_0, l_1, l_2, l_12, l_18, l_19, l_30, l_31, l_64] at q0; omega) (by rw [ex16, k_inc31 (by have q0 := c23_4; simp only [k_lt, k_le, l_0, l_1, l_2, l_12, l_18, l_19, l_30, l_31, l_64] at q0; omega)]; omega) (by have h9 := hG; rw [dgClr, if_neg c23_4] at h9; rw [ex16]; exact h9) (hP.sub [0, 1] rfl) (hD.sub [0, 1] (by decide) rfl) hS (lv_sub hl [0, 1, 2, 3] rfl)
      exact loop20 32 kept row _ _ _ (by omega) (by omega) (rfl) hP hD hS (lv_sub hl [0, 1, 2, 3] rfl)
    · skip
      have hP9 := hP.sub (ws' := [(g, .inr (0, [.ref ra])), (ra, .inl (cI, 31, .inl row))]) [0, 1] rfl
      have hD9 := hD.sub (ws' := [(g, .inr (0, [.ref ra])), (ra, .inl (cI, 31, .inl row))]) [0, 1] (by decide) rfl
      have hK9 := hK.sub (tys' := [(cI, .int)]) [0] rfl
      have hq9 : row = dgRound row kept := by rw [dgRound]; simp [c2_1, c8_2]
      subst hQ
      exact W.vret hx hb hr (fun t ht hW => ⟨⟨row, rfl, hq9, by rw [ht]; exact hP9, va_K.moved hW.alike hK9, hD9⟩, hS.F ht⟩) hS.2.2 d_Dg_round_11

set_option maxHeartbeats 4000000 in
set_option maxRecDepth 100000 in
theorem c_Digits_digitAt (l : Launch) (dC : Nat → ClassId) (dI : Nat → Nat → Nat) (sz : Nat) (cI : ClassId) (g : Nat) (ra : Nat) (row : Nat → Int32) (i : Int32)  : Met l y_Dg_digitAt w_Dg_digitAt ({ frames := 0, cells := 0, slots := 0, locals := 0 } : Room) (va_Pc [.ref g, .int i] (fun U => U.heap.size = sz ∧ va_P (dC, dI) CL [(g, .inr (0, [.ref ra])), (ra, .inl (cI, 31, .inl row))] U.heap ∧ va_K (dC, dI) CL [(cI, .int)] U ∧ va_D (fun _ => True) [(g, .inr (0, [.ref ra])), (ra, .inl (cI, 31, .inl row))])) (va_Qi (fun (r : Int32) (u : Unit) => r = dgAt row i) (fun (u : Unit) (t : State) => va_P (dC, dI) CL [(g, .inr (0, [.ref ra])), (ra, .inl (cI, 31, .inl row))] t.heap ∧ va_K (dC, dI) CL [(cI, .int)] t ∧ va_D (va_A [(g, .inr (0, [.ref ra])), (ra, .inl (cI, 31, .inl row))] sz) [(g, .inr (0, [.ref ra])), (ra, .inl (cI, 31, .inl row))]) (va_A [(g, .inr (0, [.ref ra])), (ra, .inl (cI, 31, .inl row))] sz)) 0 0 (va_A [(g, .inr (0, [.ref ra])), (ra, .inl (cI, 31, .inl row))] sz) := by
  refine Met.ofW (cc := b_Dg_digitAt) (maxL := 2) (ret := (some .int)) (by decide) rfl ?_
  intro p e s m args below meth c s₁ B hml hv
  obtain ⟨rfl, hsz, hP, hK, hD0⟩ := hv
  have hx := B.exec
  have hb := B.bytes
  have hr := B.returns
  have hts := atoms_spec (ws := w_Dg_digitAt) B.pre
  have hT : ∀ w ∈ TB, w.before _ s = true := fun w h => hts w (List.mem_cons_of_mem _ h)
  have hown : s.vm.findClass R_Dg = some m.cls := findClass_of_methodNamed B.named
  have hlocks := B.notSynchronized
  subst hsz
  have hD := hD0.self (sz := s.heap.size)
  generalize hAe : va_A [(g, .inr (0, [.ref ra])), (ra, .inl (cI, 31, .inl row))] s.heap.size = A at hD ⊢
  have hA : ∀ q : Nat, s.heap.size ≤ q → A q := fun q h => by rw [← hAe]; exact Or.inr h
  have hS : va_S A s.heap s.heap [] := va_S.rf
  have hP : va_P (dC, dI) CL [(g, .inr (0, [.ref ra])), (ra, .inl (cI, 31, .inl row))] s.heap := hP
  have hl := lv_entry ([.ref g, .int i]) (n := 2) (Nat.le_of_ble_eq_true rfl)
  rw [lg_entry_eq]
  generalize (lg_sl ([.ref g, .int i]) ++ List.replicate (2 - (lg_sl ([.ref g, .int i])).length) Slot.unset).toArray = ls at hl ⊢
  have hl : lv_has ls 2 [(0, .ref g), (1, .int i)] := hl
  refine lv_iload_n hx hb d_Dg_digitAt_0 rfl (lv_at hl 1 rfl) ?_
  refine lv_if_lt (tgt := 22) hx hb d_Dg_digitAt_1 (by decide) (fun c1_1 => ?_) (fun c1_1 => ?_)
  · skip
    refine lv_bipush (v := 48) hx hb d_Dg_digitAt_22 (by decide) ?_
    have hP9 := hP.sub (ws' := [(g, .inr (0, [.ref ra])), (ra, .inl (cI, 31, .inl row))]) [0, 1] rfl
    have hD9 := hD.sub (ws' := [(g, .inr (0, [.ref ra])), (ra, .inl (cI, 31, .inl row))]) [0, 1] (by decide) rfl
    have hK9 := hK.sub (tys' := [(cI, .int)]) [0] rfl
    have hq9 : (48 : Int32) = dgAt row i := by simp [dgAt, c1_1]
    exact W.iret (v := 48) hx hb hr (fun t ht hW => ⟨⟨48, (), rfl, hq9, by rw [ht]; exact hP9, va_K.moved hW.alike hK9, hD9⟩, hS.F ht⟩) hS.2.2 d_Dg_digitAt_24
  · skip
    refine lv_iload_n hx hb d_Dg_digitAt_4 rfl (lv_at hl 1 rfl) ?_
    refine lv_bipush (v := 31) hx hb d_Dg_digitAt_5 (by decide) ?_
    refine lv_icmp_ge (tgt := 22) hx hb d_Dg_digitAt_7 (by decide) (fun c7_2 => ?_) (fun c7_2 => ?_)
    · skip
      refine lv_bipush (v := 48) hx hb d_Dg_digitAt_22 (by decide) ?_
      have hP9 := hP.sub (ws' := [(g, .inr (0, [.ref ra])), (ra, .inl (cI, 31, .inl row))]) [0, 1] rfl
      have hD9 := hD.sub (ws' := [(g, .inr (0, [.ref ra])), (ra, .inl (cI, 31, .inl row))]) [0, 1] (by decide) rfl
      have hK9 := hK.sub (tys' := [(cI, .int)]) [0] rfl
      have hq9 : (48 : Int32) = dgAt row i := by simp [dgAt, c1_1, c7_2]
      exact W.iret (v := 48) hx hb hr (fun t ht hW => ⟨⟨48, (), rfl, hq9, by rw [ht]; exact hP9, va_K.moved hW.alike hK9, hD9⟩, hS.F ht⟩) hS.2.2 d_Dg_digitAt_24
    · skip
      refine lv_bipush (v := 48) hx hb d_Dg_digitAt_10 (by decide) ?_
      refine lv_aload_n hx hb d_Dg_digitAt_12 rfl (lv_at hl 0 rfl) ?_
      refine va_get (D := (dC, dI)) (ci := 0) (v := .ref ra) (C := R_Dg) (T := F_Dg) (N := 1) hx hb hT (in_Dg) hown hK hP 0 rfl rfl 0 (by decide) (hT _ t_136) (fun _ h9 => h9) rfl d_Dg_digitAt_13 ?_
      refine lv_iload_n hx hb d_Dg_digitAt_16 rfl (lv_at hl 1 rfl) ?_
      refine va_iald hx hb hK hP 1 0 rfl rfl (vp_in_iff.mpr ⟨by have q0 := c1_1; simp only [k_lt, k_le, l_0, l_1, l_2, l_12, l_18, l_19, l_30, l_31, l_64] at q0; omega, by have q0 := c7_2; simp only [k_lt, k_le, l_0, l_1, l_2, l_12, l_18, l_19, l_30, l_31, l_64] at q0; omega⟩) d_Dg_digitAt_17 ?_
      refine lv_topi (fun x3 ex3 => ?_)
      refine lv_iadd hx hb d_Dg_digitAt_18 ?_
      refine lv_topi (fun x4 ex4 => ?_)
      refine lv_goto (tgt := 24) hx hb d_Dg_digitAt_19 (by decide) ?_
      have hP9 := hP.sub (ws' := [(g, .inr (0, [.ref ra])), (ra, .inl (cI, 31, .inl row))]) [0, 1] rfl
      have hD9 := hD.sub (ws' := [(g, .inr (0, [.ref ra])), (ra, .inl (cI, 31, .inl row))]) [0, 1] (by decide) rfl
      have hK9 := hK.sub (tys' := [(cI, .int)]) [0] rfl
      have hq9 : x4 = dgAt row i := by subst ex3 ex4; simp [dgAt, c1_1, c7_2]
      exact W.iret (v := x4) hx hb hr (fun t ht hW => ⟨⟨x4, (), rfl, hq9, by rw [ht]; exact hP9, va_K.moved hW.alike hK9, hD9⟩, hS.F ht⟩) hS.2.2 d_Dg_digitAt_24

set_option maxHeartbeats 4000000 in
set_option maxRecDepth 100000 in
theorem c_Digits_put (l : Launch) (dC : Nat → ClassId) (dI : Nat → Nat → Nat) (sz : Nat) (cI : ClassId) (cC : ClassId) (g : Nat) (ra : Nat) (row : Nat → Int32) (h : Nat) (a : Nat) (room : Nat) (f : Nat → Int32) (n : Int32) (point : Int32) (places : Int32) (must : Int32) (hn : lnOK room n) : Met l y_Dg_put w_Dg_put ({ frames := 1, cells := 0, slots := 0, locals := 21 } : Room) (va_Pc [.ref g, .ref h, .int point, .int places, .int must] (fun U => U.heap.size = sz ∧ va_P (dC, dI) CL [(g, .inr (0, [.ref ra])), (ra, .inl (cI, 31, .inl row)), (h, .inr (2, [.ref a, .int n])), (a, .inl (cC, room, .inl f))] U.heap ∧ va_K (dC, dI) CL [(cI, .int), (cC, .char)] U ∧ va_D (fun _ => True) [(g, .inr (0, [.ref ra])), (ra, .inl (cI, 31, .inl row)), (h, .inr (2, [.ref a, .int n])), (a, .inl (cC, room, .inl f))])) (va_Qv (fun (u : (Nat → Int32) × Int32) => match u with | (f2, n2) => (f2, n2) = dgPut row room point places must (f, n) ∧ lnOK room n2) (fun (u : (Nat → Int32) × Int32) (t : State) => match u with | (f2, n2) => va_P (dC, dI) CL [(g, .inr (0, [.ref ra])), (ra, .inl (cI, 31, .inl row)), (h, .inr (2, [.ref a, .int n2])), (a, .inl (cC, room, .inl f2))] t.heap ∧ va_K (dC, dI) CL [(cI, .int), (cC, .char)] t ∧ va_D (va_A [(g, .inr (0, [.ref ra])), (ra, .inl (cI, 31, .inl row)), (h, .inr (2, [.ref a, .int n])), (a, .inl (cC, room, .inl f))] sz) [(g, .inr (0, [.ref ra])), (ra, .inl (cI, 31, .inl row)), (h, .inr (2, [.ref a, .int n2])), (a, .inl (cC, room, .inl f2))]) (va_A [(g, .inr (0, [.ref ra])), (ra, .inl (cI, 31, .inl row)), (h, .inr (2, [.ref a, .int n])), (a, .inl (cC, room, .inl f))] sz)) 0 0 (va_A [(g, .inr (0, [.ref ra])), (ra, .inl (cI, 31, .inl row)), (h, .inr (2, [.ref a, .int n])), (a, .inl (cC, room, .inl f))] sz) := by
  refine Met.ofW (cc := b_Dg_put) (maxL := 6) (ret := none) (by decide) rfl ?_
  intro p e s m args below meth c s₁ B hml hv
  obtain ⟨rfl, hsz, hP, hK, hD0⟩ := hv
  have hx := B.exec
  have hb := B.bytes
  have hr := B.returns
  have hts := atoms_spec (ws := w_Dg_put) B.pre
  have hT : ∀ w ∈ TB, w.before _ s = true := fun w h => hts w (List.mem_cons_of_mem _ h)
  have hown : s.vm.findClass R_Dg = some m.cls := findClass_of_methodNamed B.named
  have hlocks := B.notSynchronized
  subst hsz
  have hD := hD0.self (sz := s.heap.size)
  generalize hAe : va_A [(g, .inr (0, [.ref ra])), (ra, .inl (cI, 31, .inl row)), (h, .inr (2, [.ref a, .int n])), (a, .inl (cC, room, .inl f))] s.heap.size = A at hD ⊢
  have hA : ∀ q : Nat, s.heap.size ≤ q → A q := fun q h => by rw [← hAe]; exact Or.inr h
  have hS : va_S A s.heap s.heap [] := va_S.rf
  have hP : va_P (dC, dI) CL [(g, .inr (0, [.ref ra])), (ra, .inl (cI, 31, .inl row)), (h, .inr (2, [.ref a, .int n])), (a, .inl (cC, room, .inl f))] s.heap := hP
  have hl := lv_entry ([.ref g, .ref h, .int point, .int places, .int must]) (n := 6) (Nat.le_of_ble_eq_true rfl)
  rw [lg_entry_eq]
  generalize (lg_sl ([.ref g, .ref h, .int point, .int places, .int must]) ++ List.replicate (6 - (lg_sl ([.ref g, .ref h, .int point, .int places, .int must])).length) Slot.unset).toArray = ls at hl ⊢
  have hl : lv_has ls 6 [(0, .ref g), (1, .ref h), (2, .int point), (3, .int places), (4, .int must)] := hl
  refine k_Q (fun Q hQ => ?_)
  refine lv_aload_n hx hb d_Dg_put_0 rfl (lv_at hl 0 rfl) ?_
  have hPc := hP.sub (ws' := [(g, .inr (0, [.ref ra])), (ra, .inl (cI, 31, .inl row))]) [0, 1] rfl
  have hDc := hD.sub (ws' := [(g, .inr (0, [.ref ra])), (ra, .inl (cI, 31, .inl row))]) [0, 1] (by decide) rfl
  have hKc := hK.sub (tys' := [(cI, .int)]) [0] rfl
  have hFc := va_free (wc := [(g, .inr (0, [.ref ra])), (ra, .inl (cI, 31, .inl row))]) hD hS hA [0, 1] rfl
  refine va_calli (va_runV (As := []) (rest := []) ⟨hx, hb, hml, hown, hT⟩ (c_Digits_first l dC dI s.heap.size cI g ra row ) (cwV 0 hT g_Dg_24 rfl rfl rfl (by decide +kernel) ⟨Nat.le_of_ble_eq_true rfl, Nat.le_of_ble_eq_true rfl⟩) ⟨fun a U g mk q => by obtain ⟨q0, q1, qP, qK, qD⟩ := q; exact ⟨q0, q1, qP, va_K.moved (u := U) (U := U.calling g mk a) (Vm.Alike.refl U.vm) qK, qD⟩, va_recv hKc hPc (ci := 0) (q0 := 0) rfl rfl, fun U hU hW => ⟨rfl, by rw [hU], by rw [hU]; exact hPc, va_K.moved hW.alike hKc, hDc.weaken (fun _ _ _ _ => trivial)⟩⟩ rfl rfl hl.1 rfl (lv_room (Nat.le_of_ble_eq_true rfl)) d_Dg_put_1 ⟨Nat.le_of_ble_eq_true rfl, Nat.le_of_ble_eq_true rfl⟩) hS (fun q _ h => hFc q h) hFc (fun x1 u t H1 locs ht hvm w1_1 hB hz1 hk1 hS => ?_)
  obtain ⟨hP1, hK1, hD1⟩ := hB
  rw [ht] at hP1
  try dsimp only at w1_1
  obtain ⟨hP, hD⟩ := va_join (wr := [(h, .inr (2, [.ref a, .int n])), (a, .inl (cC, room, .inl f))]) (w1 := [(g, .inr (0, [.ref ra])), (ra, .inl (cI, 31, .inl row))]) hP hD [0, 1] [2, 3] rfl rfl (by decide) (by decide) hk1 hFc hP1 hD1
  generalize H1 = H at hP hS ⊢
  have hP : va_P (dC, dI) CL [(h, .inr (2, [.ref a, .int n])), (a, .inl (cC, room, .inl f)), (g, .inr (0, [.ref ra])), (ra, .inl (cI, 31, .inl row))] H := hP
  have hD : va_D A [(h, .inr (2, [.ref a, .int n])), (a, .inl (cC, room, .inl f)), (g, .inr (0, [.ref ra])), (ra, .inl (cI, 31, .inl row))] := hD
  refine lv_iload_n hx hb d_Dg_put_4 rfl (lv_at hl 2 rfl) ?_
  refine lv_iconst (v := 1) hx hb d_Dg_put_5 (by decide) ?_
  refine lv_isub hx hb d_Dg_put_6 ?_
  refine lv_topi (fun x2 ex2 => ?_)
  refine va_mmin hx hb (hml.trans hl.1.symm) hown (hT _ t_537) (hT _ t_424) (hT _ t_3) (hT _ t_425) (Nat.le_of_ble_eq_true rfl) (Nat.le_of_ble_eq_true rfl) (Nat.le_of_ble_eq_true rfl) (Nat.le_of_ble_eq_true rfl) d_Dg_put_7 ?_
  refine lv_topi (fun x3 ex3 => ?_)
  refine lv_istore (lv' := [(5, .int x3), (0, .ref g), (1, .ref h), (2, .int point), (3, .int places), (4, .int must)]) hx hb d_Dg_put_10 hl (by decide) rfl (fun ls hl => ?_)
  have loop12 : ∀ (fuel : Nat) (i : Int32) (n1 : Int32) (f1 : Nat → Int32) (H : Heap) (locs : List Loc) (ls : Array Slot), ((point.toInt - i.toInt).toNat < fuel) → (lnOK room n1) → (dgP1 row room point fuel i (f1, n1) = dgPa row room point (f, n)) → va_P (dC, dI) CL [(h, .inr (2, [.ref a, .int n1])), (a, .inl (cC, room, .inl f1)), (g, .inr (0, [.ref ra])), (ra, .inl (cI, 31, .inl row))] H → va_D A [(h, .inr (2, [.ref a, .int n1])), (a, .inl (cC, room, .inl f1)), (g, .inr (0, [.ref ra])), (ra, .inl (cI, 31, .inl row))] → va_S A s.heap H locs → lv_has ls 6 [(5, .int i), (0, .ref g), (1, .ref h), (2, .int point), (3, .int places), (4, .int must)] → W p l e (headSpec w_Dg_put ({ frames := 1, cells := 0, slots := 0, locals := 21 } : Room)).room s m ([.ref g, .ref h, .int point, .int places, .int must] : List Value).toArray below meth c H locs 0 0 Q (F0 m 12 ls []) := by
    intro fuel
    induction fuel with
    | zero =>
      intro i n1 f1 H locs ls hk hn hG hP hD hS hl
      exact absurd hk (Nat.not_lt_zero _)
    | succ fuel ih =>
      intro i n1 f1 H locs ls hk hn hG hP hD hS hl
      refine lv_iload hx hb d_Dg_put_12 (lv_at hl 0 rfl) ?_
      refine lv_iload_n hx hb d_Dg_put_14 rfl (lv_at hl 3 rfl) ?_
      refine lv_icmp_ge (tgt := 34) hx hb d_Dg_put_15 (by decide) (fun c15_4 => ?_) (fun c15_4 => ?_)
      · skip
        have hE1 : (f1, n1) = dgPa row room point (f, n) := by have h9 := hG; rw [dgP1, if_pos c15_4] at h9; exact h9
        refine lv_iload_n hx hb d_Dg_put_34 rfl (lv_at hl 4 rfl) ?_
        have cut49 : ∀ (n3 : Int32) (f3 : Nat → Int32) (H : Heap) (locs : List Loc) (ls : Array Slot), ((f3, n3) = dgPb row room point places must (f, n)) → (lnOK room n3) → va_P (dC, dI) CL [(g, .inr (0, [.ref ra])), (ra, .inl (cI, 31, .inl row)), (h, .inr (2, [.ref a, .int n3])), (a, .inl (cC, room, .inl f3))] H → va_D A [(g, .inr (0, [.ref ra])), (ra, .inl (cI, 31, .inl row)), (h, .inr (2, [.ref a, .int n3])), (a, .inl (cC, room, .inl f3))] → va_S A s.heap H locs → lv_has ls 6 [(5, .int i), (0, .ref g), (1, .ref h), (2, .int point), (3, .int places), (4, .int must)] → W p l e (headSpec w_Dg_put ({ frames := 1, cells := 0, slots := 0, locals := 21 } : Room)).room s m ([.ref g, .ref h, .int point, .int places, .int must] : List Value).toArray below meth c H locs 0 0 Q (F0 m 49 ls []) := by
          intro n3 f3 H locs ls hE2 hn3 hP hD hS hl
          refine lv_iconst (v := 0) hx hb d_Dg_put_49 (by decide) ?_
          refine lv_istore (lv' := [(5, .int 0), (0, .ref g), (1, .ref h), (2, .int point), (3, .int places), (4, .int must)]) hx hb d_Dg_put_50 hl (by decide) rfl (fun ls hl => ?_)
          have loop52 : ∀ (fuel : Nat) (i : Int32) (n4 : Int32) (f4 : Nat → Int32) (H : Heap) (locs : List Loc) (ls : Array Slot), ((places.toInt - i.toInt).toNat < fuel) → (lnOK room n4) → (dgP2 row room point places fuel i (f4, n4) = dgPut row room point places must (f, n)) → va_P (dC, dI) CL [(g, .inr (0, [.ref ra])), (ra, .inl (cI, 31, .inl row)), (h, .inr (2, [.ref a, .int n4])), (a, .inl (cC, room, .inl f4))] H → va_D A [(g, .inr (0, [.ref ra])), (ra, .inl (cI, 31, .inl row)), (h, .inr (2, [.ref a, .int n4])), (a, .inl (cC, room, .inl f4))] → va_S A s.heap H locs → lv_has ls 6 [(5, .int i), (0, .ref g), (1, .ref h), (2, .int point), (3, .int places), (4, .int must)] → W p l e (headSpec w_Dg_put ({ frames := 1, cells := 0, slots := 0, locals := 21 } : Room)).room s m ([.ref g, .ref h, .int point, .int places, .int must] : List Value).toArray below meth c H locs 0 0 Q (F0 m 52 ls []) := by
            intro fuel
            induction fuel with
            | zero =>
              intro i n4 f4 H locs ls hk hn hG hP hD hS hl
              exact absurd hk (Nat.not_lt_zero _)
            | succ fuel ih =>
              intro i n4 f4 H locs ls hk hn hG hP hD hS hl
              refine lv_iload hx hb d_Dg_put_52 (lv_at hl 0 rfl) ?_
              refine lv_iload_n hx hb d_Dg_put_54 rfl (lv_at hl 4 rfl) ?_
              refine lv_icmp_ge (tgt := 76) hx hb d_Dg_put_55 (by decide) (fun c55_5 => ?_) (fun c55_5 => ?_)
              · skip
                have hP9 := hP.sub (ws' := [(g, .inr (0, [.ref ra])), (ra, .inl (cI, 31, .inl row)), (h, .inr (2, [.ref a, .int n4])), (a, .inl (cC, room, .inl f4))]) [0, 1, 2, 3] rfl
                have hD9 := hD.sub (ws' := [(g, .inr (0, [.ref ra])), (ra, .inl (cI, 31, .inl row)), (h, .inr (2, [.ref a, .int n4])), (a, .inl (cC, room, .inl f4))]) [0, 1, 2, 3] (by decide) rfl
                have hK9 := hK.sub (tys' := [(cI, .int), (cC, .char)]) [0, 1] rfl
                have hq9 : (f4, n4) = dgPut row room point places must (f, n) ∧ lnOK room n4 := by have h9 := hG; rw [dgP2, if_pos c55_5] at h9; exact ⟨h9, hn⟩
                subst hQ
                exact W.vret hx hb hr (fun t ht hW => ⟨⟨(f4, n4), rfl, hq9, by rw [ht]; exact hP9, va_K.moved hW.alike hK9, hD9⟩, hS.F ht⟩) hS.2.2 d_Dg_put_76
              · skip
                refine lv_aload_n hx hb d_Dg_put_58 rfl (lv_at hl 2 rfl) ?_
                refine lv_aload_n hx hb d_Dg_put_59 rfl (lv_at hl 1 rfl) ?_
                refine lv_iload_n hx hb d_Dg_put_60 rfl (lv_at hl 3 rfl) ?_
                refine lv_iload hx hb d_Dg_put_61 (lv_at hl 0 rfl) ?_
                refine lv_iadd hx hb d_Dg_put_63 ?_
                refine lv_topi (fun x6 ex6 => ?_)
                have hPc := hP.sub (ws' := [(g, .inr (0, [.ref ra])), (ra, .inl (cI, 31, .inl row))]) [0, 1] rfl
                have hDc := hD.sub (ws' := [(g, .inr (0, [.ref ra])), (ra, .inl (cI, 31, .inl row))]) [0, 1] (by decide) rfl
                have hKc := hK.sub (tys' := [(cI, .int)]) [0] rfl
                have hFc := va_free (wc := [(g, .inr (0, [.ref ra])), (ra, .inl (cI, 31, .inl row))]) hD hS hA [0, 1] rfl
                refine va_calli (va_runV (As := [.int x6]) (rest := [.ref h]) ⟨hx, hb, hml, hown, hT⟩ (c_Digits_digitAt l dC dI H.size cI g ra row x6 ) (cwV 1 hT g_Dg_38 rfl rfl rfl (by decide +kernel) ⟨Nat.le_of_ble_eq_true rfl, Nat.le_of_ble_eq_true rfl⟩) ⟨fun a U g mk q => by obtain ⟨q0, q1, qP, qK, qD⟩ := q; exact ⟨q0, q1, qP, va_K.moved (u := U) (U := U.calling g mk a) (Vm.Alike.refl U.vm) qK, qD⟩, va_recv hKc hPc (ci := 0) (q0 := 0) rfl rfl, fun U hU hW => ⟨rfl, by rw [hU], by rw [hU]; exact hPc, va_K.moved hW.alike hKc, hDc.weaken (fun _ _ _ _ => trivial)⟩⟩ rfl rfl hl.1 rfl (lv_room (Nat.le_of_ble_eq_true rfl)) d_Dg_put_64 ⟨Nat.le_of_ble_eq_true rfl, Nat.le_of_ble_eq_true rfl⟩) hS (fun q _ h => hFc q h) hFc (fun x7 u t H1 locs ht hvm w64_7 hB hz1 hk1 hS => ?_)
                obtain ⟨hP1, hK1, hD1⟩ := hB
                rw [ht] at hP1
                try dsimp only at w64_7
                obtain ⟨hP, hD⟩ := va_join (wr := [(h, .inr (2, [.ref a, .int n4])), (a, .inl (cC, room, .inl f4))]) (w1 := [(g, .inr (0, [.ref ra])), (ra, .inl (cI, 31, .inl row))]) hP hD [0, 1] [2, 3] rfl rfl (by decide) (by decide) hk1 hFc hP1 hD1
                generalize H1 = H at hP hS ⊢
                have hP : va_P (dC, dI) CL [(h, .inr (2, [.ref a, .int n4])), (a, .inl (cC, room, .inl f4)), (g, .inr (0, [.ref ra])), (ra, .inl (cI, 31, .inl row))] H := hP
                have hD : va_D A [(h, .inr (2, [.ref a, .int n4])), (a, .inl (cC, room, .inl f4)), (g, .inr (0, [.ref ra])), (ra, .inl (cI, 31, .inl row))] := hD
                have hPc := hP.sub (ws' := [(h, .inr (2, [.ref a, .int n4])), (a, .inl (cC, room, .inl f4))]) [0, 1] rfl
                have hDc := hD.sub (ws' := [(h, .inr (2, [.ref a, .int n4])), (a, .inl (cC, room, .inl f4))]) [0, 1] (by decide) rfl
                have hKc := hK.sub (tys' := [(cC, .char)]) [1] rfl
                have hFc := va_free (wc := [(h, .inr (2, [.ref a, .int n4])), (a, .inl (cC, room, .inl f4))]) hD hS hA [0, 1] rfl
                refine va_callv (va_runV (As := [.int x7]) (rest := []) ⟨hx, hb, hml, hown, hT⟩ (c_Line_add l dC dI H.size cC h a room f4 n4 x7 (by first | assumption | omega)) (cwV 1 hT g_Dg_42 rfl rfl rfl (by decide +kernel) ⟨Nat.le_of_ble_eq_true rfl, Nat.le_of_ble_eq_true rfl⟩) ⟨fun a U g mk q => by obtain ⟨q0, q1, qP, qK, qD⟩ := q; exact ⟨q0, q1, qP, va_K.moved (u := U) (U := U.calling g mk a) (Vm.Alike.refl U.vm) qK, qD⟩, va_recv hKc hPc (ci := 2) (q0 := 0) rfl rfl, fun U hU hW => ⟨rfl, by rw [hU], by rw [hU]; exact hPc, va_K.moved hW.alike hKc, hDc.weaken (fun _ _ _ _ => trivial)⟩⟩ rfl rfl hl.1 rfl (lv_room (Nat.le_of_ble_eq_true rfl)) d_Dg_put_67 ⟨Nat.le_of_ble_eq_true rfl, Nat.le_of_ble_eq_true rfl⟩) hS (fun q _ h => hFc q h) hFc (fun u t H1 locs ht hvm w67_9 hB hz1 hk1 hS => ?_)
                obtain ⟨f_8, n_9⟩ := u
                obtain ⟨hP1, hK1, hD1⟩ := hB
                rw [ht] at hP1
                try dsimp only at w67_9
                obtain ⟨w67_9, w67_9b⟩ := w67_9
                obtain ⟨hP, hD⟩ := va_join (wr := [(g, .inr (0, [.ref ra])), (ra, .inl (cI, 31, .inl row))]) (w1 := [(h, .inr (2, [.ref a, .int n_9])), (a, .inl (cC, room, .inl f_8))]) hP hD [0, 1] [2, 3] rfl rfl (by decide) (by decide) hk1 hFc hP1 hD1
                generalize H1 = H at hP hS ⊢
                have hP : va_P (dC, dI) CL [(g, .inr (0, [.ref ra])), (ra, .inl (cI, 31, .inl row)), (h, .inr (2, [.ref a, .int n_9])), (a, .inl (cC, room, .inl f_8))] H := hP
                have hD : va_D A [(g, .inr (0, [.ref ra])), (ra, .inl (cI, 31, .inl row)), (h, .inr (2, [.ref a, .int n_9])), (a, .inl (cC, room, .inl f_8))] := hD
                obtain ⟨x10, ex10⟩ : ∃ y : Int32, y = i + 1 := ⟨_, rfl⟩
                refine lv_iinc (v := x10) (lv' := [(5, .int x10), (0, .ref g), (1, .ref h), (2, .int point), (3, .int places), (4, .int must)]) hx hb d_Dg_put_70 hl (k := 0) rfl (by rw [ex10]; rfl) (by decide) rfl (fun ls hl => ?_)
                refine lv_goto (tgt := 52) hx hb d_Dg_put_73 (by decide) ?_
                exact ih x10 n_9 f_8 _ _ _ (by rw [ex10]; exact k_fuel c55_5 hk) (w67_9b) (by have h9 := hG; rw [dgP2, if_neg c55_5] at h9; rw [ex10, w67_9, w64_7, ex6]; exact h9) (hP.sub [0, 1, 2, 3] rfl) (hD.sub [0, 1, 2, 3] (by decide) rfl) hS (lv_sub hl [0, 1, 2, 3, 4, 5] rfl)
          exact loop52 (places.toInt.toNat + 1) 0 n3 f3 _ _ _ (by rw [l_0]; omega) (hn3) (by rw [dgPut, ← hE2]) hP hD hS (lv_sub hl [0, 1, 2, 3, 4, 5] rfl)
        refine lv_if_gt (tgt := 43) hx hb d_Dg_put_35 (by decide) (fun c35_11 => ?_) (fun c35_11 => ?_)
        · skip
          refine lv_aload_n hx hb d_Dg_put_43 rfl (lv_at hl 2 rfl) ?_
          refine lv_bipush (v := 46) hx hb d_Dg_put_44 (by decide) ?_
          have hPc := hP.sub (ws' := [(h, .inr (2, [.ref a, .int n1])), (a, .inl (cC, room, .inl f1))]) [0, 1] rfl
          have hDc := hD.sub (ws' := [(h, .inr (2, [.ref a, .int n1])), (a, .inl (cC, room, .inl f1))]) [0, 1] (by decide) rfl
          have hKc := hK.sub (tys' := [(cC, .char)]) [1] rfl
          have hFc := va_free (wc := [(h, .inr (2, [.ref a, .int n1])), (a, .inl (cC, room, .inl f1))]) hD hS hA [0, 1] rfl
          refine va_callv (va_runV (As := [.int 46]) (rest := []) ⟨hx, hb, hml, hown, hT⟩ (c_Line_add l dC dI H.size cC h a room f1 n1 46 (by first | assumption | omega)) (cwV 1 hT g_Dg_42 rfl rfl rfl (by decide +kernel) ⟨Nat.le_of_ble_eq_true rfl, Nat.le_of_ble_eq_true rfl⟩) ⟨fun a U g mk q => by obtain ⟨q0, q1, qP, qK, qD⟩ := q; exact ⟨q0, q1, qP, va_K.moved (u := U) (U := U.calling g mk a) (Vm.Alike.refl U.vm) qK, qD⟩, va_recv hKc hPc (ci := 2) (q0 := 0) rfl rfl, fun U hU hW => ⟨rfl, by rw [hU], by rw [hU]; exact hPc, va_K.moved hW.alike hKc, hDc.weaken (fun _ _ _ _ => trivial)⟩⟩ rfl rfl hl.1 rfl (lv_room (Nat.le_of_ble_eq_true rfl)) d_Dg_put_46 ⟨Nat.le_of_ble_eq_true rfl, Nat.le_of_ble_eq_true rfl⟩) hS (fun q _ h => hFc q h) hFc (fun u t H1 locs ht hvm w46_13 hB hz1 hk1 hS => ?_)
          obtain ⟨f_12, n_13⟩ := u
          obtain ⟨hP1, hK1, hD1⟩ := hB
          rw [ht] at hP1
          try dsimp only at w46_13
          obtain ⟨w46_13, w46_13b⟩ := w46_13
          obtain ⟨hP, hD⟩ := va_join (wr := [(g, .inr (0, [.ref ra])), (ra, .inl (cI, 31, .inl row))]) (w1 := [(h, .inr (2, [.ref a, .int n_13])), (a, .inl (cC, room, .inl f_12))]) hP hD [0, 1] [2, 3] rfl rfl (by decide) (by decide) hk1 hFc hP1 hD1
          generalize H1 = H at hP hS ⊢
          have hP : va_P (dC, dI) CL [(g, .inr (0, [.ref ra])), (ra, .inl (cI, 31, .inl row)), (h, .inr (2, [.ref a, .int n_13])), (a, .inl (cC, room, .inl f_12))] H := hP
          have hD : va_D A [(g, .inr (0, [.ref ra])), (ra, .inl (cI, 31, .inl row)), (h, .inr (2, [.ref a, .int n_13])), (a, .inl (cC, room, .inl f_12))] := hD
          exact cut49 n_13 f_12 _ _ _ (by rw [dgPb, ← hE1, w46_13]; simp [c35_11]) (w46_13b) (hP.sub [0, 1, 2, 3] rfl) (hD.sub [0, 1, 2, 3] (by decide) rfl) hS (lv_sub hl [0, 1, 2, 3, 4, 5] rfl)
        · skip
          refine lv_iload hx hb d_Dg_put_38 (lv_at hl 5 rfl) ?_
          refine lv_if_eq (tgt := 49) hx hb d_Dg_put_40 (by decide) (fun c40_14 => ?_) (fun c40_14 => ?_)
          · skip
            exact cut49 n1 f1 _ _ _ (by rw [dgPb, ← hE1]; simp [c35_11, c40_14]) (hn) (hP.sub [2, 3, 0, 1] rfl) (hD.sub [2, 3, 0, 1] (by decide) rfl) hS (lv_sub hl [0, 1, 2, 3, 4, 5] rfl)
          · skip
            refine lv_aload_n hx hb d_Dg_put_43 rfl (lv_at hl 2 rfl) ?_
            refine lv_bipush (v := 46) hx hb d_Dg_put_44 (by decide) ?_
            have hPc := hP.sub (ws' := [(h, .inr (2, [.ref a, .int n1])), (a, .inl (cC, room, .inl f1))]) [0, 1] rfl
            have hDc := hD.sub (ws' := [(h, .inr (2, [.ref a, .int n1])), (a, .inl (cC, room, .inl f1))]) [0, 1] (by decide) rfl
            have hKc := hK.sub (tys' := [(cC, .char)]) [1] rfl
            have hFc := va_free (wc := [(h, .inr (2, [.ref a, .int n1])), (a, .inl (cC, room, .inl f1))]) hD hS hA [0, 1] rfl
            refine va_callv (va_runV (As := [.int 46]) (rest := []) ⟨hx, hb, hml, hown, hT⟩ (c_Line_add l dC dI H.size cC h a room f1 n1 46 (by first | assumption | omega)) (cwV 1 hT g_Dg_42 rfl rfl rfl (by decide +kernel) ⟨Nat.le_of_ble_eq_true rfl, Nat.le_of_ble_eq_true rfl⟩) ⟨fun a U g mk q => by obtain ⟨q0, q1, qP, qK, qD⟩ := q; exact ⟨q0, q1, qP, va_K.moved (u := U) (U := U.calling g mk a) (Vm.Alike.refl U.vm) qK, qD⟩, va_recv hKc hPc (ci := 2) (q0 := 0) rfl rfl, fun U hU hW => ⟨rfl, by rw [hU], by rw [hU]; exact hPc, va_K.moved hW.alike hKc, hDc.weaken (fun _ _ _ _ => trivial)⟩⟩ rfl rfl hl.1 rfl (lv_room (Nat.le_of_ble_eq_true rfl)) d_Dg_put_46 ⟨Nat.le_of_ble_eq_true rfl, Nat.le_of_ble_eq_true rfl⟩) hS (fun q _ h => hFc q h) hFc (fun u t H1 locs ht hvm w46_16 hB hz1 hk1 hS => ?_)
            obtain ⟨f_15, n_16⟩ := u
            obtain ⟨hP1, hK1, hD1⟩ := hB
            rw [ht] at hP1
            try dsimp only at w46_16
            obtain ⟨w46_16, w46_16b⟩ := w46_16
            obtain ⟨hP, hD⟩ := va_join (wr := [(g, .inr (0, [.ref ra])), (ra, .inl (cI, 31, .inl row))]) (w1 := [(h, .inr (2, [.ref a, .int n_16])), (a, .inl (cC, room, .inl f_15))]) hP hD [0, 1] [2, 3] rfl rfl (by decide) (by decide) hk1 hFc hP1 hD1
            generalize H1 = H at hP hS ⊢
            have hP : va_P (dC, dI) CL [(g, .inr (0, [.ref ra])), (ra, .inl (cI, 31, .inl row)), (h, .inr (2, [.ref a, .int n_16])), (a, .inl (cC, room, .inl f_15))] H := hP
            have hD : va_D A [(g, .inr (0, [.ref ra])), (ra, .inl (cI, 31, .inl row)), (h, .inr (2, [.ref a, .int n_16])), (a, .inl (cC, room, .inl f_15))] := hD
            exact cut49 n_16 f_15 _ _ _ (by rw [dgPb, ← hE1, w46_16]; simp [c35_11, c40_14]) (w46_16b) (hP.sub [0, 1, 2, 3] rfl) (hD.sub [0, 1, 2, 3] (by decide) rfl) hS (lv_sub hl [0, 1, 2, 3, 4, 5] rfl)
      · skip
        refine lv_aload_n hx hb d_Dg_put_18 rfl (lv_at hl 2 rfl) ?_
        refine lv_aload_n hx hb d_Dg_put_19 rfl (lv_at hl 1 rfl) ?_
        refine lv_iload hx hb d_Dg_put_20 (lv_at hl 0 rfl) ?_
        have hPc := hP.sub (ws' := [(g, .inr (0, [.ref ra])), (ra, .inl (cI, 31, .inl row))]) [2, 3] rfl
        have hDc := hD.sub (ws' := [(g, .inr (0, [.ref ra])), (ra, .inl (cI, 31, .inl row))]) [2, 3] (by decide) rfl
        have hKc := hK.sub (tys' := [(cI, .int)]) [0] rfl
        have hFc := va_free (wc := [(g, .inr (0, [.ref ra])), (ra, .inl (cI, 31, .inl row))]) hD hS hA [2, 3] rfl
        refine va_calli (va_runV (As := [.int i]) (rest := [.ref h]) ⟨hx, hb, hml, hown, hT⟩ (c_Digits_digitAt l dC dI H.size cI g ra row i ) (cwV 1 hT g_Dg_38 rfl rfl rfl (by decide +kernel) ⟨Nat.le_of_ble_eq_true rfl, Nat.le_of_ble_eq_true rfl⟩) ⟨fun a U g mk q => by obtain ⟨q0, q1, qP, qK, qD⟩ := q; exact ⟨q0, q1, qP, va_K.moved (u := U) (U := U.calling g mk a) (Vm.Alike.refl U.vm) qK, qD⟩, va_recv hKc hPc (ci := 0) (q0 := 0) rfl rfl, fun U hU hW => ⟨rfl, by rw [hU], by rw [hU]; exact hPc, va_K.moved hW.alike hKc, hDc.weaken (fun _ _ _ _ => trivial)⟩⟩ rfl rfl hl.1 rfl (lv_room (Nat.le_of_ble_eq_true rfl)) d_Dg_put_22 ⟨Nat.le_of_ble_eq_true rfl, Nat.le_of_ble_eq_true rfl⟩) hS (fun q _ h => hFc q h) hFc (fun x17 u t H1 locs ht hvm w22_17 hB hz1 hk1 hS => ?_)
        obtain ⟨hP1, hK1, hD1⟩ := hB
        rw [ht] at hP1
        try dsimp only at w22_17
        obtain ⟨hP, hD⟩ := va_join (wr := [(h, .inr (2, [.ref a, .int n1])), (a, .inl (cC, room, .inl f1))]) (w1 := [(g, .inr (0, [.ref ra])), (ra, .inl (cI, 31, .inl row))]) hP hD [2, 3] [0, 1] rfl rfl (by decide) (by decide) hk1 hFc hP1 hD1
        generalize H1 = H at hP hS ⊢
        have hP : va_P (dC, dI) CL [(h, .inr (2, [.ref a, .int n1])), (a, .inl (cC, room, .inl f1)), (g, .inr (0, [.ref ra])), (ra, .inl (cI, 31, .inl row))] H := hP
        have hD : va_D A [(h, .inr (2, [.ref a, .int n1])), (a, .inl (cC, room, .inl f1)), (g, .inr (0, [.ref ra])), (ra, .inl (cI, 31, .inl row))] := hD
        have hPc := hP.sub (ws' := [(h, .inr (2, [.ref a, .int n1])), (a, .inl (cC, room, .inl f1))]) [0, 1] rfl
        have hDc := hD.sub (ws' := [(h, .inr (2, [.ref a, .int n1])), (a, .inl (cC, room, .inl f1))]) [0, 1] (by decide) rfl
        have hKc := hK.sub (tys' := [(cC, .char)]) [1] rfl
        have hFc := va_free (wc := [(h, .inr (2, [.ref a, .int n1])), (a, .inl (cC, room, .inl f1))]) hD hS hA [0, 1] rfl
        refine va_callv (va_runV (As := [.int x17]) (rest := []) ⟨hx, hb, hml, hown, hT⟩ (c_Line_add l dC dI H.size cC h a room f1 n1 x17 (by first | assumption | omega)) (cwV 1 hT g_Dg_42 rfl rfl rfl (by decide +kernel) ⟨Nat.le_of_ble_eq_true rfl, Nat.le_of_ble_eq_true rfl⟩) ⟨fun a U g mk q => by obtain ⟨q0, q1, qP, qK, qD⟩ := q; exact ⟨q0, q1, qP, va_K.moved (u := U) (U := U.calling g mk a) (Vm.Alike.refl U.vm) qK, qD⟩, va_recv hKc hPc (ci := 2) (q0 := 0) rfl rfl, fun U hU hW => ⟨rfl, by rw [hU], by rw [hU]; exact hPc, va_K.moved hW.alike hKc, hDc.weaken (fun _ _ _ _ => trivial)⟩⟩ rfl rfl hl.1 rfl (lv_room (Nat.le_of_ble_eq_true rfl)) d_Dg_put_25 ⟨Nat.le_of_ble_eq_true rfl, Nat.le_of_ble_eq_true rfl⟩) hS (fun q _ h => hFc q h) hFc (fun u t H1 locs ht hvm w25_19 hB hz1 hk1 hS => ?_)
        obtain ⟨f_18, n_19⟩ := u
        obtain ⟨hP1, hK1, hD1⟩ := hB
        rw [ht] at hP1
        try dsimp only at w25_19
        obtain ⟨w25_19, w25_19b⟩ := w25_19
        obtain ⟨hP, hD⟩ := va_join (wr := [(g, .inr (0, [.ref ra])), (ra, .inl (cI, 31, .inl row))]) (w1 := [(h, .inr (2, [.ref a, .int n_19])), (a, .inl (cC, room, .inl f_18))]) hP hD [0, 1] [2, 3] rfl rfl (by decide) (by decide) hk1 hFc hP1 hD1
        generalize H1 = H at hP hS ⊢
        have hP : va_P (dC, dI) CL [(g, .inr (0, [.ref ra])), (ra, .inl (cI, 31, .inl row)), (h, .inr (2, [.ref a, .int n_19])), (a, .inl (cC, room, .inl f_18))] H := hP
        have hD : va_D A [(g, .inr (0, [.ref ra])), (ra, .inl (cI, 31, .inl row)), (h, .inr (2, [.ref a, .int n_19])), (a, .inl (cC, room, .inl f_18))] := hD
        obtain ⟨x20, ex20⟩ : ∃ y : Int32, y = i + 1 := ⟨_, rfl⟩
        refine lv_iinc (v := x20) (lv' := [(5, .int x20), (0, .ref g), (1, .ref h), (2, .int point), (3, .int places), (4, .int must)]) hx hb d_Dg_put_28 hl (k := 0) rfl (by rw [ex20]; rfl) (by decide) rfl (fun ls hl => ?_)
        refine lv_goto (tgt := 12) hx hb d_Dg_put_31 (by decide) ?_
        exact ih x20 n_19 f_18 _ _ _ (by rw [ex20]; exact k_fuel c15_4 hk) (w25_19b) (by have h9 := hG; rw [dgP1, if_neg c15_4] at h9; rw [ex20, w25_19, w22_17]; exact h9) (hP.sub [2, 3, 0, 1] rfl) (hD.sub [2, 3, 0, 1] (by decide) rfl) hS (lv_sub hl [0, 1, 2, 3, 4, 5] rfl)
  exact loop12 ((point.toInt - (dgBeg row point).toInt).toNat + 1) x3 n f _ _ _ (by rw [ex3, ex2, w1_1]; exact Nat.lt_succ_self _) (hn) (by rw [ex3, ex2, w1_1]; rfl) hP hD hS (lv_sub hl [0, 1, 2, 3, 4, 5] rfl)
