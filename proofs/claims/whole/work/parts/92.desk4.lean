theorem t_252 : (.methodLink R_De 122 y_Va_matches : Cond) ∈ TB := tb_of 252 (by decide +kernel) (by decide +kernel)
theorem t_253 : (.instanceMethod y_Va_matches : Cond) ∈ TB := tb_of 253 (by decide +kernel) (by decide +kernel)
theorem t_254 : (.selects R_Va y_Va_matches y_Va_matches : Cond) ∈ TB := tb_of 254 (by decide +kernel) (by decide +kernel)
theorem t_255 : (.code y_Va_matches b_Va_matches 2 (some .boolean) : Cond) ∈ TB := tb_of 255 (by decide +kernel) (by decide +kernel)
theorem g_De_122 : GoodIn TB (wsV R_De 122 R_Va y_Va_matches w_Va_matches) := TB_V t_252 t_253 t_254 t_4 t_255
set_option maxHeartbeats 4000000 in
set_option maxRecDepth 100000 in
theorem c_Line_matches_self (l : Launch) (dC : Nat → ClassId) (dI : Nat → Nat → Nat) (sz : Nat) (cC : ClassId) (h : Nat) (a : Nat) (room : Nat) (f : Nat → Int32) (n : Int32) (hn : lnOK room n) : Met l y_Ln_matches w_Ln_matches ({ frames := 1, cells := 0, slots := 0, locals := 21 } : Room) (va_Pc [.ref h, .ref h] (fun U => U.heap.size = sz ∧ va_P (dC, dI) CL [(h, .inr (2, [.ref a, .int n])), (a, .inl (cC, room, .inl f))] U.heap ∧ va_K (dC, dI) CL [(cC, .char)] U ∧ va_D (fun _ => True) [(h, .inr (2, [.ref a, .int n])), (a, .inl (cC, room, .inl f))])) (va_Qi (fun (r : Int32) (u : Unit) => r = k_b (lnEq f n f n)) (fun (u : Unit) (t : State) => va_P (dC, dI) CL [(h, .inr (2, [.ref a, .int n])), (a, .inl (cC, room, .inl f))] t.heap ∧ va_K (dC, dI) CL [(cC, .char)] t ∧ va_D (va_A [(h, .inr (2, [.ref a, .int n])), (a, .inl (cC, room, .inl f))] sz) [(h, .inr (2, [.ref a, .int n])), (a, .inl (cC, room, .inl f))]) (va_A [(h, .inr (2, [.ref a, .int n])), (a, .inl (cC, room, .inl f))] sz)) 0 0 (va_A [(h, .inr (2, [.ref a, .int n])), (a, .inl (cC, room, .inl f))] sz) := by
  refine Met.ofW (cc := b_Ln_matches) (maxL := 3) (ret := (some .boolean)) (by decide) rfl ?_
  intro p e s m args below meth c s₁ B hml hv
  obtain ⟨rfl, hsz, hP, hK, hD0⟩ := hv
  have hx := B.exec
  have hb := B.bytes
  have hr := B.returns
  have hts := atoms_spec (ws := w_Ln_matches) B.pre
  have hT : ∀ w ∈ TB, w.before _ s = true := fun w h => hts w (List.mem_cons_of_mem _ h)
  have hown : s.vm.findClass R_Ln = some m.cls := findClass_of_methodNamed B.named
  have hlocks := B.notSynchronized
  subst hsz
  have hD := hD0.self (sz := s.heap.size)
  generalize hAe : va_A [(h, .inr (2, [.ref a, .int n])), (a, .inl (cC, room, .inl f))] s.heap.size = A at hD ⊢
  have hA : ∀ q : Nat, s.heap.size ≤ q → A q := fun q h => by rw [← hAe]; exact Or.inr h
  have hS : va_S A s.heap s.heap [] := va_S.rf
  have hP : va_P (dC, dI) CL [(h, .inr (2, [.ref a, .int n])), (a, .inl (cC, room, .inl f))] s.heap := hP
  have hl := lv_entry ([.ref h, .ref h]) (n := 3) (Nat.le_of_ble_eq_true rfl)
  rw [lg_entry_eq]
  generalize (lg_sl ([.ref h, .ref h]) ++ List.replicate (3 - (lg_sl ([.ref h, .ref h])).length) Slot.unset).toArray = ls at hl ⊢
  have hl : lv_has ls 3 [(0, .ref h), (1, .ref h)] := hl
  refine k_Q (fun Q hQ => ?_)
  refine lv_aload_n hx hb d_Ln_matches_0 rfl (lv_at hl 0 rfl) ?_
  refine va_get (D := (dC, dI)) (ci := 2) (v := .int n) (C := R_Ln) (T := F_Ln) (N := 2) hx hb hT (in_Ln) hown hK hP 0 rfl rfl 1 (by decide) (hT _ t_33) (fun _ h9 => h9) rfl d_Ln_matches_1 ?_
  refine lv_aload_n hx hb d_Ln_matches_4 rfl (lv_at hl 1 rfl) ?_
  refine va_get (D := (dC, dI)) (ci := 2) (v := .int n) (C := R_Ln) (T := F_Ln) (N := 2) hx hb hT (in_Ln) hown hK hP 0 rfl rfl 1 (by decide) (hT _ t_33) (fun _ h9 => h9) rfl d_Ln_matches_5 ?_
  refine lv_icmp_eq (tgt := 13) hx hb d_Ln_matches_8 (by decide) (fun c8_1 => ?_) (fun c8_1 => ?_)
  · skip
    refine lv_iconst (v := 0) hx hb d_Ln_matches_13 (by decide) ?_
    refine lv_istore_n (lv' := [(2, .int 0), (0, .ref h), (1, .ref h)]) hx hb d_Ln_matches_14 rfl hl (by decide) rfl (fun ls hl => ?_)
    have loop15 : ∀ (fuel : Nat) (i : Int32) (H : Heap) (locs : List Loc) (ls : Array Slot), ((n.toInt - i.toInt).toNat < fuel) → (lnSame f n f n fuel i = lnSame f n f n (n.toInt.toNat + 1) 0) → va_P (dC, dI) CL [(h, .inr (2, [.ref a, .int n])), (a, .inl (cC, room, .inl f))] H → va_D A [(h, .inr (2, [.ref a, .int n])), (a, .inl (cC, room, .inl f))] → va_S A s.heap H locs → lv_has ls 3 [(2, .int i), (0, .ref h), (1, .ref h)] → W p l e (headSpec w_Ln_matches ({ frames := 1, cells := 0, slots := 0, locals := 21 } : Room)).room s m ([.ref h, .ref h] : List Value).toArray below meth c H locs 0 0 Q (F0 m 15 ls []) := by
      intro fuel
      induction fuel with
      | zero =>
        intro i H locs ls hk hG hP hD hS hl
        exact absurd hk (Nat.not_lt_zero _)
      | succ fuel ih =>
        intro i H locs ls hk hG hP hD hS hl
        refine lv_iload_n hx hb d_Ln_matches_15 rfl (lv_at hl 0 rfl) ?_
        refine lv_aload_n hx hb d_Ln_matches_16 rfl (lv_at hl 1 rfl) ?_
        refine va_get (D := (dC, dI)) (ci := 2) (v := .int n) (C := R_Ln) (T := F_Ln) (N := 2) hx hb hT (in_Ln) hown hK hP 0 rfl rfl 1 (by decide) (hT _ t_33) (fun _ h9 => h9) rfl d_Ln_matches_17 ?_
        refine lv_icmp_ge (tgt := 44) hx hb d_Ln_matches_20 (by decide) (fun c20_2 => ?_) (fun c20_2 => ?_)
        · skip
          refine lv_iconst (v := 1) hx hb d_Ln_matches_44 (by decide) ?_
          have hP9 := hP.sub (ws' := [(h, .inr (2, [.ref a, .int n])), (a, .inl (cC, room, .inl f))]) [0, 1] rfl
          have hD9 := hD.sub (ws' := [(h, .inr (2, [.ref a, .int n])), (a, .inl (cC, room, .inl f))]) [0, 1] (by decide) rfl
          have hK9 := hK.sub (tys' := [(cC, .char)]) [0] rfl
          have hq9 : (1 : Int32) = k_b (lnEq f n f n) := by unfold lnEq; rw [if_pos rfl, ← hG, lnSame, if_pos c20_2]; rfl
          subst hQ
          exact W.zret (v := 1) hx hb hr rfl (fun t ht hW => ⟨⟨1, (), rfl, hq9, by rw [ht]; exact hP9, va_K.moved hW.alike hK9, hD9⟩, hS.F ht⟩) hS.2.2 d_Ln_matches_45
        · skip
          refine lv_aload_n hx hb d_Ln_matches_23 rfl (lv_at hl 1 rfl) ?_
          refine lv_iload_n hx hb d_Ln_matches_24 rfl (lv_at hl 0 rfl) ?_
          have hPc := hP.sub (ws' := [(h, .inr (2, [.ref a, .int n])), (a, .inl (cC, room, .inl f))]) [0, 1] rfl
          have hDc := hD.sub (ws' := [(h, .inr (2, [.ref a, .int n])), (a, .inl (cC, room, .inl f))]) [0, 1] (by decide) rfl
          have hKc := hK.sub (tys' := [(cC, .char)]) [0] rfl
          have hFc := va_free (wc := [(h, .inr (2, [.ref a, .int n])), (a, .inl (cC, room, .inl f))]) hD hS hA [0, 1] rfl
          refine va_calli (va_runV (As := [.int i]) (rest := []) ⟨hx, hb, hml, hown, hT⟩ (c_Line_at l dC dI H.size cC h a room f n i hn) (cwV 1 hT g_Ln_29 rfl rfl rfl (by decide +kernel) ⟨Nat.le_of_ble_eq_true rfl, Nat.le_of_ble_eq_true rfl⟩) ⟨fun a U g mk q => by obtain ⟨q0, q1, qP, qK, qD⟩ := q; exact ⟨q0, q1, qP, va_K.moved (u := U) (U := U.calling g mk a) (Vm.Alike.refl U.vm) qK, qD⟩, va_recv hKc hPc (ci := 2) (q0 := 0) rfl rfl, fun U hU hW => ⟨rfl, by rw [hU], by rw [hU]; exact hPc, va_K.moved hW.alike hKc, hDc.weaken (fun _ _ _ _ => trivial)⟩⟩ rfl rfl hl.1 rfl (lv_room (Nat.le_of_ble_eq_true rfl)) d_Ln_matches_25 ⟨Nat.le_of_ble_eq_true rfl, Nat.le_of_ble_eq_true rfl⟩) hS (fun q _ h => hFc q h) hFc (fun x3 u t H1 locs ht hvm w25_3 hB hz1 hk1 hS => ?_)
          obtain ⟨hP1, hK1, hD1⟩ := hB
          rw [ht] at hP1
          try dsimp only at w25_3
          obtain ⟨hP, hD⟩ := va_join (wr := []) (w1 := [(h, .inr (2, [.ref a, .int n])), (a, .inl (cC, room, .inl f))]) hP hD [0, 1] [] rfl rfl (by decide) (by decide) hk1 hFc hP1 hD1
          generalize H1 = H at hP hS ⊢
          have hP : va_P (dC, dI) CL [(h, .inr (2, [.ref a, .int n])), (a, .inl (cC, room, .inl f))] H := hP
          have hD : va_D A [(h, .inr (2, [.ref a, .int n])), (a, .inl (cC, room, .inl f))] := hD
          refine lv_aload_n hx hb d_Ln_matches_28 rfl (lv_at hl 2 rfl) ?_
          refine lv_iload_n hx hb d_Ln_matches_29 rfl (lv_at hl 0 rfl) ?_
          have hPc := hP.sub (ws' := [(h, .inr (2, [.ref a, .int n])), (a, .inl (cC, room, .inl f))]) [0, 1] rfl
          have hDc := hD.sub (ws' := [(h, .inr (2, [.ref a, .int n])), (a, .inl (cC, room, .inl f))]) [0, 1] (by decide) rfl
          have hKc := hK.sub (tys' := [(cC, .char)]) [0] rfl
          have hFc := va_free (wc := [(h, .inr (2, [.ref a, .int n])), (a, .inl (cC, room, .inl f))]) hD hS hA [0, 1] rfl
          refine va_calli (va_runV (As := [.int i]) (rest := [.int x3]) ⟨hx, hb, hml, hown, hT⟩ (c_Line_at l dC dI H.size cC h a room f n i hn) (cwV 1 hT g_Ln_29 rfl rfl rfl (by decide +kernel) ⟨Nat.le_of_ble_eq_true rfl, Nat.le_of_ble_eq_true rfl⟩) ⟨fun a U g mk q => by obtain ⟨q0, q1, qP, qK, qD⟩ := q; exact ⟨q0, q1, qP, va_K.moved (u := U) (U := U.calling g mk a) (Vm.Alike.refl U.vm) qK, qD⟩, va_recv hKc hPc (ci := 2) (q0 := 0) rfl rfl, fun U hU hW => ⟨rfl, by rw [hU], by rw [hU]; exact hPc, va_K.moved hW.alike hKc, hDc.weaken (fun _ _ _ _ => trivial)⟩⟩ rfl rfl hl.1 rfl (lv_room (Nat.le_of_ble_eq_true rfl)) d_Ln_matches_30 ⟨Nat.le_of_ble_eq_true rfl, Nat.le_of_ble_eq_true rfl⟩) hS (fun q _ h => hFc q h) hFc (fun x4 u t H1 locs ht hvm w30_4 hB hz1 hk1 hS => ?_)
          obtain ⟨hP1, hK1, hD1⟩ := hB
          rw [ht] at hP1
          try dsimp only at w30_4
          obtain ⟨hP, hD⟩ := va_join (wr := []) (w1 := [(h, .inr (2, [.ref a, .int n])), (a, .inl (cC, room, .inl f))]) hP hD [0, 1] [] rfl rfl (by decide) (by decide) hk1 hFc hP1 hD1
          generalize H1 = H at hP hS ⊢
          have hP : va_P (dC, dI) CL [(h, .inr (2, [.ref a, .int n])), (a, .inl (cC, room, .inl f))] H := hP
          have hD : va_D A [(h, .inr (2, [.ref a, .int n])), (a, .inl (cC, room, .inl f))] := hD
          refine lv_icmp_eq (tgt := 38) hx hb d_Ln_matches_33 (by decide) (fun c33_5 => ?_) (fun c33_5 => ?_)
          · skip
            obtain ⟨x6, ex6⟩ : ∃ y : Int32, y = i + 1 := ⟨_, rfl⟩
            refine lv_iinc (v := x6) (lv' := [(2, .int x6), (0, .ref h), (1, .ref h)]) hx hb d_Ln_matches_38 hl (k := 0) rfl (by rw [ex6]; rfl) (by decide) rfl (fun ls hl => ?_)
            refine lv_goto (tgt := 15) hx hb d_Ln_matches_41 (by decide) ?_
            exact ih x6 _ _ _ (by rw [ex6]; exact k_fuel c20_2 hk) (by have h9 := hG; rw [lnSame, if_neg c20_2, if_pos rfl] at h9; rw [ex6]; exact h9) (hP.sub [0, 1] rfl) (hD.sub [0, 1] (by decide) rfl) hS (lv_sub hl [0, 1, 2] rfl)
          · skip
            exact absurd (by rw [w25_3, w30_4]) c33_5
    exact loop15 (n.toInt.toNat + 1) 0 _ _ _ (by rw [show (0 : Int32).toInt = 0 from by decide]; omega) (rfl) hP hD hS (lv_sub hl [0, 1, 2] rfl)
  · skip
    exact absurd rfl c8_1

set_option maxHeartbeats 4000000 in
set_option maxRecDepth 100000 in
theorem c_Value_matches_self (l : Launch) (dC : Nat → ClassId) (dI : Nat → Nat → Nat) (sz : Nat) (cC : ClassId) (v : Nat) (w : Nat) (wa : Nat) (dec : Int32) (bel : Int32) (ah : Int64) (bh : Int64) (f : Nat → Int32) (n : Int32) (hn : lnOK 60 n) : Met l y_Va_matches w_Va_matches ({ frames := 2, cells := 0, slots := 0, locals := 43 } : Room) (va_Pc [.ref v, .ref v] (fun U => U.heap.size = sz ∧ va_P (dC, dI) CL [(v, .inr (4, [.ref w, .int dec, .int bel, .long ah, .long bh])), (w, .inr (2, [.ref wa, .int n])), (wa, .inl (cC, 60, .inl f))] U.heap ∧ va_K (dC, dI) CL [(cC, .char)] U ∧ va_D (fun _ => True) [(v, .inr (4, [.ref w, .int dec, .int bel, .long ah, .long bh])), (w, .inr (2, [.ref wa, .int n])), (wa, .inl (cC, 60, .inl f))])) (va_Qi (fun (r : Int32) (u : Unit) => r = k_b (vaSame dec dec f n f n)) (fun (u : Unit) (t : State) => va_P (dC, dI) CL [(v, .inr (4, [.ref w, .int dec, .int bel, .long ah, .long bh])), (w, .inr (2, [.ref wa, .int n])), (wa, .inl (cC, 60, .inl f))] t.heap ∧ va_K (dC, dI) CL [(cC, .char)] t ∧ va_D (va_A [(v, .inr (4, [.ref w, .int dec, .int bel, .long ah, .long bh])), (w, .inr (2, [.ref wa, .int n])), (wa, .inl (cC, 60, .inl f))] sz) [(v, .inr (4, [.ref w, .int dec, .int bel, .long ah, .long bh])), (w, .inr (2, [.ref wa, .int n])), (wa, .inl (cC, 60, .inl f))]) (va_A [(v, .inr (4, [.ref w, .int dec, .int bel, .long ah, .long bh])), (w, .inr (2, [.ref wa, .int n])), (wa, .inl (cC, 60, .inl f))] sz)) 0 0 (va_A [(v, .inr (4, [.ref w, .int dec, .int bel, .long ah, .long bh])), (w, .inr (2, [.ref wa, .int n])), (wa, .inl (cC, 60, .inl f))] sz) := by
  refine Met.ofW (cc := b_Va_matches) (maxL := 2) (ret := (some .boolean)) (by decide) rfl ?_
  intro p e s m args below meth c s₁ B hml hv
  obtain ⟨rfl, hsz, hP, hK, hD0⟩ := hv
  have hx := B.exec
  have hb := B.bytes
  have hr := B.returns
  have hts := atoms_spec (ws := w_Va_matches) B.pre
  have hT : ∀ w ∈ TB, w.before _ s = true := fun w h => hts w (List.mem_cons_of_mem _ h)
  have hown : s.vm.findClass R_Va = some m.cls := findClass_of_methodNamed B.named
  have hlocks := B.notSynchronized
  subst hsz
  have hD := hD0.self (sz := s.heap.size)
  generalize hAe : va_A [(v, .inr (4, [.ref w, .int dec, .int bel, .long ah, .long bh])), (w, .inr (2, [.ref wa, .int n])), (wa, .inl (cC, 60, .inl f))] s.heap.size = A at hD ⊢
  have hA : ∀ q : Nat, s.heap.size ≤ q → A q := fun q h => by rw [← hAe]; exact Or.inr h
  have hS : va_S A s.heap s.heap [] := va_S.rf
  have hP : va_P (dC, dI) CL [(v, .inr (4, [.ref w, .int dec, .int bel, .long ah, .long bh])), (w, .inr (2, [.ref wa, .int n])), (wa, .inl (cC, 60, .inl f))] s.heap := hP
  have hl := lv_entry ([.ref v, .ref v]) (n := 2) (Nat.le_of_ble_eq_true rfl)
  rw [lg_entry_eq]
  generalize (lg_sl ([.ref v, .ref v]) ++ List.replicate (2 - (lg_sl ([.ref v, .ref v])).length) Slot.unset).toArray = ls at hl ⊢
  have hl : lv_has ls 2 [(0, .ref v), (1, .ref v)] := hl
  refine lv_aload_n hx hb d_Va_matches_0 rfl (lv_at hl 0 rfl) ?_
  refine va_get (D := (dC, dI)) (ci := 4) (v := .int dec) (C := R_Va) (T := F_Va) (N := 5) hx hb hT (in_Va) hown hK hP 0 rfl rfl 1 (by decide) (hT _ t_51) (fun _ h9 => h9) rfl d_Va_matches_1 ?_
  refine lv_aload_n hx hb d_Va_matches_4 rfl (lv_at hl 1 rfl) ?_
  refine va_get (D := (dC, dI)) (ci := 4) (v := .int dec) (C := R_Va) (T := F_Va) (N := 5) hx hb hT (in_Va) hown hK hP 0 rfl rfl 1 (by decide) (hT _ t_51) (fun _ h9 => h9) rfl d_Va_matches_5 ?_
  refine lv_icmp_ne (tgt := 29) hx hb d_Va_matches_8 (by decide) (fun c8_1 => ?_) (fun c8_1 => ?_)
  · skip
    exact absurd rfl c8_1
  · skip
    refine lv_aload_n hx hb d_Va_matches_11 rfl (lv_at hl 0 rfl) ?_
    refine va_get (D := (dC, dI)) (ci := 4) (v := .ref w) (C := R_Va) (T := F_Va) (N := 5) hx hb hT (in_Va) hown hK hP 0 rfl rfl 0 (by decide) (hT _ t_49) (fun _ h9 => h9) rfl d_Va_matches_12 ?_
    refine lv_aload_n hx hb d_Va_matches_15 rfl (lv_at hl 1 rfl) ?_
    refine va_get (D := (dC, dI)) (ci := 4) (v := .ref w) (C := R_Va) (T := F_Va) (N := 5) hx hb hT (in_Va) hown hK hP 0 rfl rfl 0 (by decide) (hT _ t_49) (fun _ h9 => h9) rfl d_Va_matches_16 ?_
    have hPc := hP.sub (ws' := [(w, .inr (2, [.ref wa, .int n])), (wa, .inl (cC, 60, .inl f))]) [1, 2] rfl
    have hDc := hD.sub (ws' := [(w, .inr (2, [.ref wa, .int n])), (wa, .inl (cC, 60, .inl f))]) [1, 2] (by decide) rfl
    have hKc := hK.sub (tys' := [(cC, .char)]) [0] rfl
    have hFc := va_free (wc := [(w, .inr (2, [.ref wa, .int n])), (wa, .inl (cC, 60, .inl f))]) hD hS hA [1, 2] rfl
    refine va_calli (va_runV (As := [.ref w]) (rest := []) ⟨hx, hb, hml, hown, hT⟩ (c_Line_matches_self l dC dI s.heap.size cC w wa 60 f n hn) (cwV 1 hT g_Va_78 rfl rfl rfl (by decide +kernel) ⟨Nat.le_of_ble_eq_true rfl, Nat.le_of_ble_eq_true rfl⟩) ⟨fun a U g mk q => by obtain ⟨q0, q1, qP, qK, qD⟩ := q; exact ⟨q0, q1, qP, va_K.moved (u := U) (U := U.calling g mk a) (Vm.Alike.refl U.vm) qK, qD⟩, va_recv hKc hPc (ci := 2) (q0 := 0) rfl rfl, fun U hU hW => ⟨rfl, by rw [hU], by rw [hU]; exact hPc, va_K.moved hW.alike hKc, hDc.weaken (fun _ _ _ _ => trivial)⟩⟩ rfl rfl hl.1 rfl (lv_room (Nat.le_of_ble_eq_true rfl)) d_Va_matches_19 ⟨Nat.le_of_ble_eq_true rfl, Nat.le_of_ble_eq_true rfl⟩) hS (fun q _ h => hFc q h) hFc (fun x2 u t H1 locs ht hvm w19_2 hB hz1 hk1 hS => ?_)
    obtain ⟨hP1, hK1, hD1⟩ := hB
    rw [ht] at hP1
    try dsimp only at w19_2
    obtain ⟨hP, hD⟩ := va_join (wr := [(v, .inr (4, [.ref w, .int dec, .int bel, .long ah, .long bh]))]) (w1 := [(w, .inr (2, [.ref wa, .int n])), (wa, .inl (cC, 60, .inl f))]) hP hD [1, 2] [0] rfl rfl (by decide) (by decide) hk1 hFc hP1 hD1
    generalize H1 = H at hP hS ⊢
    have hP : va_P (dC, dI) CL [(v, .inr (4, [.ref w, .int dec, .int bel, .long ah, .long bh])), (w, .inr (2, [.ref wa, .int n])), (wa, .inl (cC, 60, .inl f))] H := hP
    have hD : va_D A [(v, .inr (4, [.ref w, .int dec, .int bel, .long ah, .long bh])), (w, .inr (2, [.ref wa, .int n])), (wa, .inl (cC, 60, .inl f))] := hD
    refine lv_if_eq (tgt := 29) hx hb d_Va_matches_22 (by decide) (fun c22_3 => ?_) (fun c22_3 => ?_)
    · skip
      rw [w19_2, k_b_eq0] at c22_3
      refine lv_iconst (v := 0) hx hb d_Va_matches_29 (by decide) ?_
      have hP9 := hP.sub (ws' := [(v, .inr (4, [.ref w, .int dec, .int bel, .long ah, .long bh])), (w, .inr (2, [.ref wa, .int n])), (wa, .inl (cC, 60, .inl f))]) [0, 1, 2] rfl
      have hD9 := hD.sub (ws' := [(v, .inr (4, [.ref w, .int dec, .int bel, .long ah, .long bh])), (w, .inr (2, [.ref wa, .int n])), (wa, .inl (cC, 60, .inl f))]) [0, 1, 2] (by decide) rfl
      have hK9 := hK.sub (tys' := [(cC, .char)]) [0] rfl
      have hq9 : (0 : Int32) = k_b (vaSame dec dec f n f n) := by simp [k_b, vaSame, c22_3]
      exact W.zret (v := 0) hx hb hr rfl (fun t ht hW => ⟨⟨0, (), rfl, hq9, by rw [ht]; exact hP9, va_K.moved hW.alike hK9, hD9⟩, hS.F ht⟩) hS.2.2 d_Va_matches_30
    · skip
      rw [w19_2, k_b_eq0] at c22_3
      refine lv_iconst (v := 1) hx hb d_Va_matches_25 (by decide) ?_
      refine lv_goto (tgt := 30) hx hb d_Va_matches_26 (by decide) ?_
      have hP9 := hP.sub (ws' := [(v, .inr (4, [.ref w, .int dec, .int bel, .long ah, .long bh])), (w, .inr (2, [.ref wa, .int n])), (wa, .inl (cC, 60, .inl f))]) [0, 1, 2] rfl
      have hD9 := hD.sub (ws' := [(v, .inr (4, [.ref w, .int dec, .int bel, .long ah, .long bh])), (w, .inr (2, [.ref wa, .int n])), (wa, .inl (cC, 60, .inl f))]) [0, 1, 2] (by decide) rfl
      have hK9 := hK.sub (tys' := [(cC, .char)]) [0] rfl
      have hq9 : (1 : Int32) = k_b (vaSame dec dec f n f n) := by simp [k_b, vaSame, c22_3]
      exact W.zret (v := 1) hx hb hr rfl (fun t ht hW => ⟨⟨1, (), rfl, hq9, by rw [ht]; exact hP9, va_K.moved hW.alike hK9, hD9⟩, hS.F ht⟩) hS.2.2 d_Va_matches_30

set_option maxHeartbeats 4000000 in
set_option maxRecDepth 100000 in
theorem c_De_alike_no (l : Launch) (dC : Nat → ClassId) (dI : Nat → Nat → Nat) (sz : Nat) (d : Nat) (tp : Nat) (vs : Nat) (sv : Nat) (fi : Nat) (sa : Nat) (fl : Nat) (dr : Nat) (ev : Int32) (cnt : Int32) (tk : Int32) (fk : Int32) (fpl : Int32) (a9 : Int32) (b9 : Int32) (hno : a9 < 0 ∨ cnt ≤ a9 ∨ b9 < 0 ∨ ¬ b9 < cnt) : Met l y_De_alike w_De_alike ({ frames := 0, cells := 0, slots := 0, locals := 0 } : Room) (va_Pc [.ref d, .int a9, .int b9] (fun U => U.heap.size = sz ∧ va_P (dC, dI) CL [(d, .inr (5, [.ref tp, .ref vs, .ref sv, .ref fi, .ref sa, .ref fl, .ref dr, .int ev, .int cnt, .int tk, .int fk, .int fpl]))] U.heap ∧ va_K (dC, dI) CL [] U ∧ va_D (fun _ => True) [(d, .inr (5, [.ref tp, .ref vs, .ref sv, .ref fi, .ref sa, .ref fl, .ref dr, .int ev, .int cnt, .int tk, .int fk, .int fpl]))])) (va_Qi (fun (r : Int32) (u : Unit) => r = 0) (fun (u : Unit) (t : State) => va_P (dC, dI) CL [(d, .inr (5, [.ref tp, .ref vs, .ref sv, .ref fi, .ref sa, .ref fl, .ref dr, .int ev, .int cnt, .int tk, .int fk, .int fpl]))] t.heap ∧ va_K (dC, dI) CL [] t ∧ va_D (va_A [(d, .inr (5, [.ref tp, .ref vs, .ref sv, .ref fi, .ref sa, .ref fl, .ref dr, .int ev, .int cnt, .int tk, .int fk, .int fpl]))] sz) [(d, .inr (5, [.ref tp, .ref vs, .ref sv, .ref fi, .ref sa, .ref fl, .ref dr, .int ev, .int cnt, .int tk, .int fk, .int fpl]))]) (va_A [(d, .inr (5, [.ref tp, .ref vs, .ref sv, .ref fi, .ref sa, .ref fl, .ref dr, .int ev, .int cnt, .int tk, .int fk, .int fpl]))] sz)) 0 0 (va_A [(d, .inr (5, [.ref tp, .ref vs, .ref sv, .ref fi, .ref sa, .ref fl, .ref dr, .int ev, .int cnt, .int tk, .int fk, .int fpl]))] sz) := by
  refine Met.ofW (cc := b_De_alike) (maxL := 3) (ret := (some .boolean)) (by decide) rfl ?_
  intro p e s m args below meth c s₁ B hml hv
  obtain ⟨rfl, hsz, hP, hK, hD0⟩ := hv
  have hx := B.exec
  have hb := B.bytes
  have hr := B.returns
  have hts := atoms_spec (ws := w_De_alike) B.pre
  have hT : ∀ w ∈ TB, w.before _ s = true := fun w h => hts w (List.mem_cons_of_mem _ h)
  have hown : s.vm.findClass R_De = some m.cls := findClass_of_methodNamed B.named
  have hlocks := B.notSynchronized
  subst hsz
  have hD := hD0.self (sz := s.heap.size)
  generalize hAe : va_A [(d, .inr (5, [.ref tp, .ref vs, .ref sv, .ref fi, .ref sa, .ref fl, .ref dr, .int ev, .int cnt, .int tk, .int fk, .int fpl]))] s.heap.size = A at hD ⊢
  have hA : ∀ q : Nat, s.heap.size ≤ q → A q := fun q h => by rw [← hAe]; exact Or.inr h
  have hS : va_S A s.heap s.heap [] := va_S.rf
  have hP : va_P (dC, dI) CL [(d, .inr (5, [.ref tp, .ref vs, .ref sv, .ref fi, .ref sa, .ref fl, .ref dr, .int ev, .int cnt, .int tk, .int fk, .int fpl]))] s.heap := hP
  have hl := lv_entry ([.ref d, .int a9, .int b9]) (n := 3) (Nat.le_of_ble_eq_true rfl)
  rw [lg_entry_eq]
  generalize (lg_sl ([.ref d, .int a9, .int b9]) ++ List.replicate (3 - (lg_sl ([.ref d, .int a9, .int b9])).length) Slot.unset).toArray = ls at hl ⊢
  have hl : lv_has ls 3 [(0, .ref d), (1, .int a9), (2, .int b9)] := hl
  refine lv_iload_n hx hb d_De_alike_0 rfl (lv_at hl 1 rfl) ?_
  refine lv_if_lt (tgt := 24) hx hb d_De_alike_1 (by decide) (fun c1_1 => ?_) (fun c1_1 => ?_)
  · skip
    refine lv_iconst (v := 0) hx hb d_De_alike_24 (by decide) ?_
    have hP9 := hP.sub (ws' := [(d, .inr (5, [.ref tp, .ref vs, .ref sv, .ref fi, .ref sa, .ref fl, .ref dr, .int ev, .int cnt, .int tk, .int fk, .int fpl]))]) [0] rfl
    have hD9 := hD.sub (ws' := [(d, .inr (5, [.ref tp, .ref vs, .ref sv, .ref fi, .ref sa, .ref fl, .ref dr, .int ev, .int cnt, .int tk, .int fk, .int fpl]))]) [0] (by decide) rfl
    have hK9 := hK.sub (tys' := []) [] rfl
    have hq9 : (0 : Int32) = 0 := rfl
    exact W.zret (v := 0) hx hb hr rfl (fun t ht hW => ⟨⟨0, (), rfl, hq9, by rw [ht]; exact hP9, va_K.moved hW.alike hK9, hD9⟩, hS.F ht⟩) hS.2.2 d_De_alike_25
  · skip
    refine lv_iload_n hx hb d_De_alike_4 rfl (lv_at hl 1 rfl) ?_
    refine lv_aload_n hx hb d_De_alike_5 rfl (lv_at hl 0 rfl) ?_
    refine va_get (D := (dC, dI)) (ci := 5) (v := .int cnt) (C := R_De) (T := F_De) (N := 12) hx hb hT (in_De) hown hK hP 0 rfl rfl 8 (by decide) (hT _ t_165) (fun _ h9 => h9) rfl d_De_alike_6 ?_
    refine lv_icmp_ge (tgt := 24) hx hb d_De_alike_9 (by decide) (fun c9_2 => ?_) (fun c9_2 => ?_)
    · skip
      refine lv_iconst (v := 0) hx hb d_De_alike_24 (by decide) ?_
      have hP9 := hP.sub (ws' := [(d, .inr (5, [.ref tp, .ref vs, .ref sv, .ref fi, .ref sa, .ref fl, .ref dr, .int ev, .int cnt, .int tk, .int fk, .int fpl]))]) [0] rfl
      have hD9 := hD.sub (ws' := [(d, .inr (5, [.ref tp, .ref vs, .ref sv, .ref fi, .ref sa, .ref fl, .ref dr, .int ev, .int cnt, .int tk, .int fk, .int fpl]))]) [0] (by decide) rfl
      have hK9 := hK.sub (tys' := []) [] rfl
      have hq9 : (0 : Int32) = 0 := rfl
      exact W.zret (v := 0) hx hb hr rfl (fun t ht hW => ⟨⟨0, (), rfl, hq9, by rw [ht]; exact hP9, va_K.moved hW.alike hK9, hD9⟩, hS.F ht⟩) hS.2.2 d_De_alike_25
    · skip
      refine lv_iload_n hx hb d_De_alike_12 rfl (lv_at hl 2 rfl) ?_
      refine lv_if_lt (tgt := 24) hx hb d_De_alike_13 (by decide) (fun c13_3 => ?_) (fun c13_3 => ?_)
      · skip
        refine lv_iconst (v := 0) hx hb d_De_alike_24 (by decide) ?_
        have hP9 := hP.sub (ws' := [(d, .inr (5, [.ref tp, .ref vs, .ref sv, .ref fi, .ref sa, .ref fl, .ref dr, .int ev, .int cnt, .int tk, .int fk, .int fpl]))]) [0] rfl
        have hD9 := hD.sub (ws' := [(d, .inr (5, [.ref tp, .ref vs, .ref sv, .ref fi, .ref sa, .ref fl, .ref dr, .int ev, .int cnt, .int tk, .int fk, .int fpl]))]) [0] (by decide) rfl
        have hK9 := hK.sub (tys' := []) [] rfl
        have hq9 : (0 : Int32) = 0 := rfl
        exact W.zret (v := 0) hx hb hr rfl (fun t ht hW => ⟨⟨0, (), rfl, hq9, by rw [ht]; exact hP9, va_K.moved hW.alike hK9, hD9⟩, hS.F ht⟩) hS.2.2 d_De_alike_25
      · skip
        refine lv_iload_n hx hb d_De_alike_16 rfl (lv_at hl 2 rfl) ?_
        refine lv_aload_n hx hb d_De_alike_17 rfl (lv_at hl 0 rfl) ?_
        refine va_get (D := (dC, dI)) (ci := 5) (v := .int cnt) (C := R_De) (T := F_De) (N := 12) hx hb hT (in_De) hown hK hP 0 rfl rfl 8 (by decide) (hT _ t_165) (fun _ h9 => h9) rfl d_De_alike_18 ?_
        refine lv_icmp_lt (tgt := 26) hx hb d_De_alike_21 (by decide) (fun c21_4 => ?_) (fun c21_4 => ?_)
        · skip
          exact absurd hno (fun q => q.elim c1_1 (fun q => q.elim c9_2 (fun q => q.elim c13_3 (fun q => q c21_4))))
        · skip
          refine lv_iconst (v := 0) hx hb d_De_alike_24 (by decide) ?_
          have hP9 := hP.sub (ws' := [(d, .inr (5, [.ref tp, .ref vs, .ref sv, .ref fi, .ref sa, .ref fl, .ref dr, .int ev, .int cnt, .int tk, .int fk, .int fpl]))]) [0] rfl
          have hD9 := hD.sub (ws' := [(d, .inr (5, [.ref tp, .ref vs, .ref sv, .ref fi, .ref sa, .ref fl, .ref dr, .int ev, .int cnt, .int tk, .int fk, .int fpl]))]) [0] (by decide) rfl
          have hK9 := hK.sub (tys' := []) [] rfl
          have hq9 : (0 : Int32) = 0 := rfl
          exact W.zret (v := 0) hx hb hr rfl (fun t ht hW => ⟨⟨0, (), rfl, hq9, by rw [ht]; exact hP9, va_K.moved hW.alike hK9, hD9⟩, hS.F ht⟩) hS.2.2 d_De_alike_25

set_option maxHeartbeats 4000000 in
set_option maxRecDepth 100000 in
theorem c_De_alike_two (l : Launch) (dC : Nat → ClassId) (dI : Nat → Nat → Nat) (sz : Nat) (cC : ClassId) (cV : ClassId) (d : Nat) (tp : Nat) (vs : Nat) (sv : Nat) (fi : Nat) (sa : Nat) (fl : Nat) (dr : Nat) (ev : Int32) (cnt : Int32) (tk : Int32) (fk : Int32) (fpl : Int32) (vf : Nat → Option Nat) (vV : Nat) (wV : Nat) (waV : Nat) (decV : Int32) (belV : Int32) (ahV : Int64) (bhV : Int64) (fV : Nat → Int32) (nV : Int32) (vW : Nat) (wW : Nat) (waW : Nat) (decW : Int32) (belW : Int32) (ahW : Int64) (bhW : Int64) (fW : Nat → Int32) (nW : Int32) (a9 : Int32) (b9 : Int32) (h1 : ¬ a9 < 0) (h2 : ¬ cnt ≤ a9) (h3 : ¬ b9 < 0) (h4 : b9 < cnt) (hia : vp_in a9 12) (hib : vp_in b9 12) (hva : vf a9.toNatClampNeg = some vV) (hvb : vf b9.toNatClampNeg = some vW) (hnV : lnOK 60 nV) (hnW : lnOK 60 nW) : Met l y_De_alike w_De_alike ({ frames := 3, cells := 0, slots := 0, locals := 64 } : Room) (va_Pc [.ref d, .int a9, .int b9] (fun U => U.heap.size = sz ∧ va_P (dC, dI) CL [(d, .inr (5, [.ref tp, .ref vs, .ref sv, .ref fi, .ref sa, .ref fl, .ref dr, .int ev, .int cnt, .int tk, .int fk, .int fpl])), (vs, .inl (cV, 12, .inr (.inr (.inr (.inr vf))))), (vV, .inr (4, [.ref wV, .int decV, .int belV, .long ahV, .long bhV])), (wV, .inr (2, [.ref waV, .int nV])), (waV, .inl (cC, 60, .inl fV)), (vW, .inr (4, [.ref wW, .int decW, .int belW, .long ahW, .long bhW])), (wW, .inr (2, [.ref waW, .int nW])), (waW, .inl (cC, 60, .inl fW))] U.heap ∧ va_K (dC, dI) CL [(cC, .char), (cV, .object "FormatDesk$Value")] U ∧ va_D (fun _ => True) [(d, .inr (5, [.ref tp, .ref vs, .ref sv, .ref fi, .ref sa, .ref fl, .ref dr, .int ev, .int cnt, .int tk, .int fk, .int fpl])), (vs, .inl (cV, 12, .inr (.inr (.inr (.inr vf))))), (vV, .inr (4, [.ref wV, .int decV, .int belV, .long ahV, .long bhV])), (wV, .inr (2, [.ref waV, .int nV])), (waV, .inl (cC, 60, .inl fV)), (vW, .inr (4, [.ref wW, .int decW, .int belW, .long ahW, .long bhW])), (wW, .inr (2, [.ref waW, .int nW])), (waW, .inl (cC, 60, .inl fW))])) (va_Qi (fun (r : Int32) (u : Unit) => r = k_b (vaSame decV decW fV nV fW nW)) (fun (u : Unit) (t : State) => va_P (dC, dI) CL [(d, .inr (5, [.ref tp, .ref vs, .ref sv, .ref fi, .ref sa, .ref fl, .ref dr, .int ev, .int cnt, .int tk, .int fk, .int fpl])), (vs, .inl (cV, 12, .inr (.inr (.inr (.inr vf))))), (vV, .inr (4, [.ref wV, .int decV, .int belV, .long ahV, .long bhV])), (wV, .inr (2, [.ref waV, .int nV])), (waV, .inl (cC, 60, .inl fV)), (vW, .inr (4, [.ref wW, .int decW, .int belW, .long ahW, .long bhW])), (wW, .inr (2, [.ref waW, .int nW])), (waW, .inl (cC, 60, .inl fW))] t.heap ∧ va_K (dC, dI) CL [(cC, .char), (cV, .object "FormatDesk$Value")] t ∧ va_D (va_A [(d, .inr (5, [.ref tp, .ref vs, .ref sv, .ref fi, .ref sa, .ref fl, .ref dr, .int ev, .int cnt, .int tk, .int fk, .int fpl])), (vs, .inl (cV, 12, .inr (.inr (.inr (.inr vf))))), (vV, .inr (4, [.ref wV, .int decV, .int belV, .long ahV, .long bhV])), (wV, .inr (2, [.ref waV, .int nV])), (waV, .inl (cC, 60, .inl fV)), (vW, .inr (4, [.ref wW, .int decW, .int belW, .long ahW, .long bhW])), (wW, .inr (2, [.ref waW, .int nW])), (waW, .inl (cC, 60, .inl fW))] sz) [(d, .inr (5, [.ref tp, .ref vs, .ref sv, .ref fi, .ref sa, .ref fl, .ref dr, .int ev, .int cnt, .int tk, .int fk, .int fpl])), (vs, .inl (cV, 12, .inr (.inr (.inr (.inr vf))))), (vV, .inr (4, [.ref wV, .int decV, .int belV, .long ahV, .long bhV])), (wV, .inr (2, [.ref waV, .int nV])), (waV, .inl (cC, 60, .inl fV)), (vW, .inr (4, [.ref wW, .int decW, .int belW, .long ahW, .long bhW])), (wW, .inr (2, [.ref waW, .int nW])), (waW, .inl (cC, 60, .inl fW))]) (va_A [(d, .inr (5, [.ref tp, .ref vs, .ref sv, .ref fi, .ref sa, .ref fl, .ref dr, .int ev, .int cnt, .int tk, .int fk, .int fpl])), (vs, .inl (cV, 12, .inr (.inr (.inr (.inr vf))))), (vV, .inr (4, [.ref wV, .int decV, .int belV, .long ahV, .long bhV])), (wV, .inr (2, [.ref waV, .int nV])), (waV, .inl (cC, 60, .inl fV)), (vW, .inr (4, [.ref wW, .int decW, .int belW, .long ahW, .long bhW])), (wW, .inr (2, [.ref waW, .int nW])), (waW, .inl (cC, 60, .inl fW))] sz)) 0 0 (va_A [(d, .inr (5, [.ref tp, .ref vs, .ref sv, .ref fi, .ref sa, .ref fl, .ref dr, .int ev, .int cnt, .int tk, .int fk, .int fpl])), (vs, .inl (cV, 12, .inr (.inr (.inr (.inr vf))))), (vV, .inr (4, [.ref wV, .int decV, .int belV, .long ahV, .long bhV])), (wV, .inr (2, [.ref waV, .int nV])), (waV, .inl (cC, 60, .inl fV)), (vW, .inr (4, [.ref wW, .int decW, .int belW, .long ahW, .long bhW])), (wW, .inr (2, [.ref waW, .int nW])), (waW, .inl (cC, 60, .inl fW))] sz) := by
  refine Met.ofW (cc := b_De_alike) (maxL := 3) (ret := (some .boolean)) (by decide) rfl ?_
  intro p e s m args below meth c s₁ B hml hv
  obtain ⟨rfl, hsz, hP, hK, hD0⟩ := hv
  have hx := B.exec
  have hb := B.bytes
  have hr := B.returns
  have hts := atoms_spec (ws := w_De_alike) B.pre
  have hT : ∀ w ∈ TB, w.before _ s = true := fun w h => hts w (List.mem_cons_of_mem _ h)
  have hown : s.vm.findClass R_De = some m.cls := findClass_of_methodNamed B.named
  have hlocks := B.notSynchronized
  subst hsz
  have hD := hD0.self (sz := s.heap.size)
  generalize hAe : va_A [(d, .inr (5, [.ref tp, .ref vs, .ref sv, .ref fi, .ref sa, .ref fl, .ref dr, .int ev, .int cnt, .int tk, .int fk, .int fpl])), (vs, .inl (cV, 12, .inr (.inr (.inr (.inr vf))))), (vV, .inr (4, [.ref wV, .int decV, .int belV, .long ahV, .long bhV])), (wV, .inr (2, [.ref waV, .int nV])), (waV, .inl (cC, 60, .inl fV)), (vW, .inr (4, [.ref wW, .int decW, .int belW, .long ahW, .long bhW])), (wW, .inr (2, [.ref waW, .int nW])), (waW, .inl (cC, 60, .inl fW))] s.heap.size = A at hD ⊢
  have hA : ∀ q : Nat, s.heap.size ≤ q → A q := fun q h => by rw [← hAe]; exact Or.inr h
  have hS : va_S A s.heap s.heap [] := va_S.rf
  have hP : va_P (dC, dI) CL [(d, .inr (5, [.ref tp, .ref vs, .ref sv, .ref fi, .ref sa, .ref fl, .ref dr, .int ev, .int cnt, .int tk, .int fk, .int fpl])), (vs, .inl (cV, 12, .inr (.inr (.inr (.inr vf))))), (vV, .inr (4, [.ref wV, .int decV, .int belV, .long ahV, .long bhV])), (wV, .inr (2, [.ref waV, .int nV])), (waV, .inl (cC, 60, .inl fV)), (vW, .inr (4, [.ref wW, .int decW, .int belW, .long ahW, .long bhW])), (wW, .inr (2, [.ref waW, .int nW])), (waW, .inl (cC, 60, .inl fW))] s.heap := hP
  have hl := lv_entry ([.ref d, .int a9, .int b9]) (n := 3) (Nat.le_of_ble_eq_true rfl)
  rw [lg_entry_eq]
  generalize (lg_sl ([.ref d, .int a9, .int b9]) ++ List.replicate (3 - (lg_sl ([.ref d, .int a9, .int b9])).length) Slot.unset).toArray = ls at hl ⊢
  have hl : lv_has ls 3 [(0, .ref d), (1, .int a9), (2, .int b9)] := hl
  refine lv_iload_n hx hb d_De_alike_0 rfl (lv_at hl 1 rfl) ?_
  refine lv_if_lt (tgt := 24) hx hb d_De_alike_1 (by decide) (fun c1_1 => ?_) (fun c1_1 => ?_)
  · skip
    exact absurd c1_1 h1
  · skip
    refine lv_iload_n hx hb d_De_alike_4 rfl (lv_at hl 1 rfl) ?_
    refine lv_aload_n hx hb d_De_alike_5 rfl (lv_at hl 0 rfl) ?_
    refine va_get (D := (dC, dI)) (ci := 5) (v := .int cnt) (C := R_De) (T := F_De) (N := 12) hx hb hT (in_De) hown hK hP 0 rfl rfl 8 (by decide) (hT _ t_165) (fun _ h9 => h9) rfl d_De_alike_6 ?_
    refine lv_icmp_ge (tgt := 24) hx hb d_De_alike_9 (by decide) (fun c9_2 => ?_) (fun c9_2 => ?_)
    · skip
      exact absurd c9_2 h2
    · skip
      refine lv_iload_n hx hb d_De_alike_12 rfl (lv_at hl 2 rfl) ?_
      refine lv_if_lt (tgt := 24) hx hb d_De_alike_13 (by decide) (fun c13_3 => ?_) (fun c13_3 => ?_)
      · skip
        exact absurd c13_3 h3
      · skip
        refine lv_iload_n hx hb d_De_alike_16 rfl (lv_at hl 2 rfl) ?_
        refine lv_aload_n hx hb d_De_alike_17 rfl (lv_at hl 0 rfl) ?_
        refine va_get (D := (dC, dI)) (ci := 5) (v := .int cnt) (C := R_De) (T := F_De) (N := 12) hx hb hT (in_De) hown hK hP 0 rfl rfl 8 (by decide) (hT _ t_165) (fun _ h9 => h9) rfl d_De_alike_18 ?_
        refine lv_icmp_lt (tgt := 26) hx hb d_De_alike_21 (by decide) (fun c21_4 => ?_) (fun c21_4 => ?_)
        · skip
          refine lv_aload_n hx hb d_De_alike_26 rfl (lv_at hl 0 rfl) ?_
          refine va_get (D := (dC, dI)) (ci := 5) (v := .ref vs) (C := R_De) (T := F_De) (N := 12) hx hb hT (in_De) hown hK hP 0 rfl rfl 1 (by decide) (hT _ t_158) (fun _ h9 => h9) rfl d_De_alike_27 ?_
          refine lv_iload_n hx hb d_De_alike_30 rfl (lv_at hl 1 rfl) ?_
          refine va_aldq hx hb hK hP 1 1 rfl rfl hia d_De_alike_31 ?_
          rw [show va_rf (vf a9.toNatClampNeg) = Value.ref vV from by rw [hva]; rfl]
          refine lv_aload_n hx hb d_De_alike_32 rfl (lv_at hl 0 rfl) ?_
          refine va_get (D := (dC, dI)) (ci := 5) (v := .ref vs) (C := R_De) (T := F_De) (N := 12) hx hb hT (in_De) hown hK hP 0 rfl rfl 1 (by decide) (hT _ t_158) (fun _ h9 => h9) rfl d_De_alike_33 ?_
          refine lv_iload_n hx hb d_De_alike_36 rfl (lv_at hl 2 rfl) ?_
          refine va_aldq hx hb hK hP 1 1 rfl rfl hib d_De_alike_37 ?_
          rw [show va_rf (vf b9.toNatClampNeg) = Value.ref vW from by rw [hvb]; rfl]
          have hPc := hP.sub (ws' := [(vV, .inr (4, [.ref wV, .int decV, .int belV, .long ahV, .long bhV])), (wV, .inr (2, [.ref waV, .int nV])), (waV, .inl (cC, 60, .inl fV)), (vW, .inr (4, [.ref wW, .int decW, .int belW, .long ahW, .long bhW])), (wW, .inr (2, [.ref waW, .int nW])), (waW, .inl (cC, 60, .inl fW))]) [2, 3, 4, 5, 6, 7] rfl
          have hDc := hD.sub (ws' := [(vV, .inr (4, [.ref wV, .int decV, .int belV, .long ahV, .long bhV])), (wV, .inr (2, [.ref waV, .int nV])), (waV, .inl (cC, 60, .inl fV)), (vW, .inr (4, [.ref wW, .int decW, .int belW, .long ahW, .long bhW])), (wW, .inr (2, [.ref waW, .int nW])), (waW, .inl (cC, 60, .inl fW))]) [2, 3, 4, 5, 6, 7] (by decide) rfl
          have hKc := hK.sub (tys' := [(cC, .char)]) [0] rfl
          have hFc := va_free (wc := [(vV, .inr (4, [.ref wV, .int decV, .int belV, .long ahV, .long bhV])), (wV, .inr (2, [.ref waV, .int nV])), (waV, .inl (cC, 60, .inl fV)), (vW, .inr (4, [.ref wW, .int decW, .int belW, .long ahW, .long bhW])), (wW, .inr (2, [.ref waW, .int nW])), (waW, .inl (cC, 60, .inl fW))]) hD hS hA [2, 3, 4, 5, 6, 7] rfl
          refine va_calli (va_runV (As := [.ref vW]) (rest := []) ⟨hx, hb, hml, hown, hT⟩ (c_Value_matches l dC dI s.heap.size cC vV wV waV decV belV ahV bhV fV nV vW wW waW decW belW ahW bhW fW nW hnV hnW) (cwV 1 hT g_De_122 rfl rfl rfl (by decide +kernel) ⟨Nat.le_of_ble_eq_true rfl, Nat.le_of_ble_eq_true rfl⟩) ⟨fun a U g mk q => by obtain ⟨q0, q1, qP, qK, qD⟩ := q; exact ⟨q0, q1, qP, va_K.moved (u := U) (U := U.calling g mk a) (Vm.Alike.refl U.vm) qK, qD⟩, va_recv hKc hPc (ci := 4) (q0 := 0) rfl rfl, fun U hU hW => ⟨rfl, by rw [hU], by rw [hU]; exact hPc, va_K.moved hW.alike hKc, hDc.weaken (fun _ _ _ _ => trivial)⟩⟩ rfl rfl hl.1 rfl (lv_room (Nat.le_of_ble_eq_true rfl)) d_De_alike_38 ⟨Nat.le_of_ble_eq_true rfl, Nat.le_of_ble_eq_true rfl⟩) hS (fun q _ h => hFc q h) hFc (fun x5 u t H1 locs ht hvm w38_5 hB hz1 hk1 hS => ?_)
          obtain ⟨hP1, hK1, hD1⟩ := hB
          rw [ht] at hP1
          try dsimp only at w38_5
          obtain ⟨hP, hD⟩ := va_join (wr := [(d, .inr (5, [.ref tp, .ref vs, .ref sv, .ref fi, .ref sa, .ref fl, .ref dr, .int ev, .int cnt, .int tk, .int fk, .int fpl])), (vs, .inl (cV, 12, .inr (.inr (.inr (.inr vf)))))]) (w1 := [(vV, .inr (4, [.ref wV, .int decV, .int belV, .long ahV, .long bhV])), (wV, .inr (2, [.ref waV, .int nV])), (waV, .inl (cC, 60, .inl fV)), (vW, .inr (4, [.ref wW, .int decW, .int belW, .long ahW, .long bhW])), (wW, .inr (2, [.ref waW, .int nW])), (waW, .inl (cC, 60, .inl fW))]) hP hD [2, 3, 4, 5, 6, 7] [0, 1] rfl rfl (by decide) (by decide) hk1 hFc hP1 hD1
          generalize H1 = H at hP hS ⊢
          have hP : va_P (dC, dI) CL [(d, .inr (5, [.ref tp, .ref vs, .ref sv, .ref fi, .ref sa, .ref fl, .ref dr, .int ev, .int cnt, .int tk, .int fk, .int fpl])), (vs, .inl (cV, 12, .inr (.inr (.inr (.inr vf))))), (vV, .inr (4, [.ref wV, .int decV, .int belV, .long ahV, .long bhV])), (wV, .inr (2, [.ref waV, .int nV])), (waV, .inl (cC, 60, .inl fV)), (vW, .inr (4, [.ref wW, .int decW, .int belW, .long ahW, .long bhW])), (wW, .inr (2, [.ref waW, .int nW])), (waW, .inl (cC, 60, .inl fW))] H := hP
          have hD : va_D A [(d, .inr (5, [.ref tp, .ref vs, .ref sv, .ref fi, .ref sa, .ref fl, .ref dr, .int ev, .int cnt, .int tk, .int fk, .int fpl])), (vs, .inl (cV, 12, .inr (.inr (.inr (.inr vf))))), (vV, .inr (4, [.ref wV, .int decV, .int belV, .long ahV, .long bhV])), (wV, .inr (2, [.ref waV, .int nV])), (waV, .inl (cC, 60, .inl fV)), (vW, .inr (4, [.ref wW, .int decW, .int belW, .long ahW, .long bhW])), (wW, .inr (2, [.ref waW, .int nW])), (waW, .inl (cC, 60, .inl fW))] := hD
          have hP9 := hP.sub (ws' := [(d, .inr (5, [.ref tp, .ref vs, .ref sv, .ref fi, .ref sa, .ref fl, .ref dr, .int ev, .int cnt, .int tk, .int fk, .int fpl])), (vs, .inl (cV, 12, .inr (.inr (.inr (.inr vf))))), (vV, .inr (4, [.ref wV, .int decV, .int belV, .long ahV, .long bhV])), (wV, .inr (2, [.ref waV, .int nV])), (waV, .inl (cC, 60, .inl fV)), (vW, .inr (4, [.ref wW, .int decW, .int belW, .long ahW, .long bhW])), (wW, .inr (2, [.ref waW, .int nW])), (waW, .inl (cC, 60, .inl fW))]) [0, 1, 2, 3, 4, 5, 6, 7] rfl
          have hD9 := hD.sub (ws' := [(d, .inr (5, [.ref tp, .ref vs, .ref sv, .ref fi, .ref sa, .ref fl, .ref dr, .int ev, .int cnt, .int tk, .int fk, .int fpl])), (vs, .inl (cV, 12, .inr (.inr (.inr (.inr vf))))), (vV, .inr (4, [.ref wV, .int decV, .int belV, .long ahV, .long bhV])), (wV, .inr (2, [.ref waV, .int nV])), (waV, .inl (cC, 60, .inl fV)), (vW, .inr (4, [.ref wW, .int decW, .int belW, .long ahW, .long bhW])), (wW, .inr (2, [.ref waW, .int nW])), (waW, .inl (cC, 60, .inl fW))]) [0, 1, 2, 3, 4, 5, 6, 7] (by decide) rfl
          have hK9 := hK.sub (tys' := [(cC, .char), (cV, .object "FormatDesk$Value")]) [0, 1] rfl
          have hq9 : x5 = k_b (vaSame decV decW fV nV fW nW) := w38_5
          exact W.zret (v := x5) hx hb hr (by rw [w38_5]; exact k_b_nar _) (fun t ht hW => ⟨⟨x5, (), rfl, hq9, by rw [ht]; exact hP9, va_K.moved hW.alike hK9, hD9⟩, hS.F ht⟩) hS.2.2 d_De_alike_41
        · skip
          exact absurd h4 c21_4

set_option maxHeartbeats 4000000 in
set_option maxRecDepth 100000 in
theorem c_De_alike_one (l : Launch) (dC : Nat → ClassId) (dI : Nat → Nat → Nat) (sz : Nat) (cC : ClassId) (cV : ClassId) (d : Nat) (tp : Nat) (vs : Nat) (sv : Nat) (fi : Nat) (sa : Nat) (fl : Nat) (dr : Nat) (ev : Int32) (cnt : Int32) (tk : Int32) (fk : Int32) (fpl : Int32) (vf : Nat → Option Nat) (vV : Nat) (wV : Nat) (waV : Nat) (decV : Int32) (belV : Int32) (ahV : Int64) (bhV : Int64) (fV : Nat → Int32) (nV : Int32) (a9 : Int32) (b9 : Int32) (h1 : ¬ a9 < 0) (h2 : ¬ cnt ≤ a9) (h3 : ¬ b9 < 0) (h4 : b9 < cnt) (hia : vp_in a9 12) (hib : vp_in b9 12) (hva : vf a9.toNatClampNeg = some vV) (hvb : vf b9.toNatClampNeg = some vV) (hnV : lnOK 60 nV) : Met l y_De_alike w_De_alike ({ frames := 3, cells := 0, slots := 0, locals := 64 } : Room) (va_Pc [.ref d, .int a9, .int b9] (fun U => U.heap.size = sz ∧ va_P (dC, dI) CL [(d, .inr (5, [.ref tp, .ref vs, .ref sv, .ref fi, .ref sa, .ref fl, .ref dr, .int ev, .int cnt, .int tk, .int fk, .int fpl])), (vs, .inl (cV, 12, .inr (.inr (.inr (.inr vf))))), (vV, .inr (4, [.ref wV, .int decV, .int belV, .long ahV, .long bhV])), (wV, .inr (2, [.ref waV, .int nV])), (waV, .inl (cC, 60, .inl fV))] U.heap ∧ va_K (dC, dI) CL [(cC, .char), (cV, .object "FormatDesk$Value")] U ∧ va_D (fun _ => True) [(d, .inr (5, [.ref tp, .ref vs, .ref sv, .ref fi, .ref sa, .ref fl, .ref dr, .int ev, .int cnt, .int tk, .int fk, .int fpl])), (vs, .inl (cV, 12, .inr (.inr (.inr (.inr vf))))), (vV, .inr (4, [.ref wV, .int decV, .int belV, .long ahV, .long bhV])), (wV, .inr (2, [.ref waV, .int nV])), (waV, .inl (cC, 60, .inl fV))])) (va_Qi (fun (r : Int32) (u : Unit) => r = k_b (vaSame decV decV fV nV fV nV)) (fun (u : Unit) (t : State) => va_P (dC, dI) CL [(d, .inr (5, [.ref tp, .ref vs, .ref sv, .ref fi, .ref sa, .ref fl, .ref dr, .int ev, .int cnt, .int tk, .int fk, .int fpl])), (vs, .inl (cV, 12, .inr (.inr (.inr (.inr vf))))), (vV, .inr (4, [.ref wV, .int decV, .int belV, .long ahV, .long bhV])), (wV, .inr (2, [.ref waV, .int nV])), (waV, .inl (cC, 60, .inl fV))] t.heap ∧ va_K (dC, dI) CL [(cC, .char), (cV, .object "FormatDesk$Value")] t ∧ va_D (va_A [(d, .inr (5, [.ref tp, .ref vs, .ref sv, .ref fi, .ref sa, .ref fl, .ref dr, .int ev, .int cnt, .int tk, .int fk, .int fpl])), (vs, .inl (cV, 12, .inr (.inr (.inr (.inr vf))))), (vV, .inr (4, [.ref wV, .int decV, .int belV, .long ahV, .long bhV])), (wV, .inr (2, [.ref waV, .int nV])), (waV, .inl (cC, 60, .inl fV))] sz) [(d, .inr (5, [.ref tp, .ref vs, .ref sv, .ref fi, .ref sa, .ref fl, .ref dr, .int ev, .int cnt, .int tk, .int fk, .int fpl])), (vs, .inl (cV, 12, .inr (.inr (.inr (.inr vf))))), (vV, .inr (4, [.ref wV, .int decV, .int belV, .long ahV, .long bhV])), (wV, .inr (2, [.ref waV, .int nV])), (waV, .inl (cC, 60, .inl fV))]) (va_A [(d, .inr (5, [.ref tp, .ref vs, .ref sv, .ref fi, .ref sa, .ref fl, .ref dr, .int ev, .int cnt, .int tk, .int fk, .int fpl])), (vs, .inl (cV, 12, .inr (.inr (.inr (.inr vf))))), (vV, .inr (4, [.ref wV, .int decV, .int belV, .long ahV, .long bhV])), (wV, .inr (2, [.ref waV, .int nV])), (waV, .inl (cC, 60, .inl fV))] sz)) 0 0 (va_A [(d, .inr (5, [.ref tp, .ref vs, .ref sv, .ref fi, .ref sa, .ref fl, .ref dr, .int ev, .int cnt, .int tk, .int fk, .int fpl])), (vs, .inl (cV, 12, .inr (.inr (.inr (.inr vf))))), (vV, .inr (4, [.ref wV, .int decV, .int belV, .long ahV, .long bhV])), (wV, .inr (2, [.ref waV, .int nV])), (waV, .inl (cC, 60, .inl fV))] sz) := by
  refine Met.ofW (cc := b_De_alike) (maxL := 3) (ret := (some .boolean)) (by decide) rfl ?_
  intro p e s m args below meth c s₁ B hml hv
  obtain ⟨rfl, hsz, hP, hK, hD0⟩ := hv
  have hx := B.exec
  have hb := B.bytes
  have hr := B.returns
  have hts := atoms_spec (ws := w_De_alike) B.pre
  have hT : ∀ w ∈ TB, w.before _ s = true := fun w h => hts w (List.mem_cons_of_mem _ h)
  have hown : s.vm.findClass R_De = some m.cls := findClass_of_methodNamed B.named
  have hlocks := B.notSynchronized
  subst hsz
  have hD := hD0.self (sz := s.heap.size)
  generalize hAe : va_A [(d, .inr (5, [.ref tp, .ref vs, .ref sv, .ref fi, .ref sa, .ref fl, .ref dr, .int ev, .int cnt, .int tk, .int fk, .int fpl])), (vs, .inl (cV, 12, .inr (.inr (.inr (.inr vf))))), (vV, .inr (4, [.ref wV, .int decV, .int belV, .long ahV, .long bhV])), (wV, .inr (2, [.ref waV, .int nV])), (waV, .inl (cC, 60, .inl fV))] s.heap.size = A at hD ⊢
  have hA : ∀ q : Nat, s.heap.size ≤ q → A q := fun q h => by rw [← hAe]; exact Or.inr h
  have hS : va_S A s.heap s.heap [] := va_S.rf
  have hP : va_P (dC, dI) CL [(d, .inr (5, [.ref tp, .ref vs, .ref sv, .ref fi, .ref sa, .ref fl, .ref dr, .int ev, .int cnt, .int tk, .int fk, .int fpl])), (vs, .inl (cV, 12, .inr (.inr (.inr (.inr vf))))), (vV, .inr (4, [.ref wV, .int decV, .int belV, .long ahV, .long bhV])), (wV, .inr (2, [.ref waV, .int nV])), (waV, .inl (cC, 60, .inl fV))] s.heap := hP
  have hl := lv_entry ([.ref d, .int a9, .int b9]) (n := 3) (Nat.le_of_ble_eq_true rfl)
  rw [lg_entry_eq]
  generalize (lg_sl ([.ref d, .int a9, .int b9]) ++ List.replicate (3 - (lg_sl ([.ref d, .int a9, .int b9])).length) Slot.unset).toArray = ls at hl ⊢
  have hl : lv_has ls 3 [(0, .ref d), (1, .int a9), (2, .int b9)] := hl
  refine lv_iload_n hx hb d_De_alike_0 rfl (lv_at hl 1 rfl) ?_
  refine lv_if_lt (tgt := 24) hx hb d_De_alike_1 (by decide) (fun c1_1 => ?_) (fun c1_1 => ?_)
  · skip
    exact absurd c1_1 h1
  · skip
    refine lv_iload_n hx hb d_De_alike_4 rfl (lv_at hl 1 rfl) ?_
    refine lv_aload_n hx hb d_De_alike_5 rfl (lv_at hl 0 rfl) ?_
    refine va_get (D := (dC, dI)) (ci := 5) (v := .int cnt) (C := R_De) (T := F_De) (N := 12) hx hb hT (in_De) hown hK hP 0 rfl rfl 8 (by decide) (hT _ t_165) (fun _ h9 => h9) rfl d_De_alike_6 ?_
    refine lv_icmp_ge (tgt := 24) hx hb d_De_alike_9 (by decide) (fun c9_2 => ?_) (fun c9_2 => ?_)
    · skip
      exact absurd c9_2 h2
    · skip
      refine lv_iload_n hx hb d_De_alike_12 rfl (lv_at hl 2 rfl) ?_
      refine lv_if_lt (tgt := 24) hx hb d_De_alike_13 (by decide) (fun c13_3 => ?_) (fun c13_3 => ?_)
      · skip
        exact absurd c13_3 h3
      · skip
        refine lv_iload_n hx hb d_De_alike_16 rfl (lv_at hl 2 rfl) ?_
        refine lv_aload_n hx hb d_De_alike_17 rfl (lv_at hl 0 rfl) ?_
        refine va_get (D := (dC, dI)) (ci := 5) (v := .int cnt) (C := R_De) (T := F_De) (N := 12) hx hb hT (in_De) hown hK hP 0 rfl rfl 8 (by decide) (hT _ t_165) (fun _ h9 => h9) rfl d_De_alike_18 ?_
        refine lv_icmp_lt (tgt := 26) hx hb d_De_alike_21 (by decide) (fun c21_4 => ?_) (fun c21_4 => ?_)
        · skip
          refine lv_aload_n hx hb d_De_alike_26 rfl (lv_at hl 0 rfl) ?_
          refine va_get (D := (dC, dI)) (ci := 5) (v := .ref vs) (C := R_De) (T := F_De) (N := 12) hx hb hT (in_De) hown hK hP 0 rfl rfl 1 (by decide) (hT _ t_158) (fun _ h9 => h9) rfl d_De_alike_27 ?_
          refine lv_iload_n hx hb d_De_alike_30 rfl (lv_at hl 1 rfl) ?_
          refine va_aldq hx hb hK hP 1 1 rfl rfl hia d_De_alike_31 ?_
          rw [show va_rf (vf a9.toNatClampNeg) = Value.ref vV from by rw [hva]; rfl]
          refine lv_aload_n hx hb d_De_alike_32 rfl (lv_at hl 0 rfl) ?_
          refine va_get (D := (dC, dI)) (ci := 5) (v := .ref vs) (C := R_De) (T := F_De) (N := 12) hx hb hT (in_De) hown hK hP 0 rfl rfl 1 (by decide) (hT _ t_158) (fun _ h9 => h9) rfl d_De_alike_33 ?_
          refine lv_iload_n hx hb d_De_alike_36 rfl (lv_at hl 2 rfl) ?_
          refine va_aldq hx hb hK hP 1 1 rfl rfl hib d_De_alike_37 ?_
          rw [show va_rf (vf b9.toNatClampNeg) = Value.ref vV from by rw [hvb]; rfl]
          have hPc := hP.sub (ws' := [(vV, .inr (4, [.ref wV, .int decV, .int belV, .long ahV, .long bhV])), (wV, .inr (2, [.ref waV, .int nV])), (waV, .inl (cC, 60, .inl fV))]) [2, 3, 4] rfl
          have hDc := hD.sub (ws' := [(vV, .inr (4, [.ref wV, .int decV, .int belV, .long ahV, .long bhV])), (wV, .inr (2, [.ref waV, .int nV])), (waV, .inl (cC, 60, .inl fV))]) [2, 3, 4] (by decide) rfl
          have hKc := hK.sub (tys' := [(cC, .char)]) [0] rfl
          have hFc := va_free (wc := [(vV, .inr (4, [.ref wV, .int decV, .int belV, .long ahV, .long bhV])), (wV, .inr (2, [.ref waV, .int nV])), (waV, .inl (cC, 60, .inl fV))]) hD hS hA [2, 3, 4] rfl
          refine va_calli (va_runV (As := [.ref vV]) (rest := []) ⟨hx, hb, hml, hown, hT⟩ (c_Value_matches_self l dC dI s.heap.size cC vV wV waV decV belV ahV bhV fV nV hnV) (cwV 1 hT g_De_122 rfl rfl rfl (by decide +kernel) ⟨Nat.le_of_ble_eq_true rfl, Nat.le_of_ble_eq_true rfl⟩) ⟨fun a U g mk q => by obtain ⟨q0, q1, qP, qK, qD⟩ := q; exact ⟨q0, q1, qP, va_K.moved (u := U) (U := U.calling g mk a) (Vm.Alike.refl U.vm) qK, qD⟩, va_recv hKc hPc (ci := 4) (q0 := 0) rfl rfl, fun U hU hW => ⟨rfl, by rw [hU], by rw [hU]; exact hPc, va_K.moved hW.alike hKc, hDc.weaken (fun _ _ _ _ => trivial)⟩⟩ rfl rfl hl.1 rfl (lv_room (Nat.le_of_ble_eq_true rfl)) d_De_alike_38 ⟨Nat.le_of_ble_eq_true rfl, Nat.le_of_ble_eq_true rfl⟩) hS (fun q _ h => hFc q h) hFc (fun x5 u t H1 locs ht hvm w38_5 hB hz1 hk1 hS => ?_)
          obtain ⟨hP1, hK1, hD1⟩ := hB
          rw [ht] at hP1
          try dsimp only at w38_5
          obtain ⟨hP, hD⟩ := va_join (wr := [(d, .inr (5, [.ref tp, .ref vs, .ref sv, .ref fi, .ref sa, .ref fl, .ref dr, .int ev, .int cnt, .int tk, .int fk, .int fpl])), (vs, .inl (cV, 12, .inr (.inr (.inr (.inr vf)))))]) (w1 := [(vV, .inr (4, [.ref wV, .int decV, .int belV, .long ahV, .long bhV])), (wV, .inr (2, [.ref waV, .int nV])), (waV, .inl (cC, 60, .inl fV))]) hP hD [2, 3, 4] [0, 1] rfl rfl (by decide) (by decide) hk1 hFc hP1 hD1
          generalize H1 = H at hP hS ⊢
          have hP : va_P (dC, dI) CL [(d, .inr (5, [.ref tp, .ref vs, .ref sv, .ref fi, .ref sa, .ref fl, .ref dr, .int ev, .int cnt, .int tk, .int fk, .int fpl])), (vs, .inl (cV, 12, .inr (.inr (.inr (.inr vf))))), (vV, .inr (4, [.ref wV, .int decV, .int belV, .long ahV, .long bhV])), (wV, .inr (2, [.ref waV, .int nV])), (waV, .inl (cC, 60, .inl fV))] H := hP
          have hD : va_D A [(d, .inr (5, [.ref tp, .ref vs, .ref sv, .ref fi, .ref sa, .ref fl, .ref dr, .int ev, .int cnt, .int tk, .int fk, .int fpl])), (vs, .inl (cV, 12, .inr (.inr (.inr (.inr vf))))), (vV, .inr (4, [.ref wV, .int decV, .int belV, .long ahV, .long bhV])), (wV, .inr (2, [.ref waV, .int nV])), (waV, .inl (cC, 60, .inl fV))] := hD
          have hP9 := hP.sub (ws' := [(d, .inr (5, [.ref tp, .ref vs, .ref sv, .ref fi, .ref sa, .ref fl, .ref dr, .int ev, .int cnt, .int tk, .int fk, .int fpl])), (vs, .inl (cV, 12, .inr (.inr (.inr (.inr vf))))), (vV, .inr (4, [.ref wV, .int decV, .int belV, .long ahV, .long bhV])), (wV, .inr (2, [.ref waV, .int nV])), (waV, .inl (cC, 60, .inl fV))]) [0, 1, 2, 3, 4] rfl
          have hD9 := hD.sub (ws' := [(d, .inr (5, [.ref tp, .ref vs, .ref sv, .ref fi, .ref sa, .ref fl, .ref dr, .int ev, .int cnt, .int tk, .int fk, .int fpl])), (vs, .inl (cV, 12, .inr (.inr (.inr (.inr vf))))), (vV, .inr (4, [.ref wV, .int decV, .int belV, .long ahV, .long bhV])), (wV, .inr (2, [.ref waV, .int nV])), (waV, .inl (cC, 60, .inl fV))]) [0, 1, 2, 3, 4] (by decide) rfl
          have hK9 := hK.sub (tys' := [(cC, .char), (cV, .object "FormatDesk$Value")]) [0, 1] rfl
          have hq9 : x5 = k_b (vaSame decV decV fV nV fV nV) := w38_5
          exact W.zret (v := x5) hx hb hr (by rw [w38_5]; exact k_b_nar _) (fun t ht hW => ⟨⟨x5, (), rfl, hq9, by rw [ht]; exact hP9, va_K.moved hW.alike hK9, hD9⟩, hS.F ht⟩) hS.2.2 d_De_alike_41
        · skip
          exact absurd h4 c21_4
