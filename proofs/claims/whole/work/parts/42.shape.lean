theorem t_6 : (.initialized R_Sh : Cond) ∈ TB := tb_of 6 (by decide +kernel) (by decide +kernel)
theorem t_127 : (.methodLink R_Sh 3 objectInit : Cond) ∈ TB := tb_of 127 (by decide +kernel) (by decide +kernel)
theorem t_128 : (.classLink R_Sh 9 R_Ln : Cond) ∈ TB := tb_of 128 (by decide +kernel) (by decide +kernel)
theorem t_129 : (.methodLink R_Sh 13 y_Ln_init : Cond) ∈ TB := tb_of 129 (by decide +kernel) (by decide +kernel)
theorem t_130 : (.classLink R_Sh 20 R_Dg : Cond) ∈ TB := tb_of 130 (by decide +kernel) (by decide +kernel)
theorem t_131 : (.instantiable R_Dg 1 : Cond) ∈ TB := tb_of 131 (by decide +kernel) (by decide +kernel)
theorem t_133 : (.instanceMethod y_Dg_init : Cond) ∈ TB := tb_of 133 (by decide +kernel) (by decide +kernel)
theorem t_134 : (.code y_Dg_init b_Dg_init 1 none : Cond) ∈ TB := tb_of 134 (by decide +kernel) (by decide +kernel)
theorem t_141 : (.fieldLink R_Sh 16 R_Sh "body" "LFormatDesk$Line;" : Cond) ∈ TB := tb_of 141 (by decide +kernel) (by decide +kernel)
theorem t_142 : (.fieldLink R_Sh 23 R_Sh "digits" "LFormatDesk$Digits;" : Cond) ∈ TB := tb_of 142 (by decide +kernel) (by decide +kernel)
theorem t_143 : (.fieldLink R_Sh 27 R_Sh "lowestFirst" "[I" : Cond) ∈ TB := tb_of 143 (by decide +kernel) (by decide +kernel)
theorem t_144 : (.fieldLink R_Sh 34 R_Sh "sign" "I" : Cond) ∈ TB := tb_of 144 (by decide +kernel) (by decide +kernel)
theorem t_145 : (.fieldLink R_Sh 38 R_Sh "base" "I" : Cond) ∈ TB := tb_of 145 (by decide +kernel) (by decide +kernel)
theorem t_199 : (.instanceMethod y_Ln_hasRoom : Cond) ∈ TB := tb_of 199 (by decide +kernel) (by decide +kernel)
theorem t_200 : (.selects R_Ln y_Ln_hasRoom y_Ln_hasRoom : Cond) ∈ TB := tb_of 200 (by decide +kernel) (by decide +kernel)
theorem t_201 : (.code y_Ln_hasRoom b_Ln_hasRoom 2 (some .boolean) : Cond) ∈ TB := tb_of 201 (by decide +kernel) (by decide +kernel)
theorem t_489 : (.methodLink R_Sh 31 y_Ln_empty : Cond) ∈ TB := tb_of 489 (by decide +kernel) (by decide +kernel)
theorem t_490 : (.methodLink R_Sh 46 y_Sh_formWhole : Cond) ∈ TB := tb_of 490 (by decide +kernel) (by decide +kernel)
theorem t_492 : (.instanceMethod y_Sh_formWhole : Cond) ∈ TB := tb_of 492 (by decide +kernel) (by decide +kernel)
theorem t_493 : (.code y_Sh_formWhole b_Sh_formWhole 8 none : Cond) ∈ TB := tb_of 493 (by decide +kernel) (by decide +kernel)
theorem t_494 : (.methodLink R_Sh 83 y_Va_wholePart : Cond) ∈ TB := tb_of 494 (by decide +kernel) (by decide +kernel)
theorem t_495 : (.methodLink R_Sh 87 y_Fi_signFor : Cond) ∈ TB := tb_of 495 (by decide +kernel) (by decide +kernel)
theorem t_496 : (.instanceMethod y_Fi_signFor : Cond) ∈ TB := tb_of 496 (by decide +kernel) (by decide +kernel)
theorem t_497 : (.selects R_Fi y_Fi_signFor y_Fi_signFor : Cond) ∈ TB := tb_of 497 (by decide +kernel) (by decide +kernel)
theorem t_498 : (.code y_Fi_signFor b_Fi_signFor 2 (some .int) : Cond) ∈ TB := tb_of 498 (by decide +kernel) (by decide +kernel)
theorem t_499 : (.methodLink R_Sh 99 y_Sh_splitWhole : Cond) ∈ TB := tb_of 499 (by decide +kernel) (by decide +kernel)
theorem t_501 : (.instanceMethod y_Sh_splitWhole : Cond) ∈ TB := tb_of 501 (by decide +kernel) (by decide +kernel)
theorem t_502 : (.code y_Sh_splitWhole b_Sh_splitWhole 7 (some .int) : Cond) ∈ TB := tb_of 502 (by decide +kernel) (by decide +kernel)
theorem t_503 : (.methodLink R_Sh 106 y_Ln_repeat : Cond) ∈ TB := tb_of 503 (by decide +kernel) (by decide +kernel)
theorem t_504 : (.instanceMethod y_Ln_repeat : Cond) ∈ TB := tb_of 504 (by decide +kernel) (by decide +kernel)
theorem t_505 : (.selects R_Ln y_Ln_repeat y_Ln_repeat : Cond) ∈ TB := tb_of 505 (by decide +kernel) (by decide +kernel)
theorem t_506 : (.code y_Ln_repeat b_Ln_repeat 4 none : Cond) ∈ TB := tb_of 506 (by decide +kernel) (by decide +kernel)
theorem t_507 : (.methodLink R_Sh 69 y_Ln_add : Cond) ∈ TB := tb_of 507 (by decide +kernel) (by decide +kernel)
theorem t_508 : (.methodLink R_Sh 50 y_Sh_formPlaces : Cond) ∈ TB := tb_of 508 (by decide +kernel) (by decide +kernel)
theorem t_510 : (.instanceMethod y_Sh_formPlaces : Cond) ∈ TB := tb_of 510 (by decide +kernel) (by decide +kernel)
theorem t_511 : (.code y_Sh_formPlaces b_Sh_formPlaces 4 none : Cond) ∈ TB := tb_of 511 (by decide +kernel) (by decide +kernel)
theorem t_512 : (.methodLink R_Sh 110 y_Fi_precisionOr : Cond) ∈ TB := tb_of 512 (by decide +kernel) (by decide +kernel)
theorem t_513 : (.instanceMethod y_Fi_precisionOr : Cond) ∈ TB := tb_of 513 (by decide +kernel) (by decide +kernel)
theorem t_514 : (.selects R_Fi y_Fi_precisionOr y_Fi_precisionOr : Cond) ∈ TB := tb_of 514 (by decide +kernel) (by decide +kernel)
theorem t_515 : (.code y_Fi_precisionOr b_Fi_precisionOr 2 (some .int) : Cond) ∈ TB := tb_of 515 (by decide +kernel) (by decide +kernel)
theorem t_516 : (.methodLink R_Sh 117 y_Dg_load : Cond) ∈ TB := tb_of 516 (by decide +kernel) (by decide +kernel)
theorem t_517 : (.instanceMethod y_Dg_load : Cond) ∈ TB := tb_of 517 (by decide +kernel) (by decide +kernel)
theorem t_518 : (.selects R_Dg y_Dg_load y_Dg_load : Cond) ∈ TB := tb_of 518 (by decide +kernel) (by decide +kernel)
theorem t_519 : (.code y_Dg_load b_Dg_load 5 none : Cond) ∈ TB := tb_of 519 (by decide +kernel) (by decide +kernel)
theorem t_521 : (.methodLink R_Sh 121 y_Dg_round : Cond) ∈ TB := tb_of 521 (by decide +kernel) (by decide +kernel)
theorem t_522 : (.instanceMethod y_Dg_round : Cond) ∈ TB := tb_of 522 (by decide +kernel) (by decide +kernel)
theorem t_523 : (.selects R_Dg y_Dg_round y_Dg_round : Cond) ∈ TB := tb_of 523 (by decide +kernel) (by decide +kernel)
theorem t_524 : (.code y_Dg_round b_Dg_round 4 none : Cond) ∈ TB := tb_of 524 (by decide +kernel) (by decide +kernel)
theorem t_529 : (.methodLink R_Sh 124 y_Dg_put : Cond) ∈ TB := tb_of 529 (by decide +kernel) (by decide +kernel)
theorem t_530 : (.instanceMethod y_Dg_put : Cond) ∈ TB := tb_of 530 (by decide +kernel) (by decide +kernel)
theorem t_531 : (.selects R_Dg y_Dg_put y_Dg_put : Cond) ∈ TB := tb_of 531 (by decide +kernel) (by decide +kernel)
theorem t_532 : (.code y_Dg_put b_Dg_put 6 none : Cond) ∈ TB := tb_of 532 (by decide +kernel) (by decide +kernel)
theorem t_543 : (.methodLink R_Sh 54 y_Sh_formExponent : Cond) ∈ TB := tb_of 543 (by decide +kernel) (by decide +kernel)
theorem t_545 : (.instanceMethod y_Sh_formExponent : Cond) ∈ TB := tb_of 545 (by decide +kernel) (by decide +kernel)
theorem t_546 : (.code y_Sh_formExponent b_Sh_formExponent 4 none : Cond) ∈ TB := tb_of 546 (by decide +kernel) (by decide +kernel)
theorem t_547 : (.methodLink R_Sh 128 y_Dg_first : Cond) ∈ TB := tb_of 547 (by decide +kernel) (by decide +kernel)
theorem t_548 : (.methodLink R_Sh 131 y_Dg_exponent : Cond) ∈ TB := tb_of 548 (by decide +kernel) (by decide +kernel)
theorem t_549 : (.instanceMethod y_Dg_exponent : Cond) ∈ TB := tb_of 549 (by decide +kernel) (by decide +kernel)
theorem t_550 : (.selects R_Dg y_Dg_exponent y_Dg_exponent : Cond) ∈ TB := tb_of 550 (by decide +kernel) (by decide +kernel)
theorem t_551 : (.code y_Dg_exponent b_Dg_exponent 1 (some .int) : Cond) ∈ TB := tb_of 551 (by decide +kernel) (by decide +kernel)
theorem t_552 : (.methodLink R_Sh 134 y_Sh_putExponent : Cond) ∈ TB := tb_of 552 (by decide +kernel) (by decide +kernel)
theorem t_554 : (.instanceMethod y_Sh_putExponent : Cond) ∈ TB := tb_of 554 (by decide +kernel) (by decide +kernel)
theorem t_555 : (.code y_Sh_putExponent b_Sh_putExponent 4 none : Cond) ∈ TB := tb_of 555 (by decide +kernel) (by decide +kernel)
theorem t_556 : (.methodLink R_Sh 137 Lib.Math.abs.name : Cond) ∈ TB := tb_of 556 (by decide +kernel) (by decide +kernel)
theorem t_557 : (.methodLink R_Sh 57 y_Sh_formShorter : Cond) ∈ TB := tb_of 557 (by decide +kernel) (by decide +kernel)
theorem t_559 : (.instanceMethod y_Sh_formShorter : Cond) ∈ TB := tb_of 559 (by decide +kernel) (by decide +kernel)
theorem t_560 : (.code y_Sh_formShorter b_Sh_formShorter 8 none : Cond) ∈ TB := tb_of 560 (by decide +kernel) (by decide +kernel)
theorem t_561 : (.methodLink R_Sh 142 Lib.Math.max.name : Cond) ∈ TB := tb_of 561 (by decide +kernel) (by decide +kernel)
theorem t_562 : (.methodLink R_Sh 146 y_Ln_dropZeros : Cond) ∈ TB := tb_of 562 (by decide +kernel) (by decide +kernel)
theorem t_563 : (.methodLink R_Sh 60 y_Sh_formQuoted : Cond) ∈ TB := tb_of 563 (by decide +kernel) (by decide +kernel)
theorem t_565 : (.instanceMethod y_Sh_formQuoted : Cond) ∈ TB := tb_of 565 (by decide +kernel) (by decide +kernel)
theorem t_566 : (.code y_Sh_formQuoted b_Sh_formQuoted 6 none : Cond) ∈ TB := tb_of 566 (by decide +kernel) (by decide +kernel)
theorem t_567 : (.methodLink R_Sh 75 y_Sh_cutLength : Cond) ∈ TB := tb_of 567 (by decide +kernel) (by decide +kernel)
theorem t_568 : (.static y_Sh_cutLength : Cond) ∈ TB := tb_of 568 (by decide +kernel) (by decide +kernel)
theorem t_569 : (.code y_Sh_cutLength b_Sh_cutLength 2 (some .int) : Cond) ∈ TB := tb_of 569 (by decide +kernel) (by decide +kernel)
theorem t_570 : (.methodLink R_Sh 149 y_Ln_size : Cond) ∈ TB := tb_of 570 (by decide +kernel) (by decide +kernel)
theorem t_571 : (.methodLink R_Sh 152 Lib.Math.min.name : Cond) ∈ TB := tb_of 571 (by decide +kernel) (by decide +kernel)
theorem t_572 : (.methodLink R_Sh 155 y_Ln_at : Cond) ∈ TB := tb_of 572 (by decide +kernel) (by decide +kernel)
theorem t_573 : (.methodLink R_Sh 63 y_Va_mark : Cond) ∈ TB := tb_of 573 (by decide +kernel) (by decide +kernel)
theorem t_574 : (.instanceMethod y_Va_mark : Cond) ∈ TB := tb_of 574 (by decide +kernel) (by decide +kernel)
theorem t_575 : (.selects R_Va y_Va_mark y_Va_mark : Cond) ∈ TB := tb_of 575 (by decide +kernel) (by decide +kernel)
theorem t_576 : (.code y_Va_mark b_Va_mark 1 (some .int) : Cond) ∈ TB := tb_of 576 (by decide +kernel) (by decide +kernel)
theorem t_577 : (.methodLink R_Sh 79 y_Ln_addPart : Cond) ∈ TB := tb_of 577 (by decide +kernel) (by decide +kernel)
theorem t_582 : (.methodLink R_Sh 161 y_Ln_hasRoom : Cond) ∈ TB := tb_of 582 (by decide +kernel) (by decide +kernel)
theorem t_583 : (.methodLink R_Sh 165 y_Fi_padsWithZeros : Cond) ∈ TB := tb_of 583 (by decide +kernel) (by decide +kernel)
theorem t_584 : (.instanceMethod y_Fi_padsWithZeros : Cond) ∈ TB := tb_of 584 (by decide +kernel) (by decide +kernel)
theorem t_585 : (.selects R_Fi y_Fi_padsWithZeros y_Fi_padsWithZeros : Cond) ∈ TB := tb_of 585 (by decide +kernel) (by decide +kernel)
theorem t_586 : (.code y_Fi_padsWithZeros b_Fi_padsWithZeros 1 (some .boolean) : Cond) ∈ TB := tb_of 586 (by decide +kernel) (by decide +kernel)
theorem g_Sh_106 : GoodIn TB (wsV R_Sh 106 R_Ln y_Ln_repeat w_Ln_repeat) := TB_V t_503 t_504 t_505 t_2 t_506
theorem g_Sh_110 : GoodIn TB (wsV R_Sh 110 R_Fi y_Fi_precisionOr w_Fi_precisionOr) := TB_V t_512 t_513 t_514 t_5 t_515
theorem g_Sh_117 : GoodIn TB (wsV R_Sh 117 R_Dg y_Dg_load w_Dg_load) := TB_V t_516 t_517 t_518 t_7 t_519
theorem g_Sh_121 : GoodIn TB (wsV R_Sh 121 R_Dg y_Dg_round w_Dg_round) := TB_V t_521 t_522 t_523 t_7 t_524
theorem g_Sh_124 : GoodIn TB (wsV R_Sh 124 R_Dg y_Dg_put w_Dg_put) := TB_V t_529 t_530 t_531 t_7 t_532
theorem g_Sh_128 : GoodIn TB (wsV R_Sh 128 R_Dg y_Dg_first w_Dg_first) := TB_V t_547 t_534 t_535 t_7 t_536
theorem g_Sh_13 : GoodIn TB w_Ln_init := TB_cons t_27
theorem g_Sh_131 : GoodIn TB (wsV R_Sh 131 R_Dg y_Dg_exponent w_Dg_exponent) := TB_V t_548 t_549 t_550 t_7 t_551
theorem g_Sh_134 : GoodIn TB (wsV R_Sh 134 R_Sh y_Sh_putExponent w_Sh_putExponent) := TB_V t_552 t_554 (tb_sel (y := y_Sh_putExponent) (n := 5) 21 (by decide +kernel)) t_6 t_555
theorem g_Sh_146 : GoodIn TB (wsV R_Sh 146 R_Ln y_Ln_dropZeros w_Ln_dropZeros) := TB_V t_562 t_293 t_294 t_2 t_295
theorem g_Sh_149 : GoodIn TB (wsV R_Sh 149 R_Ln y_Ln_size w_Ln_size) := TB_V t_570 t_214 t_215 t_2 t_216
theorem g_Sh_155 : GoodIn TB (wsV R_Sh 155 R_Ln y_Ln_at w_Ln_at) := TB_V t_572 t_231 t_232 t_2 t_233
theorem g_Sh_161 : GoodIn TB (wsV R_Sh 161 R_Ln y_Ln_hasRoom w_Ln_hasRoom) := TB_V t_582 t_199 t_200 t_2 t_201
theorem g_Sh_165 : GoodIn TB (wsV R_Sh 165 R_Fi y_Fi_padsWithZeros w_Fi_padsWithZeros) := TB_V t_583 t_584 t_585 t_5 t_586
theorem g_Sh_22 : GoodIn TB w_Dg_init := TB_cons t_134
theorem g_Sh_31 : GoodIn TB (wsV R_Sh 31 R_Ln y_Ln_empty w_Ln_empty) := TB_V t_489 t_222 t_223 t_2 t_224
theorem g_Sh_46 : GoodIn TB (wsV R_Sh 46 R_Sh y_Sh_formWhole w_Sh_formWhole) := TB_V t_490 t_492 (tb_sel (y := y_Sh_formWhole) (n := 5) 15 (by decide +kernel)) t_6 t_493
theorem g_Sh_50 : GoodIn TB (wsV R_Sh 50 R_Sh y_Sh_formPlaces w_Sh_formPlaces) := TB_V t_508 t_510 (tb_sel (y := y_Sh_formPlaces) (n := 5) 17 (by decide +kernel)) t_6 t_511
theorem g_Sh_54 : GoodIn TB (wsV R_Sh 54 R_Sh y_Sh_formExponent w_Sh_formExponent) := TB_V t_543 t_545 (tb_sel (y := y_Sh_formExponent) (n := 5) 20 (by decide +kernel)) t_6 t_546
theorem g_Sh_57 : GoodIn TB (wsV R_Sh 57 R_Sh y_Sh_formShorter w_Sh_formShorter) := TB_V t_557 t_559 (tb_sel (y := y_Sh_formShorter) (n := 5) 22 (by decide +kernel)) t_6 t_560
theorem g_Sh_60 : GoodIn TB (wsV R_Sh 60 R_Sh y_Sh_formQuoted w_Sh_formQuoted) := TB_V t_563 t_565 (tb_sel (y := y_Sh_formQuoted) (n := 5) 23 (by decide +kernel)) t_6 t_566
theorem g_Sh_63 : GoodIn TB (wsV R_Sh 63 R_Va y_Va_mark w_Va_mark) := TB_V t_573 t_574 t_575 t_4 t_576
theorem g_Sh_69 : GoodIn TB (wsV R_Sh 69 R_Ln y_Ln_add w_Ln_add) := TB_V t_507 t_206 t_207 t_2 t_208
theorem g_Sh_75 : GoodIn TB (wsS R_Sh 75 y_Sh_cutLength w_Sh_cutLength) := TB_S t_567 t_568 t_6 t_569
theorem g_Sh_79 : GoodIn TB (wsV R_Sh 79 R_Ln y_Ln_addPart w_Ln_addPart) := TB_V t_577 t_227 t_228 t_2 t_229
theorem g_Sh_83 : GoodIn TB (wsV R_Sh 83 R_Va y_Va_wholePart w_Va_wholePart) := TB_V t_494 t_460 t_461 t_4 t_462
theorem g_Sh_87 : GoodIn TB (wsV R_Sh 87 R_Fi y_Fi_signFor w_Fi_signFor) := TB_V t_495 t_496 t_497 t_5 t_498
theorem g_Sh_99 : GoodIn TB (wsV R_Sh 99 R_Sh y_Sh_splitWhole w_Sh_splitWhole) := TB_V t_499 t_501 (tb_sel (y := y_Sh_splitWhole) (n := 5) 16 (by decide +kernel)) t_6 t_502
set_option maxHeartbeats 4000000 in
set_option maxRecDepth 100000 in
theorem c_Shape_init (l : Launch) (dC : Nat → ClassId) (dI : Nat → Nat → Nat) (sz : Nat) (cC : ClassId) (cI : ClassId) (sa : Nat)  : Met l y_Sh_init w_Sh_init ({ frames := 2, cells := 5, slots := 258, locals := 35 } : Room) (va_Pc [.ref sa] (fun U => U.heap.size = sz ∧ va_P (dC, dI) CL [(sa, .inr (3, [.null, .null, .null, .int 0, .int 0]))] U.heap ∧ va_K (dC, dI) CL [(cC, .char), (cI, .int)] U ∧ va_D (fun _ => True) [(sa, .inr (3, [.null, .null, .null, .int 0, .int 0]))] ∧ kN U)) (va_Qv (fun (u : Unit) => True) (fun (u : Unit) (t : State) => ∃ h : Nat, ∃ a : Nat, ∃ g : Nat, ∃ ra : Nat, ∃ la : Nat, va_P (dC, dI) CL [(sa, .inr (3, [.ref h, .ref g, .ref la, .int 0, .int 0])), (h, .inr (2, [.ref a, .int 0])), (a, .inl (cC, 160, .inl (fun _ => 0))), (g, .inr (0, [.ref ra])), (ra, .inl (cI, 31, .inl (fun _ => 0))), (la, .inl (cI, 64, .inl (fun _ => 0)))] t.heap ∧ va_K (dC, dI) CL [(cC, .char), (cI, .int)] t ∧ va_D (va_A [(sa, .inr (3, [.null, .null, .null, .int 0, .int 0]))] sz) [(sa, .inr (3, [.ref h, .ref g, .ref la, .int 0, .int 0])), (h, .inr (2, [.ref a, .int 0])), (a, .inl (cC, 160, .inl (fun _ => 0))), (g, .inr (0, [.ref ra])), (ra, .inl (cI, 31, .inl (fun _ => 0))), (la, .inl (cI, 64, .inl (fun _ => 0)))]) (va_A [(sa, .inr (3, [.null, .null, .null, .int 0, .int 0]))] sz)) 5 258 (va_A [(sa, .inr (3, [.null, .null, .null, .int 0, .int 0]))] sz) := by
  refine Met.ofW (cc := b_Sh_init) (maxL := 1) (ret := none) (by decide) rfl ?_
  intro p e s m args below meth c s₁ B hml hv
  obtain ⟨rfl, hsz, hP, hK, hD0, hN⟩ := hv
  have hx := B.exec
  have hb := B.bytes
  have hr := B.returns
  have hts := atoms_spec (ws := w_Sh_init) B.pre
  have hT : ∀ w ∈ TB, w.before _ s = true := fun w h => hts w (List.mem_cons_of_mem _ h)
  have hown : s.vm.findClass R_Sh = some m.cls := findClass_of_methodNamed B.named
  have hlocks := B.notSynchronized
  have hin : meth.name = "<init>" := (name_of_methodNamed B.named B.method).1
  subst hsz
  have hD := hD0.self (sz := s.heap.size)
  generalize hAe : va_A [(sa, .inr (3, [.null, .null, .null, .int 0, .int 0]))] s.heap.size = A at hD ⊢
  have hA : ∀ q : Nat, s.heap.size ≤ q → A q := fun q h => by rw [← hAe]; exact Or.inr h
  have hS : va_S A s.heap s.heap [] := va_S.rf
  have hP : va_P (dC, dI) CL [(sa, .inr (3, [.null, .null, .null, .int 0, .int 0]))] s.heap := hP
  have hl := lv_entry ([.ref sa]) (n := 1) (Nat.le_of_ble_eq_true rfl)
  rw [lg_entry_eq]
  generalize (lg_sl ([.ref sa]) ++ List.replicate (1 - (lg_sl ([.ref sa])).length) Slot.unset).toArray = ls at hl ⊢
  have hl : lv_has ls 1 [(0, .ref sa)] := hl
  refine lv_aload_n hx hb d_Sh_init_0 rfl (lv_at hl 0 rfl) ?_
  refine W.objInit hx hb hown (hT _ t_127) (hT _ t_21) (hT _ t_22) rfl (by rw [hml]; exact hl.1) rfl d_Sh_init_1 (Nat.le_of_ble_eq_true rfl) (Nat.le_of_ble_eq_true rfl) ?_
  refine W.eq (g2 := F0 m 4 ls []) rfl ?_
  refine lv_aload_n hx hb d_Sh_init_4 rfl (lv_at hl 0 rfl) ?_
  refine va_new (ci := 2) (fs := [.null, .int 0]) (C := R_Ln) (T := F_Ln) (N := 2) hx hb hT in_Ln t_Ln t_Ln_ok hown (hT _ t_128) (hT _ t_24) (hT _ t_2) hK hP hD hS hA rfl (fun j hj => by rcases (show j = 0 ∨ j = 1 by omega) with rfl | rfl <;> rfl) (Nat.le_of_ble_eq_true rfl) (Nat.le_of_ble_eq_true rfl) d_Sh_init_5 (fun q1 H hP hD hS => ?_)
  have hP : va_P (dC, dI) CL [(sa, .inr (3, [.null, .null, .null, .int 0, .int 0])), (q1, .inr (2, [.null, .int 0]))] H := hP
  have hD : va_D A [(sa, .inr (3, [.null, .null, .null, .int 0, .int 0])), (q1, .inr (2, [.null, .int 0]))] := hD
  refine lv_dup hx hb d_Sh_init_8 rfl ?_
  refine lv_sipush (v := 160) hx hb d_Sh_init_9 (by decide) ?_
  have hPc := hP.sub (ws' := [(q1, .inr (2, [.null, .int 0]))]) [1] rfl
  have hDc := hD.sub (ws' := [(q1, .inr (2, [.null, .int 0]))]) [1] (by decide) rfl
  have hKc := hK.sub (tys' := [(cC, .char)]) [0] rfl
  have hFc := va_free (wc := [(q1, .inr (2, [.null, .int 0]))]) hD hS hA [1] rfl
  refine va_callv (va_runI (As := [.int 160]) (rest := [.ref q1, .ref sa]) ⟨hx, hb, hml, hown, hT⟩ (c_Line_init160 l dC dI H.size cC q1 0 ) (cwI 1 hT g_Sh_13 rfl rfl rfl (hT _ t_2) (hT _ t_129) (hT _ t_26) rfl (by decide +kernel) ⟨Nat.le_of_ble_eq_true rfl, Nat.le_of_ble_eq_true rfl⟩) ⟨fun a U g mk q => by obtain ⟨q0, q1, qP, qK, qD⟩ := q; exact ⟨q0, q1, qP, va_K.moved (u := U) (U := U.calling g mk a) (Vm.Alike.refl U.vm) qK, qD⟩, fun U hU hW => ⟨rfl, by rw [hU], by rw [hU]; exact hPc, va_K.moved hW.alike hKc, hDc.weaken (fun _ _ _ _ => trivial)⟩⟩ rfl rfl hl.1 rfl (lv_room (Nat.le_of_ble_eq_true rfl)) d_Sh_init_12 ⟨Nat.le_of_ble_eq_true rfl, Nat.le_of_ble_eq_true rfl⟩) hS (fun q _ h => hFc q h) hFc (fun u t H1 locs ht hvm w12_1 hB hz1 hk1 hS => ?_)
  obtain ⟨q2, hP1, hK1, hD1⟩ := hB
  rw [ht] at hP1
  try dsimp only at w12_1
  obtain ⟨hP, hD⟩ := va_join (wr := [(sa, .inr (3, [.null, .null, .null, .int 0, .int 0]))]) (w1 := [(q1, .inr (2, [.ref q2, .int 0])), (q2, .inl (cC, 160, .inl (fun _ => 0)))]) hP hD [1] [0] rfl rfl (by decide) (by decide) hk1 hFc hP1 hD1
  generalize H1 = H at hP hS ⊢
  have hP : va_P (dC, dI) CL [(sa, .inr (3, [.null, .null, .null, .int 0, .int 0])), (q1, .inr (2, [.ref q2, .int 0])), (q2, .inl (cC, 160, .inl (fun _ => 0)))] H := hP
  have hD : va_D A [(sa, .inr (3, [.null, .null, .null, .int 0, .int 0])), (q1, .inr (2, [.ref q2, .int 0])), (q2, .inl (cC, 160, .inl (fun _ => 0)))] := hD
  refine va_putF (D := (dC, dI)) (ci := 3) (v := .ref q1) (ty := (.object "FormatDesk$Line")) (C := R_Sh) (T := F_Sh) (N := 5) hx hb hT (in_Sh) t_Sh t_Sh_ok n_Sh hown hK hP hD hS 0 rfl rfl 0 (by decide) (hT _ t_141) (fun _ h9 => h9) rfl hin rfl (by decide +kernel) rfl rfl (Nat.le_of_ble_eq_true rfl) d_Sh_init_15 (fun H locs hP hD hS => ?_)
  have hP : va_P (dC, dI) CL [(sa, .inr (3, [.ref q1, .null, .null, .int 0, .int 0])), (q1, .inr (2, [.ref q2, .int 0])), (q2, .inl (cC, 160, .inl (fun _ => 0)))] H := hP
  have hD : va_D A [(sa, .inr (3, [.ref q1, .null, .null, .int 0, .int 0])), (q1, .inr (2, [.ref q2, .int 0])), (q2, .inl (cC, 160, .inl (fun _ => 0)))] := hD
  refine lv_aload_n hx hb d_Sh_init_18 rfl (lv_at hl 0 rfl) ?_
  refine va_new (ci := 0) (fs := [.null]) (C := R_Dg) (T := F_Dg) (N := 1) hx hb hT in_Dg t_Dg t_Dg_ok hown (hT _ t_130) (hT _ t_131) (hT _ t_7) hK hP hD hS hA rfl (fun j hj => by rcases (show j = 0 by omega) with rfl <;> rfl) (Nat.le_of_ble_eq_true rfl) (Nat.le_of_ble_eq_true rfl) d_Sh_init_19 (fun q3 H hP hD hS => ?_)
  have hP : va_P (dC, dI) CL [(sa, .inr (3, [.ref q1, .null, .null, .int 0, .int 0])), (q1, .inr (2, [.ref q2, .int 0])), (q2, .inl (cC, 160, .inl (fun _ => 0))), (q3, .inr (0, [.null]))] H := hP
  have hD : va_D A [(sa, .inr (3, [.ref q1, .null, .null, .int 0, .int 0])), (q1, .inr (2, [.ref q2, .int 0])), (q2, .inl (cC, 160, .inl (fun _ => 0))), (q3, .inr (0, [.null]))] := hD
  refine lv_dup hx hb d_Sh_init_22 rfl ?_
  have hPc := hP.sub (ws' := [(q3, .inr (0, [.null]))]) [3] rfl
  have hDc := hD.sub (ws' := [(q3, .inr (0, [.null]))]) [3] (by decide) rfl
  have hKc := hK.sub (tys' := [(cI, .int)]) [1] rfl
  have hFc := va_free (wc := [(q3, .inr (0, [.null]))]) hD hS hA [3] rfl
  refine va_callv (va_runIN (As := []) (rest := [.ref q3, .ref sa]) ⟨hx, hb, hml, hown, hT⟩ (c_Digits_init l dC dI H.size cI q3 ) (⟨va_cnB 0 hT g_Sh_22 rfl rfl rfl (kN_132 hN) (hT _ t_7) (by decide +kernel) ⟨Nat.le_of_ble_eq_true rfl, Nat.le_of_ble_eq_true rfl⟩, rfl, hT _ t_133⟩) ⟨fun a U g mk q => by obtain ⟨q0, q1, qP, qK, qD⟩ := q; exact ⟨q0, q1, qP, va_K.moved (u := U) (U := U.calling g mk a) (Vm.Alike.refl U.vm) qK, qD⟩, fun U hU hW => ⟨rfl, by rw [hU], by rw [hU]; exact hPc, va_K.moved hW.alike hKc, hDc.weaken (fun _ _ _ _ => trivial)⟩⟩ rfl rfl hl.1 rfl (lv_room (Nat.le_of_ble_eq_true rfl)) d_Sh_init_23 ⟨Nat.le_of_ble_eq_true rfl, Nat.le_of_ble_eq_true rfl⟩) hS (fun q _ h => hFc q h) hFc (fun u t H1 locs ht hvm w23_3 hB hz1 hk1 hS => ?_)
  obtain ⟨q4, hP1, hK1, hD1⟩ := hB
  rw [ht] at hP1
  try dsimp only at w23_3
  obtain ⟨hP, hD⟩ := va_join (wr := [(sa, .inr (3, [.ref q1, .null, .null, .int 0, .int 0])), (q1, .inr (2, [.ref q2, .int 0])), (q2, .inl (cC, 160, .inl (fun _ => 0)))]) (w1 := [(q3, .inr (0, [.ref q4])), (q4, .inl (cI, 31, .inl (fun _ => 0)))]) hP hD [3] [0, 1, 2] rfl rfl (by decide) (by decide) hk1 hFc hP1 hD1
  generalize H1 = H at hP hS ⊢
  have hP : va_P (dC, dI) CL [(sa, .inr (3, [.ref q1, .null, .null, .int 0, .int 0])), (q1, .inr (2, [.ref q2, .int 0])), (q2, .inl (cC, 160, .inl (fun _ => 0))), (q3, .inr (0, [.ref q4])), (q4, .inl (cI, 31, .inl (fun _ => 0)))] H := hP
  have hD : va_D A [(sa, .inr (3, [.ref q1, .null, .null, .int 0, .int 0])), (q1, .inr (2, [.ref q2, .int 0])), (q2, .inl (cC, 160, .inl (fun _ => 0))), (q3, .inr (0, [.ref q4])), (q4, .inl (cI, 31, .inl (fun _ => 0)))] := hD
  refine va_putF (D := (dC, dI)) (ci := 3) (v := .ref q3) (ty := (.object "FormatDesk$Digits")) (C := R_Sh) (T := F_Sh) (N := 5) hx hb hT (in_Sh) t_Sh t_Sh_ok n_Sh hown hK hP hD hS 0 rfl rfl 1 (by decide) (hT _ t_142) (fun _ h9 => h9) rfl hin rfl (by decide +kernel) rfl rfl (Nat.le_of_ble_eq_true rfl) d_Sh_init_26 (fun H locs hP hD hS => ?_)
  have hP : va_P (dC, dI) CL [(sa, .inr (3, [.ref q1, .ref q3, .null, .int 0, .int 0])), (q1, .inr (2, [.ref q2, .int 0])), (q2, .inl (cC, 160, .inl (fun _ => 0))), (q3, .inr (0, [.ref q4])), (q4, .inl (cI, 31, .inl (fun _ => 0)))] H := hP
  have hD : va_D A [(sa, .inr (3, [.ref q1, .ref q3, .null, .int 0, .int 0])), (q1, .inr (2, [.ref q2, .int 0])), (q2, .inl (cC, 160, .inl (fun _ => 0))), (q3, .inr (0, [.ref q4])), (q4, .inl (cI, 31, .inl (fun _ => 0)))] := hD
  refine lv_aload_n hx hb d_Sh_init_29 rfl (lv_at hl 0 rfl) ?_
  refine lv_bipush (v := 64) hx hb d_Sh_init_30 (by decide) ?_
  refine va_newa (atype := .int) (n := 64) (N' := 64) (a0 := (64, .inl (fun _ => 0))) hx hb (hT _ t_140) (ty := .int) rfl hK hP hD hS hA (fun _ => rfl) (by decide) (by decide) (by decide) (Nat.le_of_ble_eq_true rfl) (Nat.le_of_ble_eq_true rfl) d_Sh_init_32 (fun q5 cA6 H hK hP hD hS => ?_)
  obtain rfl : cI = cA6 := k_sameI hK 1 2 rfl rfl
  have hK := hK.sub (tys' := [(cC, .char), (cI, .int)]) [0, 1] rfl
  have hP : va_P (dC, dI) CL [(sa, .inr (3, [.ref q1, .ref q3, .null, .int 0, .int 0])), (q1, .inr (2, [.ref q2, .int 0])), (q2, .inl (cC, 160, .inl (fun _ => 0))), (q3, .inr (0, [.ref q4])), (q4, .inl (cI, 31, .inl (fun _ => 0))), (q5, .inl (cI, 64, .inl (fun _ => 0)))] H := hP
  have hD : va_D A [(sa, .inr (3, [.ref q1, .ref q3, .null, .int 0, .int 0])), (q1, .inr (2, [.ref q2, .int 0])), (q2, .inl (cC, 160, .inl (fun _ => 0))), (q3, .inr (0, [.ref q4])), (q4, .inl (cI, 31, .inl (fun _ => 0))), (q5, .inl (cI, 64, .inl (fun _ => 0)))] := hD
  refine va_putF (D := (dC, dI)) (ci := 3) (v := .ref q5) (ty := (.array .int)) (C := R_Sh) (T := F_Sh) (N := 5) hx hb hT (in_Sh) t_Sh t_Sh_ok n_Sh hown hK hP hD hS 0 rfl rfl 2 (by decide) (hT _ t_143) (fun _ h9 => h9) rfl hin rfl (by decide +kernel) rfl rfl (Nat.le_of_ble_eq_true rfl) d_Sh_init_34 (fun H locs hP hD hS => ?_)
  have hP : va_P (dC, dI) CL [(sa, .inr (3, [.ref q1, .ref q3, .ref q5, .int 0, .int 0])), (q1, .inr (2, [.ref q2, .int 0])), (q2, .inl (cC, 160, .inl (fun _ => 0))), (q3, .inr (0, [.ref q4])), (q4, .inl (cI, 31, .inl (fun _ => 0))), (q5, .inl (cI, 64, .inl (fun _ => 0)))] H := hP
  have hD : va_D A [(sa, .inr (3, [.ref q1, .ref q3, .ref q5, .int 0, .int 0])), (q1, .inr (2, [.ref q2, .int 0])), (q2, .inl (cC, 160, .inl (fun _ => 0))), (q3, .inr (0, [.ref q4])), (q4, .inl (cI, 31, .inl (fun _ => 0))), (q5, .inl (cI, 64, .inl (fun _ => 0)))] := hD
  have hP9 := hP.sub (ws' := [(sa, .inr (3, [.ref q1, .ref q3, .ref q5, .int 0, .int 0])), (q1, .inr (2, [.ref q2, .int 0])), (q2, .inl (cC, 160, .inl (fun _ => 0))), (q3, .inr (0, [.ref q4])), (q4, .inl (cI, 31, .inl (fun _ => 0))), (q5, .inl (cI, 64, .inl (fun _ => 0)))]) [0, 1, 2, 3, 4, 5] rfl
  have hD9 := hD.sub (ws' := [(sa, .inr (3, [.ref q1, .ref q3, .ref q5, .int 0, .int 0])), (q1, .inr (2, [.ref q2, .int 0])), (q2, .inl (cC, 160, .inl (fun _ => 0))), (q3, .inr (0, [.ref q4])), (q4, .inl (cI, 31, .inl (fun _ => 0))), (q5, .inl (cI, 64, .inl (fun _ => 0)))]) [0, 1, 2, 3, 4, 5] (by decide) rfl
  have hK9 := hK.sub (tys' := [(cC, .char), (cI, .int)]) [0, 1] rfl
  have hq9 : True := True.intro
  refine W.widen (k := 5) (n := 258) (Nat.le_of_ble_eq_true rfl) (Nat.le_of_ble_eq_true rfl) ?_
  exact W.vret hx hb hr (fun t ht hW => ⟨⟨(), rfl, hq9, q1, q2, q3, q4, q5, by rw [ht]; exact hP9, va_K.moved hW.alike hK9, hD9⟩, hS.F ht⟩) hS.2.2 d_Sh_init_37

set_option maxHeartbeats 4000000 in
set_option maxRecDepth 100000 in
theorem c_Shape_cutLength (l : Launch) (dC : Nat → ClassId) (dI : Nat → Nat → Nat) (sz : Nat) (cC : ClassId) (vV : Nat) (wV : Nat) (waV : Nat) (decV : Int32) (belV : Int32) (ahV : Int64) (bhV : Int64) (fV : Nat → Int32) (nV : Int32) (fi : Nat) (mi : Int32) (pl : Int32) (ze : Int32) (sh : Int32) (bl : Int32) (sw : Int32) (sp : Int32) (wi : Int32) (pr : Int32) (le : Int32) (so : Int32) (nx : Int32)  : Met l y_Sh_cutLength w_Sh_cutLength ({ frames := 1, cells := 0, slots := 0, locals := 21 } : Room) (va_Pc [.ref vV, .ref fi] (fun U => U.heap.size = sz ∧ va_P (dC, dI) CL [(vV, .inr (4, [.ref wV, .int decV, .int belV, .long ahV, .long bhV])), (wV, .inr (2, [.ref waV, .int nV])), (waV, .inl (cC, 60, .inl fV)), (fi, .inr (1, [.int mi, .int pl, .int ze, .int sh, .int bl, .int sw, .int sp, .int wi, .int pr, .int le, .int so, .int nx]))] U.heap ∧ va_K (dC, dI) CL [(cC, .char)] U ∧ va_D (fun _ => True) [(vV, .inr (4, [.ref wV, .int decV, .int belV, .long ahV, .long bhV])), (wV, .inr (2, [.ref waV, .int nV])), (waV, .inl (cC, 60, .inl fV)), (fi, .inr (1, [.int mi, .int pl, .int ze, .int sh, .int bl, .int sw, .int sp, .int wi, .int pr, .int le, .int so, .int nx]))] ∧ kN U)) (va_Qi (fun (r : Int32) (u : Unit) => r = shCut nV pr) (fun (u : Unit) (t : State) => va_P (dC, dI) CL [(vV, .inr (4, [.ref wV, .int decV, .int belV, .long ahV, .long bhV])), (wV, .inr (2, [.ref waV, .int nV])), (waV, .inl (cC, 60, .inl fV)), (fi, .inr (1, [.int mi, .int pl, .int ze, .int sh, .int bl, .int sw, .int sp, .int wi, .int pr, .int le, .int so, .int nx]))] t.heap ∧ va_K (dC, dI) CL [(cC, .char)] t ∧ va_D (va_A [(vV, .inr (4, [.ref wV, .int decV, .int belV, .long ahV, .long bhV])), (wV, .inr (2, [.ref waV, .int nV])), (waV, .inl (cC, 60, .inl fV)), (fi, .inr (1, [.int mi, .int pl, .int ze, .int sh, .int bl, .int sw, .int sp, .int wi, .int pr, .int le, .int so, .int nx]))] sz) [(vV, .inr (4, [.ref wV, .int decV, .int belV, .long ahV, .long bhV])), (wV, .inr (2, [.ref waV, .int nV])), (waV, .inl (cC, 60, .inl fV)), (fi, .inr (1, [.int mi, .int pl, .int ze, .int sh, .int bl, .int sw, .int sp, .int wi, .int pr, .int le, .int so, .int nx]))]) (va_A [(vV, .inr (4, [.ref wV, .int decV, .int belV, .long ahV, .long bhV])), (wV, .inr (2, [.ref waV, .int nV])), (waV, .inl (cC, 60, .inl fV)), (fi, .inr (1, [.int mi, .int pl, .int ze, .int sh, .int bl, .int sw, .int sp, .int wi, .int pr, .int le, .int so, .int nx]))] sz)) 0 0 (va_A [(vV, .inr (4, [.ref wV, .int decV, .int belV, .long ahV, .long bhV])), (wV, .inr (2, [.ref waV, .int nV])), (waV, .inl (cC, 60, .inl fV)), (fi, .inr (1, [.int mi, .int pl, .int ze, .int sh, .int bl, .int sw, .int sp, .int wi, .int pr, .int le, .int so, .int nx]))] sz) := by
  refine Met.ofW (cc := b_Sh_cutLength) (maxL := 2) (ret := (some .int)) (by decide) rfl ?_
  intro p e s m args below meth c s₁ B hml hv
  obtain ⟨rfl, hsz, hP, hK, hD0, hN⟩ := hv
  have hx := B.exec
  have hb := B.bytes
  have hr := B.returns
  have hts := atoms_spec (ws := w_Sh_cutLength) B.pre
  have hT : ∀ w ∈ TB, w.before _ s = true := fun w h => hts w (List.mem_cons_of_mem _ h)
  have hown : s.vm.findClass R_Sh = some m.cls := findClass_of_methodNamed B.named
  have hlocks := B.notSynchronized
  subst hsz
  have hD := hD0.self (sz := s.heap.size)
  generalize hAe : va_A [(vV, .inr (4, [.ref wV, .int decV, .int belV, .long ahV, .long bhV])), (wV, .inr (2, [.ref waV, .int nV])), (waV, .inl (cC, 60, .inl fV)), (fi, .inr (1, [.int mi, .int pl, .int ze, .int sh, .int bl, .int sw, .int sp, .int wi, .int pr, .int le, .int so, .int nx]))] s.heap.size = A at hD ⊢
  have hA : ∀ q : Nat, s.heap.size ≤ q → A q := fun q h => by rw [← hAe]; exact Or.inr h
  have hS : va_S A s.heap s.heap [] := va_S.rf
  have hP : va_P (dC, dI) CL [(vV, .inr (4, [.ref wV, .int decV, .int belV, .long ahV, .long bhV])), (wV, .inr (2, [.ref waV, .int nV])), (waV, .inl (cC, 60, .inl fV)), (fi, .inr (1, [.int mi, .int pl, .int ze, .int sh, .int bl, .int sw, .int sp, .int wi, .int pr, .int le, .int so, .int nx]))] s.heap := hP
  have hl := lv_entry ([.ref vV, .ref fi]) (n := 2) (Nat.le_of_ble_eq_true rfl)
  rw [lg_entry_eq]
  generalize (lg_sl ([.ref vV, .ref fi]) ++ List.replicate (2 - (lg_sl ([.ref vV, .ref fi])).length) Slot.unset).toArray = ls at hl ⊢
  have hl : lv_has ls 2 [(0, .ref vV), (1, .ref fi)] := hl
  refine lv_aload_n hx hb d_Sh_cutLength_0 rfl (lv_at hl 0 rfl) ?_
  refine va_getN (D := (dC, dI)) (ci := 4) (v := .ref wV) (C := R_Va) (T := F_Va) (N := 5) hx hb hT (in_Va) hown hK hP 0 rfl rfl 0 (by decide) (va_Nw.use rfl (kN_50 hN)) (fun _ h9 => h9) rfl d_Sh_cutLength_1 ?_
  have hPc := hP.sub (ws' := [(wV, .inr (2, [.ref waV, .int nV])), (waV, .inl (cC, 60, .inl fV))]) [1, 2] rfl
  have hDc := hD.sub (ws' := [(wV, .inr (2, [.ref waV, .int nV])), (waV, .inl (cC, 60, .inl fV))]) [1, 2] (by decide) rfl
  have hKc := hK.sub (tys' := [(cC, .char)]) [0] rfl
  have hFc := va_free (wc := [(wV, .inr (2, [.ref waV, .int nV])), (waV, .inl (cC, 60, .inl fV))]) hD hS hA [1, 2] rfl
  refine va_calli (va_runV (As := []) (rest := []) ⟨hx, hb, hml, hown, hT⟩ (c_Line_size l dC dI s.heap.size cC wV waV 60 fV nV ) (cwV 0 hT g_Sh_149 rfl rfl rfl (by decide +kernel) ⟨Nat.le_of_ble_eq_true rfl, Nat.le_of_ble_eq_true rfl⟩) ⟨fun a U g mk q => by obtain ⟨q0, q1, qP, qK, qD⟩ := q; exact ⟨q0, q1, qP, va_K.moved (u := U) (U := U.calling g mk a) (Vm.Alike.refl U.vm) qK, qD⟩, va_recv hKc hPc (ci := 2) (q0 := 0) rfl rfl, fun U hU hW => ⟨rfl, by rw [hU], by rw [hU]; exact hPc, va_K.moved hW.alike hKc, hDc.weaken (fun _ _ _ _ => trivial)⟩⟩ rfl rfl hl.1 rfl (lv_room (Nat.le_of_ble_eq_true rfl)) d_Sh_cutLength_4 ⟨Nat.le_of_ble_eq_true rfl, Nat.le_of_ble_eq_true rfl⟩) hS (fun q _ h => hFc q h) hFc (fun x1 u t H1 locs ht hvm w4_1 hB hz1 hk1 hS => ?_)
  obtain ⟨hP1, hK1, hD1⟩ := hB
  rw [ht] at hP1
  try dsimp only at w4_1
  obtain ⟨hP, hD⟩ := va_join (wr := [(vV, .inr (4, [.ref wV, .int decV, .int belV, .long ahV, .long bhV])), (fi, .inr (1, [.int mi, .int pl, .int ze, .int sh, .int bl, .int sw, .int sp, .int wi, .int pr, .int le, .int so, .int nx]))]) (w1 := [(wV, .inr (2, [.ref waV, .int nV])), (waV, .inl (cC, 60, .inl fV))]) hP hD [1, 2] [0, 3] rfl rfl (by decide) (by decide) hk1 hFc hP1 hD1
  generalize H1 = H at hP hS ⊢
  have hP : va_P (dC, dI) CL [(vV, .inr (4, [.ref wV, .int decV, .int belV, .long ahV, .long bhV])), (fi, .inr (1, [.int mi, .int pl, .int ze, .int sh, .int bl, .int sw, .int sp, .int wi, .int pr, .int le, .int so, .int nx])), (wV, .inr (2, [.ref waV, .int nV])), (waV, .inl (cC, 60, .inl fV))] H := hP
  have hD : va_D A [(vV, .inr (4, [.ref wV, .int decV, .int belV, .long ahV, .long bhV])), (fi, .inr (1, [.int mi, .int pl, .int ze, .int sh, .int bl, .int sw, .int sp, .int wi, .int pr, .int le, .int so, .int nx])), (wV, .inr (2, [.ref waV, .int nV])), (waV, .inl (cC, 60, .inl fV))] := hD
  refine lv_aload_n hx hb d_Sh_cutLength_7 rfl (lv_at hl 1 rfl) ?_
  refine lv_bipush (v := 60) hx hb d_Sh_cutLength_8 (by decide) ?_
  have hPc := hP.sub (ws' := [(fi, .inr (1, [.int mi, .int pl, .int ze, .int sh, .int bl, .int sw, .int sp, .int wi, .int pr, .int le, .int so, .int nx]))]) [1] rfl
  have hDc := hD.sub (ws' := [(fi, .inr (1, [.int mi, .int pl, .int ze, .int sh, .int bl, .int sw, .int sp, .int wi, .int pr, .int le, .int so, .int nx]))]) [1] (by decide) rfl
  have hKc := hK.sub (tys' := []) [] rfl
  have hFc := va_free (wc := [(fi, .inr (1, [.int mi, .int pl, .int ze, .int sh, .int bl, .int sw, .int sp, .int wi, .int pr, .int le, .int so, .int nx]))]) hD hS hA [1] rfl
  refine va_calli (va_runV (As := [.int 60]) (rest := [.int x1]) ⟨hx, hb, hml, hown, hT⟩ (c_Field_precisionOr l dC dI H.size fi mi pl ze sh bl sw sp wi pr le so nx 60 ) (cwV 1 hT g_Sh_110 rfl rfl rfl (by decide +kernel) ⟨Nat.le_of_ble_eq_true rfl, Nat.le_of_ble_eq_true rfl⟩) ⟨fun a U g mk q => by obtain ⟨q0, q1, qP, qK, qD⟩ := q; exact ⟨q0, q1, qP, va_K.moved (u := U) (U := U.calling g mk a) (Vm.Alike.refl U.vm) qK, qD⟩, va_recv hKc hPc (ci := 1) (q0 := 0) rfl rfl, fun U hU hW => ⟨rfl, by rw [hU], by rw [hU]; exact hPc, va_K.moved hW.alike hKc, hDc.weaken (fun _ _ _ _ => trivial)⟩⟩ rfl rfl hl.1 rfl (lv_room (Nat.le_of_ble_eq_true rfl)) d_Sh_cutLength_10 ⟨Nat.le_of_ble_eq_true rfl, Nat.le_of_ble_eq_true rfl⟩) hS (fun q _ h => hFc q h) hFc (fun x2 u t H1 locs ht hvm w10_2 hB hz1 hk1 hS => ?_)
  obtain ⟨hP1, hK1, hD1⟩ := hB
  rw [ht] at hP1
  try dsimp only at w10_2
  obtain ⟨hP, hD⟩ := va_join (wr := [(vV, .inr (4, [.ref wV, .int decV, .int belV, .long ahV, .long bhV])), (wV, .inr (2, [.ref waV, .int nV])), (waV, .inl (cC, 60, .inl fV))]) (w1 := [(fi, .inr (1, [.int mi, .int pl, .int ze, .int sh, .int bl, .int sw, .int sp, .int wi, .int pr, .int le, .int so, .int nx]))]) hP hD [1] [0, 2, 3] rfl rfl (by decide) (by decide) hk1 hFc hP1 hD1
  generalize H1 = H at hP hS ⊢
  have hP : va_P (dC, dI) CL [(vV, .inr (4, [.ref wV, .int decV, .int belV, .long ahV, .long bhV])), (wV, .inr (2, [.ref waV, .int nV])), (waV, .inl (cC, 60, .inl fV)), (fi, .inr (1, [.int mi, .int pl, .int ze, .int sh, .int bl, .int sw, .int sp, .int wi, .int pr, .int le, .int so, .int nx]))] H := hP
  have hD : va_D A [(vV, .inr (4, [.ref wV, .int decV, .int belV, .long ahV, .long bhV])), (wV, .inr (2, [.ref waV, .int nV])), (waV, .inl (cC, 60, .inl fV)), (fi, .inr (1, [.int mi, .int pl, .int ze, .int sh, .int bl, .int sw, .int sp, .int wi, .int pr, .int le, .int so, .int nx]))] := hD
  refine va_mmin hx hb (hml.trans hl.1.symm) hown (hT _ t_571) (hT _ t_424) (hT _ t_3) (hT _ t_425) (Nat.le_of_ble_eq_true rfl) (Nat.le_of_ble_eq_true rfl) (Nat.le_of_ble_eq_true rfl) (Nat.le_of_ble_eq_true rfl) d_Sh_cutLength_13 ?_
  refine lv_topi (fun x3 ex3 => ?_)
  have hP9 := hP.sub (ws' := [(vV, .inr (4, [.ref wV, .int decV, .int belV, .long ahV, .long bhV])), (wV, .inr (2, [.ref waV, .int nV])), (waV, .inl (cC, 60, .inl fV)), (fi, .inr (1, [.int mi, .int pl, .int ze, .int sh, .int bl, .int sw, .int sp, .int wi, .int pr, .int le, .int so, .int nx]))]) [0, 1, 2, 3] rfl
  have hD9 := hD.sub (ws' := [(vV, .inr (4, [.ref wV, .int decV, .int belV, .long ahV, .long bhV])), (wV, .inr (2, [.ref waV, .int nV])), (waV, .inl (cC, 60, .inl fV)), (fi, .inr (1, [.int mi, .int pl, .int ze, .int sh, .int bl, .int sw, .int sp, .int wi, .int pr, .int le, .int so, .int nx]))]) [0, 1, 2, 3] (by decide) rfl
  have hK9 := hK.sub (tys' := [(cC, .char)]) [0] rfl
  have hq9 : x3 = shCut nV pr := by rw [shCut, ← w10_2, ← w4_1]; exact ex3
  exact W.iret (v := x3) hx hb hr (fun t ht hW => ⟨⟨x3, (), rfl, hq9, by rw [ht]; exact hP9, va_K.moved hW.alike hK9, hD9⟩, hS.F ht⟩) hS.2.2 d_Sh_cutLength_16

set_option maxHeartbeats 4000000 in
set_option maxRecDepth 100000 in
theorem c_Shape_splitWhole (l : Launch) (dC : Nat → ClassId) (dI : Nat → Nat → Nat) (sz : Nat) (cI : ClassId) (sa : Nat) (h : Nat) (g : Nat) (la : Nat) (sg : Int32) (ba : Int32) (lo : Nat → Int32) (num : Int64) (radix : Int32) (hrx : ¬ radix < 2) : Met l y_Sh_splitWhole w_Sh_splitWhole ({ frames := 0, cells := 0, slots := 0, locals := 0 } : Room) (va_Pc [.ref sa, .long num, .int radix] (fun U => U.heap.size = sz ∧ va_P (dC, dI) CL [(sa, .inr (3, [.ref h, .ref g, .ref la, .int sg, .int ba])), (la, .inl (cI, 64, .inl lo))] U.heap ∧ va_K (dC, dI) CL [(cI, .int)] U ∧ va_D (fun _ => True) [(sa, .inr (3, [.ref h, .ref g, .ref la, .int sg, .int ba])), (la, .inl (cI, 64, .inl lo))] ∧ kN U)) (va_Qi (fun (r : Int32) (lo2 : (Nat → Int32)) => (lo2, r) = spAll num radix lo ∧ 0 ≤ r.toInt ∧ r.toInt ≤ 64) (fun (lo2 : (Nat → Int32)) (t : State) => va_P (dC, dI) CL [(sa, .inr (3, [.ref h, .ref g, .ref la, .int sg, .int ba])), (la, .inl (cI, 64, .inl lo2))] t.heap ∧ va_K (dC, dI) CL [(cI, .int)] t ∧ va_D (va_A [(sa, .inr (3, [.ref h, .ref g, .ref la, .int sg, .int ba])), (la, .inl (cI, 64, .inl lo))] sz) [(sa, .inr (3, [.ref h, .ref g, .ref la, .int sg, .int ba])), (la, .inl (cI, 64, .inl lo2))]) (va_A [(sa, .inr (3, [.ref h, .ref g, .ref la, .int sg, .int ba])), (la, .inl (cI, 64, .inl lo))] sz)) 0 0 (va_A [(sa, .inr (3, [.ref h, .ref g, .ref la, .int sg, .int ba])), (la, .inl (cI, 64, .inl lo))] sz) := by
  refine Met.ofW (cc := b_Sh_splitWhole) (maxL := 7) (ret := (some .int)) (by decide) rfl ?_
  intro p e s m args below meth c s₁ B hml hv
  obtain ⟨rfl, hsz, hP, hK, hD0, hN⟩ := hv
  have hx := B.exec
  have hb := B.bytes
  have hr := B.returns
  have hts := atoms_spec (ws := w_Sh_splitWhole) B.pre
  have hT : ∀ w ∈ TB, w.before _ s = true := fun w h => hts w (List.mem_cons_of_mem _ h)
  have hown : s.vm.findClass R_Sh = some m.cls := findClass_of_methodNamed B.named
  have hlocks := B.notSynchronized
  subst hsz
  have hD := hD0.self (sz := s.heap.size)
  generalize hAe : va_A [(sa, .inr (3, [.ref h, .ref g, .ref la, .int sg, .int ba])), (la, .inl (cI, 64, .inl lo))] s.heap.size = A at hD ⊢
  have hA : ∀ q : Nat, s.heap.size ≤ q → A q := fun q h => by rw [← hAe]; exact Or.inr h
  have hS : va_S A s.heap s.heap [] := va_S.rf
  have hP : va_P (dC, dI) CL [(sa, .inr (3, [.ref h, .ref g, .ref la, .int sg, .int ba])), (la, .inl (cI, 64, .inl lo))] s.heap := hP
  have hl := lv_entry ([.ref sa, .long num, .int radix]) (n := 7) (Nat.le_of_ble_eq_true rfl)
  rw [lg_entry_eq]
  generalize (lg_sl ([.ref sa, .long num, .int radix]) ++ List.replicate (7 - (lg_sl ([.ref sa, .long num, .int radix])).length) Slot.unset).toArray = ls at hl ⊢
  have hl : lv_has ls 7 [(0, .ref sa), (1, .long num), (3, .int radix)] := hl
  refine k_Q (fun Q hQ => ?_)
  refine lv_iload_n hx hb d_Sh_splitWhole_0 rfl (lv_at hl 2 rfl) ?_
  refine lv_iconst (v := 2) hx hb d_Sh_splitWhole_1 (by decide) ?_
  refine lv_icmp_ge (tgt := 7) hx hb d_Sh_splitWhole_2 (by decide) (fun c2_1 => ?_) (fun c2_1 => ?_)
  · skip
    refine lv_lload_n hx hb d_Sh_splitWhole_7 rfl (lv_at hl 1 rfl) ?_
    refine lv_lstore (lv' := [(4, .long num), (0, .ref sa), (1, .long num), (3, .int radix)]) hx hb d_Sh_splitWhole_8 hl (by decide) rfl (fun ls hl => ?_)
    refine lv_iconst (v := 0) hx hb d_Sh_splitWhole_10 (by decide) ?_
    refine lv_istore (lv' := [(6, .int 0), (4, .long num), (0, .ref sa), (1, .long num), (3, .int radix)]) hx hb d_Sh_splitWhole_11 hl (by decide) rfl (fun ls hl => ?_)
    have loop13 : ∀ (fuel : Nat) (m9 : Int32) (y9 : Int64) (lo1 : Nat → Int32) (H : Heap) (locs : List Loc) (ls : Array Slot), ((64 - m9.toInt).toNat < fuel) → (0 ≤ m9.toInt) → (m9.toInt ≤ 64) → (spGo radix.toInt64 fuel m9 y9 lo1 = spAll num radix lo) → va_P (dC, dI) CL [(sa, .inr (3, [.ref h, .ref g, .ref la, .int sg, .int ba])), (la, .inl (cI, 64, .inl lo1))] H → va_D A [(sa, .inr (3, [.ref h, .ref g, .ref la, .int sg, .int ba])), (la, .inl (cI, 64, .inl lo1))] → va_S A s.heap H locs → lv_has ls 7 [(6, .int m9), (4, .long y9), (0, .ref sa), (1, .long num), (3, .int radix)] → W p l e (headSpec w_Sh_splitWhole ({ frames := 0, cells := 0, slots := 0, locals := 0 } : Room)).room s m ([.ref sa, .long num, .int radix] : List Value).toArray below meth c H locs 0 0 Q (F0 m 13 ls []) := by
      intro fuel
      induction fuel with
      | zero =>
        intro m9 y9 lo1 H locs ls hk hi hj hG hP hD hS hl
        exact absurd hk (Nat.not_lt_zero _)
      | succ fuel ih =>
        intro m9 y9 lo1 H locs ls hk hi hj hG hP hD hS hl
        refine lv_iload hx hb d_Sh_splitWhole_13 (lv_at hl 0 rfl) ?_
        refine lv_bipush (v := 64) hx hb d_Sh_splitWhole_15 (by decide) ?_
        refine lv_icmp_ge (tgt := 58) hx hb d_Sh_splitWhole_17 (by decide) (fun c17_2 => ?_) (fun c17_2 => ?_)
        · skip
          refine lv_iload hx hb d_Sh_splitWhole_58 (lv_at hl 0 rfl) ?_
          have hP9 := hP.sub (ws' := [(sa, .inr (3, [.ref h, .ref g, .ref la, .int sg, .int ba])), (la, .inl (cI, 64, .inl lo1))]) [0, 1] rfl
          have hD9 := hD.sub (ws' := [(sa, .inr (3, [.ref h, .ref g, .ref la, .int sg, .int ba])), (la, .inl (cI, 64, .inl lo1))]) [0, 1] (by decide) rfl
          have hK9 := hK.sub (tys' := [(cI, .int)]) [0] rfl
          have hq9 : (lo1, m9) = spAll num radix lo ∧ 0 ≤ m9.toInt ∧ m9.toInt ≤ 64 := by have h9 := hG; rw [spGo, if_pos c17_2] at h9; exact ⟨h9, hi, hj⟩
          subst hQ
          exact W.iret (v := m9) hx hb hr (fun t ht hW => ⟨⟨m9, lo1, rfl, hq9, by rw [ht]; exact hP9, va_K.moved hW.alike hK9, hD9⟩, hS.F ht⟩) hS.2.2 d_Sh_splitWhole_60
        · skip
          refine lv_iload hx hb d_Sh_splitWhole_20 (lv_at hl 0 rfl) ?_
          refine lv_if_eq (tgt := 32) hx hb d_Sh_splitWhole_22 (by decide) (fun c22_3 => ?_) (fun c22_3 => ?_)
          · skip
            refine lv_aload_n hx hb d_Sh_splitWhole_32 rfl (lv_at hl 2 rfl) ?_
            refine va_get (D := (dC, dI)) (ci := 3) (v := .ref la) (C := R_Sh) (T := F_Sh) (N := 5) hx hb hT (in_Sh) hown hK hP 0 rfl rfl 2 (by decide) (hT _ t_143) (fun _ h9 => h9) rfl d_Sh_splitWhole_33 ?_
            refine lv_iload hx hb d_Sh_splitWhole_36 (lv_at hl 0 rfl) ?_
            refine lv_lload hx hb d_Sh_splitWhole_38 (lv_at hl 1 rfl) ?_
            refine lv_iload_n hx hb d_Sh_splitWhole_40 rfl (lv_at hl 4 rfl) ?_
            refine lv_i2l (v := radix.toInt64) hx hb d_Sh_splitWhole_41 rfl ?_
            refine lv_topl (fun x4 ex4 => ?_)
            refine lv_lrem hx hb d_Sh_splitWhole_42 (by rw [ex4]; exact rad_ne hrx) ?_
            refine lv_topl (fun x5 ex5 => ?_)
            refine lv_l2i (v := x5.toInt32) hx hb d_Sh_splitWhole_43 rfl ?_
            refine lv_topi (fun x6 ex6 => ?_)
            refine va_iast hx hb hK hP hD hS 1 0 rfl rfl (vp_in_iff.mpr ⟨hi, by have q0 := c17_2; simp only [k_lt, k_le, l_0, l_1, l_2, l_12, l_18, l_19, l_30, l_31, l_64] at q0; omega⟩) d_Sh_splitWhole_44 (fun H locs hP hD hS => ?_)
            have hP : va_P (dC, dI) CL [(sa, .inr (3, [.ref h, .ref g, .ref la, .int sg, .int ba])), (la, .inl (cI, 64, .inl (upd lo1 m9.toNatClampNeg x6)))] H := hP
            have hD : va_D A [(sa, .inr (3, [.ref h, .ref g, .ref la, .int sg, .int ba])), (la, .inl (cI, 64, .inl (upd lo1 m9.toNatClampNeg x6)))] := hD
            refine lv_lload hx hb d_Sh_splitWhole_45 (lv_at hl 1 rfl) ?_
            refine lv_iload_n hx hb d_Sh_splitWhole_47 rfl (lv_at hl 4 rfl) ?_
            refine lv_i2l (v := radix.toInt64) hx hb d_Sh_splitWhole_48 rfl ?_
            refine lv_topl (fun x7 ex7 => ?_)
            refine lv_ldiv hx hb d_Sh_splitWhole_49 (by rw [ex7]; exact rad_ne hrx) ?_
            refine lv_topl (fun x8 ex8 => ?_)
            refine lv_lstore (lv' := [(4, .long x8), (6, .int m9), (0, .ref sa), (1, .long num), (3, .int radix)]) hx hb d_Sh_splitWhole_50 hl (by decide) rfl (fun ls hl => ?_)
            obtain ⟨x9, ex9⟩ : ∃ y : Int32, y = m9 + 1 := ⟨_, rfl⟩
            refine lv_iinc (v := x9) (lv' := [(6, .int x9), (4, .long x8), (0, .ref sa), (1, .long num), (3, .int radix)]) hx hb d_Sh_splitWhole_52 hl (k := 1) rfl (by rw [ex9]; rfl) (by decide) rfl (fun ls hl => ?_)
            refine lv_goto (tgt := 13) hx hb d_Sh_splitWhole_55 (by decide) ?_
            exact ih x9 x8 (upd lo1 m9.toNatClampNeg x6) _ _ _ (by rw [ex9, k_inc64 (by have q0 := c17_2; simp only [k_lt, k_le, l_0, l_1, l_2, l_12, l_18, l_19, l_30, l_31, l_64] at q0; omega)]; have q0 := c17_2; simp only [k_lt, k_le, l_0, l_1, l_2, l_12, l_18, l_19, l_30, l_31, l_64] at q0; omega) (by rw [ex9, k_inc64 (by have q0 := c17_2; simp only [k_lt, k_le, l_0, l_1, l_2, l_12, l_18, l_19, l_30, l_31, l_64] at q0; omega)]; omega) (by rw [ex9, k_inc64 (by have q0 := c17_2; simp only [k_lt, k_le, l_0, l_1, l_2, l_12, l_18, l_19, l_30, l_31, l_64] at q0; omega)]; have q0 := c17_2; simp only [k_lt, k_le, l_0, l_1, l_2, l_12, l_18, l_19, l_30, l_31, l_64] at q0; omega) (by have h9 := hG; rw [spGo, if_neg c17_2, if_neg (by exact fun q => q.1 c22_3)] at h9; subst ex4 ex5 ex6 ex7 ex8 ex9; exact h9) (hP.sub [0, 1] rfl) (hD.sub [0, 1] (by decide) rfl) hS (lv_sub hl [0, 1, 2, 3, 4] rfl)
          · skip
            refine lv_lload hx hb d_Sh_splitWhole_25 (lv_at hl 1 rfl) ?_
            refine lv_lconst (v := 0) hx hb d_Sh_splitWhole_27 (by decide) ?_
            refine W.lcmp hx hb d_Sh_splitWhole_28 ?_
            refine lv_if_le (tgt := 58) hx hb d_Sh_splitWhole_29 (by decide) (fun c29_10 => ?_) (fun c29_10 => ?_)
            · skip
              rw [lg_cmp_le] at c29_10
              refine lv_iload hx hb d_Sh_splitWhole_58 (lv_at hl 0 rfl) ?_
              have hP9 := hP.sub (ws' := [(sa, .inr (3, [.ref h, .ref g, .ref la, .int sg, .int ba])), (la, .inl (cI, 64, .inl lo1))]) [0, 1] rfl
              have hD9 := hD.sub (ws' := [(sa, .inr (3, [.ref h, .ref g, .ref la, .int sg, .int ba])), (la, .inl (cI, 64, .inl lo1))]) [0, 1] (by decide) rfl
              have hK9 := hK.sub (tys' := [(cI, .int)]) [0] rfl
              have hq9 : (lo1, m9) = spAll num radix lo ∧ 0 ≤ m9.toInt ∧ m9.toInt ≤ 64 := by have h9 := hG; rw [spGo, if_neg c17_2, if_pos ⟨c22_3, c29_10⟩] at h9; exact ⟨h9, hi, hj⟩
              subst hQ
              exact W.iret (v := m9) hx hb hr (fun t ht hW => ⟨⟨m9, lo1, rfl, hq9, by rw [ht]; exact hP9, va_K.moved hW.alike hK9, hD9⟩, hS.F ht⟩) hS.2.2 d_Sh_splitWhole_60
            · skip
              rw [lg_cmp_le] at c29_10
              refine lv_aload_n hx hb d_Sh_splitWhole_32 rfl (lv_at hl 2 rfl) ?_
              refine va_get (D := (dC, dI)) (ci := 3) (v := .ref la) (C := R_Sh) (T := F_Sh) (N := 5) hx hb hT (in_Sh) hown hK hP 0 rfl rfl 2 (by decide) (hT _ t_143) (fun _ h9 => h9) rfl d_Sh_splitWhole_33 ?_
              refine lv_iload hx hb d_Sh_splitWhole_36 (lv_at hl 0 rfl) ?_
              refine lv_lload hx hb d_Sh_splitWhole_38 (lv_at hl 1 rfl) ?_
              refine lv_iload_n hx hb d_Sh_splitWhole_40 rfl (lv_at hl 4 rfl) ?_
              refine lv_i2l (v := radix.toInt64) hx hb d_Sh_splitWhole_41 rfl ?_
              refine lv_topl (fun x11 ex11 => ?_)
              refine lv_lrem hx hb d_Sh_splitWhole_42 (by rw [ex11]; exact rad_ne hrx) ?_
              refine lv_topl (fun x12 ex12 => ?_)
              refine lv_l2i (v := x12.toInt32) hx hb d_Sh_splitWhole_43 rfl ?_
              refine lv_topi (fun x13 ex13 => ?_)
              refine va_iast hx hb hK hP hD hS 1 0 rfl rfl (vp_in_iff.mpr ⟨hi, by have q0 := c17_2; simp only [k_lt, k_le, l_0, l_1, l_2, l_12, l_18, l_19, l_30, l_31, l_64] at q0; omega⟩) d_Sh_splitWhole_44 (fun H locs hP hD hS => ?_)
              have hP : va_P (dC, dI) CL [(sa, .inr (3, [.ref h, .ref g, .ref la, .int sg, .int ba])), (la, .inl (cI, 64, .inl (upd lo1 m9.toNatClampNeg x13)))] H := hP
              have hD : va_D A [(sa, .inr (3, [.ref h, .ref g, .ref la, .int sg, .int ba])), (la, .inl (cI, 64, .inl (upd lo1 m9.toNatClampNeg x13)))] := hD
              refine lv_lload hx hb d_Sh_splitWhole_45 (lv_at hl 1 rfl) ?_
              refine lv_iload_n hx hb d_Sh_splitWhole_47 rfl (lv_at hl 4 rfl) ?_
              refine lv_i2l (v := radix.toInt64) hx hb d_Sh_splitWhole_48 rfl ?_
              refine lv_topl (fun x14 ex14 => ?_)
              refine lv_ldiv hx hb d_Sh_splitWhole_49 (by rw [ex14]; exact rad_ne hrx) ?_
              refine lv_topl (fun x15 ex15 => ?_)
              refine lv_lstore (lv' := [(4, .long x15), (6, .int m9), (0, .ref sa), (1, .long num), (3, .int radix)]) hx hb d_Sh_splitWhole_50 hl (by decide) rfl (fun ls hl => ?_)
              obtain ⟨x16, ex16⟩ : ∃ y : Int32, y = m9 + 1 := ⟨_, rfl⟩
              refine lv_iinc (v := x16) (lv' := [(6, .int x16), (4, .long x15), (0, .ref sa), (1, .long num), (3, .int radix)]) hx hb d_Sh_splitWhole_52 hl (k := 1) rfl (by rw [ex16]; rfl) (by decide) rfl (fun ls hl => ?_)
              refine lv_goto (tgt := 13) hx hb d_Sh_splitWhole_55 (by decide) ?_
              exact ih x16 x15 (upd lo1 m9.toNatClampNeg x13) _ _ _ (by rw [ex16, k_inc64 (by have q0 := c17_2; simp only [k_lt, k_le, l_0, l_1, l_2, l_12, l_18, l_19, l_30, l_31, l_64] at q0; omega)]; have q0 := c17_2; simp only [k_lt, k_le, l_0, l_1, l_2, l_12, l_18, l_19, l_30, l_31, l_64] at q0; omega) (by rw [ex16, k_inc64 (by have q0 := c17_2; simp only [k_lt, k_le, l_0, l_1, l_2, l_12, l_18, l_19, l_30, l_31, l_64] at q0; omega)]; omega) (by rw [ex16, k_inc64 (by have q0 := c17_2; simp only [k_lt, k_le, l_0, l_1, l_2, l_12, l_18, l_19, l_30, l_31, l_64] at q0; omega)]; have q0 := c17_2; simp only [k_lt, k_le, l_0, l_1, l_2, l_12, l_18, l_19, l_30, l_31, l_64] at q0; omega) (by have h9 := hG; rw [spGo, if_neg c17_2, if_neg (by exact fun q => c29_10 q.2)] at h9; subst ex11 ex12 ex13 ex14 ex15 ex16; exact h9) (hP.sub [0, 1] rfl) (hD.sub [0, 1] (by decide) rfl) hS (lv_sub hl [0, 1, 2, 3, 4] rfl)
    exact loop13 65 0 num lo _ _ _ (by rw [l_0]; decide) (by rw [l_0]; decide) (by rw [l_0]; decide) (rfl) hP hD hS (lv_sub hl [0, 1, 2, 3, 4] rfl)
  · skip
    exact absurd (Int32.not_le.mp c2_1) hrx

set_option maxHeartbeats 4000000 in
set_option maxRecDepth 100000 in
theorem c_Shape_formWhole (l : Launch) (dC : Nat → ClassId) (dI : Nat → Nat → Nat) (sz : Nat) (cC : ClassId) (cI : ClassId) (sa : Nat) (h : Nat) (g : Nat) (la : Nat) (sg : Int32) (ba : Int32) (a : Nat) (f : Nat → Int32) (n : Int32) (lo : Nat → Int32) (vV : Nat) (wV : Nat) (waV : Nat) (decV : Int32) (belV : Int32) (ahV : Int64) (bhV : Int64) (fV : Nat → Int32) (nV : Int32) (fi : Nat) (mi : Int32) (pl : Int32) (ze : Int32) (sh : Int32) (bl : Int32) (sw : Int32) (sp : Int32) (wi : Int32) (pr : Int32) (le : Int32) (so : Int32) (nx : Int32) (radix : Int32) (hn : lnOK 160 n) (hrx : ¬ radix < 2) : Met l y_Sh_formWhole w_Sh_formWhole ({ frames := 2, cells := 0, slots := 0, locals := 44 } : Room) (va_Pc [.ref sa, .ref vV, .ref fi, .int radix] (fun U => U.heap.size = sz ∧ va_P (dC, dI) CL [(sa, .inr (3, [.ref h, .ref g, .ref la, .int sg, .int ba])), (h, .inr (2, [.ref a, .int n])), (a, .inl (cC, 160, .inl f)), (la, .inl (cI, 64, .inl lo)), (vV, .inr (4, [.ref wV, .int decV, .int belV, .long ahV, .long bhV])), (wV, .inr (2, [.ref waV, .int nV])), (waV, .inl (cC, 60, .inl fV)), (fi, .inr (1, [.int mi, .int pl, .int ze, .int sh, .int bl, .int sw, .int sp, .int wi, .int pr, .int le, .int so, .int nx]))] U.heap ∧ va_K (dC, dI) CL [(cC, .char), (cI, .int)] U ∧ va_D (fun _ => True) [(sa, .inr (3, [.ref h, .ref g, .ref la, .int sg, .int ba])), (h, .inr (2, [.ref a, .int n])), (a, .inl (cC, 160, .inl f)), (la, .inl (cI, 64, .inl lo)), (vV, .inr (4, [.ref wV, .int decV, .int belV, .long ahV, .long bhV])), (wV, .inr (2, [.ref waV, .int nV])), (waV, .inl (cC, 60, .inl fV)), (fi, .inr (1, [.int mi, .int pl, .int ze, .int sh, .int bl, .int sw, .int sp, .int wi, .int pr, .int le, .int so, .int nx]))] ∧ kN U)) (va_Qv (fun (u : Int32 × Int32 × (Nat → Int32) × (Nat → Int32) × Int32) => match u with | (sg2, ba2, lo2, f2, n2) => sg2 = whSign belV ahV pl bl ∧ ba2 = whBase sh radix le ba ∧ (f2, n2) = whLine ahV radix le pr lo (f, n) ∧ lnOK 160 n2) (fun (u : Int32 × Int32 × (Nat → Int32) × (Nat → Int32) × Int32) (t : State) => match u with | (sg2, ba2, lo2, f2, n2) => va_P (dC, dI) CL [(sa, .inr (3, [.ref h, .ref g, .ref la, .int sg2, .int ba2])), (h, .inr (2, [.ref a, .int n2])), (a, .inl (cC, 160, .inl f2)), (la, .inl (cI, 64, .inl lo2)), (vV, .inr (4, [.ref wV, .int decV, .int belV, .long ahV, .long bhV])), (wV, .inr (2, [.ref waV, .int nV])), (waV, .inl (cC, 60, .inl fV)), (fi, .inr (1, [.int mi, .int pl, .int ze, .int sh, .int bl, .int sw, .int sp, .int wi, .int pr, .int le, .int so, .int nx]))] t.heap ∧ va_K (dC, dI) CL [(cC, .char), (cI, .int)] t ∧ va_D (va_A [(sa, .inr (3, [.ref h, .ref g, .ref la, .int sg, .int ba])), (h, .inr (2, [.ref a, .int n])), (a, .inl (cC, 160, .inl f)), (la, .inl (cI, 64, .inl lo)), (vV, .inr (4, [.ref wV, .int decV, .int belV, .long ahV, .long bhV])), (wV, .inr (2, [.ref waV, .int nV])), (waV, .inl (cC, 60, .inl fV)), (fi, .inr (1, [.int mi, .int pl, .int ze, .int sh, .int bl, .int sw, .int sp, .int wi, .int pr, .int le, .int so, .int nx]))] sz) [(sa, .inr (3, [.ref h, .ref g, .ref la, .int sg2, .int ba2])), (h, .inr (2, [.ref a, .int n2])), (a, .inl (cC, 160, .inl f2)), (la, .inl (cI, 64, .inl lo2)), (vV, .inr (4, [.ref wV, .int decV, .int belV, .long ahV, .long bhV])), (wV, .inr (2, [.ref waV, .int nV])), (waV, .inl (cC, 60, .inl fV)), (fi, .inr (1, [.int mi, .int pl, .int ze, .int sh, .int bl, .int sw, .int sp, .int wi, .int pr, .int le, .int so, .int nx]))]) (va_A [(sa, .inr (3, [.ref h, .ref g, .ref la, .int sg, .int ba])), (h, .inr (2, [.ref a, .int n])), (a, .inl (cC, 160, .inl f)), (la, .inl (cI, 64, .inl lo)), (vV, .inr (4, [.ref wV, .int decV, .int belV, .long ahV, .long bhV])), (wV, .inr (2, [.ref waV, .int nV])), (waV, .inl (cC, 60, .inl fV)), (fi, .inr (1, [.int mi, .int pl, .int ze, .int sh, .int bl, .int sw, .int sp, .int wi, .int pr, .int le, .int so, .int nx]))] sz)) 0 0 (va_A [(sa, .inr (3, [.ref h, .ref g, .ref la, .int sg, .int ba])), (h, .inr (2, [.ref a, .int n])), (a, .inl (cC, 160, .inl f)), (la, .inl (cI, 64, .inl lo)), (vV, .inr (4, [.ref wV, .int decV, .int belV, .long ahV, .long bhV])), (wV, .inr (2, [.ref waV, .int nV])), (waV, .inl (cC, 60, .inl fV)), (fi, .inr (1, [.int mi, .int pl, .int ze, .int sh, .int bl, .int sw, .int sp, .int wi, .int pr, .int le, .int so, .int nx]))] sz) := by
  refine Met.ofW (cc := b_Sh_formWhole) (maxL := 8) (ret := none) (by decide) rfl ?_
  intro p e s m args below meth c s₁ B hml hv
  obtain ⟨rfl, hsz, hP, hK, hD0, hN⟩ := hv
  have hx := B.exec
  have hb := B.bytes
  have hr := B.returns
  have hts := atoms_spec (ws := w_Sh_formWhole) B.pre
  have hT : ∀ w ∈ TB, w.before _ s = true := fun w h => hts w (List.mem_cons_of_mem _ h)
  have hown : s.vm.findClass R_Sh = some m.cls := findClass_of_methodNamed B.named
  have hlocks := B.notSynchronized
  subst hsz
  have hD := hD0.self (sz := s.heap.size)
  generalize hAe : va_A [(sa, .inr (3, [.ref h, .ref g, .ref la, .int sg, .int ba])), (h, .inr (2, [.ref a, .int n])), (a, .inl (cC, 160, .inl f)), (la, .inl (cI, 64, .inl lo)), (vV, .inr (4, [.ref wV, .int decV, .int belV, .long ahV, .long bhV])), (wV, .inr (2, [.ref waV, .int nV])), (waV, .inl (cC, 60, .inl fV)), (fi, .inr (1, [.int mi, .int pl, .int ze, .int sh, .int bl, .int sw, .int sp, .int wi, .int pr, .int le, .int so, .int nx]))] s.heap.size = A at hD ⊢
  have hA : ∀ q : Nat, s.heap.size ≤ q → A q := fun q h => by rw [← hAe]; exact Or.inr h
  have hS : va_S A s.heap s.heap [] := va_S.rf
  have hP : va_P (dC, dI) CL [(sa, .inr (3, [.ref h, .ref g, .ref la, .int sg, .int ba])), (h, .inr (2, [.ref a, .int n])), (a, .inl (cC, 160, .inl f)), (la, .inl (cI, 64, .inl lo)), (vV, .inr (4, [.ref wV, .int decV, .int belV, .long ahV, .long bhV])), (wV, .inr (2, [.ref waV, .int nV])), (waV, .inl (cC, 60, .inl fV)), (fi, .inr (1, [.int mi, .int pl, .int ze, .int sh, .int bl, .int sw, .int sp, .int wi, .int pr, .int le, .int so, .int nx]))] s.heap := hP
  have hl := lv_entry ([.ref sa, .ref vV, .ref fi, .int radix]) (n := 8) (Nat.le_of_ble_eq_true rfl)
  rw [lg_entry_eq]
  generalize (lg_sl ([.ref sa, .ref vV, .ref fi, .int radix]) ++ List.replicate (8 - (lg_sl ([.ref sa, .ref vV, .ref fi, .int radix])).length) Slot.unset).toArray = ls at hl ⊢
  have hl : lv_has ls 8 [(0, .ref sa), (1, .ref vV), (2, .ref fi), (3, .int radix)] := hl
  refine k_Q (fun Q hQ => ?_)
  refine lv_aload_n hx hb d_Sh_formWhole_0 rfl (lv_at hl 0 rfl) ?_
  refine lv_aload_n hx hb d_Sh_formWhole_1 rfl (lv_at hl 2 rfl) ?_
  refine lv_aload_n hx hb d_Sh_formWhole_2 rfl (lv_at hl 1 rfl) ?_
  have hPc := hP.sub (ws' := [(vV, .inr (4, [.ref wV, .int decV, .int belV, .long ahV, .long bhV])), (wV, .inr (2, [.ref waV, .int nV])), (waV, .inl (cC, 60, .inl fV))]) [4, 5, 6] rfl
  have hDc := hD.sub (ws' := [(vV, .inr (4, [.ref wV, .int decV, .int belV, .long ahV, .long bhV])), (wV, .inr (2, [.ref waV, .int nV])), (waV, .inl (cC, 60, .inl fV))]) [4, 5, 6] (by decide) rfl
  have hKc := hK.sub (tys' := [(cC, .char)]) [0] rfl
  have hFc := va_free (wc := [(vV, .inr (4, [.ref wV, .int decV, .int belV, .long ahV, .long bhV])), (wV, .inr (2, [.ref waV, .int nV])), (waV, .inl (cC, 60, .inl fV))]) hD hS hA [4, 5, 6] rfl
  refine va_calll (va_runV (As := []) (rest := [.ref fi, .ref sa]) ⟨hx, hb, hml, hown, hT⟩ (c_Value_wholePart l dC dI s.heap.size cC vV wV waV decV belV ahV bhV fV nV ) (cwV 0 hT g_Sh_83 rfl rfl rfl (by decide +kernel) ⟨Nat.le_of_ble_eq_true rfl, Nat.le_of_ble_eq_true rfl⟩) ⟨fun a U g mk q => by obtain ⟨q0, q1, qP, qK, qD⟩ := q; exact ⟨q0, q1, qP, va_K.moved (u := U) (U := U.calling g mk a) (Vm.Alike.refl U.vm) qK, qD⟩, va_recv hKc hPc (ci := 4) (q0 := 0) rfl rfl, fun U hU hW => ⟨rfl, by rw [hU], by rw [hU]; exact hPc, va_K.moved hW.alike hKc, hDc.weaken (fun _ _ _ _ => trivial)⟩⟩ rfl rfl hl.1 rfl (lv_room (Nat.le_of_ble_eq_true rfl)) d_Sh_formWhole_3 ⟨Nat.le_of_ble_eq_true rfl, Nat.le_of_ble_eq_true rfl⟩) hS (fun q _ h => hFc q h) hFc (fun x1 u t H1 locs ht hvm w3_1 hB hz1 hk1 hS => ?_)
  obtain ⟨hP1, hK1, hD1⟩ := hB
  rw [ht] at hP1
  try dsimp only at w3_1
  obtain ⟨hP, hD⟩ := va_join (wr := [(sa, .inr (3, [.ref h, .ref g, .ref la, .int sg, .int ba])), (h, .inr (2, [.ref a, .int n])), (a, .inl (cC, 160, .inl f)), (la, .inl (cI, 64, .inl lo)), (fi, .inr (1, [.int mi, .int pl, .int ze, .int sh, .int bl, .int sw, .int sp, .int wi, .int pr, .int le, .int so, .int nx]))]) (w1 := [(vV, .inr (4, [.ref wV, .int decV, .int belV, .long ahV, .long bhV])), (wV, .inr (2, [.ref waV, .int nV])), (waV, .inl (cC, 60, .inl fV))]) hP hD [4, 5, 6] [0, 1, 2, 3, 7] rfl rfl (by decide) (by decide) hk1 hFc hP1 hD1
  generalize H1 = H at hP hS ⊢
  have hP : va_P (dC, dI) CL [(sa, .inr (3, [.ref h, .ref g, .ref la, .int sg, .int ba])), (h, .inr (2, [.ref a, .int n])), (a, .inl (cC, 160, .inl f)), (la, .inl (cI, 64, .inl lo)), (fi, .inr (1, [.int mi, .int pl, .int ze, .int sh, .int bl, .int sw, .int sp, .int wi, .int pr, .int le, .int so, .int nx])), (vV, .inr (4, [.ref wV, .int decV, .int belV, .long ahV, .long bhV])), (wV, .inr (2, [.ref waV, .int nV])), (waV, .inl (cC, 60, .inl fV))] H := hP
  have hD : va_D A [(sa, .inr (3, [.ref h, .ref g, .ref la, .int sg, .int ba])), (h, .inr (2, [.ref a, .int n])), (a, .inl (cC, 160, .inl f)), (la, .inl (cI, 64, .inl lo)), (fi, .inr (1, [.int mi, .int pl, .int ze, .int sh, .int bl, .int sw, .int sp, .int wi, .int pr, .int le, .int so, .int nx])), (vV, .inr (4, [.ref wV, .int decV, .int belV, .long ahV, .long bhV])), (wV, .inr (2, [.ref waV, .int nV])), (waV, .inl (cC, 60, .inl fV))] := hD
  refine lv_lconst (v := 0) hx hb d_Sh_formWhole_6 (by decide) ?_
  refine W.lcmp hx hb d_Sh_formWhole_7 ?_
  have cut16 : ∀ (b9 : Int32) (H : Heap) (locs : List Loc) (ls : Array Slot), (b9 = k_b (!decide (0 ≤ vaWhole belV ahV))) → va_P (dC, dI) CL [(sa, .inr (3, [.ref h, .ref g, .ref la, .int sg, .int ba])), (h, .inr (2, [.ref a, .int n])), (a, .inl (cC, 160, .inl f)), (la, .inl (cI, 64, .inl lo)), (fi, .inr (1, [.int mi, .int pl, .int ze, .int sh, .int bl, .int sw, .int sp, .int wi, .int pr, .int le, .int so, .int nx])), (vV, .inr (4, [.ref wV, .int decV, .int belV, .long ahV, .long bhV])), (wV, .inr (2, [.ref waV, .int nV])), (waV, .inl (cC, 60, .inl fV))] H → va_D A [(sa, .inr (3, [.ref h, .ref g, .ref la, .int sg, .int ba])), (h, .inr (2, [.ref a, .int n])), (a, .inl (cC, 160, .inl f)), (la, .inl (cI, 64, .inl lo)), (fi, .inr (1, [.int mi, .int pl, .int ze, .int sh, .int bl, .int sw, .int sp, .int wi, .int pr, .int le, .int so, .int nx])), (vV, .inr (4, [.ref wV, .int decV, .int belV, .long ahV, .long bhV])), (wV, .inr (2, [.ref waV, .int nV])), (waV, .inl (cC, 60, .inl fV))] → va_S A s.heap H locs → lv_has ls 8 [(0, .ref sa), (1, .ref vV), (2, .ref fi), (3, .int radix)] → W p l e (headSpec w_Sh_formWhole ({ frames := 2, cells := 0, slots := 0, locals := 44 } : Room)).room s m ([.ref sa, .ref vV, .ref fi, .int radix] : List Value).toArray below meth c H locs 0 0 Q (F0 m 16 ls [.int b9, .ref fi, .ref sa]) := by
    intro b9 H locs ls hb9 hP hD hS hl
    have hPc := hP.sub (ws' := [(fi, .inr (1, [.int mi, .int pl, .int ze, .int sh, .int bl, .int sw, .int sp, .int wi, .int pr, .int le, .int so, .int nx]))]) [4] rfl
    have hDc := hD.sub (ws' := [(fi, .inr (1, [.int mi, .int pl, .int ze, .int sh, .int bl, .int sw, .int sp, .int wi, .int pr, .int le, .int so, .int nx]))]) [4] (by decide) rfl
    have hKc := hK.sub (tys' := []) [] rfl
    have hFc := va_free (wc := [(fi, .inr (1, [.int mi, .int pl, .int ze, .int sh, .int bl, .int sw, .int sp, .int wi, .int pr, .int le, .int so, .int nx]))]) hD hS hA [4] rfl
    refine va_calli (va_runV (As := [.int b9]) (rest := [.ref sa]) ⟨hx, hb, hml, hown, hT⟩ (c_Field_signFor l dC dI H.size fi mi pl ze sh bl sw sp wi pr le so nx b9 ) (cwV 1 hT g_Sh_87 rfl rfl rfl (by decide +kernel) ⟨Nat.le_of_ble_eq_true rfl, Nat.le_of_ble_eq_true rfl⟩) ⟨fun a U g mk q => by obtain ⟨q0, q1, qP, qK, qD⟩ := q; exact ⟨q0, q1, qP, va_K.moved (u := U) (U := U.calling g mk a) (Vm.Alike.refl U.vm) qK, qD⟩, va_recv hKc hPc (ci := 1) (q0 := 0) rfl rfl, fun U hU hW => ⟨rfl, by rw [hU], by rw [hU]; exact hPc, va_K.moved hW.alike hKc, hDc.weaken (fun _ _ _ _ => trivial)⟩⟩ rfl rfl hl.1 rfl (lv_room (Nat.le_of_ble_eq_true rfl)) d_Sh_formWhole_16 ⟨Nat.le_of_ble_eq_true rfl, Nat.le_of_ble_eq_true rfl⟩) hS (fun q _ h => hFc q h) hFc (fun x2 u t H1 locs ht hvm w16_2 hB hz1 hk1 hS => ?_)
    obtain ⟨hP1, hK1, hD1⟩ := hB
    rw [ht] at hP1
    try dsimp only at w16_2
    obtain ⟨hP, hD⟩ := va_join (wr := [(sa, .inr (3, [.ref h, .ref g, .ref la, .int sg, .int ba])), (h, .inr (2, [.ref a, .int n])), (a, .inl (cC, 160, .inl f)), (la, .inl (cI, 64, .inl lo)), (vV, .inr (4, [.ref wV, .int decV, .int belV, .long ahV, .long bhV])), (wV, .inr (2, [.ref waV, .int nV])), (waV, .inl (cC, 60, .inl fV))]) (w1 := [(fi, .inr (1, [.int mi, .int pl, .int ze, .int sh, .int bl, .int sw, .int sp, .int wi, .int pr, .int le, .int so, .int nx]))]) hP hD [4] [0, 1, 2, 3, 5, 6, 7] rfl rfl (by decide) (by decide) hk1 hFc hP1 hD1
    generalize H1 = H at hP hS ⊢
    have hP : va_P (dC, dI) CL [(sa, .inr (3, [.ref h, .ref g, .ref la, .int sg, .int ba])), (h, .inr (2, [.ref a, .int n])), (a, .inl (cC, 160, .inl f)), (la, .inl (cI, 64, .inl lo)), (vV, .inr (4, [.ref wV, .int decV, .int belV, .long ahV, .long bhV])), (wV, .inr (2, [.ref waV, .int nV])), (waV, .inl (cC, 60, .inl fV)), (fi, .inr (1, [.int mi, .int pl, .int ze, .int sh, .int bl, .int sw, .int sp, .int wi, .int pr, .int le, .int so, .int nx]))] H := hP
    have hD : va_D A [(sa, .inr (3, [.ref h, .ref g, .ref la, .int sg, .int ba])), (h, .inr (2, [.ref a, .int n])), (a, .inl (cC, 160, .inl f)), (la, .inl (cI, 64, .inl lo)), (vV, .inr (4, [.ref wV, .int decV, .int belV, .long ahV, .long bhV])), (wV, .inr (2, [.ref waV, .int nV])), (waV, .inl (cC, 60, .inl fV)), (fi, .inr (1, [.int mi, .int pl, .int ze, .int sh, .int bl, .int sw, .int sp, .int wi, .int pr, .int le, .int so, .int nx]))] := hD
    refine va_put (D := (dC, dI)) (ci := 3) (v := .int x2) (ty := .int) (C := R_Sh) (T := F_Sh) (N := 5) hx hb hT (in_Sh) t_Sh t_Sh_ok n_Sh hown hK hP hD hS 0 rfl rfl 3 (by decide) (hT _ t_144) (fun _ h9 => h9) rfl (by decide +kernel) rfl rfl (Nat.le_of_ble_eq_true rfl) d_Sh_formWhole_19 (fun H locs hP hD hS => ?_)
    have hP : va_P (dC, dI) CL [(sa, .inr (3, [.ref h, .ref g, .ref la, .int x2, .int ba])), (h, .inr (2, [.ref a, .int n])), (a, .inl (cC, 160, .inl f)), (la, .inl (cI, 64, .inl lo)), (vV, .inr (4, [.ref wV, .int decV, .int belV, .long ahV, .long bhV])), (wV, .inr (2, [.ref waV, .int nV])), (waV, .inl (cC, 60, .inl fV)), (fi, .inr (1, [.int mi, .int pl, .int ze, .int sh, .int bl, .int sw, .int sp, .int wi, .int pr, .int le, .int so, .int nx]))] H := hP
    have hD : va_D A [(sa, .inr (3, [.ref h, .ref g, .ref la, .int x2, .int ba])), (h, .inr (2, [.ref a, .int n])), (a, .inl (cC, 160, .inl f)), (la, .inl (cI, 64, .inl lo)), (vV, .inr (4, [.ref wV, .int decV, .int belV, .long ahV, .long bhV])), (wV, .inr (2, [.ref waV, .int nV])), (waV, .inl (cC, 60, .inl fV)), (fi, .inr (1, [.int mi, .int pl, .int ze, .int sh, .int bl, .int sw, .int sp, .int wi, .int pr, .int le, .int so, .int nx]))] := hD
    refine lv_aload_n hx hb d_Sh_formWhole_22 rfl (lv_at hl 2 rfl) ?_
    refine va_getN (D := (dC, dI)) (ci := 1) (v := .int sh) (C := R_Fi) (T := F_Fi) (N := 12) hx hb hT (in_Fi) hown hK hP 7 rfl rfl 3 (by decide) (va_Nw.use rfl (kN_82 hN)) (fun _ h9 => h9) rfl d_Sh_formWhole_23 ?_
    have cut43 : ∀ (ba1 : Int32) (H : Heap) (locs : List Loc) (ls : Array Slot), (ba1 = whBase sh radix le ba) → va_P (dC, dI) CL [(sa, .inr (3, [.ref h, .ref g, .ref la, .int x2, .int ba1])), (h, .inr (2, [.ref a, .int n])), (a, .inl (cC, 160, .inl f)), (la, .inl (cI, 64, .inl lo)), (vV, .inr (4, [.ref wV, .int decV, .int belV, .long ahV, .long bhV])), (wV, .inr (2, [.ref waV, .int nV])), (waV, .inl (cC, 60, .inl fV)), (fi, .inr (1, [.int mi, .int pl, .int ze, .int sh, .int bl, .int sw, .int sp, .int wi, .int pr, .int le, .int so, .int nx]))] H → va_D A [(sa, .inr (3, [.ref h, .ref g, .ref la, .int x2, .int ba1])), (h, .inr (2, [.ref a, .int n])), (a, .inl (cC, 160, .inl f)), (la, .inl (cI, 64, .inl lo)), (vV, .inr (4, [.ref wV, .int decV, .int belV, .long ahV, .long bhV])), (wV, .inr (2, [.ref waV, .int nV])), (waV, .inl (cC, 60, .inl fV)), (fi, .inr (1, [.int mi, .int pl, .int ze, .int sh, .int bl, .int sw, .int sp, .int wi, .int pr, .int le, .int so, .int nx]))] → va_S A s.heap H locs → lv_has ls 8 [(0, .ref sa), (1, .ref vV), (2, .ref fi), (3, .int radix)] → W p l e (headSpec w_Sh_formWhole ({ frames := 2, cells := 0, slots := 0, locals := 44 } : Room)).room s m ([.ref sa, .ref vV, .ref fi, .int radix] : List Value).toArray below meth c H locs 0 0 Q (F0 m 43 ls []) := by
      intro ba1 H locs ls hba hP hD hS hl
      refine lv_aload_n hx hb d_Sh_formWhole_43 rfl (lv_at hl 0 rfl) ?_
      refine lv_aload_n hx hb d_Sh_formWhole_44 rfl (lv_at hl 1 rfl) ?_
      refine va_getN (D := (dC, dI)) (ci := 4) (v := .long ahV) (C := R_Va) (T := F_Va) (N := 5) hx hb hT (in_Va) hown hK hP 4 rfl rfl 3 (by decide) (va_Nw.use rfl (kN_56 hN)) (fun _ h9 => h9) rfl d_Sh_formWhole_45 ?_
      refine lv_iload_n hx hb d_Sh_formWhole_48 rfl (lv_at hl 3 rfl) ?_
      have hPc := hP.sub (ws' := [(sa, .inr (3, [.ref h, .ref g, .ref la, .int x2, .int ba1])), (la, .inl (cI, 64, .inl lo))]) [0, 3] rfl
      have hDc := hD.sub (ws' := [(sa, .inr (3, [.ref h, .ref g, .ref la, .int x2, .int ba1])), (la, .inl (cI, 64, .inl lo))]) [0, 3] (by decide) rfl
      have hKc := hK.sub (tys' := [(cI, .int)]) [1] rfl
      have hFc := va_free (wc := [(sa, .inr (3, [.ref h, .ref g, .ref la, .int x2, .int ba1])), (la, .inl (cI, 64, .inl lo))]) hD hS hA [0, 3] rfl
      refine va_calli (va_runV (As := [.long ahV, .int radix]) (rest := []) ⟨hx, hb, hml, hown, hT⟩ (c_Shape_splitWhole l dC dI H.size cI sa h g la x2 ba1 lo ahV radix hrx) (cwV 2 hT g_Sh_99 rfl rfl rfl (by decide +kernel) ⟨Nat.le_of_ble_eq_true rfl, Nat.le_of_ble_eq_true rfl⟩) ⟨fun a U g mk q => by obtain ⟨q0, q1, qP, qK, qD, qN⟩ := q; exact ⟨q0, q1, qP, va_K.moved (u := U) (U := U.calling g mk a) (Vm.Alike.refl U.vm) qK, qD, qN.calling⟩, va_recv hKc hPc (ci := 3) (q0 := 0) rfl rfl, fun U hU hW => ⟨rfl, by rw [hU], by rw [hU]; exact hPc, va_K.moved hW.alike hKc, hDc.weaken (fun _ _ _ _ => trivial), hN.warm hW⟩⟩ rfl rfl hl.1 rfl (lv_room (Nat.le_of_ble_eq_true rfl)) d_Sh_formWhole_49 ⟨Nat.le_of_ble_eq_true rfl, Nat.le_of_ble_eq_true rfl⟩) hS (fun q _ h => hFc q h) hFc (fun x3 u t H1 locs ht hvm w49_4 hB hz1 hk1 hS => ?_)
      obtain ⟨lo_4, rfl⟩ : ∃ z, z = u := ⟨_, rfl⟩
      obtain ⟨hP1, hK1, hD1⟩ := hB
      rw [ht] at hP1
      try dsimp only at w49_4
      obtain ⟨w49_4, w49_4b, w49_4c⟩ := w49_4
      obtain ⟨hP, hD⟩ := va_join (wr := [(h, .inr (2, [.ref a, .int n])), (a, .inl (cC, 160, .inl f)), (vV, .inr (4, [.ref wV, .int decV, .int belV, .long ahV, .long bhV])), (wV, .inr (2, [.ref waV, .int nV])), (waV, .inl (cC, 60, .inl fV)), (fi, .inr (1, [.int mi, .int pl, .int ze, .int sh, .int bl, .int sw, .int sp, .int wi, .int pr, .int le, .int so, .int nx]))]) (w1 := [(sa, .inr (3, [.ref h, .ref g, .ref la, .int x2, .int ba1])), (la, .inl (cI, 64, .inl lo_4))]) hP hD [0, 3] [1, 2, 4, 5, 6, 7] rfl rfl (by decide) (by decide) hk1 hFc hP1 hD1
      generalize H1 = H at hP hS ⊢
      have hP : va_P (dC, dI) CL [(h, .inr (2, [.ref a, .int n])), (a, .inl (cC, 160, .inl f)), (vV, .inr (4, [.ref wV, .int decV, .int belV, .long ahV, .long bhV])), (wV, .inr (2, [.ref waV, .int nV])), (waV, .inl (cC, 60, .inl fV)), (fi, .inr (1, [.int mi, .int pl, .int ze, .int sh, .int bl, .int sw, .int sp, .int wi, .int pr, .int le, .int so, .int nx])), (sa, .inr (3, [.ref h, .ref g, .ref la, .int x2, .int ba1])), (la, .inl (cI, 64, .inl lo_4))] H := hP
      have hD : va_D A [(h, .inr (2, [.ref a, .int n])), (a, .inl (cC, 160, .inl f)), (vV, .inr (4, [.ref wV, .int decV, .int belV, .long ahV, .long bhV])), (wV, .inr (2, [.ref waV, .int nV])), (waV, .inl (cC, 60, .inl fV)), (fi, .inr (1, [.int mi, .int pl, .int ze, .int sh, .int bl, .int sw, .int sp, .int wi, .int pr, .int le, .int so, .int nx])), (sa, .inr (3, [.ref h, .ref g, .ref la, .int x2, .int ba1])), (la, .inl (cI, 64, .inl lo_4))] := hD
      refine lv_istore (lv' := [(4, .int x3), (0, .ref sa), (1, .ref vV), (2, .ref fi), (3, .int radix)]) hx hb d_Sh_formWhole_52 hl (by decide) rfl (fun ls hl => ?_)
      refine lv_aload_n hx hb d_Sh_formWhole_54 rfl (lv_at hl 3 rfl) ?_
      refine va_getN (D := (dC, dI)) (ci := 1) (v := .int le) (C := R_Fi) (T := F_Fi) (N := 12) hx hb hT (in_Fi) hown hK hP 5 rfl rfl 9 (by decide) (va_Nw.use rfl (kN_92 hN)) (fun _ h9 => h9) rfl d_Sh_formWhole_55 ?_
      refine lv_bipush (v := 88) hx hb d_Sh_formWhole_58 (by decide) ?_
      have cut70 : ∀ (t9 : Int32) (H : Heap) (locs : List Loc) (ls : Array Slot), (t9 = whTen le) → va_P (dC, dI) CL [(h, .inr (2, [.ref a, .int n])), (a, .inl (cC, 160, .inl f)), (vV, .inr (4, [.ref wV, .int decV, .int belV, .long ahV, .long bhV])), (wV, .inr (2, [.ref waV, .int nV])), (waV, .inl (cC, 60, .inl fV)), (fi, .inr (1, [.int mi, .int pl, .int ze, .int sh, .int bl, .int sw, .int sp, .int wi, .int pr, .int le, .int so, .int nx])), (sa, .inr (3, [.ref h, .ref g, .ref la, .int x2, .int ba1])), (la, .inl (cI, 64, .inl lo_4))] H → va_D A [(h, .inr (2, [.ref a, .int n])), (a, .inl (cC, 160, .inl f)), (vV, .inr (4, [.ref wV, .int decV, .int belV, .long ahV, .long bhV])), (wV, .inr (2, [.ref waV, .int nV])), (waV, .inl (cC, 60, .inl fV)), (fi, .inr (1, [.int mi, .int pl, .int ze, .int sh, .int bl, .int sw, .int sp, .int wi, .int pr, .int le, .int so, .int nx])), (sa, .inr (3, [.ref h, .ref g, .ref la, .int x2, .int ba1])), (la, .inl (cI, 64, .inl lo_4))] → va_S A s.heap H locs → lv_has ls 8 [(4, .int x3), (0, .ref sa), (1, .ref vV), (2, .ref fi), (3, .int radix)] → W p l e (headSpec w_Sh_formWhole ({ frames := 2, cells := 0, slots := 0, locals := 44 } : Room)).room s m ([.ref sa, .ref vV, .ref fi, .int radix] : List Value).toArray below meth c H locs 0 0 Q (F0 m 70 ls [.int t9]) := by
        intro t9 H locs ls ht9 hP hD hS hl
        refine lv_istore (lv' := [(5, .int t9), (4, .int x3), (0, .ref sa), (1, .ref vV), (2, .ref fi), (3, .int radix)]) hx hb d_Sh_formWhole_70 hl (by decide) rfl (fun ls hl => ?_)
        refine lv_aload_n hx hb d_Sh_formWhole_72 rfl (lv_at hl 2 rfl) ?_
        refine va_get (D := (dC, dI)) (ci := 3) (v := .ref h) (C := R_Sh) (T := F_Sh) (N := 5) hx hb hT (in_Sh) hown hK hP 6 rfl rfl 0 (by decide) (hT _ t_141) (fun _ h9 => h9) rfl d_Sh_formWhole_73 ?_
        refine lv_bipush (v := 48) hx hb d_Sh_formWhole_76 (by decide) ?_
        refine lv_aload_n hx hb d_Sh_formWhole_78 rfl (lv_at hl 4 rfl) ?_
        refine va_getN (D := (dC, dI)) (ci := 1) (v := .int pr) (C := R_Fi) (T := F_Fi) (N := 12) hx hb hT (in_Fi) hown hK hP 5 rfl rfl 8 (by decide) (va_Nw.use rfl (kN_90 hN)) (fun _ h9 => h9) rfl d_Sh_formWhole_79 ?_
        refine lv_iload hx hb d_Sh_formWhole_82 (lv_at hl 1 rfl) ?_
        refine lv_isub hx hb d_Sh_formWhole_84 ?_
        refine lv_topi (fun x5 ex5 => ?_)
        have hPc := hP.sub (ws' := [(h, .inr (2, [.ref a, .int n])), (a, .inl (cC, 160, .inl f))]) [0, 1] rfl
        have hDc := hD.sub (ws' := [(h, .inr (2, [.ref a, .int n])), (a, .inl (cC, 160, .inl f))]) [0, 1] (by decide) rfl
        have hKc := hK.sub (tys' := [(cC, .char)]) [0] rfl
        have hFc := va_free (wc := [(h, .inr (2, [.ref a, .int n])), (a, .inl (cC, 160, .inl f))]) hD hS hA [0, 1] rfl
        refine va_callv (va_runV (As := [.int 48, .int x5]) (rest := []) ⟨hx, hb, hml, hown, hT⟩ (c_Line_repeat l dC dI H.size cC h a 160 f n 48 x5 hn) (cwV 2 hT g_Sh_106 rfl rfl rfl (by decide +kernel) ⟨Nat.le_of_ble_eq_true rfl, Nat.le_of_ble_eq_true rfl⟩) ⟨fun a U g mk q => by obtain ⟨q0, q1, qP, qK, qD⟩ := q; exact ⟨q0, q1, qP, va_K.moved (u := U) (U := U.calling g mk a) (Vm.Alike.refl U.vm) qK, qD⟩, va_recv hKc hPc (ci := 2) (q0 := 0) rfl rfl, fun U hU hW => ⟨rfl, by rw [hU], by rw [hU]; exact hPc, va_K.moved hW.alike hKc, hDc.weaken (fun _ _ _ _ => trivial)⟩⟩ rfl rfl hl.1 rfl (lv_room (Nat.le_of_ble_eq_true rfl)) d_Sh_formWhole_85 ⟨Nat.le_of_ble_eq_true rfl, Nat.le_of_ble_eq_true rfl⟩) hS (fun q _ h => hFc q h) hFc (fun u t H1 locs ht hvm w85_7 hB hz1 hk1 hS => ?_)
        obtain ⟨f_6, n_7⟩ := u
        obtain ⟨hP1, hK1, hD1⟩ := hB
        rw [ht] at hP1
        try dsimp only at w85_7
        obtain ⟨w85_7, w85_7b⟩ := w85_7
        obtain ⟨hP, hD⟩ := va_join (wr := [(vV, .inr (4, [.ref wV, .int decV, .int belV, .long ahV, .long bhV])), (wV, .inr (2, [.ref waV, .int nV])), (waV, .inl (cC, 60, .inl fV)), (fi, .inr (1, [.int mi, .int pl, .int ze, .int sh, .int bl, .int sw, .int sp, .int wi, .int pr, .int le, .int so, .int nx])), (sa, .inr (3, [.ref h, .ref g, .ref la, .int x2, .int ba1])), (la, .inl (cI, 64, .inl lo_4))]) (w1 := [(h, .inr (2, [.ref a, .int n_7])), (a, .inl (cC, 160, .inl f_6))]) hP hD [0, 1] [2, 3, 4, 5, 6, 7] rfl rfl (by decide) (by decide) hk1 hFc hP1 hD1
        generalize H1 = H at hP hS ⊢
        have hP : va_P (dC, dI) CL [(vV, .inr (4, [.ref wV, .int decV, .int belV, .long ahV, .long bhV])), (wV, .inr (2, [.ref waV, .int nV])), (waV, .inl (cC, 60, .inl fV)), (fi, .inr (1, [.int mi, .int pl, .int ze, .int sh, .int bl, .int sw, .int sp, .int wi, .int pr, .int le, .int so, .int nx])), (sa, .inr (3, [.ref h, .ref g, .ref la, .int x2, .int ba1])), (la, .inl (cI, 64, .inl lo_4)), (h, .inr (2, [.ref a, .int n_7])), (a, .inl (cC, 160, .inl f_6))] H := hP
        have hD : va_D A [(vV, .inr (4, [.ref wV, .int decV, .int belV, .long ahV, .long bhV])), (wV, .inr (2, [.ref waV, .int nV])), (waV, .inl (cC, 60, .inl fV)), (fi, .inr (1, [.int mi, .int pl, .int ze, .int sh, .int bl, .int sw, .int sp, .int wi, .int pr, .int le, .int so, .int nx])), (sa, .inr (3, [.ref h, .ref g, .ref la, .int x2, .int ba1])), (la, .inl (cI, 64, .inl lo_4)), (h, .inr (2, [.ref a, .int n_7])), (a, .inl (cC, 160, .inl f_6))] := hD
        refine lv_iload hx hb d_Sh_formWhole_88 (lv_at hl 1 rfl) ?_
        refine lv_iconst (v := 1) hx hb d_Sh_formWhole_90 (by decide) ?_
        refine lv_isub hx hb d_Sh_formWhole_91 ?_
        refine lv_topi (fun x8 ex8 => ?_)
        refine lv_istore (lv' := [(6, .int x8), (5, .int t9), (4, .int x3), (0, .ref sa), (1, .ref vV), (2, .ref fi), (3, .int radix)]) hx hb d_Sh_formWhole_92 hl (by decide) rfl (fun ls hl => ?_)
        have loop94 : ∀ (fuel : Nat) (i : Int32) (n3 : Int32) (f3 : Nat → Int32) (H : Heap) (locs : List Loc) (ls : Array Slot), ((i.toInt + 1).toNat < fuel) → (i.toInt < 64) → (lnOK 160 n3) → (whGo t9 lo_4 fuel i (f3, n3) = whLine ahV radix le pr lo (f, n)) → va_P (dC, dI) CL [(vV, .inr (4, [.ref wV, .int decV, .int belV, .long ahV, .long bhV])), (wV, .inr (2, [.ref waV, .int nV])), (waV, .inl (cC, 60, .inl fV)), (fi, .inr (1, [.int mi, .int pl, .int ze, .int sh, .int bl, .int sw, .int sp, .int wi, .int pr, .int le, .int so, .int nx])), (sa, .inr (3, [.ref h, .ref g, .ref la, .int x2, .int ba1])), (la, .inl (cI, 64, .inl lo_4)), (h, .inr (2, [.ref a, .int n3])), (a, .inl (cC, 160, .inl f3))] H → va_D A [(vV, .inr (4, [.ref wV, .int decV, .int belV, .long ahV, .long bhV])), (wV, .inr (2, [.ref waV, .int nV])), (waV, .inl (cC, 60, .inl fV)), (fi, .inr (1, [.int mi, .int pl, .int ze, .int sh, .int bl, .int sw, .int sp, .int wi, .int pr, .int le, .int so, .int nx])), (sa, .inr (3, [.ref h, .ref g, .ref la, .int x2, .int ba1])), (la, .inl (cI, 64, .inl lo_4)), (h, .inr (2, [.ref a, .int n3])), (a, .inl (cC, 160, .inl f3))] → va_S A s.heap H locs → lv_has ls 8 [(6, .int i), (5, .int t9), (4, .int x3), (0, .ref sa), (1, .ref vV), (2, .ref fi), (3, .int radix)] → W p l e (headSpec w_Sh_formWhole ({ frames := 2, cells := 0, slots := 0, locals := 44 } : Room)).room s m ([.ref sa, .ref vV, .ref fi, .int radix] : List Value).toArray below meth c H locs 0 0 Q (F0 m 94 ls []) := by
          intro fuel
          induction fuel with
          | zero =>
            intro i n3 f3 H locs ls hk hi hn3 hG hP hD hS hl
            exact absurd hk (Nat.not_lt_zero _)
          | succ fuel ih =>
            intro i n3 f3 H locs ls hk hi hn3 hG hP hD hS hl
            refine lv_iload hx hb d_Sh_formWhole_94 (lv_at hl 0 rfl) ?_
            refine lv_if_lt (tgt := 144) hx hb d_Sh_formWhole_96 (by decide) (fun c96_9 => ?_) (fun c96_9 => ?_)
            · skip
              have hP9 := hP.sub (ws' := [(sa, .inr (3, [.ref h, .ref g, .ref la, .int x2, .int ba1])), (h, .inr (2, [.ref a, .int n3])), (a, .inl (cC, 160, .inl f3)), (la, .inl (cI, 64, .inl lo_4)), (vV, .inr (4, [.ref wV, .int decV, .int belV, .long ahV, .long bhV])), (wV, .inr (2, [.ref waV, .int nV])), (waV, .inl (cC, 60, .inl fV)), (fi, .inr (1, [.int mi, .int pl, .int ze, .int sh, .int bl, .int sw, .int sp, .int wi, .int pr, .int le, .int so, .int nx]))]) [4, 6, 7, 5, 0, 1, 2, 3] rfl
              have hD9 := hD.sub (ws' := [(sa, .inr (3, [.ref h, .ref g, .ref la, .int x2, .int ba1])), (h, .inr (2, [.ref a, .int n3])), (a, .inl (cC, 160, .inl f3)), (la, .inl (cI, 64, .inl lo_4)), (vV, .inr (4, [.ref wV, .int decV, .int belV, .long ahV, .long bhV])), (wV, .inr (2, [.ref waV, .int nV])), (waV, .inl (cC, 60, .inl fV)), (fi, .inr (1, [.int mi, .int pl, .int ze, .int sh, .int bl, .int sw, .int sp, .int wi, .int pr, .int le, .int so, .int nx]))]) [4, 6, 7, 5, 0, 1, 2, 3] (by decide) rfl
              have hK9 := hK.sub (tys' := [(cC, .char), (cI, .int)]) [0, 1] rfl
              have hq9 : x2 = whSign belV ahV pl bl ∧ ba1 = whBase sh radix le ba ∧ (f3, n3) = whLine ahV radix le pr lo (f, n) ∧ lnOK 160 n3 := by have h9 := hG; rw [whGo, if_pos c96_9] at h9; exact ⟨by rw [whSign, ← hb9]; exact w16_2, hba, h9, hn3⟩
              subst hQ
              exact W.vret hx hb hr (fun t ht hW => ⟨⟨(x2, ba1, lo_4, f3, n3), rfl, hq9, by rw [ht]; exact hP9, va_K.moved hW.alike hK9, hD9⟩, hS.F ht⟩) hS.2.2 d_Sh_formWhole_144
            · skip
              refine lv_aload_n hx hb d_Sh_formWhole_99 rfl (lv_at hl 3 rfl) ?_
              refine va_get (D := (dC, dI)) (ci := 3) (v := .ref la) (C := R_Sh) (T := F_Sh) (N := 5) hx hb hT (in_Sh) hown hK hP 4 rfl rfl 2 (by decide) (hT _ t_143) (fun _ h9 => h9) rfl d_Sh_formWhole_100 ?_
              refine lv_iload hx hb d_Sh_formWhole_103 (lv_at hl 0 rfl) ?_
              refine va_iald hx hb hK hP 5 1 rfl rfl (vp_in_iff.mpr ⟨by have q0 := c96_9; simp only [k_lt, k_le, l_0, l_1, l_2, l_12, l_18, l_19, l_30, l_31, l_64] at q0; omega, hi⟩) d_Sh_formWhole_105 ?_
              refine lv_topi (fun x10 ex10 => ?_)
              refine lv_istore (lv' := [(7, .int x10), (6, .int i), (5, .int t9), (4, .int x3), (0, .ref sa), (1, .ref vV), (2, .ref fi), (3, .int radix)]) hx hb d_Sh_formWhole_106 hl (by decide) rfl (fun ls hl => ?_)
              refine lv_aload_n hx hb d_Sh_formWhole_108 rfl (lv_at hl 4 rfl) ?_
              refine va_get (D := (dC, dI)) (ci := 3) (v := .ref h) (C := R_Sh) (T := F_Sh) (N := 5) hx hb hT (in_Sh) hown hK hP 4 rfl rfl 0 (by decide) (hT _ t_141) (fun _ h9 => h9) rfl d_Sh_formWhole_109 ?_
              refine lv_iload hx hb d_Sh_formWhole_112 (lv_at hl 0 rfl) ?_
              refine lv_bipush (v := 10) hx hb d_Sh_formWhole_114 (by decide) ?_
              refine lv_icmp_ge (tgt := 127) hx hb d_Sh_formWhole_116 (by decide) (fun c116_11 => ?_) (fun c116_11 => ?_)
              · skip
                refine lv_iload hx hb d_Sh_formWhole_127 (lv_at hl 2 rfl) ?_
                refine lv_iload hx hb d_Sh_formWhole_129 (lv_at hl 0 rfl) ?_
                refine lv_iadd hx hb d_Sh_formWhole_131 ?_
                refine lv_topi (fun x12 ex12 => ?_)
                refine lv_bipush (v := 10) hx hb d_Sh_formWhole_132 (by decide) ?_
                refine lv_isub hx hb d_Sh_formWhole_134 ?_
                refine lv_topi (fun x13 ex13 => ?_)
                have hch : x13 = whCh t9 x10 := by rw [whCh, if_pos c116_11]; subst ex12 ex13; rfl
                have hPc := hP.sub (ws' := [(h, .inr (2, [.ref a, .int n3])), (a, .inl (cC, 160, .inl f3))]) [6, 7] rfl
                have hDc := hD.sub (ws' := [(h, .inr (2, [.ref a, .int n3])), (a, .inl (cC, 160, .inl f3))]) [6, 7] (by decide) rfl
                have hKc := hK.sub (tys' := [(cC, .char)]) [0] rfl
                have hFc := va_free (wc := [(h, .inr (2, [.ref a, .int n3])), (a, .inl (cC, 160, .inl f3))]) hD hS hA [6, 7] rfl
                refine va_callv (va_runV (As := [.int x13]) (rest := []) ⟨hx, hb, hml, hown, hT⟩ (c_Line_add l dC dI H.size cC h a 160 f3 n3 x13 hn3) (cwV 1 hT g_Sh_69 rfl rfl rfl (by decide +kernel) ⟨Nat.le_of_ble_eq_true rfl, Nat.le_of_ble_eq_true rfl⟩) ⟨fun a U g mk q => by obtain ⟨q0, q1, qP, qK, qD⟩ := q; exact ⟨q0, q1, qP, va_K.moved (u := U) (U := U.calling g mk a) (Vm.Alike.refl U.vm) qK, qD⟩, va_recv hKc hPc (ci := 2) (q0 := 0) rfl rfl, fun U hU hW => ⟨rfl, by rw [hU], by rw [hU]; exact hPc, va_K.moved hW.alike hKc, hDc.weaken (fun _ _ _ _ => trivial)⟩⟩ rfl rfl hl.1 rfl (lv_room (Nat.le_of_ble_eq_true rfl)) d_Sh_formWhole_135 ⟨Nat.le_of_ble_eq_true rfl, Nat.le_of_ble_eq_true rfl⟩) hS (fun q _ h => hFc q h) hFc (fun u t H1 locs ht hvm w135_15 hB hz1 hk1 hS => ?_)
                obtain ⟨f_14, n_15⟩ := u
                obtain ⟨hP1, hK1, hD1⟩ := hB
                rw [ht] at hP1
                try dsimp only at w135_15
                obtain ⟨w135_15, w135_15b⟩ := w135_15
                obtain ⟨hP, hD⟩ := va_join (wr := [(vV, .inr (4, [.ref wV, .int decV, .int belV, .long ahV, .long bhV])), (wV, .inr (2, [.ref waV, .int nV])), (waV, .inl (cC, 60, .inl fV)), (fi, .inr (1, [.int mi, .int pl, .int ze, .int sh, .int bl, .int sw, .int sp, .int wi, .int pr, .int le, .int so, .int nx])), (sa, .inr (3, [.ref h, .ref g, .ref la, .int x2, .int ba1])), (la, .inl (cI, 64, .inl lo_4))]) (w1 := [(h, .inr (2, [.ref a, .int n_15])), (a, .inl (cC, 160, .inl f_14))]) hP hD [6, 7] [0, 1, 2, 3, 4, 5] rfl rfl (by decide) (by decide) hk1 hFc hP1 hD1
                generalize H1 = H at hP hS ⊢
                have hP : va_P (dC, dI) CL [(vV, .inr (4, [.ref wV, .int decV, .int belV, .long ahV, .long bhV])), (wV, .inr (2, [.ref waV, .int nV])), (waV, .inl (cC, 60, .inl fV)), (fi, .inr (1, [.int mi, .int pl, .int ze, .int sh, .int bl, .int sw, .int sp, .int wi, .int pr, .int le, .int so, .int nx])), (sa, .inr (3, [.ref h, .ref g, .ref la, .int x2, .int ba1])), (la, .inl (cI, 64, .inl lo_4)), (h, .inr (2, [.ref a, .int n_15])), (a, .inl (cC, 160, .inl f_14))] H := hP
                have hD : va_D A [(vV, .inr (4, [.ref wV, .int decV, .int belV, .long ahV, .long bhV])), (wV, .inr (2, [.ref waV, .int nV])), (waV, .inl (cC, 60, .inl fV)), (fi, .inr (1, [.int mi, .int pl, .int ze, .int sh, .int bl, .int sw, .int sp, .int wi, .int pr, .int le, .int so, .int nx])), (sa, .inr (3, [.ref h, .ref g, .ref la, .int x2, .int ba1])), (la, .inl (cI, 64, .inl lo_4)), (h, .inr (2, [.ref a, .int n_15])), (a, .inl (cC, 160, .inl f_14))] := hD
                obtain ⟨x16, ex16⟩ : ∃ y : Int32, y = i + (-1) := ⟨_, rfl⟩
                refine lv_iinc (v := x16) (lv' := [(6, .int x16), (7, .int x10), (5, .int t9), (4, .int x3), (0, .ref sa), (1, .ref vV), (2, .ref fi), (3, .int radix)]) hx hb d_Sh_formWhole_138 hl (k := 1) rfl (by rw [ex16]; rfl) (by decide) rfl (fun ls hl => ?_)
                refine lv_goto (tgt := 94) hx hb d_Sh_formWhole_141 (by decide) ?_
                exact ih x16 n_15 f_14 _ _ _ (by rw [ex16, k_decm (by have q0 := c96_9; simp only [k_lt, k_le, l_0, l_1, l_2, l_12, l_18, l_19, l_30, l_31, l_64] at q0; omega)]; have q0 := c96_9; simp only [k_lt, k_le, l_0, l_1, l_2, l_12, l_18, l_19, l_30, l_31, l_64] at q0; omega) (by rw [ex16, k_decm (by have q0 := c96_9; simp only [k_lt, k_le, l_0, l_1, l_2, l_12, l_18, l_19, l_30, l_31, l_64] at q0; omega)]; omega) (w135_15b) (by have h9 := hG; rw [whGo, if_neg c96_9] at h9; rw [ex16, w135_15, hch]; rw [← ex10] at h9; exact h9) (hP.sub [0, 1, 2, 3, 4, 5, 6, 7] rfl) (hD.sub [0, 1, 2, 3, 4, 5, 6, 7] (by decide) rfl) hS (lv_sub hl [0, 2, 3, 4, 5, 6, 7] rfl)
              · skip
                refine lv_bipush (v := 48) hx hb d_Sh_formWhole_119 (by decide) ?_
                refine lv_iload hx hb d_Sh_formWhole_121 (lv_at hl 0 rfl) ?_
                refine lv_iadd hx hb d_Sh_formWhole_123 ?_
                refine lv_topi (fun x17 ex17 => ?_)
                refine lv_goto (tgt := 135) hx hb d_Sh_formWhole_124 (by decide) ?_
                have hch : x17 = whCh t9 x10 := by rw [whCh, if_neg c116_11]; subst ex17; rfl
                have hPc := hP.sub (ws' := [(h, .inr (2, [.ref a, .int n3])), (a, .inl (cC, 160, .inl f3))]) [6, 7] rfl
                have hDc := hD.sub (ws' := [(h, .inr (2, [.ref a, .int n3])), (a, .inl (cC, 160, .inl f3))]) [6, 7] (by decide) rfl
                have hKc := hK.sub (tys' := [(cC, .char)]) [0] rfl
                have hFc := va_free (wc := [(h, .inr (2, [.ref a, .int n3])), (a, .inl (cC, 160, .inl f3))]) hD hS hA [6, 7] rfl
                refine va_callv (va_runV (As := [.int x17]) (rest := []) ⟨hx, hb, hml, hown, hT⟩ (c_Line_add l dC dI H.size cC h a 160 f3 n3 x17 hn3) (cwV 1 hT g_Sh_69 rfl rfl rfl (by decide +kernel) ⟨Nat.le_of_ble_eq_true rfl, Nat.le_of_ble_eq_true rfl⟩) ⟨fun a U g mk q => by obtain ⟨q0, q1, qP, qK, qD⟩ := q; exact ⟨q0, q1, qP, va_K.moved (u := U) (U := U.calling g mk a) (Vm.Alike.refl U.vm) qK, qD⟩, va_recv hKc hPc (ci := 2) (q0 := 0) rfl rfl, fun U hU hW => ⟨rfl, by rw [hU], by rw [hU]; exact hPc, va_K.moved hW.alike hKc, hDc.weaken (fun _ _ _ _ => trivial)⟩⟩ rfl rfl hl.1 rfl (lv_room (Nat.le_of_ble_eq_true rfl)) d_Sh_formWhole_135 ⟨Nat.le_of_ble_eq_true rfl, Nat.le_of_ble_eq_true rfl⟩) hS (fun q _ h => hFc q h) hFc (fun u t H1 locs ht hvm w135_19 hB hz1 hk1 hS => ?_)
                obtain ⟨f_18, n_19⟩ := u
                obtain ⟨hP1, hK1, hD1⟩ := hB
                rw [ht] at hP1
                try dsimp only at w135_19
                obtain ⟨w135_19, w135_19b⟩ := w135_19
                obtain ⟨hP, hD⟩ := va_join (wr := [(vV, .inr (4, [.ref wV, .int decV, .int belV, .long ahV, .long bhV])), (wV, .inr (2, [.ref waV, .int nV])), (waV, .inl (cC, 60, .inl fV)), (fi, .inr (1, [.int mi, .int pl, .int ze, .int sh, .int bl, .int sw, .int sp, .int wi, .int pr, .int le, .int so, .int nx])), (sa, .inr (3, [.ref h, .ref g, .ref la, .int x2, .int ba1])), (la, .inl (cI, 64, .inl lo_4))]) (w1 := [(h, .inr (2, [.ref a, .int n_19])), (a, .inl (cC, 160, .inl f_18))]) hP hD [6, 7] [0, 1, 2, 3, 4, 5] rfl rfl (by decide) (by decide) hk1 hFc hP1 hD1
                generalize H1 = H at hP hS ⊢
                have hP : va_P (dC, dI) CL [(vV, .inr (4, [.ref wV, .int decV, .int belV, .long ahV, .long bhV])), (wV, .inr (2, [.ref waV, .int nV])), (waV, .inl (cC, 60, .inl fV)), (fi, .inr (1, [.int mi, .int pl, .int ze, .int sh, .int bl, .int sw, .int sp, .int wi, .int pr, .int le, .int so, .int nx])), (sa, .inr (3, [.ref h, .ref g, .ref la, .int x2, .int ba1])), (la, .inl (cI, 64, .inl lo_4)), (h, .inr (2, [.ref a, .int n_19])), (a, .inl (cC, 160, .inl f_18))] H := hP
                have hD : va_D A [(vV, .inr (4, [.ref wV, .int decV, .int belV, .long ahV, .long bhV])), (wV, .inr (2, [.ref waV, .int nV])), (waV, .inl (cC, 60, .inl fV)), (fi, .inr (1, [.int mi, .int pl, .int ze, .int sh, .int bl, .int sw, .int sp, .int wi, .int pr, .int le, .int so, .int nx])), (sa, .inr (3, [.ref h, .ref g, .ref la, .int x2, .int ba1])), (la, .inl (cI, 64, .inl lo_4)), (h, .inr (2, [.ref a, .int n_19])), (a, .inl (cC, 160, .inl f_18))] := hD
                obtain ⟨x20, ex20⟩ : ∃ y : Int32, y = i + (-1) := ⟨_, rfl⟩
                refine lv_iinc (v := x20) (lv' := [(6, .int x20), (7, .int x10), (5, .int t9), (4, .int x3), (0, .ref sa), (1, .ref vV), (2, .ref fi), (3, .int radix)]) hx hb d_Sh_formWhole_138 hl (k := 1) rfl (by rw [ex20]; rfl) (by decide) rfl (fun ls hl => ?_)
                refine lv_goto (tgt := 94) hx hb d_Sh_formWhole_141 (by decide) ?_
                exact ih x20 n_19 f_18 _ _ _ (by rw [ex20, k_decm (by have q0 := c96_9; simp only [k_lt, k_le, l_0, l_1, l_2, l_12, l_18, l_19, l_30, l_31, l_64] at q0; omega)]; have q0 := c96_9; simp only [k_lt, k_le, l_0, l_1, l_2, l_12, l_18, l_19, l_30, l_31, l_64] at q0; omega) (by rw [ex20, k_decm (by have q0 := c96_9; simp only [k_lt, k_le, l_0, l_1, l_2, l_12, l_18, l_19, l_30, l_31, l_64] at q0; omega)]; omega) (w135_19b) (by have h9 := hG; rw [whGo, if_neg c96_9] at h9; rw [ex20, w135_19, hch]; rw [← ex10] at h9; exact h9) (hP.sub [0, 1, 2, 3, 4, 5, 6, 7] rfl) (hD.sub [0, 1, 2, 3, 4, 5, 6, 7] (by decide) rfl) hS (lv_sub hl [0, 2, 3, 4, 5, 6, 7] rfl)
        exact loop94 65 x8 n_7 f_6 _ _ _ (by rw [ex8, k_decs w49_4b]; have q := w49_4c; omega) (by rw [ex8, k_decs w49_4b]; have q := w49_4c; omega) (w85_7b) (by rw [whLine, ← w49_4, ← ht9, w85_7, ex5, ex8]) hP hD hS (lv_sub hl [0, 1, 2, 3, 4, 5, 6] rfl)
      refine lv_icmp_ne (tgt := 68) hx hb d_Sh_formWhole_60 (by decide) (fun c60_21 => ?_) (fun c60_21 => ?_)
      · skip
        refine lv_bipush (v := 97) hx hb d_Sh_formWhole_68 (by decide) ?_
        exact cut70 97 _ _ _ (by simp [whTen, c60_21]) (hP.sub [0, 1, 2, 3, 4, 5, 6, 7] rfl) (hD.sub [0, 1, 2, 3, 4, 5, 6, 7] (by decide) rfl) hS (lv_sub hl [0, 1, 2, 3, 4] rfl)
      · skip
        refine lv_bipush (v := 65) hx hb d_Sh_formWhole_63 (by decide) ?_
        refine lv_goto (tgt := 70) hx hb d_Sh_formWhole_65 (by decide) ?_
        exact cut70 65 _ _ _ (by simp [whTen, c60_21]) (hP.sub [0, 1, 2, 3, 4, 5, 6, 7] rfl) (hD.sub [0, 1, 2, 3, 4, 5, 6, 7] (by decide) rfl) hS (lv_sub hl [0, 1, 2, 3, 4] rfl)
    refine lv_if_eq (tgt := 43) hx hb d_Sh_formWhole_26 (by decide) (fun c26_22 => ?_) (fun c26_22 => ?_)
    · skip
      exact cut43 ba _ _ _ (by simp [whBase, c26_22]) (hP.sub [0, 1, 2, 3, 4, 5, 6, 7] rfl) (hD.sub [0, 1, 2, 3, 4, 5, 6, 7] (by decide) rfl) hS (lv_sub hl [0, 1, 2, 3] rfl)
    · skip
      refine lv_iload_n hx hb d_Sh_formWhole_29 rfl (lv_at hl 3 rfl) ?_
      refine lv_bipush (v := 10) hx hb d_Sh_formWhole_30 (by decide) ?_
      refine lv_icmp_eq (tgt := 43) hx hb d_Sh_formWhole_32 (by decide) (fun c32_23 => ?_) (fun c32_23 => ?_)
      · skip
        exact cut43 ba _ _ _ (by simp [whBase, c26_22, c32_23]) (hP.sub [0, 1, 2, 3, 4, 5, 6, 7] rfl) (hD.sub [0, 1, 2, 3, 4, 5, 6, 7] (by decide) rfl) hS (lv_sub hl [0, 1, 2, 3] rfl)
      · skip
        refine lv_aload_n hx hb d_Sh_formWhole_35 rfl (lv_at hl 0 rfl) ?_
        refine lv_aload_n hx hb d_Sh_formWhole_36 rfl (lv_at hl 2 rfl) ?_
        refine va_getN (D := (dC, dI)) (ci := 1) (v := .int le) (C := R_Fi) (T := F_Fi) (N := 12) hx hb hT (in_Fi) hown hK hP 7 rfl rfl 9 (by decide) (va_Nw.use rfl (kN_92 hN)) (fun _ h9 => h9) rfl d_Sh_formWhole_37 ?_
        refine va_put (D := (dC, dI)) (ci := 3) (v := .int le) (ty := .int) (C := R_Sh) (T := F_Sh) (N := 5) hx hb hT (in_Sh) t_Sh t_Sh_ok n_Sh hown hK hP hD hS 0 rfl rfl 4 (by decide) (hT _ t_145) (fun _ h9 => h9) rfl (by decide +kernel) rfl rfl (Nat.le_of_ble_eq_true rfl) d_Sh_formWhole_40 (fun H locs hP hD hS => ?_)
        have hP : va_P (dC, dI) CL [(sa, .inr (3, [.ref h, .ref g, .ref la, .int x2, .int le])), (h, .inr (2, [.ref a, .int n])), (a, .inl (cC, 160, .inl f)), (la, .inl (cI, 64, .inl lo)), (vV, .inr (4, [.ref wV, .int decV, .int belV, .long ahV, .long bhV])), (wV, .inr (2, [.ref waV, .int nV])), (waV, .inl (cC, 60, .inl fV)), (fi, .inr (1, [.int mi, .int pl, .int ze, .int sh, .int bl, .int sw, .int sp, .int wi, .int pr, .int le, .int so, .int nx]))] H := hP
        have hD : va_D A [(sa, .inr (3, [.ref h, .ref g, .ref la, .int x2, .int le])), (h, .inr (2, [.ref a, .int n])), (a, .inl (cC, 160, .inl f)), (la, .inl (cI, 64, .inl lo)), (vV, .inr (4, [.ref wV, .int decV, .int belV, .long ahV, .long bhV])), (wV, .inr (2, [.ref waV, .int nV])), (waV, .inl (cC, 60, .inl fV)), (fi, .inr (1, [.int mi, .int pl, .int ze, .int sh, .int bl, .int sw, .int sp, .int wi, .int pr, .int le, .int so, .int nx]))] := hD
        exact cut43 le _ _ _ (by simp [whBase, c26_22, c32_23]) (hP.sub [0, 1, 2, 3, 4, 5, 6, 7] rfl) (hD.sub [0, 1, 2, 3, 4, 5, 6, 7] (by decide) rfl) hS (lv_sub hl [0, 1, 2, 3] rfl)
  refine lv_if_ge (tgt := 15) hx hb d_Sh_formWhole_8 (by decide) (fun c8_24 => ?_) (fun c8_24 => ?_)
  · skip
    rw [lg_cmp_ge] at c8_24
    refine lv_iconst (v := 0) hx hb d_Sh_formWhole_15 (by decide) ?_
    exact cut16 0 _ _ _ (by rw [← w3_1]; simp [k_b, c8_24]) (hP.sub [0, 1, 2, 3, 4, 5, 6, 7] rfl) (hD.sub [0, 1, 2, 3, 4, 5, 6, 7] (by decide) rfl) hS (lv_sub hl [0, 1, 2, 3] rfl)
  · skip
    rw [lg_cmp_ge] at c8_24
    refine lv_iconst (v := 1) hx hb d_Sh_formWhole_11 (by decide) ?_
    refine lv_goto (tgt := 16) hx hb d_Sh_formWhole_12 (by decide) ?_
    exact cut16 1 _ _ _ (by rw [← w3_1]; simp [k_b, c8_24]) (hP.sub [0, 1, 2, 3, 4, 5, 6, 7] rfl) (hD.sub [0, 1, 2, 3, 4, 5, 6, 7] (by decide) rfl) hS (lv_sub hl [0, 1, 2, 3] rfl)

set_option maxHeartbeats 4000000 in
set_option maxRecDepth 100000 in
theorem c_Shape_putExponent (l : Launch) (dC : Nat → ClassId) (dI : Nat → Nat → Nat) (sz : Nat) (cC : ClassId) (cI : ClassId) (sa : Nat) (h : Nat) (g : Nat) (la : Nat) (sg : Int32) (ba : Int32) (a : Nat) (f : Nat → Int32) (n : Int32) (ra : Nat) (row : Nat → Int32) (mark : Int32) (ex : Int32) (hn : lnOK 160 n) : Met l y_Sh_putExponent w_Sh_putExponent ({ frames := 1, cells := 0, slots := 0, locals := 21 } : Room) (va_Pc [.ref sa, .int mark, .int ex] (fun U => U.heap.size = sz ∧ va_P (dC, dI) CL [(sa, .inr (3, [.ref h, .ref g, .ref la, .int sg, .int ba])), (h, .inr (2, [.ref a, .int n])), (a, .inl (cC, 160, .inl f)), (g, .inr (0, [.ref ra])), (ra, .inl (cI, 31, .inl row))] U.heap ∧ va_K (dC, dI) CL [(cC, .char), (cI, .int)] U ∧ va_D (fun _ => True) [(sa, .inr (3, [.ref h, .ref g, .ref la, .int sg, .int ba])), (h, .inr (2, [.ref a, .int n])), (a, .inl (cC, 160, .inl f)), (g, .inr (0, [.ref ra])), (ra, .inl (cI, 31, .inl row))] ∧ kN U)) (va_Qv (fun (u : (Nat → Int32) × Int32) => match u with | (f2, n2) => (f2, n2) = exPutE ex mark (f, n) ∧ lnOK 160 n2) (fun (u : (Nat → Int32) × Int32) (t : State) => match u with | (f2, n2) => va_P (dC, dI) CL [(sa, .inr (3, [.ref h, .ref g, .ref la, .int sg, .int ba])), (h, .inr (2, [.ref a, .int n2])), (a, .inl (cC, 160, .inl f2)), (g, .inr (0, [.ref ra])), (ra, .inl (cI, 31, .inl row))] t.heap ∧ va_K (dC, dI) CL [(cC, .char), (cI, .int)] t ∧ va_D (va_A [(sa, .inr (3, [.ref h, .ref g, .ref la, .int sg, .int ba])), (h, .inr (2, [.ref a, .int n])), (a, .inl (cC, 160, .inl f)), (g, .inr (0, [.ref ra])), (ra, .inl (cI, 31, .inl row))] sz) [(sa, .inr (3, [.ref h, .ref g, .ref la, .int sg, .int ba])), (h, .inr (2, [.ref a, .int n2])), (a, .inl (cC, 160, .inl f2)), (g, .inr (0, [.ref ra])), (ra, .inl (cI, 31, .inl row))]) (va_A [(sa, .inr (3, [.ref h, .ref g, .ref la, .int sg, .int ba])), (h, .inr (2, [.ref a, .int n])), (a, .inl (cC, 160, .inl f)), (g, .inr (0, [.ref ra])), (ra, .inl (cI, 31, .inl row))] sz)) 0 0 (va_A [(sa, .inr (3, [.ref h, .ref g, .ref la, .int sg, .int ba])), (h, .inr (2, [.ref a, .int n])), (a, .inl (cC, 160, .inl f)), (g, .inr (0, [.ref ra])), (ra, .inl (cI, 31, .inl row))] sz) := by
  refine Met.ofW (cc := b_Sh_putExponent) (maxL := 4) (ret := none) (by decide) rfl ?_
  intro p e s m args below meth c s₁ B hml hv
  obtain ⟨rfl, hsz, hP, hK, hD0, hN⟩ := hv
  have hx := B.exec
  have hb := B.bytes
  have hr := B.returns
  have hts := atoms_spec (ws := w_Sh_putExponent) B.pre
  have hT : ∀ w ∈ TB, w.before _ s = true := fun w h => hts w (List.mem_cons_of_mem _ h)
  have hown : s.vm.findClass R_Sh = some m.cls := findClass_of_methodNamed B.named
  have hlocks := B.notSynchronized
  subst hsz
  have hD := hD0.self (sz := s.heap.size)
  generalize hAe : va_A [(sa, .inr (3, [.ref h, .ref g, .ref la, .int sg, .int ba])), (h, .inr (2, [.ref a, .int n])), (a, .inl (cC, 160, .inl f)), (g, .inr (0, [.ref ra])), (ra, .inl (cI, 31, .inl row))] s.heap.size = A at hD ⊢
  have hA : ∀ q : Nat, s.heap.size ≤ q → A q := fun q h => by rw [← hAe]; exact Or.inr h
  have hS : va_S A s.heap s.heap [] := va_S.rf
  have hP : va_P (dC, dI) CL [(sa, .inr (3, [.ref h, .ref g, .ref la, .int sg, .int ba])), (h, .inr (2, [.ref a, .int n])), (a, .inl (cC, 160, .inl f)), (g, .inr (0, [.ref ra])), (ra, .inl (cI, 31, .inl row))] s.heap := hP
  have hl := lv_entry ([.ref sa, .int mark, .int ex]) (n := 4) (Nat.le_of_ble_eq_true rfl)
  rw [lg_entry_eq]
  generalize (lg_sl ([.ref sa, .int mark, .int ex]) ++ List.replicate (4 - (lg_sl ([.ref sa, .int mark, .int ex])).length) Slot.unset).toArray = ls at hl ⊢
  have hl : lv_has ls 4 [(0, .ref sa), (1, .int mark), (2, .int ex)] := hl
  refine k_Q (fun Q hQ => ?_)
  refine lv_iload_n hx hb d_Sh_putExponent_0 rfl (lv_at hl 2 rfl) ?_
  refine va_mabs hx hb (hml.trans hl.1.symm) hown (hT _ t_556) (hT _ t_468) (hT _ t_3) (hT _ t_469) (Nat.le_of_ble_eq_true rfl) (Nat.le_of_ble_eq_true rfl) (Nat.le_of_ble_eq_true rfl) (Nat.le_of_ble_eq_true rfl) d_Sh_putExponent_1 ?_
  refine lv_topi (fun x1 ex1 => ?_)
  have hab : x1 = fiAbs ex := by rw [fiAbs]; exact ex1
  refine lv_istore_n (lv' := [(3, .int x1), (0, .ref sa), (1, .int mark), (2, .int ex)]) hx hb d_Sh_putExponent_4 rfl hl (by decide) rfl (fun ls hl => ?_)
  refine lv_aload_n hx hb d_Sh_putExponent_5 rfl (lv_at hl 1 rfl) ?_
  refine va_get (D := (dC, dI)) (ci := 3) (v := .ref h) (C := R_Sh) (T := F_Sh) (N := 5) hx hb hT (in_Sh) hown hK hP 0 rfl rfl 0 (by decide) (hT _ t_141) (fun _ h9 => h9) rfl d_Sh_putExponent_6 ?_
  refine lv_iload_n hx hb d_Sh_putExponent_9 rfl (lv_at hl 2 rfl) ?_
  have hPc := hP.sub (ws' := [(h, .inr (2, [.ref a, .int n])), (a, .inl (cC, 160, .inl f))]) [1, 2] rfl
  have hDc := hD.sub (ws' := [(h, .inr (2, [.ref a, .int n])), (a, .inl (cC, 160, .inl f))]) [1, 2] (by decide) rfl
  have hKc := hK.sub (tys' := [(cC, .char)]) [0] rfl
  have hFc := va_free (wc := [(h, .inr (2, [.ref a, .int n])), (a, .inl (cC, 160, .inl f))]) hD hS hA [1, 2] rfl
  refine va_callv (va_runV (As := [.int mark]) (rest := []) ⟨hx, hb, hml, hown, hT⟩ (c_Line_add l dC dI s.heap.size cC h a 160 f n mark hn) (cwV 1 hT g_Sh_69 rfl rfl rfl (by decide +kernel) ⟨Nat.le_of_ble_eq_true rfl, Nat.le_of_ble_eq_true rfl⟩) ⟨fun a U g mk q => by obtain ⟨q0, q1, qP, qK, qD⟩ := q; exact ⟨q0, q1, qP, va_K.moved (u := U) (U := U.calling g mk a) (Vm.Alike.refl U.vm) qK, qD⟩, va_recv hKc hPc (ci := 2) (q0 := 0) rfl rfl, fun U hU hW => ⟨rfl, by rw [hU], by rw [hU]; exact hPc, va_K.moved hW.alike hKc, hDc.weaken (fun _ _ _ _ => trivial)⟩⟩ rfl rfl hl.1 rfl (lv_room (Nat.le_of_ble_eq_true rfl)) d_Sh_putExponent_10 ⟨Nat.le_of_ble_eq_true rfl, Nat.le_of_ble_eq_true rfl⟩) hS (fun q _ h => hFc q h) hFc (fun u t H1 locs ht hvm w10_3 hB hz1 hk1 hS => ?_)
  obtain ⟨f_2, n_3⟩ := u
  obtain ⟨hP1, hK1, hD1⟩ := hB
  rw [ht] at hP1
  try dsimp only at w10_3
  obtain ⟨w10_3, w10_3b⟩ := w10_3
  obtain ⟨hP, hD⟩ := va_join (wr := [(sa, .inr (3, [.ref h, .ref g, .ref la, .int sg, .int ba])), (g, .inr (0, [.ref ra])), (ra, .inl (cI, 31, .inl row))]) (w1 := [(h, .inr (2, [.ref a, .int n_3])), (a, .inl (cC, 160, .inl f_2))]) hP hD [1, 2] [0, 3, 4] rfl rfl (by decide) (by decide) hk1 hFc hP1 hD1
  generalize H1 = H at hP hS ⊢
  have hP : va_P (dC, dI) CL [(sa, .inr (3, [.ref h, .ref g, .ref la, .int sg, .int ba])), (g, .inr (0, [.ref ra])), (ra, .inl (cI, 31, .inl row)), (h, .inr (2, [.ref a, .int n_3])), (a, .inl (cC, 160, .inl f_2))] H := hP
  have hD : va_D A [(sa, .inr (3, [.ref h, .ref g, .ref la, .int sg, .int ba])), (g, .inr (0, [.ref ra])), (ra, .inl (cI, 31, .inl row)), (h, .inr (2, [.ref a, .int n_3])), (a, .inl (cC, 160, .inl f_2))] := hD
  refine lv_aload_n hx hb d_Sh_putExponent_13 rfl (lv_at hl 1 rfl) ?_
  refine va_get (D := (dC, dI)) (ci := 3) (v := .ref h) (C := R_Sh) (T := F_Sh) (N := 5) hx hb hT (in_Sh) hown hK hP 0 rfl rfl 0 (by decide) (hT _ t_141) (fun _ h9 => h9) rfl d_Sh_putExponent_14 ?_
  refine lv_iload_n hx hb d_Sh_putExponent_17 rfl (lv_at hl 3 rfl) ?_
  have cut28 : ∀ (s9 : Int32) (H : Heap) (locs : List Loc) (ls : Array Slot), (s9 = if 0 ≤ ex then 43 else 45) → va_P (dC, dI) CL [(sa, .inr (3, [.ref h, .ref g, .ref la, .int sg, .int ba])), (g, .inr (0, [.ref ra])), (ra, .inl (cI, 31, .inl row)), (h, .inr (2, [.ref a, .int n_3])), (a, .inl (cC, 160, .inl f_2))] H → va_D A [(sa, .inr (3, [.ref h, .ref g, .ref la, .int sg, .int ba])), (g, .inr (0, [.ref ra])), (ra, .inl (cI, 31, .inl row)), (h, .inr (2, [.ref a, .int n_3])), (a, .inl (cC, 160, .inl f_2))] → va_S A s.heap H locs → lv_has ls 4 [(3, .int x1), (0, .ref sa), (1, .int mark), (2, .int ex)] → W p l e (headSpec w_Sh_putExponent ({ frames := 1, cells := 0, slots := 0, locals := 21 } : Room)).room s m ([.ref sa, .int mark, .int ex] : List Value).toArray below meth c H locs 0 0 Q (F0 m 28 ls [.int s9, .ref h]) := by
    intro s9 H locs ls hs9 hP hD hS hl
    have hPc := hP.sub (ws' := [(h, .inr (2, [.ref a, .int n_3])), (a, .inl (cC, 160, .inl f_2))]) [3, 4] rfl
    have hDc := hD.sub (ws' := [(h, .inr (2, [.ref a, .int n_3])), (a, .inl (cC, 160, .inl f_2))]) [3, 4] (by decide) rfl
    have hKc := hK.sub (tys' := [(cC, .char)]) [0] rfl
    have hFc := va_free (wc := [(h, .inr (2, [.ref a, .int n_3])), (a, .inl (cC, 160, .inl f_2))]) hD hS hA [3, 4] rfl
    refine va_callv (va_runV (As := [.int s9]) (rest := []) ⟨hx, hb, hml, hown, hT⟩ (c_Line_add l dC dI H.size cC h a 160 f_2 n_3 s9 (by first | assumption | omega)) (cwV 1 hT g_Sh_69 rfl rfl rfl (by decide +kernel) ⟨Nat.le_of_ble_eq_true rfl, Nat.le_of_ble_eq_true rfl⟩) ⟨fun a U g mk q => by obtain ⟨q0, q1, qP, qK, qD⟩ := q; exact ⟨q0, q1, qP, va_K.moved (u := U) (U := U.calling g mk a) (Vm.Alike.refl U.vm) qK, qD⟩, va_recv hKc hPc (ci := 2) (q0 := 0) rfl rfl, fun U hU hW => ⟨rfl, by rw [hU], by rw [hU]; exact hPc, va_K.moved hW.alike hKc, hDc.weaken (fun _ _ _ _ => trivial)⟩⟩ rfl rfl hl.1 rfl (lv_room (Nat.le_of_ble_eq_true rfl)) d_Sh_putExponent_28 ⟨Nat.le_of_ble_eq_true rfl, Nat.le_of_ble_eq_true rfl⟩) hS (fun q _ h => hFc q h) hFc (fun u t H1 locs ht hvm w28_5 hB hz1 hk1 hS => ?_)
    obtain ⟨f_4, n_5⟩ := u
    obtain ⟨hP1, hK1, hD1⟩ := hB
    rw [ht] at hP1
    try dsimp only at w28_5
    obtain ⟨w28_5, w28_5b⟩ := w28_5
    obtain ⟨hP, hD⟩ := va_join (wr := [(sa, .inr (3, [.ref h, .ref g, .ref la, .int sg, .int ba])), (g, .inr (0, [.ref ra])), (ra, .inl (cI, 31, .inl row))]) (w1 := [(h, .inr (2, [.ref a, .int n_5])), (a, .inl (cC, 160, .inl f_4))]) hP hD [3, 4] [0, 1, 2] rfl rfl (by decide) (by decide) hk1 hFc hP1 hD1
    generalize H1 = H at hP hS ⊢
    have hP : va_P (dC, dI) CL [(sa, .inr (3, [.ref h, .ref g, .ref la, .int sg, .int ba])), (g, .inr (0, [.ref ra])), (ra, .inl (cI, 31, .inl row)), (h, .inr (2, [.ref a, .int n_5])), (a, .inl (cC, 160, .inl f_4))] H := hP
    have hD : va_D A [(sa, .inr (3, [.ref h, .ref g, .ref la, .int sg, .int ba])), (g, .inr (0, [.ref ra])), (ra, .inl (cI, 31, .inl row)), (h, .inr (2, [.ref a, .int n_5])), (a, .inl (cC, 160, .inl f_4))] := hD
    refine lv_aload_n hx hb d_Sh_putExponent_31 rfl (lv_at hl 1 rfl) ?_
    refine va_get (D := (dC, dI)) (ci := 3) (v := .ref h) (C := R_Sh) (T := F_Sh) (N := 5) hx hb hT (in_Sh) hown hK hP 0 rfl rfl 0 (by decide) (hT _ t_141) (fun _ h9 => h9) rfl d_Sh_putExponent_32 ?_
    refine lv_bipush (v := 48) hx hb d_Sh_putExponent_35 (by decide) ?_
    refine lv_iload_n hx hb d_Sh_putExponent_37 rfl (lv_at hl 0 rfl) ?_
    refine lv_bipush (v := 10) hx hb d_Sh_putExponent_38 (by decide) ?_
    refine lv_idiv hx hb d_Sh_putExponent_40 (by decide) ?_
    refine lv_topi (fun x6 ex6 => ?_)
    refine lv_iadd hx hb d_Sh_putExponent_41 ?_
    refine lv_topi (fun x7 ex7 => ?_)
    have hPc := hP.sub (ws' := [(h, .inr (2, [.ref a, .int n_5])), (a, .inl (cC, 160, .inl f_4))]) [3, 4] rfl
    have hDc := hD.sub (ws' := [(h, .inr (2, [.ref a, .int n_5])), (a, .inl (cC, 160, .inl f_4))]) [3, 4] (by decide) rfl
    have hKc := hK.sub (tys' := [(cC, .char)]) [0] rfl
    have hFc := va_free (wc := [(h, .inr (2, [.ref a, .int n_5])), (a, .inl (cC, 160, .inl f_4))]) hD hS hA [3, 4] rfl
    refine va_callv (va_runV (As := [.int x7]) (rest := []) ⟨hx, hb, hml, hown, hT⟩ (c_Line_add l dC dI H.size cC h a 160 f_4 n_5 x7 (by first | assumption | omega)) (cwV 1 hT g_Sh_69 rfl rfl rfl (by decide +kernel) ⟨Nat.le_of_ble_eq_true rfl, Nat.le_of_ble_eq_true rfl⟩) ⟨fun a U g mk q => by obtain ⟨q0, q1, qP, qK, qD⟩ := q; exact ⟨q0, q1, qP, va_K.moved (u := U) (U := U.calling g mk a) (Vm.Alike.refl U.vm) qK, qD⟩, va_recv hKc hPc (ci := 2) (q0 := 0) rfl rfl, fun U hU hW => ⟨rfl, by rw [hU], by rw [hU]; exact hPc, va_K.moved hW.alike hKc, hDc.weaken (fun _ _ _ _ => trivial)⟩⟩ rfl rfl hl.1 rfl (lv_room (Nat.le_of_ble_eq_true rfl)) d_Sh_putExponent_42 ⟨Nat.le_of_ble_eq_true rfl, Nat.le_of_ble_eq_true rfl⟩) hS (fun q _ h => hFc q h) hFc (fun u t H1 locs ht hvm w42_9 hB hz1 hk1 hS => ?_)
    obtain ⟨f_8, n_9⟩ := u
    obtain ⟨hP1, hK1, hD1⟩ := hB
    rw [ht] at hP1
    try dsimp only at w42_9
    obtain ⟨w42_9, w42_9b⟩ := w42_9
    obtain ⟨hP, hD⟩ := va_join (wr := [(sa, .inr (3, [.ref h, .ref g, .ref la, .int sg, .int ba])), (g, .inr (0, [.ref ra])), (ra, .inl (cI, 31, .inl row))]) (w1 := [(h, .inr (2, [.ref a, .int n_9])), (a, .inl (cC, 160, .inl f_8))]) hP hD [3, 4] [0, 1, 2] rfl rfl (by decide) (by decide) hk1 hFc hP1 hD1
    generalize H1 = H at hP hS ⊢
    have hP : va_P (dC, dI) CL [(sa, .inr (3, [.ref h, .ref g, .ref la, .int sg, .int ba])), (g, .inr (0, [.ref ra])), (ra, .inl (cI, 31, .inl row)), (h, .inr (2, [.ref a, .int n_9])), (a, .inl (cC, 160, .inl f_8))] H := hP
    have hD : va_D A [(sa, .inr (3, [.ref h, .ref g, .ref la, .int sg, .int ba])), (g, .inr (0, [.ref ra])), (ra, .inl (cI, 31, .inl row)), (h, .inr (2, [.ref a, .int n_9])), (a, .inl (cC, 160, .inl f_8))] := hD
    refine lv_aload_n hx hb d_Sh_putExponent_45 rfl (lv_at hl 1 rfl) ?_
    refine va_get (D := (dC, dI)) (ci := 3) (v := .ref h) (C := R_Sh) (T := F_Sh) (N := 5) hx hb hT (in_Sh) hown hK hP 0 rfl rfl 0 (by decide) (hT _ t_141) (fun _ h9 => h9) rfl d_Sh_putExponent_46 ?_
    refine lv_bipush (v := 48) hx hb d_Sh_putExponent_49 (by decide) ?_
    refine lv_iload_n hx hb d_Sh_putExponent_51 rfl (lv_at hl 0 rfl) ?_
    refine lv_bipush (v := 10) hx hb d_Sh_putExponent_52 (by decide) ?_
    refine lv_irem hx hb d_Sh_putExponent_54 (by decide) ?_
    refine lv_topi (fun x10 ex10 => ?_)
    refine lv_iadd hx hb d_Sh_putExponent_55 ?_
    refine lv_topi (fun x11 ex11 => ?_)
    have hPc := hP.sub (ws' := [(h, .inr (2, [.ref a, .int n_9])), (a, .inl (cC, 160, .inl f_8))]) [3, 4] rfl
    have hDc := hD.sub (ws' := [(h, .inr (2, [.ref a, .int n_9])), (a, .inl (cC, 160, .inl f_8))]) [3, 4] (by decide) rfl
    have hKc := hK.sub (tys' := [(cC, .char)]) [0] rfl
    have hFc := va_free (wc := [(h, .inr (2, [.ref a, .int n_9])), (a, .inl (cC, 160, .inl f_8))]) hD hS hA [3, 4] rfl
    refine va_callv (va_runV (As := [.int x11]) (rest := []) ⟨hx, hb, hml, hown, hT⟩ (c_Line_add l dC dI H.size cC h a 160 f_8 n_9 x11 (by first | assumption | omega)) (cwV 1 hT g_Sh_69 rfl rfl rfl (by decide +kernel) ⟨Nat.le_of_ble_eq_true rfl, Nat.le_of_ble_eq_true rfl⟩) ⟨fun a U g mk q => by obtain ⟨q0, q1, qP, qK, qD⟩ := q; exact ⟨q0, q1, qP, va_K.moved (u := U) (U := U.calling g mk a) (Vm.Alike.refl U.vm) qK, qD⟩, va_recv hKc hPc (ci := 2) (q0 := 0) rfl rfl, fun U hU hW => ⟨rfl, by rw [hU], by rw [hU]; exact hPc, va_K.moved hW.alike hKc, hDc.weaken (fun _ _ _ _ => trivial)⟩⟩ rfl rfl hl.1 rfl (lv_room (Nat.le_of_ble_eq_true rfl)) d_Sh_putExponent_56 ⟨Nat.le_of_ble_eq_true rfl, Nat.le_of_ble_eq_true rfl⟩) hS (fun q _ h => hFc q h) hFc (fun u t H1 locs ht hvm w56_13 hB hz1 hk1 hS => ?_)
    obtain ⟨f_12, n_13⟩ := u
    obtain ⟨hP1, hK1, hD1⟩ := hB
    rw [ht] at hP1
    try dsimp only at w56_13
    obtain ⟨w56_13, w56_13b⟩ := w56_13
    obtain ⟨hP, hD⟩ := va_join (wr := [(sa, .inr (3, [.ref h, .ref g, .ref la, .int sg, .int ba])), (g, .inr (0, [.ref ra])), (ra, .inl (cI, 31, .inl row))]) (w1 := [(h, .inr (2, [.ref a, .int n_13])), (a, .inl (cC, 160, .inl f_12))]) hP hD [3, 4] [0, 1, 2] rfl rfl (by decide) (by decide) hk1 hFc hP1 hD1
    generalize H1 = H at hP hS ⊢
    have hP : va_P (dC, dI) CL [(sa, .inr (3, [.ref h, .ref g, .ref la, .int sg, .int ba])), (g, .inr (0, [.ref ra])), (ra, .inl (cI, 31, .inl row)), (h, .inr (2, [.ref a, .int n_13])), (a, .inl (cC, 160, .inl f_12))] H := hP
    have hD : va_D A [(sa, .inr (3, [.ref h, .ref g, .ref la, .int sg, .int ba])), (g, .inr (0, [.ref ra])), (ra, .inl (cI, 31, .inl row)), (h, .inr (2, [.ref a, .int n_13])), (a, .inl (cC, 160, .inl f_12))] := hD
    have hP9 := hP.sub (ws' := [(sa, .inr (3, [.ref h, .ref g, .ref la, .int sg, .int ba])), (h, .inr (2, [.ref a, .int n_13])), (a, .inl (cC, 160, .inl f_12)), (g, .inr (0, [.ref ra])), (ra, .inl (cI, 31, .inl row))]) [0, 3, 4, 1, 2] rfl
    have hD9 := hD.sub (ws' := [(sa, .inr (3, [.ref h, .ref g, .ref la, .int sg, .int ba])), (h, .inr (2, [.ref a, .int n_13])), (a, .inl (cC, 160, .inl f_12)), (g, .inr (0, [.ref ra])), (ra, .inl (cI, 31, .inl row))]) [0, 3, 4, 1, 2] (by decide) rfl
    have hK9 := hK.sub (tys' := [(cC, .char), (cI, .int)]) [0, 1] rfl
    have hq9 : (f_12, n_13) = exPutE ex mark (f, n) ∧ lnOK 160 n_13 := by
      refine ⟨?_, w56_13b⟩
      rw [w56_13, ex11, ex10, w42_9, ex7, ex6, w28_5, w10_3, hs9, hab]; rfl
    subst hQ
    exact W.vret hx hb hr (fun t ht hW => ⟨⟨(f_12, n_13), rfl, hq9, by rw [ht]; exact hP9, va_K.moved hW.alike hK9, hD9⟩, hS.F ht⟩) hS.2.2 d_Sh_putExponent_59
  refine lv_if_ge (tgt := 26) hx hb d_Sh_putExponent_18 (by decide) (fun c18_14 => ?_) (fun c18_14 => ?_)
  · skip
    refine lv_bipush (v := 43) hx hb d_Sh_putExponent_26 (by decide) ?_
    exact cut28 43 _ _ _ (by simp [c18_14]) (hP.sub [0, 1, 2, 3, 4] rfl) (hD.sub [0, 1, 2, 3, 4] (by decide) rfl) hS (lv_sub hl [0, 1, 2, 3] rfl)
  · skip
    refine lv_bipush (v := 45) hx hb d_Sh_putExponent_21 (by decide) ?_
    refine lv_goto (tgt := 28) hx hb d_Sh_putExponent_23 (by decide) ?_
    exact cut28 45 _ _ _ (by simp [c18_14]) (hP.sub [0, 1, 2, 3, 4] rfl) (hD.sub [0, 1, 2, 3, 4] (by decide) rfl) hS (lv_sub hl [0, 1, 2, 3] rfl)

set_option maxHeartbeats 4000000 in
set_option maxRecDepth 100000 in
theorem c_Shape_formPlaces (l : Launch) (dC : Nat → ClassId) (dI : Nat → Nat → Nat) (sz : Nat) (cC : ClassId) (cI : ClassId) (sa : Nat) (h : Nat) (g : Nat) (la : Nat) (sg : Int32) (ba : Int32) (a : Nat) (f : Nat → Int32) (n : Int32) (ra : Nat) (row : Nat → Int32) (vV : Nat) (wV : Nat) (waV : Nat) (decV : Int32) (belV : Int32) (ahV : Int64) (bhV : Int64) (fV : Nat → Int32) (nV : Int32) (fi : Nat) (mi : Int32) (pl : Int32) (ze : Int32) (sh : Int32) (bl : Int32) (sw : Int32) (sp : Int32) (wi : Int32) (pr : Int32) (le : Int32) (so : Int32) (nx : Int32) (hn : lnOK 160 n) : Met l y_Sh_formPlaces w_Sh_formPlaces ({ frames := 2, cells := 0, slots := 0, locals := 46 } : Room) (va_Pc [.ref sa, .ref vV, .ref fi] (fun U => U.heap.size = sz ∧ va_P (dC, dI) CL [(sa, .inr (3, [.ref h, .ref g, .ref la, .int sg, .int ba])), (h, .inr (2, [.ref a, .int n])), (a, .inl (cC, 160, .inl f)), (g, .inr (0, [.ref ra])), (ra, .inl (cI, 31, .inl row)), (vV, .inr (4, [.ref wV, .int decV, .int belV, .long ahV, .long bhV])), (wV, .inr (2, [.ref waV, .int nV])), (waV, .inl (cC, 60, .inl fV)), (fi, .inr (1, [.int mi, .int pl, .int ze, .int sh, .int bl, .int sw, .int sp, .int wi, .int pr, .int le, .int so, .int nx]))] U.heap ∧ va_K (dC, dI) CL [(cC, .char), (cI, .int)] U ∧ va_D (fun _ => True) [(sa, .inr (3, [.ref h, .ref g, .ref la, .int sg, .int ba])), (h, .inr (2, [.ref a, .int n])), (a, .inl (cC, 160, .inl f)), (g, .inr (0, [.ref ra])), (ra, .inl (cI, 31, .inl row)), (vV, .inr (4, [.ref wV, .int decV, .int belV, .long ahV, .long bhV])), (wV, .inr (2, [.ref waV, .int nV])), (waV, .inl (cC, 60, .inl fV)), (fi, .inr (1, [.int mi, .int pl, .int ze, .int sh, .int bl, .int sw, .int sp, .int wi, .int pr, .int le, .int so, .int nx]))] ∧ kN U)) (va_Qv (fun (u : Int32 × (Nat → Int32) × (Nat → Int32) × Int32) => match u with | (sg2, row2, f2, n2) => sg2 = fiSign belV pl bl ∧ row2 = plRow bhV ahV pr row ∧ (f2, n2) = plLine bhV ahV pr sh row (f, n) ∧ lnOK 160 n2) (fun (u : Int32 × (Nat → Int32) × (Nat → Int32) × Int32) (t : State) => match u with | (sg2, row2, f2, n2) => va_P (dC, dI) CL [(sa, .inr (3, [.ref h, .ref g, .ref la, .int sg2, .int ba])), (h, .inr (2, [.ref a, .int n2])), (a, .inl (cC, 160, .inl f2)), (g, .inr (0, [.ref ra])), (ra, .inl (cI, 31, .inl row2)), (vV, .inr (4, [.ref wV, .int decV, .int belV, .long ahV, .long bhV])), (wV, .inr (2, [.ref waV, .int nV])), (waV, .inl (cC, 60, .inl fV)), (fi, .inr (1, [.int mi, .int pl, .int ze, .int sh, .int bl, .int sw, .int sp, .int wi, .int pr, .int le, .int so, .int nx]))] t.heap ∧ va_K (dC, dI) CL [(cC, .char), (cI, .int)] t ∧ va_D (va_A [(sa, .inr (3, [.ref h, .ref g, .ref la, .int sg, .int ba])), (h, .inr (2, [.ref a, .int n])), (a, .inl (cC, 160, .inl f)), (g, .inr (0, [.ref ra])), (ra, .inl (cI, 31, .inl row)), (vV, .inr (4, [.ref wV, .int decV, .int belV, .long ahV, .long bhV])), (wV, .inr (2, [.ref waV, .int nV])), (waV, .inl (cC, 60, .inl fV)), (fi, .inr (1, [.int mi, .int pl, .int ze, .int sh, .int bl, .int sw, .int sp, .int wi, .int pr, .int le, .int so, .int nx]))] sz) [(sa, .inr (3, [.ref h, .ref g, .ref la, .int sg2, .int ba])), (h, .inr (2, [.ref a, .int n2])), (a, .inl (cC, 160, .inl f2)), (g, .inr (0, [.ref ra])), (ra, .inl (cI, 31, .inl row2)), (vV, .inr (4, [.ref wV, .int decV, .int belV, .long ahV, .long bhV])), (wV, .inr (2, [.ref waV, .int nV])), (waV, .inl (cC, 60, .inl fV)), (fi, .inr (1, [.int mi, .int pl, .int ze, .int sh, .int bl, .int sw, .int sp, .int wi, .int pr, .int le, .int so, .int nx]))]) (va_A [(sa, .inr (3, [.ref h, .ref g, .ref la, .int sg, .int ba])), (h, .inr (2, [.ref a, .int n])), (a, .inl (cC, 160, .inl f)), (g, .inr (0, [.ref ra])), (ra, .inl (cI, 31, .inl row)), (vV, .inr (4, [.ref wV, .int decV, .int belV, .long ahV, .long bhV])), (wV, .inr (2, [.ref waV, .int nV])), (waV, .inl (cC, 60, .inl fV)), (fi, .inr (1, [.int mi, .int pl, .int ze, .int sh, .int bl, .int sw, .int sp, .int wi, .int pr, .int le, .int so, .int nx]))] sz)) 0 0 (va_A [(sa, .inr (3, [.ref h, .ref g, .ref la, .int sg, .int ba])), (h, .inr (2, [.ref a, .int n])), (a, .inl (cC, 160, .inl f)), (g, .inr (0, [.ref ra])), (ra, .inl (cI, 31, .inl row)), (vV, .inr (4, [.ref wV, .int decV, .int belV, .long ahV, .long bhV])), (wV, .inr (2, [.ref waV, .int nV])), (waV, .inl (cC, 60, .inl fV)), (fi, .inr (1, [.int mi, .int pl, .int ze, .int sh, .int bl, .int sw, .int sp, .int wi, .int pr, .int le, .int so, .int nx]))] sz) := by
  refine Met.ofW (cc := b_Sh_formPlaces) (maxL := 4) (ret := none) (by decide) rfl ?_
  intro p e s m args below meth c s₁ B hml hv
  obtain ⟨rfl, hsz, hP, hK, hD0, hN⟩ := hv
  have hx := B.exec
  have hb := B.bytes
  have hr := B.returns
  have hts := atoms_spec (ws := w_Sh_formPlaces) B.pre
  have hT : ∀ w ∈ TB, w.before _ s = true := fun w h => hts w (List.mem_cons_of_mem _ h)
  have hown : s.vm.findClass R_Sh = some m.cls := findClass_of_methodNamed B.named
  have hlocks := B.notSynchronized
  subst hsz
  have hD := hD0.self (sz := s.heap.size)
  generalize hAe : va_A [(sa, .inr (3, [.ref h, .ref g, .ref la, .int sg, .int ba])), (h, .inr (2, [.ref a, .int n])), (a, .inl (cC, 160, .inl f)), (g, .inr (0, [.ref ra])), (ra, .inl (cI, 31, .inl row)), (vV, .inr (4, [.ref wV, .int decV, .int belV, .long ahV, .long bhV])), (wV, .inr (2, [.ref waV, .int nV])), (waV, .inl (cC, 60, .inl fV)), (fi, .inr (1, [.int mi, .int pl, .int ze, .int sh, .int bl, .int sw, .int sp, .int wi, .int pr, .int le, .int so, .int nx]))] s.heap.size = A at hD ⊢
  have hA : ∀ q : Nat, s.heap.size ≤ q → A q := fun q h => by rw [← hAe]; exact Or.inr h
  have hS : va_S A s.heap s.heap [] := va_S.rf
  have hP : va_P (dC, dI) CL [(sa, .inr (3, [.ref h, .ref g, .ref la, .int sg, .int ba])), (h, .inr (2, [.ref a, .int n])), (a, .inl (cC, 160, .inl f)), (g, .inr (0, [.ref ra])), (ra, .inl (cI, 31, .inl row)), (vV, .inr (4, [.ref wV, .int decV, .int belV, .long ahV, .long bhV])), (wV, .inr (2, [.ref waV, .int nV])), (waV, .inl (cC, 60, .inl fV)), (fi, .inr (1, [.int mi, .int pl, .int ze, .int sh, .int bl, .int sw, .int sp, .int wi, .int pr, .int le, .int so, .int nx]))] s.heap := hP
  have hl := lv_entry ([.ref sa, .ref vV, .ref fi]) (n := 4) (Nat.le_of_ble_eq_true rfl)
  rw [lg_entry_eq]
  generalize (lg_sl ([.ref sa, .ref vV, .ref fi]) ++ List.replicate (4 - (lg_sl ([.ref sa, .ref vV, .ref fi])).length) Slot.unset).toArray = ls at hl ⊢
  have hl : lv_has ls 4 [(0, .ref sa), (1, .ref vV), (2, .ref fi)] := hl
  refine lv_aload_n hx hb d_Sh_formPlaces_0 rfl (lv_at hl 2 rfl) ?_
  refine lv_bipush (v := 6) hx hb d_Sh_formPlaces_1 (by decide) ?_
  have hPc := hP.sub (ws' := [(fi, .inr (1, [.int mi, .int pl, .int ze, .int sh, .int bl, .int sw, .int sp, .int wi, .int pr, .int le, .int so, .int nx]))]) [8] rfl
  have hDc := hD.sub (ws' := [(fi, .inr (1, [.int mi, .int pl, .int ze, .int sh, .int bl, .int sw, .int sp, .int wi, .int pr, .int le, .int so, .int nx]))]) [8] (by decide) rfl
  have hKc := hK.sub (tys' := []) [] rfl
  have hFc := va_free (wc := [(fi, .inr (1, [.int mi, .int pl, .int ze, .int sh, .int bl, .int sw, .int sp, .int wi, .int pr, .int le, .int so, .int nx]))]) hD hS hA [8] rfl
  refine va_calli (va_runV (As := [.int 6]) (rest := []) ⟨hx, hb, hml, hown, hT⟩ (c_Field_precisionOr l dC dI s.heap.size fi mi pl ze sh bl sw sp wi pr le so nx 6 ) (cwV 1 hT g_Sh_110 rfl rfl rfl (by decide +kernel) ⟨Nat.le_of_ble_eq_true rfl, Nat.le_of_ble_eq_true rfl⟩) ⟨fun a U g mk q => by obtain ⟨q0, q1, qP, qK, qD⟩ := q; exact ⟨q0, q1, qP, va_K.moved (u := U) (U := U.calling g mk a) (Vm.Alike.refl U.vm) qK, qD⟩, va_recv hKc hPc (ci := 1) (q0 := 0) rfl rfl, fun U hU hW => ⟨rfl, by rw [hU], by rw [hU]; exact hPc, va_K.moved hW.alike hKc, hDc.weaken (fun _ _ _ _ => trivial)⟩⟩ rfl rfl hl.1 rfl (lv_room (Nat.le_of_ble_eq_true rfl)) d_Sh_formPlaces_3 ⟨Nat.le_of_ble_eq_true rfl, Nat.le_of_ble_eq_true rfl⟩) hS (fun q _ h => hFc q h) hFc (fun x1 u t H1 locs ht hvm w3_1 hB hz1 hk1 hS => ?_)
  obtain ⟨hP1, hK1, hD1⟩ := hB
  rw [ht] at hP1
  try dsimp only at w3_1
  obtain ⟨hP, hD⟩ := va_join (wr := [(sa, .inr (3, [.ref h, .ref g, .ref la, .int sg, .int ba])), (h, .inr (2, [.ref a, .int n])), (a, .inl (cC, 160, .inl f)), (g, .inr (0, [.ref ra])), (ra, .inl (cI, 31, .inl row)), (vV, .inr (4, [.ref wV, .int decV, .int belV, .long ahV, .long bhV])), (wV, .inr (2, [.ref waV, .int nV])), (waV, .inl (cC, 60, .inl fV))]) (w1 := [(fi, .inr (1, [.int mi, .int pl, .int ze, .int sh, .int bl, .int sw, .int sp, .int wi, .int pr, .int le, .int so, .int nx]))]) hP hD [8] [0, 1, 2, 3, 4, 5, 6, 7] rfl rfl (by decide) (by decide) hk1 hFc hP1 hD1
  generalize H1 = H at hP hS ⊢
  have hP : va_P (dC, dI) CL [(sa, .inr (3, [.ref h, .ref g, .ref la, .int sg, .int ba])), (h, .inr (2, [.ref a, .int n])), (a, .inl (cC, 160, .inl f)), (g, .inr (0, [.ref ra])), (ra, .inl (cI, 31, .inl row)), (vV, .inr (4, [.ref wV, .int decV, .int belV, .long ahV, .long bhV])), (wV, .inr (2, [.ref waV, .int nV])), (waV, .inl (cC, 60, .inl fV)), (fi, .inr (1, [.int mi, .int pl, .int ze, .int sh, .int bl, .int sw, .int sp, .int wi, .int pr, .int le, .int so, .int nx]))] H := hP
  have hD : va_D A [(sa, .inr (3, [.ref h, .ref g, .ref la, .int sg, .int ba])), (h, .inr (2, [.ref a, .int n])), (a, .inl (cC, 160, .inl f)), (g, .inr (0, [.ref ra])), (ra, .inl (cI, 31, .inl row)), (vV, .inr (4, [.ref wV, .int decV, .int belV, .long ahV, .long bhV])), (wV, .inr (2, [.ref waV, .int nV])), (waV, .inl (cC, 60, .inl fV)), (fi, .inr (1, [.int mi, .int pl, .int ze, .int sh, .int bl, .int sw, .int sp, .int wi, .int pr, .int le, .int so, .int nx]))] := hD
  refine lv_istore_n (lv' := [(3, .int x1), (0, .ref sa), (1, .ref vV), (2, .ref fi)]) hx hb d_Sh_formPlaces_6 rfl hl (by decide) rfl (fun ls hl => ?_)
  refine lv_aload_n hx hb d_Sh_formPlaces_7 rfl (lv_at hl 1 rfl) ?_
  refine lv_aload_n hx hb d_Sh_formPlaces_8 rfl (lv_at hl 3 rfl) ?_
  refine lv_aload_n hx hb d_Sh_formPlaces_9 rfl (lv_at hl 2 rfl) ?_
  refine va_getN (D := (dC, dI)) (ci := 4) (v := .int belV) (C := R_Va) (T := F_Va) (N := 5) hx hb hT (in_Va) hown hK hP 5 rfl rfl 2 (by decide) (va_Nw.use rfl (kN_54 hN)) (fun _ h9 => h9) rfl d_Sh_formPlaces_10 ?_
  have hPc := hP.sub (ws' := [(fi, .inr (1, [.int mi, .int pl, .int ze, .int sh, .int bl, .int sw, .int sp, .int wi, .int pr, .int le, .int so, .int nx]))]) [8] rfl
  have hDc := hD.sub (ws' := [(fi, .inr (1, [.int mi, .int pl, .int ze, .int sh, .int bl, .int sw, .int sp, .int wi, .int pr, .int le, .int so, .int nx]))]) [8] (by decide) rfl
  have hKc := hK.sub (tys' := []) [] rfl
  have hFc := va_free (wc := [(fi, .inr (1, [.int mi, .int pl, .int ze, .int sh, .int bl, .int sw, .int sp, .int wi, .int pr, .int le, .int so, .int nx]))]) hD hS hA [8] rfl
  refine va_calli (va_runV (As := [.int belV]) (rest := [.ref sa]) ⟨hx, hb, hml, hown, hT⟩ (c_Field_signFor l dC dI H.size fi mi pl ze sh bl sw sp wi pr le so nx belV ) (cwV 1 hT g_Sh_87 rfl rfl rfl (by decide +kernel) ⟨Nat.le_of_ble_eq_true rfl, Nat.le_of_ble_eq_true rfl⟩) ⟨fun a U g mk q => by obtain ⟨q0, q1, qP, qK, qD⟩ := q; exact ⟨q0, q1, qP, va_K.moved (u := U) (U := U.calling g mk a) (Vm.Alike.refl U.vm) qK, qD⟩, va_recv hKc hPc (ci := 1) (q0 := 0) rfl rfl, fun U hU hW => ⟨rfl, by rw [hU], by rw [hU]; exact hPc, va_K.moved hW.alike hKc, hDc.weaken (fun _ _ _ _ => trivial)⟩⟩ rfl rfl hl.1 rfl (lv_room (Nat.le_of_ble_eq_true rfl)) d_Sh_formPlaces_13 ⟨Nat.le_of_ble_eq_true rfl, Nat.le_of_ble_eq_true rfl⟩) hS (fun q _ h => hFc q h) hFc (fun x2 u t H1 locs ht hvm w13_2 hB hz1 hk1 hS => ?_)
  obtain ⟨hP1, hK1, hD1⟩ := hB
  rw [ht] at hP1
  try dsimp only at w13_2
  obtain ⟨hP, hD⟩ := va_join (wr := [(sa, .inr (3, [.ref h, .ref g, .ref la, .int sg, .int ba])), (h, .inr (2, [.ref a, .int n])), (a, .inl (cC, 160, .inl f)), (g, .inr (0, [.ref ra])), (ra, .inl (cI, 31, .inl row)), (vV, .inr (4, [.ref wV, .int decV, .int belV, .long ahV, .long bhV])), (wV, .inr (2, [.ref waV, .int nV])), (waV, .inl (cC, 60, .inl fV))]) (w1 := [(fi, .inr (1, [.int mi, .int pl, .int ze, .int sh, .int bl, .int sw, .int sp, .int wi, .int pr, .int le, .int so, .int nx]))]) hP hD [8] [0, 1, 2, 3, 4, 5, 6, 7] rfl rfl (by decide) (by decide) hk1 hFc hP1 hD1
  generalize H1 = H at hP hS ⊢
  have hP : va_P (dC, dI) CL [(sa, .inr (3, [.ref h, .ref g, .ref la, .int sg, .int ba])), (h, .inr (2, [.ref a, .int n])), (a, .inl (cC, 160, .inl f)), (g, .inr (0, [.ref ra])), (ra, .inl (cI, 31, .inl row)), (vV, .inr (4, [.ref wV, .int decV, .int belV, .long ahV, .long bhV])), (wV, .inr (2, [.ref waV, .int nV])), (waV, .inl (cC, 60, .inl fV)), (fi, .inr (1, [.int mi, .int pl, .int ze, .int sh, .int bl, .int sw, .int sp, .int wi, .int pr, .int le, .int so, .int nx]))] H := hP
  have hD : va_D A [(sa, .inr (3, [.ref h, .ref g, .ref la, .int sg, .int ba])), (h, .inr (2, [.ref a, .int n])), (a, .inl (cC, 160, .inl f)), (g, .inr (0, [.ref ra])), (ra, .inl (cI, 31, .inl row)), (vV, .inr (4, [.ref wV, .int decV, .int belV, .long ahV, .long bhV])), (wV, .inr (2, [.ref waV, .int nV])), (waV, .inl (cC, 60, .inl fV)), (fi, .inr (1, [.int mi, .int pl, .int ze, .int sh, .int bl, .int sw, .int sp, .int wi, .int pr, .int le, .int so, .int nx]))] := hD
  refine va_put (D := (dC, dI)) (ci := 3) (v := .int x2) (ty := .int) (C := R_Sh) (T := F_Sh) (N := 5) hx hb hT (in_Sh) t_Sh t_Sh_ok n_Sh hown hK hP hD hS 0 rfl rfl 3 (by decide) (hT _ t_144) (fun _ h9 => h9) rfl (by decide +kernel) rfl rfl (Nat.le_of_ble_eq_true rfl) d_Sh_formPlaces_16 (fun H locs hP hD hS => ?_)
  have hP : va_P (dC, dI) CL [(sa, .inr (3, [.ref h, .ref g, .ref la, .int x2, .int ba])), (h, .inr (2, [.ref a, .int n])), (a, .inl (cC, 160, .inl f)), (g, .inr (0, [.ref ra])), (ra, .inl (cI, 31, .inl row)), (vV, .inr (4, [.ref wV, .int decV, .int belV, .long ahV, .long bhV])), (wV, .inr (2, [.ref waV, .int nV])), (waV, .inl (cC, 60, .inl fV)), (fi, .inr (1, [.int mi, .int pl, .int ze, .int sh, .int bl, .int sw, .int sp, .int wi, .int pr, .int le, .int so, .int nx]))] H := hP
  have hD : va_D A [(sa, .inr (3, [.ref h, .ref g, .ref la, .int x2, .int ba])), (h, .inr (2, [.ref a, .int n])), (a, .inl (cC, 160, .inl f)), (g, .inr (0, [.ref ra])), (ra, .inl (cI, 31, .inl row)), (vV, .inr (4, [.ref wV, .int decV, .int belV, .long ahV, .long bhV])), (wV, .inr (2, [.ref waV, .int nV])), (waV, .inl (cC, 60, .inl fV)), (fi, .inr (1, [.int mi, .int pl, .int ze, .int sh, .int bl, .int sw, .int sp, .int wi, .int pr, .int le, .int so, .int nx]))] := hD
  refine lv_aload_n hx hb d_Sh_formPlaces_19 rfl (lv_at hl 1 rfl) ?_
  refine va_get (D := (dC, dI)) (ci := 3) (v := .ref g) (C := R_Sh) (T := F_Sh) (N := 5) hx hb hT (in_Sh) hown hK hP 0 rfl rfl 1 (by decide) (hT _ t_142) (fun _ h9 => h9) rfl d_Sh_formPlaces_20 ?_
  refine lv_aload_n hx hb d_Sh_formPlaces_23 rfl (lv_at hl 2 rfl) ?_
  have hPc := hP.sub (ws' := [(g, .inr (0, [.ref ra])), (ra, .inl (cI, 31, .inl row)), (vV, .inr (4, [.ref wV, .int decV, .int belV, .long ahV, .long bhV])), (wV, .inr (2, [.ref waV, .int nV])), (waV, .inl (cC, 60, .inl fV))]) [3, 4, 5, 6, 7] rfl
  have hDc := hD.sub (ws' := [(g, .inr (0, [.ref ra])), (ra, .inl (cI, 31, .inl row)), (vV, .inr (4, [.ref wV, .int decV, .int belV, .long ahV, .long bhV])), (wV, .inr (2, [.ref waV, .int nV])), (waV, .inl (cC, 60, .inl fV))]) [3, 4, 5, 6, 7] (by decide) rfl
  have hKc := hK.sub (tys' := [(cI, .int), (cC, .char)]) [1, 0] rfl
  have hFc := va_free (wc := [(g, .inr (0, [.ref ra])), (ra, .inl (cI, 31, .inl row)), (vV, .inr (4, [.ref wV, .int decV, .int belV, .long ahV, .long bhV])), (wV, .inr (2, [.ref waV, .int nV])), (waV, .inl (cC, 60, .inl fV))]) hD hS hA [3, 4, 5, 6, 7] rfl
  refine va_callv (va_runV (As := [.ref vV]) (rest := []) ⟨hx, hb, hml, hown, hT⟩ (c_Digits_load l dC dI H.size cI cC g ra row vV wV waV decV belV ahV bhV fV nV ) (cwV 1 hT g_Sh_117 rfl rfl rfl (by decide +kernel) ⟨Nat.le_of_ble_eq_true rfl, Nat.le_of_ble_eq_true rfl⟩) ⟨fun a U g mk q => by obtain ⟨q0, q1, qP, qK, qD, qN⟩ := q; exact ⟨q0, q1, qP, va_K.moved (u := U) (U := U.calling g mk a) (Vm.Alike.refl U.vm) qK, qD, qN.calling⟩, va_recv hKc hPc (ci := 0) (q0 := 0) rfl rfl, fun U hU hW => ⟨rfl, by rw [hU], by rw [hU]; exact hPc, va_K.moved hW.alike hKc, hDc.weaken (fun _ _ _ _ => trivial), hN.warm hW⟩⟩ rfl rfl hl.1 rfl (lv_room (Nat.le_of_ble_eq_true rfl)) d_Sh_formPlaces_24 ⟨Nat.le_of_ble_eq_true rfl, Nat.le_of_ble_eq_true rfl⟩) hS (fun q _ h => hFc q h) hFc (fun u t H1 locs ht hvm w24_3 hB hz1 hk1 hS => ?_)
  obtain ⟨row_3, rfl⟩ : ∃ z, z = u := ⟨_, rfl⟩
  obtain ⟨hP1, hK1, hD1⟩ := hB
  rw [ht] at hP1
  try dsimp only at w24_3
  obtain ⟨hP, hD⟩ := va_join (wr := [(sa, .inr (3, [.ref h, .ref g, .ref la, .int x2, .int ba])), (h, .inr (2, [.ref a, .int n])), (a, .inl (cC, 160, .inl f)), (fi, .inr (1, [.int mi, .int pl, .int ze, .int sh, .int bl, .int sw, .int sp, .int wi, .int pr, .int le, .int so, .int nx]))]) (w1 := [(g, .inr (0, [.ref ra])), (ra, .inl (cI, 31, .inl row_3)), (vV, .inr (4, [.ref wV, .int decV, .int belV, .long ahV, .long bhV])), (wV, .inr (2, [.ref waV, .int nV])), (waV, .inl (cC, 60, .inl fV))]) hP hD [3, 4, 5, 6, 7] [0, 1, 2, 8] rfl rfl (by decide) (by decide) hk1 hFc hP1 hD1
  generalize H1 = H at hP hS ⊢
  have hP : va_P (dC, dI) CL [(sa, .inr (3, [.ref h, .ref g, .ref la, .int x2, .int ba])), (h, .inr (2, [.ref a, .int n])), (a, .inl (cC, 160, .inl f)), (fi, .inr (1, [.int mi, .int pl, .int ze, .int sh, .int bl, .int sw, .int sp, .int wi, .int pr, .int le, .int so, .int nx])), (g, .inr (0, [.ref ra])), (ra, .inl (cI, 31, .inl row_3)), (vV, .inr (4, [.ref wV, .int decV, .int belV, .long ahV, .long bhV])), (wV, .inr (2, [.ref waV, .int nV])), (waV, .inl (cC, 60, .inl fV))] H := hP
  have hD : va_D A [(sa, .inr (3, [.ref h, .ref g, .ref la, .int x2, .int ba])), (h, .inr (2, [.ref a, .int n])), (a, .inl (cC, 160, .inl f)), (fi, .inr (1, [.int mi, .int pl, .int ze, .int sh, .int bl, .int sw, .int sp, .int wi, .int pr, .int le, .int so, .int nx])), (g, .inr (0, [.ref ra])), (ra, .inl (cI, 31, .inl row_3)), (vV, .inr (4, [.ref wV, .int decV, .int belV, .long ahV, .long bhV])), (wV, .inr (2, [.ref waV, .int nV])), (waV, .inl (cC, 60, .inl fV))] := hD
  refine lv_aload_n hx hb d_Sh_formPlaces_27 rfl (lv_at hl 1 rfl) ?_
  refine va_get (D := (dC, dI)) (ci := 3) (v := .ref g) (C := R_Sh) (T := F_Sh) (N := 5) hx hb hT (in_Sh) hown hK hP 0 rfl rfl 1 (by decide) (hT _ t_142) (fun _ h9 => h9) rfl d_Sh_formPlaces_28 ?_
  refine lv_bipush (v := 19) hx hb d_Sh_formPlaces_31 (by decide) ?_
  refine lv_iload_n hx hb d_Sh_formPlaces_33 rfl (lv_at hl 0 rfl) ?_
  refine lv_iadd hx hb d_Sh_formPlaces_34 ?_
  refine lv_topi (fun x4 ex4 => ?_)
  have hPc := hP.sub (ws' := [(g, .inr (0, [.ref ra])), (ra, .inl (cI, 31, .inl row_3))]) [4, 5] rfl
  have hDc := hD.sub (ws' := [(g, .inr (0, [.ref ra])), (ra, .inl (cI, 31, .inl row_3))]) [4, 5] (by decide) rfl
  have hKc := hK.sub (tys' := [(cI, .int)]) [1] rfl
  have hFc := va_free (wc := [(g, .inr (0, [.ref ra])), (ra, .inl (cI, 31, .inl row_3))]) hD hS hA [4, 5] rfl
  refine va_callv (va_runV (As := [.int x4]) (rest := []) ⟨hx, hb, hml, hown, hT⟩ (c_Digits_round l dC dI H.size cI g ra row_3 x4 ) (cwV 1 hT g_Sh_121 rfl rfl rfl (by decide +kernel) ⟨Nat.le_of_ble_eq_true rfl, Nat.le_of_ble_eq_true rfl⟩) ⟨fun a U g mk q => by obtain ⟨q0, q1, qP, qK, qD⟩ := q; exact ⟨q0, q1, qP, va_K.moved (u := U) (U := U.calling g mk a) (Vm.Alike.refl U.vm) qK, qD⟩, va_recv hKc hPc (ci := 0) (q0 := 0) rfl rfl, fun U hU hW => ⟨rfl, by rw [hU], by rw [hU]; exact hPc, va_K.moved hW.alike hKc, hDc.weaken (fun _ _ _ _ => trivial)⟩⟩ rfl rfl hl.1 rfl (lv_room (Nat.le_of_ble_eq_true rfl)) d_Sh_formPlaces_35 ⟨Nat.le_of_ble_eq_true rfl, Nat.le_of_ble_eq_true rfl⟩) hS (fun q _ h => hFc q h) hFc (fun u t H1 locs ht hvm w35_5 hB hz1 hk1 hS => ?_)
  obtain ⟨row_5, rfl⟩ : ∃ z, z = u := ⟨_, rfl⟩
  obtain ⟨hP1, hK1, hD1⟩ := hB
  rw [ht] at hP1
  try dsimp only at w35_5
  obtain ⟨hP, hD⟩ := va_join (wr := [(sa, .inr (3, [.ref h, .ref g, .ref la, .int x2, .int ba])), (h, .inr (2, [.ref a, .int n])), (a, .inl (cC, 160, .inl f)), (fi, .inr (1, [.int mi, .int pl, .int ze, .int sh, .int bl, .int sw, .int sp, .int wi, .int pr, .int le, .int so, .int nx])), (vV, .inr (4, [.ref wV, .int decV, .int belV, .long ahV, .long bhV])), (wV, .inr (2, [.ref waV, .int nV])), (waV, .inl (cC, 60, .inl fV))]) (w1 := [(g, .inr (0, [.ref ra])), (ra, .inl (cI, 31, .inl row_5))]) hP hD [4, 5] [0, 1, 2, 3, 6, 7, 8] rfl rfl (by decide) (by decide) hk1 hFc hP1 hD1
  generalize H1 = H at hP hS ⊢
  have hP : va_P (dC, dI) CL [(sa, .inr (3, [.ref h, .ref g, .ref la, .int x2, .int ba])), (h, .inr (2, [.ref a, .int n])), (a, .inl (cC, 160, .inl f)), (fi, .inr (1, [.int mi, .int pl, .int ze, .int sh, .int bl, .int sw, .int sp, .int wi, .int pr, .int le, .int so, .int nx])), (vV, .inr (4, [.ref wV, .int decV, .int belV, .long ahV, .long bhV])), (wV, .inr (2, [.ref waV, .int nV])), (waV, .inl (cC, 60, .inl fV)), (g, .inr (0, [.ref ra])), (ra, .inl (cI, 31, .inl row_5))] H := hP
  have hD : va_D A [(sa, .inr (3, [.ref h, .ref g, .ref la, .int x2, .int ba])), (h, .inr (2, [.ref a, .int n])), (a, .inl (cC, 160, .inl f)), (fi, .inr (1, [.int mi, .int pl, .int ze, .int sh, .int bl, .int sw, .int sp, .int wi, .int pr, .int le, .int so, .int nx])), (vV, .inr (4, [.ref wV, .int decV, .int belV, .long ahV, .long bhV])), (wV, .inr (2, [.ref waV, .int nV])), (waV, .inl (cC, 60, .inl fV)), (g, .inr (0, [.ref ra])), (ra, .inl (cI, 31, .inl row_5))] := hD
  refine lv_aload_n hx hb d_Sh_formPlaces_38 rfl (lv_at hl 1 rfl) ?_
  refine va_get (D := (dC, dI)) (ci := 3) (v := .ref g) (C := R_Sh) (T := F_Sh) (N := 5) hx hb hT (in_Sh) hown hK hP 0 rfl rfl 1 (by decide) (hT _ t_142) (fun _ h9 => h9) rfl d_Sh_formPlaces_39 ?_
  refine lv_aload_n hx hb d_Sh_formPlaces_42 rfl (lv_at hl 1 rfl) ?_
  refine va_get (D := (dC, dI)) (ci := 3) (v := .ref h) (C := R_Sh) (T := F_Sh) (N := 5) hx hb hT (in_Sh) hown hK hP 0 rfl rfl 0 (by decide) (hT _ t_141) (fun _ h9 => h9) rfl d_Sh_formPlaces_43 ?_
  refine lv_bipush (v := 19) hx hb d_Sh_formPlaces_46 (by decide) ?_
  refine lv_iload_n hx hb d_Sh_formPlaces_48 rfl (lv_at hl 0 rfl) ?_
  refine lv_aload_n hx hb d_Sh_formPlaces_49 rfl (lv_at hl 3 rfl) ?_
  refine va_getN (D := (dC, dI)) (ci := 1) (v := .int sh) (C := R_Fi) (T := F_Fi) (N := 12) hx hb hT (in_Fi) hown hK hP 3 rfl rfl 3 (by decide) (va_Nw.use rfl (kN_82 hN)) (fun _ h9 => h9) rfl d_Sh_formPlaces_50 ?_
  have hPc := hP.sub (ws' := [(g, .inr (0, [.ref ra])), (ra, .inl (cI, 31, .inl row_5)), (h, .inr (2, [.ref a, .int n])), (a, .inl (cC, 160, .inl f))]) [7, 8, 1, 2] rfl
  have hDc := hD.sub (ws' := [(g, .inr (0, [.ref ra])), (ra, .inl (cI, 31, .inl row_5)), (h, .inr (2, [.ref a, .int n])), (a, .inl (cC, 160, .inl f))]) [7, 8, 1, 2] (by decide) rfl
  have hKc := hK.sub (tys' := [(cI, .int), (cC, .char)]) [1, 0] rfl
  have hFc := va_free (wc := [(g, .inr (0, [.ref ra])), (ra, .inl (cI, 31, .inl row_5)), (h, .inr (2, [.ref a, .int n])), (a, .inl (cC, 160, .inl f))]) hD hS hA [7, 8, 1, 2] rfl
  refine va_callv (va_runV (As := [.ref h, .int 19, .int x1, .int sh]) (rest := []) ⟨hx, hb, hml, hown, hT⟩ (c_Digits_put l dC dI H.size cI cC g ra row_5 h a 160 f n 19 x1 sh hn) (cwV 4 hT g_Sh_124 rfl rfl rfl (by decide +kernel) ⟨Nat.le_of_ble_eq_true rfl, Nat.le_of_ble_eq_true rfl⟩) ⟨fun a U g mk q => by obtain ⟨q0, q1, qP, qK, qD⟩ := q; exact ⟨q0, q1, qP, va_K.moved (u := U) (U := U.calling g mk a) (Vm.Alike.refl U.vm) qK, qD⟩, va_recv hKc hPc (ci := 0) (q0 := 0) rfl rfl, fun U hU hW => ⟨rfl, by rw [hU], by rw [hU]; exact hPc, va_K.moved hW.alike hKc, hDc.weaken (fun _ _ _ _ => trivial)⟩⟩ rfl rfl hl.1 rfl (lv_room (Nat.le_of_ble_eq_true rfl)) d_Sh_formPlaces_53 ⟨Nat.le_of_ble_eq_true rfl, Nat.le_of_ble_eq_true rfl⟩) hS (fun q _ h => hFc q h) hFc (fun u t H1 locs ht hvm w53_7 hB hz1 hk1 hS => ?_)
  obtain ⟨f_6, n_7⟩ := u
  obtain ⟨hP1, hK1, hD1⟩ := hB
  rw [ht] at hP1
  try dsimp only at w53_7
  obtain ⟨w53_7, w53_7b⟩ := w53_7
  obtain ⟨hP, hD⟩ := va_join (wr := [(sa, .inr (3, [.ref h, .ref g, .ref la, .int x2, .int ba])), (fi, .inr (1, [.int mi, .int pl, .int ze, .int sh, .int bl, .int sw, .int sp, .int wi, .int pr, .int le, .int so, .int nx])), (vV, .inr (4, [.ref wV, .int decV, .int belV, .long ahV, .long bhV])), (wV, .inr (2, [.ref waV, .int nV])), (waV, .inl (cC, 60, .inl fV))]) (w1 := [(g, .inr (0, [.ref ra])), (ra, .inl (cI, 31, .inl row_5)), (h, .inr (2, [.ref a, .int n_7])), (a, .inl (cC, 160, .inl f_6))]) hP hD [7, 8, 1, 2] [0, 3, 4, 5, 6] rfl rfl (by decide) (by decide) hk1 hFc hP1 hD1
  generalize H1 = H at hP hS ⊢
  have hP : va_P (dC, dI) CL [(sa, .inr (3, [.ref h, .ref g, .ref la, .int x2, .int ba])), (fi, .inr (1, [.int mi, .int pl, .int ze, .int sh, .int bl, .int sw, .int sp, .int wi, .int pr, .int le, .int so, .int nx])), (vV, .inr (4, [.ref wV, .int decV, .int belV, .long ahV, .long bhV])), (wV, .inr (2, [.ref waV, .int nV])), (waV, .inl (cC, 60, .inl fV)), (g, .inr (0, [.ref ra])), (ra, .inl (cI, 31, .inl row_5)), (h, .inr (2, [.ref a, .int n_7])), (a, .inl (cC, 160, .inl f_6))] H := hP
  have hD : va_D A [(sa, .inr (3, [.ref h, .ref g, .ref la, .int x2, .int ba])), (fi, .inr (1, [.int mi, .int pl, .int ze, .int sh, .int bl, .int sw, .int sp, .int wi, .int pr, .int le, .int so, .int nx])), (vV, .inr (4, [.ref wV, .int decV, .int belV, .long ahV, .long bhV])), (wV, .inr (2, [.ref waV, .int nV])), (waV, .inl (cC, 60, .inl fV)), (g, .inr (0, [.ref ra])), (ra, .inl (cI, 31, .inl row_5)), (h, .inr (2, [.ref a, .int n_7])), (a, .inl (cC, 160, .inl f_6))] := hD
  have hP9 := hP.sub (ws' := [(sa, .inr (3, [.ref h, .ref g, .ref la, .int x2, .int ba])), (h, .inr (2, [.ref a, .int n_7])), (a, .inl (cC, 160, .inl f_6)), (g, .inr (0, [.ref ra])), (ra, .inl (cI, 31, .inl row_5)), (vV, .inr (4, [.ref wV, .int decV, .int belV, .long ahV, .long bhV])), (wV, .inr (2, [.ref waV, .int nV])), (waV, .inl (cC, 60, .inl fV)), (fi, .inr (1, [.int mi, .int pl, .int ze, .int sh, .int bl, .int sw, .int sp, .int wi, .int pr, .int le, .int so, .int nx]))]) [0, 7, 8, 5, 6, 2, 3, 4, 1] rfl
  have hD9 := hD.sub (ws' := [(sa, .inr (3, [.ref h, .ref g, .ref la, .int x2, .int ba])), (h, .inr (2, [.ref a, .int n_7])), (a, .inl (cC, 160, .inl f_6)), (g, .inr (0, [.ref ra])), (ra, .inl (cI, 31, .inl row_5)), (vV, .inr (4, [.ref wV, .int decV, .int belV, .long ahV, .long bhV])), (wV, .inr (2, [.ref waV, .int nV])), (waV, .inl (cC, 60, .inl fV)), (fi, .inr (1, [.int mi, .int pl, .int ze, .int sh, .int bl, .int sw, .int sp, .int wi, .int pr, .int le, .int so, .int nx]))]) [0, 7, 8, 5, 6, 2, 3, 4, 1] (by decide) rfl
  have hK9 := hK.sub (tys' := [(cC, .char), (cI, .int)]) [0, 1] rfl
  have hq9 : x2 = fiSign belV pl bl ∧ row_5 = plRow bhV ahV pr row ∧ (f_6, n_7) = plLine bhV ahV pr sh row (f, n) ∧ lnOK 160 n_7 := by
    have h9 : row_5 = plRow bhV ahV pr row := by rw [plRow, ← w3_1, ← w24_3, ← ex4]; exact w35_5
    exact ⟨w13_2, h9, by rw [plLine, ← h9, ← w3_1]; exact w53_7, w53_7b⟩
  exact W.vret hx hb hr (fun t ht hW => ⟨⟨(x2, row_5, f_6, n_7), rfl, hq9, by rw [ht]; exact hP9, va_K.moved hW.alike hK9, hD9⟩, hS.F ht⟩) hS.2.2 d_Sh_formPlaces_56

set_option maxHeartbeats 4000000 in
set_option maxRecDepth 100000 in
theorem c_Shape_formExponent (l : Launch) (dC : Nat → ClassId) (dI : Nat → Nat → Nat) (sz : Nat) (cC : ClassId) (cI : ClassId) (sa : Nat) (h : Nat) (g : Nat) (la : Nat) (sg : Int32) (ba : Int32) (a : Nat) (f : Nat → Int32) (n : Int32) (ra : Nat) (row : Nat → Int32) (vV : Nat) (wV : Nat) (waV : Nat) (decV : Int32) (belV : Int32) (ahV : Int64) (bhV : Int64) (fV : Nat → Int32) (nV : Int32) (fi : Nat) (mi : Int32) (pl : Int32) (ze : Int32) (sh : Int32) (bl : Int32) (sw : Int32) (sp : Int32) (wi : Int32) (pr : Int32) (le : Int32) (so : Int32) (nx : Int32) (hn : lnOK 160 n) : Met l y_Sh_formExponent w_Sh_formExponent ({ frames := 2, cells := 0, slots := 0, locals := 46 } : Room) (va_Pc [.ref sa, .ref vV, .ref fi] (fun U => U.heap.size = sz ∧ va_P (dC, dI) CL [(sa, .inr (3, [.ref h, .ref g, .ref la, .int sg, .int ba])), (h, .inr (2, [.ref a, .int n])), (a, .inl (cC, 160, .inl f)), (g, .inr (0, [.ref ra])), (ra, .inl (cI, 31, .inl row)), (vV, .inr (4, [.ref wV, .int decV, .int belV, .long ahV, .long bhV])), (wV, .inr (2, [.ref waV, .int nV])), (waV, .inl (cC, 60, .inl fV)), (fi, .inr (1, [.int mi, .int pl, .int ze, .int sh, .int bl, .int sw, .int sp, .int wi, .int pr, .int le, .int so, .int nx]))] U.heap ∧ va_K (dC, dI) CL [(cC, .char), (cI, .int)] U ∧ va_D (fun _ => True) [(sa, .inr (3, [.ref h, .ref g, .ref la, .int sg, .int ba])), (h, .inr (2, [.ref a, .int n])), (a, .inl (cC, 160, .inl f)), (g, .inr (0, [.ref ra])), (ra, .inl (cI, 31, .inl row)), (vV, .inr (4, [.ref wV, .int decV, .int belV, .long ahV, .long bhV])), (wV, .inr (2, [.ref waV, .int nV])), (waV, .inl (cC, 60, .inl fV)), (fi, .inr (1, [.int mi, .int pl, .int ze, .int sh, .int bl, .int sw, .int sp, .int wi, .int pr, .int le, .int so, .int nx]))] ∧ kN U)) (va_Qv (fun (u : Int32 × (Nat → Int32) × (Nat → Int32) × Int32) => match u with | (sg2, row2, f2, n2) => sg2 = fiSign belV pl bl ∧ row2 = exRow bhV ahV pr row ∧ (f2, n2) = exLine bhV ahV pr sh le row (f, n) ∧ lnOK 160 n2) (fun (u : Int32 × (Nat → Int32) × (Nat → Int32) × Int32) (t : State) => match u with | (sg2, row2, f2, n2) => va_P (dC, dI) CL [(sa, .inr (3, [.ref h, .ref g, .ref la, .int sg2, .int ba])), (h, .inr (2, [.ref a, .int n2])), (a, .inl (cC, 160, .inl f2)), (g, .inr (0, [.ref ra])), (ra, .inl (cI, 31, .inl row2)), (vV, .inr (4, [.ref wV, .int decV, .int belV, .long ahV, .long bhV])), (wV, .inr (2, [.ref waV, .int nV])), (waV, .inl (cC, 60, .inl fV)), (fi, .inr (1, [.int mi, .int pl, .int ze, .int sh, .int bl, .int sw, .int sp, .int wi, .int pr, .int le, .int so, .int nx]))] t.heap ∧ va_K (dC, dI) CL [(cC, .char), (cI, .int)] t ∧ va_D (va_A [(sa, .inr (3, [.ref h, .ref g, .ref la, .int sg, .int ba])), (h, .inr (2, [.ref a, .int n])), (a, .inl (cC, 160, .inl f)), (g, .inr (0, [.ref ra])), (ra, .inl (cI, 31, .inl row)), (vV, .inr (4, [.ref wV, .int decV, .int belV, .long ahV, .long bhV])), (wV, .inr (2, [.ref waV, .int nV])), (waV, .inl (cC, 60, .inl fV)), (fi, .inr (1, [.int mi, .int pl, .int ze, .int sh, .int bl, .int sw, .int sp, .int wi, .int pr, .int le, .int so, .int nx]))] sz) [(sa, .inr (3, [.ref h, .ref g, .ref la, .int sg2, .int ba])), (h, .inr (2, [.ref a, .int n2])), (a, .inl (cC, 160, .inl f2)), (g, .inr (0, [.ref ra])), (ra, .inl (cI, 31, .inl row2)), (vV, .inr (4, [.ref wV, .int decV, .int belV, .long ahV, .long bhV])), (wV, .inr (2, [.ref waV, .int nV])), (waV, .inl (cC, 60, .inl fV)), (fi, .inr (1, [.int mi, .int pl, .int ze, .int sh, .int bl, .int sw, .int sp, .int wi, .int pr, .int le, .int so, .int nx]))]) (va_A [(sa, .inr (3, [.ref h, .ref g, .ref la, .int sg, .int ba])), (h, .inr (2, [.ref a, .int n])), (a, .inl (cC, 160, .inl f)), (g, .inr (0, [.ref ra])), (ra, .inl (cI, 31, .inl row)), (vV, .inr (4, [.ref wV, .int decV, .int belV, .long ahV, .long bhV])), (wV, .inr (2, [.ref waV, .int nV])), (waV, .inl (cC, 60, .inl fV)), (fi, .inr (1, [.int mi, .int pl, .int ze, .int sh, .int bl, .int sw, .int sp, .int wi, .int pr, .int le, .int so, .int nx]))] sz)) 0 0 (va_A [(sa, .inr (3, [.ref h, .ref g, .ref la, .int sg, .int ba])), (h, .inr (2, [.ref a, .int n])), (a, .inl (cC, 160, .inl f)), (g, .inr (0, [.ref ra])), (ra, .inl (cI, 31, .inl row)), (vV, .inr (4, [.ref wV, .int decV, .int belV, .long ahV, .long bhV])), (wV, .inr (2, [.ref waV, .int nV])), (waV, .inl (cC, 60, .inl fV)), (fi, .inr (1, [.int mi, .int pl, .int ze, .int sh, .int bl, .int sw, .int sp, .int wi, .int pr, .int le, .int so, .int nx]))] sz) := by
  refine Met.ofW (cc := b_Sh_formExponent) (maxL := 4) (ret := none) (by decide) rfl ?_
  intro p e s m args below meth c s₁ B hml hv
  obtain ⟨rfl, hsz, hP, hK, hD0, hN⟩ := hv
  have hx := B.exec
  have hb := B.bytes
  have hr := B.returns
  have hts := atoms_spec (ws := w_Sh_formExponent) B.pre
  have hT : ∀ w ∈ TB, w.before _ s = true := fun w h => hts w (List.mem_cons_of_mem _ h)
  have hown : s.vm.findClass R_Sh = some m.cls := findClass_of_methodNamed B.named
  have hlocks := B.notSynchronized
  subst hsz
  have hD := hD0.self (sz := s.heap.size)
  generalize hAe : va_A [(sa, .inr (3, [.ref h, .ref g, .ref la, .int sg, .int ba])), (h, .inr (2, [.ref a, .int n])), (a, .inl (cC, 160, .inl f)), (g, .inr (0, [.ref ra])), (ra, .inl (cI, 31, .inl row)), (vV, .inr (4, [.ref wV, .int decV, .int belV, .long ahV, .long bhV])), (wV, .inr (2, [.ref waV, .int nV])), (waV, .inl (cC, 60, .inl fV)), (fi, .inr (1, [.int mi, .int pl, .int ze, .int sh, .int bl, .int sw, .int sp, .int wi, .int pr, .int le, .int so, .int nx]))] s.heap.size = A at hD ⊢
  have hA : ∀ q : Nat, s.heap.size ≤ q → A q := fun q h => by rw [← hAe]; exact Or.inr h
  have hS : va_S A s.heap s.heap [] := va_S.rf
  have hP : va_P (dC, dI) CL [(sa, .inr (3, [.ref h, .ref g, .ref la, .int sg, .int ba])), (h, .inr (2, [.ref a, .int n])), (a, .inl (cC, 160, .inl f)), (g, .inr (0, [.ref ra])), (ra, .inl (cI, 31, .inl row)), (vV, .inr (4, [.ref wV, .int decV, .int belV, .long ahV, .long bhV])), (wV, .inr (2, [.ref waV, .int nV])), (waV, .inl (cC, 60, .inl fV)), (fi, .inr (1, [.int mi, .int pl, .int ze, .int sh, .int bl, .int sw, .int sp, .int wi, .int pr, .int le, .int so, .int nx]))] s.heap := hP
  have hl := lv_entry ([.ref sa, .ref vV, .ref fi]) (n := 4) (Nat.le_of_ble_eq_true rfl)
  rw [lg_entry_eq]
  generalize (lg_sl ([.ref sa, .ref vV, .ref fi]) ++ List.replicate (4 - (lg_sl ([.ref sa, .ref vV, .ref fi])).length) Slot.unset).toArray = ls at hl ⊢
  have hl : lv_has ls 4 [(0, .ref sa), (1, .ref vV), (2, .ref fi)] := hl
  refine lv_aload_n hx hb d_Sh_formExponent_0 rfl (lv_at hl 2 rfl) ?_
  refine lv_bipush (v := 6) hx hb d_Sh_formExponent_1 (by decide) ?_
  have hPc := hP.sub (ws' := [(fi, .inr (1, [.int mi, .int pl, .int ze, .int sh, .int bl, .int sw, .int sp, .int wi, .int pr, .int le, .int so, .int nx]))]) [8] rfl
  have hDc := hD.sub (ws' := [(fi, .inr (1, [.int mi, .int pl, .int ze, .int sh, .int bl, .int sw, .int sp, .int wi, .int pr, .int le, .int so, .int nx]))]) [8] (by decide) rfl
  have hKc := hK.sub (tys' := []) [] rfl
  have hFc := va_free (wc := [(fi, .inr (1, [.int mi, .int pl, .int ze, .int sh, .int bl, .int sw, .int sp, .int wi, .int pr, .int le, .int so, .int nx]))]) hD hS hA [8] rfl
  refine va_calli (va_runV (As := [.int 6]) (rest := []) ⟨hx, hb, hml, hown, hT⟩ (c_Field_precisionOr l dC dI s.heap.size fi mi pl ze sh bl sw sp wi pr le so nx 6 ) (cwV 1 hT g_Sh_110 rfl rfl rfl (by decide +kernel) ⟨Nat.le_of_ble_eq_true rfl, Nat.le_of_ble_eq_true rfl⟩) ⟨fun a U g mk q => by obtain ⟨q0, q1, qP, qK, qD⟩ := q; exact ⟨q0, q1, qP, va_K.moved (u := U) (U := U.calling g mk a) (Vm.Alike.refl U.vm) qK, qD⟩, va_recv hKc hPc (ci := 1) (q0 := 0) rfl rfl, fun U hU hW => ⟨rfl, by rw [hU], by rw [hU]; exact hPc, va_K.moved hW.alike hKc, hDc.weaken (fun _ _ _ _ => trivial)⟩⟩ rfl rfl hl.1 rfl (lv_room (Nat.le_of_ble_eq_true rfl)) d_Sh_formExponent_3 ⟨Nat.le_of_ble_eq_true rfl, Nat.le_of_ble_eq_true rfl⟩) hS (fun q _ h => hFc q h) hFc (fun x1 u t H1 locs ht hvm w3_1 hB hz1 hk1 hS => ?_)
  obtain ⟨hP1, hK1, hD1⟩ := hB
  rw [ht] at hP1
  try dsimp only at w3_1
  obtain ⟨hP, hD⟩ := va_join (wr := [(sa, .inr (3, [.ref h, .ref g, .ref la, .int sg, .int ba])), (h, .inr (2, [.ref a, .int n])), (a, .inl (cC, 160, .inl f)), (g, .inr (0, [.ref ra])), (ra, .inl (cI, 31, .inl row)), (vV, .inr (4, [.ref wV, .int decV, .int belV, .long ahV, .long bhV])), (wV, .inr (2, [.ref waV, .int nV])), (waV, .inl (cC, 60, .inl fV))]) (w1 := [(fi, .inr (1, [.int mi, .int pl, .int ze, .int sh, .int bl, .int sw, .int sp, .int wi, .int pr, .int le, .int so, .int nx]))]) hP hD [8] [0, 1, 2, 3, 4, 5, 6, 7] rfl rfl (by decide) (by decide) hk1 hFc hP1 hD1
  generalize H1 = H at hP hS ⊢
  have hP : va_P (dC, dI) CL [(sa, .inr (3, [.ref h, .ref g, .ref la, .int sg, .int ba])), (h, .inr (2, [.ref a, .int n])), (a, .inl (cC, 160, .inl f)), (g, .inr (0, [.ref ra])), (ra, .inl (cI, 31, .inl row)), (vV, .inr (4, [.ref wV, .int decV, .int belV, .long ahV, .long bhV])), (wV, .inr (2, [.ref waV, .int nV])), (waV, .inl (cC, 60, .inl fV)), (fi, .inr (1, [.int mi, .int pl, .int ze, .int sh, .int bl, .int sw, .int sp, .int wi, .int pr, .int le, .int so, .int nx]))] H := hP
  have hD : va_D A [(sa, .inr (3, [.ref h, .ref g, .ref la, .int sg, .int ba])), (h, .inr (2, [.ref a, .int n])), (a, .inl (cC, 160, .inl f)), (g, .inr (0, [.ref ra])), (ra, .inl (cI, 31, .inl row)), (vV, .inr (4, [.ref wV, .int decV, .int belV, .long ahV, .long bhV])), (wV, .inr (2, [.ref waV, .int nV])), (waV, .inl (cC, 60, .inl fV)), (fi, .inr (1, [.int mi, .int pl, .int ze, .int sh, .int bl, .int sw, .int sp, .int wi, .int pr, .int le, .int so, .int nx]))] := hD
  refine lv_istore_n (lv' := [(3, .int x1), (0, .ref sa), (1, .ref vV), (2, .ref fi)]) hx hb d_Sh_formExponent_6 rfl hl (by decide) rfl (fun ls hl => ?_)
  refine lv_aload_n hx hb d_Sh_formExponent_7 rfl (lv_at hl 1 rfl) ?_
  refine lv_aload_n hx hb d_Sh_formExponent_8 rfl (lv_at hl 3 rfl) ?_
  refine lv_aload_n hx hb d_Sh_formExponent_9 rfl (lv_at hl 2 rfl) ?_
  refine va_getN (D := (dC, dI)) (ci := 4) (v := .int belV) (C := R_Va) (T := F_Va) (N := 5) hx hb hT (in_Va) hown hK hP 5 rfl rfl 2 (by decide) (va_Nw.use rfl (kN_54 hN)) (fun _ h9 => h9) rfl d_Sh_formExponent_10 ?_
  have hPc := hP.sub (ws' := [(fi, .inr (1, [.int mi, .int pl, .int ze, .int sh, .int bl, .int sw, .int sp, .int wi, .int pr, .int le, .int so, .int nx]))]) [8] rfl
  have hDc := hD.sub (ws' := [(fi, .inr (1, [.int mi, .int pl, .int ze, .int sh, .int bl, .int sw, .int sp, .int wi, .int pr, .int le, .int so, .int nx]))]) [8] (by decide) rfl
  have hKc := hK.sub (tys' := []) [] rfl
  have hFc := va_free (wc := [(fi, .inr (1, [.int mi, .int pl, .int ze, .int sh, .int bl, .int sw, .int sp, .int wi, .int pr, .int le, .int so, .int nx]))]) hD hS hA [8] rfl
  refine va_calli (va_runV (As := [.int belV]) (rest := [.ref sa]) ⟨hx, hb, hml, hown, hT⟩ (c_Field_signFor l dC dI H.size fi mi pl ze sh bl sw sp wi pr le so nx belV ) (cwV 1 hT g_Sh_87 rfl rfl rfl (by decide +kernel) ⟨Nat.le_of_ble_eq_true rfl, Nat.le_of_ble_eq_true rfl⟩) ⟨fun a U g mk q => by obtain ⟨q0, q1, qP, qK, qD⟩ := q; exact ⟨q0, q1, qP, va_K.moved (u := U) (U := U.calling g mk a) (Vm.Alike.refl U.vm) qK, qD⟩, va_recv hKc hPc (ci := 1) (q0 := 0) rfl rfl, fun U hU hW => ⟨rfl, by rw [hU], by rw [hU]; exact hPc, va_K.moved hW.alike hKc, hDc.weaken (fun _ _ _ _ => trivial)⟩⟩ rfl rfl hl.1 rfl (lv_room (Nat.le_of_ble_eq_true rfl)) d_Sh_formExponent_13 ⟨Nat.le_of_ble_eq_true rfl, Nat.le_of_ble_eq_true rfl⟩) hS (fun q _ h => hFc q h) hFc (fun x2 u t H1 locs ht hvm w13_2 hB hz1 hk1 hS => ?_)
  obtain ⟨hP1, hK1, hD1⟩ := hB
  rw [ht] at hP1
  try dsimp only at w13_2
  obtain ⟨hP, hD⟩ := va_join (wr := [(sa, .inr (3, [.ref h, .ref g, .ref la, .int sg, .int ba])), (h, .inr (2, [.ref a, .int n])), (a, .inl (cC, 160, .inl f)), (g, .inr (0, [.ref ra])), (ra, .inl (cI, 31, .inl row)), (vV, .inr (4, [.ref wV, .int decV, .int belV, .long ahV, .long bhV])), (wV, .inr (2, [.ref waV, .int nV])), (waV, .inl (cC, 60, .inl fV))]) (w1 := [(fi, .inr (1, [.int mi, .int pl, .int ze, .int sh, .int bl, .int sw, .int sp, .int wi, .int pr, .int le, .int so, .int nx]))]) hP hD [8] [0, 1, 2, 3, 4, 5, 6, 7] rfl rfl (by decide) (by decide) hk1 hFc hP1 hD1
  generalize H1 = H at hP hS ⊢
  have hP : va_P (dC, dI) CL [(sa, .inr (3, [.ref h, .ref g, .ref la, .int sg, .int ba])), (h, .inr (2, [.ref a, .int n])), (a, .inl (cC, 160, .inl f)), (g, .inr (0, [.ref ra])), (ra, .inl (cI, 31, .inl row)), (vV, .inr (4, [.ref wV, .int decV, .int belV, .long ahV, .long bhV])), (wV, .inr (2, [.ref waV, .int nV])), (waV, .inl (cC, 60, .inl fV)), (fi, .inr (1, [.int mi, .int pl, .int ze, .int sh, .int bl, .int sw, .int sp, .int wi, .int pr, .int le, .int so, .int nx]))] H := hP
  have hD : va_D A [(sa, .inr (3, [.ref h, .ref g, .ref la, .int sg, .int ba])), (h, .inr (2, [.ref a, .int n])), (a, .inl (cC, 160, .inl f)), (g, .inr (0, [.ref ra])), (ra, .inl (cI, 31, .inl row)), (vV, .inr (4, [.ref wV, .int decV, .int belV, .long ahV, .long bhV])), (wV, .inr (2, [.ref waV, .int nV])), (waV, .inl (cC, 60, .inl fV)), (fi, .inr (1, [.int mi, .int pl, .int ze, .int sh, .int bl, .int sw, .int sp, .int wi, .int pr, .int le, .int so, .int nx]))] := hD
  refine va_put (D := (dC, dI)) (ci := 3) (v := .int x2) (ty := .int) (C := R_Sh) (T := F_Sh) (N := 5) hx hb hT (in_Sh) t_Sh t_Sh_ok n_Sh hown hK hP hD hS 0 rfl rfl 3 (by decide) (hT _ t_144) (fun _ h9 => h9) rfl (by decide +kernel) rfl rfl (Nat.le_of_ble_eq_true rfl) d_Sh_formExponent_16 (fun H locs hP hD hS => ?_)
  have hP : va_P (dC, dI) CL [(sa, .inr (3, [.ref h, .ref g, .ref la, .int x2, .int ba])), (h, .inr (2, [.ref a, .int n])), (a, .inl (cC, 160, .inl f)), (g, .inr (0, [.ref ra])), (ra, .inl (cI, 31, .inl row)), (vV, .inr (4, [.ref wV, .int decV, .int belV, .long ahV, .long bhV])), (wV, .inr (2, [.ref waV, .int nV])), (waV, .inl (cC, 60, .inl fV)), (fi, .inr (1, [.int mi, .int pl, .int ze, .int sh, .int bl, .int sw, .int sp, .int wi, .int pr, .int le, .int so, .int nx]))] H := hP
  have hD : va_D A [(sa, .inr (3, [.ref h, .ref g, .ref la, .int x2, .int ba])), (h, .inr (2, [.ref a, .int n])), (a, .inl (cC, 160, .inl f)), (g, .inr (0, [.ref ra])), (ra, .inl (cI, 31, .inl row)), (vV, .inr (4, [.ref wV, .int decV, .int belV, .long ahV, .long bhV])), (wV, .inr (2, [.ref waV, .int nV])), (waV, .inl (cC, 60, .inl fV)), (fi, .inr (1, [.int mi, .int pl, .int ze, .int sh, .int bl, .int sw, .int sp, .int wi, .int pr, .int le, .int so, .int nx]))] := hD
  refine lv_aload_n hx hb d_Sh_formExponent_19 rfl (lv_at hl 1 rfl) ?_
  refine va_get (D := (dC, dI)) (ci := 3) (v := .ref g) (C := R_Sh) (T := F_Sh) (N := 5) hx hb hT (in_Sh) hown hK hP 0 rfl rfl 1 (by decide) (hT _ t_142) (fun _ h9 => h9) rfl d_Sh_formExponent_20 ?_
  refine lv_aload_n hx hb d_Sh_formExponent_23 rfl (lv_at hl 2 rfl) ?_
  have hPc := hP.sub (ws' := [(g, .inr (0, [.ref ra])), (ra, .inl (cI, 31, .inl row)), (vV, .inr (4, [.ref wV, .int decV, .int belV, .long ahV, .long bhV])), (wV, .inr (2, [.ref waV, .int nV])), (waV, .inl (cC, 60, .inl fV))]) [3, 4, 5, 6, 7] rfl
  have hDc := hD.sub (ws' := [(g, .inr (0, [.ref ra])), (ra, .inl (cI, 31, .inl row)), (vV, .inr (4, [.ref wV, .int decV, .int belV, .long ahV, .long bhV])), (wV, .inr (2, [.ref waV, .int nV])), (waV, .inl (cC, 60, .inl fV))]) [3, 4, 5, 6, 7] (by decide) rfl
  have hKc := hK.sub (tys' := [(cI, .int), (cC, .char)]) [1, 0] rfl
  have hFc := va_free (wc := [(g, .inr (0, [.ref ra])), (ra, .inl (cI, 31, .inl row)), (vV, .inr (4, [.ref wV, .int decV, .int belV, .long ahV, .long bhV])), (wV, .inr (2, [.ref waV, .int nV])), (waV, .inl (cC, 60, .inl fV))]) hD hS hA [3, 4, 5, 6, 7] rfl
  refine va_callv (va_runV (As := [.ref vV]) (rest := []) ⟨hx, hb, hml, hown, hT⟩ (c_Digits_load l dC dI H.size cI cC g ra row vV wV waV decV belV ahV bhV fV nV ) (cwV 1 hT g_Sh_117 rfl rfl rfl (by decide +kernel) ⟨Nat.le_of_ble_eq_true rfl, Nat.le_of_ble_eq_true rfl⟩) ⟨fun a U g mk q => by obtain ⟨q0, q1, qP, qK, qD, qN⟩ := q; exact ⟨q0, q1, qP, va_K.moved (u := U) (U := U.calling g mk a) (Vm.Alike.refl U.vm) qK, qD, qN.calling⟩, va_recv hKc hPc (ci := 0) (q0 := 0) rfl rfl, fun U hU hW => ⟨rfl, by rw [hU], by rw [hU]; exact hPc, va_K.moved hW.alike hKc, hDc.weaken (fun _ _ _ _ => trivial), hN.warm hW⟩⟩ rfl rfl hl.1 rfl (lv_room (Nat.le_of_ble_eq_true rfl)) d_Sh_formExponent_24 ⟨Nat.le_of_ble_eq_true rfl, Nat.le_of_ble_eq_true rfl⟩) hS (fun q _ h => hFc q h) hFc (fun u t H1 locs ht hvm w24_3 hB hz1 hk1 hS => ?_)
  obtain ⟨row_3, rfl⟩ : ∃ z, z = u := ⟨_, rfl⟩
  obtain ⟨hP1, hK1, hD1⟩ := hB
  rw [ht] at hP1
  try dsimp only at w24_3
  obtain ⟨hP, hD⟩ := va_join (wr := [(sa, .inr (3, [.ref h, .ref g, .ref la, .int x2, .int ba])), (h, .inr (2, [.ref a, .int n])), (a, .inl (cC, 160, .inl f)), (fi, .inr (1, [.int mi, .int pl, .int ze, .int sh, .int bl, .int sw, .int sp, .int wi, .int pr, .int le, .int so, .int nx]))]) (w1 := [(g, .inr (0, [.ref ra])), (ra, .inl (cI, 31, .inl row_3)), (vV, .inr (4, [.ref wV, .int decV, .int belV, .long ahV, .long bhV])), (wV, .inr (2, [.ref waV, .int nV])), (waV, .inl (cC, 60, .inl fV))]) hP hD [3, 4, 5, 6, 7] [0, 1, 2, 8] rfl rfl (by decide) (by decide) hk1 hFc hP1 hD1
  generalize H1 = H at hP hS ⊢
  have hP : va_P (dC, dI) CL [(sa, .inr (3, [.ref h, .ref g, .ref la, .int x2, .int ba])), (h, .inr (2, [.ref a, .int n])), (a, .inl (cC, 160, .inl f)), (fi, .inr (1, [.int mi, .int pl, .int ze, .int sh, .int bl, .int sw, .int sp, .int wi, .int pr, .int le, .int so, .int nx])), (g, .inr (0, [.ref ra])), (ra, .inl (cI, 31, .inl row_3)), (vV, .inr (4, [.ref wV, .int decV, .int belV, .long ahV, .long bhV])), (wV, .inr (2, [.ref waV, .int nV])), (waV, .inl (cC, 60, .inl fV))] H := hP
  have hD : va_D A [(sa, .inr (3, [.ref h, .ref g, .ref la, .int x2, .int ba])), (h, .inr (2, [.ref a, .int n])), (a, .inl (cC, 160, .inl f)), (fi, .inr (1, [.int mi, .int pl, .int ze, .int sh, .int bl, .int sw, .int sp, .int wi, .int pr, .int le, .int so, .int nx])), (g, .inr (0, [.ref ra])), (ra, .inl (cI, 31, .inl row_3)), (vV, .inr (4, [.ref wV, .int decV, .int belV, .long ahV, .long bhV])), (wV, .inr (2, [.ref waV, .int nV])), (waV, .inl (cC, 60, .inl fV))] := hD
  refine lv_aload_n hx hb d_Sh_formExponent_27 rfl (lv_at hl 1 rfl) ?_
  refine va_get (D := (dC, dI)) (ci := 3) (v := .ref g) (C := R_Sh) (T := F_Sh) (N := 5) hx hb hT (in_Sh) hown hK hP 0 rfl rfl 1 (by decide) (hT _ t_142) (fun _ h9 => h9) rfl d_Sh_formExponent_28 ?_
  refine lv_aload_n hx hb d_Sh_formExponent_31 rfl (lv_at hl 1 rfl) ?_
  refine va_get (D := (dC, dI)) (ci := 3) (v := .ref g) (C := R_Sh) (T := F_Sh) (N := 5) hx hb hT (in_Sh) hown hK hP 0 rfl rfl 1 (by decide) (hT _ t_142) (fun _ h9 => h9) rfl d_Sh_formExponent_32 ?_
  have hPc := hP.sub (ws' := [(g, .inr (0, [.ref ra])), (ra, .inl (cI, 31, .inl row_3))]) [4, 5] rfl
  have hDc := hD.sub (ws' := [(g, .inr (0, [.ref ra])), (ra, .inl (cI, 31, .inl row_3))]) [4, 5] (by decide) rfl
  have hKc := hK.sub (tys' := [(cI, .int)]) [1] rfl
  have hFc := va_free (wc := [(g, .inr (0, [.ref ra])), (ra, .inl (cI, 31, .inl row_3))]) hD hS hA [4, 5] rfl
  refine va_calli (va_runV (As := []) (rest := [.ref g]) ⟨hx, hb, hml, hown, hT⟩ (c_Digits_first l dC dI H.size cI g ra row_3 ) (cwV 0 hT g_Sh_128 rfl rfl rfl (by decide +kernel) ⟨Nat.le_of_ble_eq_true rfl, Nat.le_of_ble_eq_true rfl⟩) ⟨fun a U g mk q => by obtain ⟨q0, q1, qP, qK, qD⟩ := q; exact ⟨q0, q1, qP, va_K.moved (u := U) (U := U.calling g mk a) (Vm.Alike.refl U.vm) qK, qD⟩, va_recv hKc hPc (ci := 0) (q0 := 0) rfl rfl, fun U hU hW => ⟨rfl, by rw [hU], by rw [hU]; exact hPc, va_K.moved hW.alike hKc, hDc.weaken (fun _ _ _ _ => trivial)⟩⟩ rfl rfl hl.1 rfl (lv_room (Nat.le_of_ble_eq_true rfl)) d_Sh_formExponent_35 ⟨Nat.le_of_ble_eq_true rfl, Nat.le_of_ble_eq_true rfl⟩) hS (fun q _ h => hFc q h) hFc (fun x4 u t H1 locs ht hvm w35_4 hB hz1 hk1 hS => ?_)
  obtain ⟨hP1, hK1, hD1⟩ := hB
  rw [ht] at hP1
  try dsimp only at w35_4
  obtain ⟨hP, hD⟩ := va_join (wr := [(sa, .inr (3, [.ref h, .ref g, .ref la, .int x2, .int ba])), (h, .inr (2, [.ref a, .int n])), (a, .inl (cC, 160, .inl f)), (fi, .inr (1, [.int mi, .int pl, .int ze, .int sh, .int bl, .int sw, .int sp, .int wi, .int pr, .int le, .int so, .int nx])), (vV, .inr (4, [.ref wV, .int decV, .int belV, .long ahV, .long bhV])), (wV, .inr (2, [.ref waV, .int nV])), (waV, .inl (cC, 60, .inl fV))]) (w1 := [(g, .inr (0, [.ref ra])), (ra, .inl (cI, 31, .inl row_3))]) hP hD [4, 5] [0, 1, 2, 3, 6, 7, 8] rfl rfl (by decide) (by decide) hk1 hFc hP1 hD1
  generalize H1 = H at hP hS ⊢
  have hP : va_P (dC, dI) CL [(sa, .inr (3, [.ref h, .ref g, .ref la, .int x2, .int ba])), (h, .inr (2, [.ref a, .int n])), (a, .inl (cC, 160, .inl f)), (fi, .inr (1, [.int mi, .int pl, .int ze, .int sh, .int bl, .int sw, .int sp, .int wi, .int pr, .int le, .int so, .int nx])), (vV, .inr (4, [.ref wV, .int decV, .int belV, .long ahV, .long bhV])), (wV, .inr (2, [.ref waV, .int nV])), (waV, .inl (cC, 60, .inl fV)), (g, .inr (0, [.ref ra])), (ra, .inl (cI, 31, .inl row_3))] H := hP
  have hD : va_D A [(sa, .inr (3, [.ref h, .ref g, .ref la, .int x2, .int ba])), (h, .inr (2, [.ref a, .int n])), (a, .inl (cC, 160, .inl f)), (fi, .inr (1, [.int mi, .int pl, .int ze, .int sh, .int bl, .int sw, .int sp, .int wi, .int pr, .int le, .int so, .int nx])), (vV, .inr (4, [.ref wV, .int decV, .int belV, .long ahV, .long bhV])), (wV, .inr (2, [.ref waV, .int nV])), (waV, .inl (cC, 60, .inl fV)), (g, .inr (0, [.ref ra])), (ra, .inl (cI, 31, .inl row_3))] := hD
  refine lv_iconst (v := 1) hx hb d_Sh_formExponent_38 (by decide) ?_
  refine lv_iadd hx hb d_Sh_formExponent_39 ?_
  refine lv_topi (fun x5 ex5 => ?_)
  refine lv_iload_n hx hb d_Sh_formExponent_40 rfl (lv_at hl 0 rfl) ?_
  refine lv_iadd hx hb d_Sh_formExponent_41 ?_
  refine lv_topi (fun x6 ex6 => ?_)
  have hPc := hP.sub (ws' := [(g, .inr (0, [.ref ra])), (ra, .inl (cI, 31, .inl row_3))]) [7, 8] rfl
  have hDc := hD.sub (ws' := [(g, .inr (0, [.ref ra])), (ra, .inl (cI, 31, .inl row_3))]) [7, 8] (by decide) rfl
  have hKc := hK.sub (tys' := [(cI, .int)]) [1] rfl
  have hFc := va_free (wc := [(g, .inr (0, [.ref ra])), (ra, .inl (cI, 31, .inl row_3))]) hD hS hA [7, 8] rfl
  refine va_callv (va_runV (As := [.int x6]) (rest := []) ⟨hx, hb, hml, hown, hT⟩ (c_Digits_round l dC dI H.size cI g ra row_3 x6 ) (cwV 1 hT g_Sh_121 rfl rfl rfl (by decide +kernel) ⟨Nat.le_of_ble_eq_true rfl, Nat.le_of_ble_eq_true rfl⟩) ⟨fun a U g mk q => by obtain ⟨q0, q1, qP, qK, qD⟩ := q; exact ⟨q0, q1, qP, va_K.moved (u := U) (U := U.calling g mk a) (Vm.Alike.refl U.vm) qK, qD⟩, va_recv hKc hPc (ci := 0) (q0 := 0) rfl rfl, fun U hU hW => ⟨rfl, by rw [hU], by rw [hU]; exact hPc, va_K.moved hW.alike hKc, hDc.weaken (fun _ _ _ _ => trivial)⟩⟩ rfl rfl hl.1 rfl (lv_room (Nat.le_of_ble_eq_true rfl)) d_Sh_formExponent_42 ⟨Nat.le_of_ble_eq_true rfl, Nat.le_of_ble_eq_true rfl⟩) hS (fun q _ h => hFc q h) hFc (fun u t H1 locs ht hvm w42_7 hB hz1 hk1 hS => ?_)
  obtain ⟨row_7, rfl⟩ : ∃ z, z = u := ⟨_, rfl⟩
  obtain ⟨hP1, hK1, hD1⟩ := hB
  rw [ht] at hP1
  try dsimp only at w42_7
  obtain ⟨hP, hD⟩ := va_join (wr := [(sa, .inr (3, [.ref h, .ref g, .ref la, .int x2, .int ba])), (h, .inr (2, [.ref a, .int n])), (a, .inl (cC, 160, .inl f)), (fi, .inr (1, [.int mi, .int pl, .int ze, .int sh, .int bl, .int sw, .int sp, .int wi, .int pr, .int le, .int so, .int nx])), (vV, .inr (4, [.ref wV, .int decV, .int belV, .long ahV, .long bhV])), (wV, .inr (2, [.ref waV, .int nV])), (waV, .inl (cC, 60, .inl fV))]) (w1 := [(g, .inr (0, [.ref ra])), (ra, .inl (cI, 31, .inl row_7))]) hP hD [7, 8] [0, 1, 2, 3, 4, 5, 6] rfl rfl (by decide) (by decide) hk1 hFc hP1 hD1
  generalize H1 = H at hP hS ⊢
  have hP : va_P (dC, dI) CL [(sa, .inr (3, [.ref h, .ref g, .ref la, .int x2, .int ba])), (h, .inr (2, [.ref a, .int n])), (a, .inl (cC, 160, .inl f)), (fi, .inr (1, [.int mi, .int pl, .int ze, .int sh, .int bl, .int sw, .int sp, .int wi, .int pr, .int le, .int so, .int nx])), (vV, .inr (4, [.ref wV, .int decV, .int belV, .long ahV, .long bhV])), (wV, .inr (2, [.ref waV, .int nV])), (waV, .inl (cC, 60, .inl fV)), (g, .inr (0, [.ref ra])), (ra, .inl (cI, 31, .inl row_7))] H := hP
  have hD : va_D A [(sa, .inr (3, [.ref h, .ref g, .ref la, .int x2, .int ba])), (h, .inr (2, [.ref a, .int n])), (a, .inl (cC, 160, .inl f)), (fi, .inr (1, [.int mi, .int pl, .int ze, .int sh, .int bl, .int sw, .int sp, .int wi, .int pr, .int le, .int so, .int nx])), (vV, .inr (4, [.ref wV, .int decV, .int belV, .long ahV, .long bhV])), (wV, .inr (2, [.ref waV, .int nV])), (waV, .inl (cC, 60, .inl fV)), (g, .inr (0, [.ref ra])), (ra, .inl (cI, 31, .inl row_7))] := hD
  refine lv_aload_n hx hb d_Sh_formExponent_45 rfl (lv_at hl 1 rfl) ?_
  refine va_get (D := (dC, dI)) (ci := 3) (v := .ref g) (C := R_Sh) (T := F_Sh) (N := 5) hx hb hT (in_Sh) hown hK hP 0 rfl rfl 1 (by decide) (hT _ t_142) (fun _ h9 => h9) rfl d_Sh_formExponent_46 ?_
  refine lv_aload_n hx hb d_Sh_formExponent_49 rfl (lv_at hl 1 rfl) ?_
  refine va_get (D := (dC, dI)) (ci := 3) (v := .ref h) (C := R_Sh) (T := F_Sh) (N := 5) hx hb hT (in_Sh) hown hK hP 0 rfl rfl 0 (by decide) (hT _ t_141) (fun _ h9 => h9) rfl d_Sh_formExponent_50 ?_
  refine lv_aload_n hx hb d_Sh_formExponent_53 rfl (lv_at hl 1 rfl) ?_
  refine va_get (D := (dC, dI)) (ci := 3) (v := .ref g) (C := R_Sh) (T := F_Sh) (N := 5) hx hb hT (in_Sh) hown hK hP 0 rfl rfl 1 (by decide) (hT _ t_142) (fun _ h9 => h9) rfl d_Sh_formExponent_54 ?_
  have hPc := hP.sub (ws' := [(g, .inr (0, [.ref ra])), (ra, .inl (cI, 31, .inl row_7))]) [7, 8] rfl
  have hDc := hD.sub (ws' := [(g, .inr (0, [.ref ra])), (ra, .inl (cI, 31, .inl row_7))]) [7, 8] (by decide) rfl
  have hKc := hK.sub (tys' := [(cI, .int)]) [1] rfl
  have hFc := va_free (wc := [(g, .inr (0, [.ref ra])), (ra, .inl (cI, 31, .inl row_7))]) hD hS hA [7, 8] rfl
  refine va_calli (va_runV (As := []) (rest := [.ref h, .ref g]) ⟨hx, hb, hml, hown, hT⟩ (c_Digits_first l dC dI H.size cI g ra row_7 ) (cwV 0 hT g_Sh_128 rfl rfl rfl (by decide +kernel) ⟨Nat.le_of_ble_eq_true rfl, Nat.le_of_ble_eq_true rfl⟩) ⟨fun a U g mk q => by obtain ⟨q0, q1, qP, qK, qD⟩ := q; exact ⟨q0, q1, qP, va_K.moved (u := U) (U := U.calling g mk a) (Vm.Alike.refl U.vm) qK, qD⟩, va_recv hKc hPc (ci := 0) (q0 := 0) rfl rfl, fun U hU hW => ⟨rfl, by rw [hU], by rw [hU]; exact hPc, va_K.moved hW.alike hKc, hDc.weaken (fun _ _ _ _ => trivial)⟩⟩ rfl rfl hl.1 rfl (lv_room (Nat.le_of_ble_eq_true rfl)) d_Sh_formExponent_57 ⟨Nat.le_of_ble_eq_true rfl, Nat.le_of_ble_eq_true rfl⟩) hS (fun q _ h => hFc q h) hFc (fun x8 u t H1 locs ht hvm w57_8 hB hz1 hk1 hS => ?_)
  obtain ⟨hP1, hK1, hD1⟩ := hB
  rw [ht] at hP1
  try dsimp only at w57_8
  obtain ⟨hP, hD⟩ := va_join (wr := [(sa, .inr (3, [.ref h, .ref g, .ref la, .int x2, .int ba])), (h, .inr (2, [.ref a, .int n])), (a, .inl (cC, 160, .inl f)), (fi, .inr (1, [.int mi, .int pl, .int ze, .int sh, .int bl, .int sw, .int sp, .int wi, .int pr, .int le, .int so, .int nx])), (vV, .inr (4, [.ref wV, .int decV, .int belV, .long ahV, .long bhV])), (wV, .inr (2, [.ref waV, .int nV])), (waV, .inl (cC, 60, .inl fV))]) (w1 := [(g, .inr (0, [.ref ra])), (ra, .inl (cI, 31, .inl row_7))]) hP hD [7, 8] [0, 1, 2, 3, 4, 5, 6] rfl rfl (by decide) (by decide) hk1 hFc hP1 hD1
  generalize H1 = H at hP hS ⊢
  have hP : va_P (dC, dI) CL [(sa, .inr (3, [.ref h, .ref g, .ref la, .int x2, .int ba])), (h, .inr (2, [.ref a, .int n])), (a, .inl (cC, 160, .inl f)), (fi, .inr (1, [.int mi, .int pl, .int ze, .int sh, .int bl, .int sw, .int sp, .int wi, .int pr, .int le, .int so, .int nx])), (vV, .inr (4, [.ref wV, .int decV, .int belV, .long ahV, .long bhV])), (wV, .inr (2, [.ref waV, .int nV])), (waV, .inl (cC, 60, .inl fV)), (g, .inr (0, [.ref ra])), (ra, .inl (cI, 31, .inl row_7))] H := hP
  have hD : va_D A [(sa, .inr (3, [.ref h, .ref g, .ref la, .int x2, .int ba])), (h, .inr (2, [.ref a, .int n])), (a, .inl (cC, 160, .inl f)), (fi, .inr (1, [.int mi, .int pl, .int ze, .int sh, .int bl, .int sw, .int sp, .int wi, .int pr, .int le, .int so, .int nx])), (vV, .inr (4, [.ref wV, .int decV, .int belV, .long ahV, .long bhV])), (wV, .inr (2, [.ref waV, .int nV])), (waV, .inl (cC, 60, .inl fV)), (g, .inr (0, [.ref ra])), (ra, .inl (cI, 31, .inl row_7))] := hD
  refine lv_iconst (v := 1) hx hb d_Sh_formExponent_60 (by decide) ?_
  refine lv_iadd hx hb d_Sh_formExponent_61 ?_
  refine lv_topi (fun x9 ex9 => ?_)
  refine lv_iload_n hx hb d_Sh_formExponent_62 rfl (lv_at hl 0 rfl) ?_
  refine lv_aload_n hx hb d_Sh_formExponent_63 rfl (lv_at hl 3 rfl) ?_
  refine va_getN (D := (dC, dI)) (ci := 1) (v := .int sh) (C := R_Fi) (T := F_Fi) (N := 12) hx hb hT (in_Fi) hown hK hP 3 rfl rfl 3 (by decide) (va_Nw.use rfl (kN_82 hN)) (fun _ h9 => h9) rfl d_Sh_formExponent_64 ?_
  have hPc := hP.sub (ws' := [(g, .inr (0, [.ref ra])), (ra, .inl (cI, 31, .inl row_7)), (h, .inr (2, [.ref a, .int n])), (a, .inl (cC, 160, .inl f))]) [7, 8, 1, 2] rfl
  have hDc := hD.sub (ws' := [(g, .inr (0, [.ref ra])), (ra, .inl (cI, 31, .inl row_7)), (h, .inr (2, [.ref a, .int n])), (a, .inl (cC, 160, .inl f))]) [7, 8, 1, 2] (by decide) rfl
  have hKc := hK.sub (tys' := [(cI, .int), (cC, .char)]) [1, 0] rfl
  have hFc := va_free (wc := [(g, .inr (0, [.ref ra])), (ra, .inl (cI, 31, .inl row_7)), (h, .inr (2, [.ref a, .int n])), (a, .inl (cC, 160, .inl f))]) hD hS hA [7, 8, 1, 2] rfl
  refine va_callv (va_runV (As := [.ref h, .int x9, .int x1, .int sh]) (rest := []) ⟨hx, hb, hml, hown, hT⟩ (c_Digits_put l dC dI H.size cI cC g ra row_7 h a 160 f n x9 x1 sh hn) (cwV 4 hT g_Sh_124 rfl rfl rfl (by decide +kernel) ⟨Nat.le_of_ble_eq_true rfl, Nat.le_of_ble_eq_true rfl⟩) ⟨fun a U g mk q => by obtain ⟨q0, q1, qP, qK, qD⟩ := q; exact ⟨q0, q1, qP, va_K.moved (u := U) (U := U.calling g mk a) (Vm.Alike.refl U.vm) qK, qD⟩, va_recv hKc hPc (ci := 0) (q0 := 0) rfl rfl, fun U hU hW => ⟨rfl, by rw [hU], by rw [hU]; exact hPc, va_K.moved hW.alike hKc, hDc.weaken (fun _ _ _ _ => trivial)⟩⟩ rfl rfl hl.1 rfl (lv_room (Nat.le_of_ble_eq_true rfl)) d_Sh_formExponent_67 ⟨Nat.le_of_ble_eq_true rfl, Nat.le_of_ble_eq_true rfl⟩) hS (fun q _ h => hFc q h) hFc (fun u t H1 locs ht hvm w67_11 hB hz1 hk1 hS => ?_)
  obtain ⟨f_10, n_11⟩ := u
  obtain ⟨hP1, hK1, hD1⟩ := hB
  rw [ht] at hP1
  try dsimp only at w67_11
  obtain ⟨w67_11, w67_11b⟩ := w67_11
  obtain ⟨hP, hD⟩ := va_join (wr := [(sa, .inr (3, [.ref h, .ref g, .ref la, .int x2, .int ba])), (fi, .inr (1, [.int mi, .int pl, .int ze, .int sh, .int bl, .int sw, .int sp, .int wi, .int pr, .int le, .int so, .int nx])), (vV, .inr (4, [.ref wV, .int decV, .int belV, .long ahV, .long bhV])), (wV, .inr (2, [.ref waV, .int nV])), (waV, .inl (cC, 60, .inl fV))]) (w1 := [(g, .inr (0, [.ref ra])), (ra, .inl (cI, 31, .inl row_7)), (h, .inr (2, [.ref a, .int n_11])), (a, .inl (cC, 160, .inl f_10))]) hP hD [7, 8, 1, 2] [0, 3, 4, 5, 6] rfl rfl (by decide) (by decide) hk1 hFc hP1 hD1
  generalize H1 = H at hP hS ⊢
  have hP : va_P (dC, dI) CL [(sa, .inr (3, [.ref h, .ref g, .ref la, .int x2, .int ba])), (fi, .inr (1, [.int mi, .int pl, .int ze, .int sh, .int bl, .int sw, .int sp, .int wi, .int pr, .int le, .int so, .int nx])), (vV, .inr (4, [.ref wV, .int decV, .int belV, .long ahV, .long bhV])), (wV, .inr (2, [.ref waV, .int nV])), (waV, .inl (cC, 60, .inl fV)), (g, .inr (0, [.ref ra])), (ra, .inl (cI, 31, .inl row_7)), (h, .inr (2, [.ref a, .int n_11])), (a, .inl (cC, 160, .inl f_10))] H := hP
  have hD : va_D A [(sa, .inr (3, [.ref h, .ref g, .ref la, .int x2, .int ba])), (fi, .inr (1, [.int mi, .int pl, .int ze, .int sh, .int bl, .int sw, .int sp, .int wi, .int pr, .int le, .int so, .int nx])), (vV, .inr (4, [.ref wV, .int decV, .int belV, .long ahV, .long bhV])), (wV, .inr (2, [.ref waV, .int nV])), (waV, .inl (cC, 60, .inl fV)), (g, .inr (0, [.ref ra])), (ra, .inl (cI, 31, .inl row_7)), (h, .inr (2, [.ref a, .int n_11])), (a, .inl (cC, 160, .inl f_10))] := hD
  refine lv_aload_n hx hb d_Sh_formExponent_70 rfl (lv_at hl 1 rfl) ?_
  refine lv_aload_n hx hb d_Sh_formExponent_71 rfl (lv_at hl 3 rfl) ?_
  refine va_getN (D := (dC, dI)) (ci := 1) (v := .int le) (C := R_Fi) (T := F_Fi) (N := 12) hx hb hT (in_Fi) hown hK hP 1 rfl rfl 9 (by decide) (va_Nw.use rfl (kN_92 hN)) (fun _ h9 => h9) rfl d_Sh_formExponent_72 ?_
  refine lv_aload_n hx hb d_Sh_formExponent_75 rfl (lv_at hl 1 rfl) ?_
  refine va_get (D := (dC, dI)) (ci := 3) (v := .ref g) (C := R_Sh) (T := F_Sh) (N := 5) hx hb hT (in_Sh) hown hK hP 0 rfl rfl 1 (by decide) (hT _ t_142) (fun _ h9 => h9) rfl d_Sh_formExponent_76 ?_
  have hPc := hP.sub (ws' := [(g, .inr (0, [.ref ra])), (ra, .inl (cI, 31, .inl row_7))]) [5, 6] rfl
  have hDc := hD.sub (ws' := [(g, .inr (0, [.ref ra])), (ra, .inl (cI, 31, .inl row_7))]) [5, 6] (by decide) rfl
  have hKc := hK.sub (tys' := [(cI, .int)]) [1] rfl
  have hFc := va_free (wc := [(g, .inr (0, [.ref ra])), (ra, .inl (cI, 31, .inl row_7))]) hD hS hA [5, 6] rfl
  refine va_calli (va_runV (As := []) (rest := [.int le, .ref sa]) ⟨hx, hb, hml, hown, hT⟩ (c_Digits_exponent l dC dI H.size cI g ra row_7 ) (cwV 0 hT g_Sh_131 rfl rfl rfl (by decide +kernel) ⟨Nat.le_of_ble_eq_true rfl, Nat.le_of_ble_eq_true rfl⟩) ⟨fun a U g mk q => by obtain ⟨q0, q1, qP, qK, qD⟩ := q; exact ⟨q0, q1, qP, va_K.moved (u := U) (U := U.calling g mk a) (Vm.Alike.refl U.vm) qK, qD⟩, va_recv hKc hPc (ci := 0) (q0 := 0) rfl rfl, fun U hU hW => ⟨rfl, by rw [hU], by rw [hU]; exact hPc, va_K.moved hW.alike hKc, hDc.weaken (fun _ _ _ _ => trivial)⟩⟩ rfl rfl hl.1 rfl (lv_room (Nat.le_of_ble_eq_true rfl)) d_Sh_formExponent_79 ⟨Nat.le_of_ble_eq_true rfl, Nat.le_of_ble_eq_true rfl⟩) hS (fun q _ h => hFc q h) hFc (fun x12 u t H1 locs ht hvm w79_12 hB hz1 hk1 hS => ?_)
  obtain ⟨hP1, hK1, hD1⟩ := hB
  rw [ht] at hP1
  try dsimp only at w79_12
  obtain ⟨hP, hD⟩ := va_join (wr := [(sa, .inr (3, [.ref h, .ref g, .ref la, .int x2, .int ba])), (fi, .inr (1, [.int mi, .int pl, .int ze, .int sh, .int bl, .int sw, .int sp, .int wi, .int pr, .int le, .int so, .int nx])), (vV, .inr (4, [.ref wV, .int decV, .int belV, .long ahV, .long bhV])), (wV, .inr (2, [.ref waV, .int nV])), (waV, .inl (cC, 60, .inl fV)), (h, .inr (2, [.ref a, .int n_11])), (a, .inl (cC, 160, .inl f_10))]) (w1 := [(g, .inr (0, [.ref ra])), (ra, .inl (cI, 31, .inl row_7))]) hP hD [5, 6] [0, 1, 2, 3, 4, 7, 8] rfl rfl (by decide) (by decide) hk1 hFc hP1 hD1
  generalize H1 = H at hP hS ⊢
  have hP : va_P (dC, dI) CL [(sa, .inr (3, [.ref h, .ref g, .ref la, .int x2, .int ba])), (fi, .inr (1, [.int mi, .int pl, .int ze, .int sh, .int bl, .int sw, .int sp, .int wi, .int pr, .int le, .int so, .int nx])), (vV, .inr (4, [.ref wV, .int decV, .int belV, .long ahV, .long bhV])), (wV, .inr (2, [.ref waV, .int nV])), (waV, .inl (cC, 60, .inl fV)), (h, .inr (2, [.ref a, .int n_11])), (a, .inl (cC, 160, .inl f_10)), (g, .inr (0, [.ref ra])), (ra, .inl (cI, 31, .inl row_7))] H := hP
  have hD : va_D A [(sa, .inr (3, [.ref h, .ref g, .ref la, .int x2, .int ba])), (fi, .inr (1, [.int mi, .int pl, .int ze, .int sh, .int bl, .int sw, .int sp, .int wi, .int pr, .int le, .int so, .int nx])), (vV, .inr (4, [.ref wV, .int decV, .int belV, .long ahV, .long bhV])), (wV, .inr (2, [.ref waV, .int nV])), (waV, .inl (cC, 60, .inl fV)), (h, .inr (2, [.ref a, .int n_11])), (a, .inl (cC, 160, .inl f_10)), (g, .inr (0, [.ref ra])), (ra, .inl (cI, 31, .inl row_7))] := hD
  have hPc := hP.sub (ws' := [(sa, .inr (3, [.ref h, .ref g, .ref la, .int x2, .int ba])), (h, .inr (2, [.ref a, .int n_11])), (a, .inl (cC, 160, .inl f_10)), (g, .inr (0, [.ref ra])), (ra, .inl (cI, 31, .inl row_7))]) [0, 5, 6, 7, 8] rfl
  have hDc := hD.sub (ws' := [(sa, .inr (3, [.ref h, .ref g, .ref la, .int x2, .int ba])), (h, .inr (2, [.ref a, .int n_11])), (a, .inl (cC, 160, .inl f_10)), (g, .inr (0, [.ref ra])), (ra, .inl (cI, 31, .inl row_7))]) [0, 5, 6, 7, 8] (by decide) rfl
  have hKc := hK.sub (tys' := [(cC, .char), (cI, .int)]) [0, 1] rfl
  have hFc := va_free (wc := [(sa, .inr (3, [.ref h, .ref g, .ref la, .int x2, .int ba])), (h, .inr (2, [.ref a, .int n_11])), (a, .inl (cC, 160, .inl f_10)), (g, .inr (0, [.ref ra])), (ra, .inl (cI, 31, .inl row_7))]) hD hS hA [0, 5, 6, 7, 8] rfl
  refine va_callv (va_runV (As := [.int le, .int x12]) (rest := []) ⟨hx, hb, hml, hown, hT⟩ (c_Shape_putExponent l dC dI H.size cC cI sa h g la x2 ba a f_10 n_11 ra row_7 le x12 (by first | assumption | omega)) (cwV 2 hT g_Sh_134 rfl rfl rfl (by decide +kernel) ⟨Nat.le_of_ble_eq_true rfl, Nat.le_of_ble_eq_true rfl⟩) ⟨fun a U g mk q => by obtain ⟨q0, q1, qP, qK, qD, qN⟩ := q; exact ⟨q0, q1, qP, va_K.moved (u := U) (U := U.calling g mk a) (Vm.Alike.refl U.vm) qK, qD, qN.calling⟩, va_recv hKc hPc (ci := 3) (q0 := 0) rfl rfl, fun U hU hW => ⟨rfl, by rw [hU], by rw [hU]; exact hPc, va_K.moved hW.alike hKc, hDc.weaken (fun _ _ _ _ => trivial), hN.warm hW⟩⟩ rfl rfl hl.1 rfl (lv_room (Nat.le_of_ble_eq_true rfl)) d_Sh_formExponent_82 ⟨Nat.le_of_ble_eq_true rfl, Nat.le_of_ble_eq_true rfl⟩) hS (fun q _ h => hFc q h) hFc (fun u t H1 locs ht hvm w82_14 hB hz1 hk1 hS => ?_)
  obtain ⟨f_13, n_14⟩ := u
  obtain ⟨hP1, hK1, hD1⟩ := hB
  rw [ht] at hP1
  try dsimp only at w82_14
  obtain ⟨w82_14, w82_14b⟩ := w82_14
  obtain ⟨hP, hD⟩ := va_join (wr := [(fi, .inr (1, [.int mi, .int pl, .int ze, .int sh, .int bl, .int sw, .int sp, .int wi, .int pr, .int le, .int so, .int nx])), (vV, .inr (4, [.ref wV, .int decV, .int belV, .long ahV, .long bhV])), (wV, .inr (2, [.ref waV, .int nV])), (waV, .inl (cC, 60, .inl fV))]) (w1 := [(sa, .inr (3, [.ref h, .ref g, .ref la, .int x2, .int ba])), (h, .inr (2, [.ref a, .int n_14])), (a, .inl (cC, 160, .inl f_13)), (g, .inr (0, [.ref ra])), (ra, .inl (cI, 31, .inl row_7))]) hP hD [0, 5, 6, 7, 8] [1, 2, 3, 4] rfl rfl (by decide) (by decide) hk1 hFc hP1 hD1
  generalize H1 = H at hP hS ⊢
  have hP : va_P (dC, dI) CL [(fi, .inr (1, [.int mi, .int pl, .int ze, .int sh, .int bl, .int sw, .int sp, .int wi, .int pr, .int le, .int so, .int nx])), (vV, .inr (4, [.ref wV, .int decV, .int belV, .long ahV, .long bhV])), (wV, .inr (2, [.ref waV, .int nV])), (waV, .inl (cC, 60, .inl fV)), (sa, .inr (3, [.ref h, .ref g, .ref la, .int x2, .int ba])), (h, .inr (2, [.ref a, .int n_14])), (a, .inl (cC, 160, .inl f_13)), (g, .inr (0, [.ref ra])), (ra, .inl (cI, 31, .inl row_7))] H := hP
  have hD : va_D A [(fi, .inr (1, [.int mi, .int pl, .int ze, .int sh, .int bl, .int sw, .int sp, .int wi, .int pr, .int le, .int so, .int nx])), (vV, .inr (4, [.ref wV, .int decV, .int belV, .long ahV, .long bhV])), (wV, .inr (2, [.ref waV, .int nV])), (waV, .inl (cC, 60, .inl fV)), (sa, .inr (3, [.ref h, .ref g, .ref la, .int x2, .int ba])), (h, .inr (2, [.ref a, .int n_14])), (a, .inl (cC, 160, .inl f_13)), (g, .inr (0, [.ref ra])), (ra, .inl (cI, 31, .inl row_7))] := hD
  have hP9 := hP.sub (ws' := [(sa, .inr (3, [.ref h, .ref g, .ref la, .int x2, .int ba])), (h, .inr (2, [.ref a, .int n_14])), (a, .inl (cC, 160, .inl f_13)), (g, .inr (0, [.ref ra])), (ra, .inl (cI, 31, .inl row_7)), (vV, .inr (4, [.ref wV, .int decV, .int belV, .long ahV, .long bhV])), (wV, .inr (2, [.ref waV, .int nV])), (waV, .inl (cC, 60, .inl fV)), (fi, .inr (1, [.int mi, .int pl, .int ze, .int sh, .int bl, .int sw, .int sp, .int wi, .int pr, .int le, .int so, .int nx]))]) [4, 5, 6, 7, 8, 1, 2, 3, 0] rfl
  have hD9 := hD.sub (ws' := [(sa, .inr (3, [.ref h, .ref g, .ref la, .int x2, .int ba])), (h, .inr (2, [.ref a, .int n_14])), (a, .inl (cC, 160, .inl f_13)), (g, .inr (0, [.ref ra])), (ra, .inl (cI, 31, .inl row_7)), (vV, .inr (4, [.ref wV, .int decV, .int belV, .long ahV, .long bhV])), (wV, .inr (2, [.ref waV, .int nV])), (waV, .inl (cC, 60, .inl fV)), (fi, .inr (1, [.int mi, .int pl, .int ze, .int sh, .int bl, .int sw, .int sp, .int wi, .int pr, .int le, .int so, .int nx]))]) [4, 5, 6, 7, 8, 1, 2, 3, 0] (by decide) rfl
  have hK9 := hK.sub (tys' := [(cC, .char), (cI, .int)]) [0, 1] rfl
  have hq9 : x2 = fiSign belV pl bl ∧ row_7 = exRow bhV ahV pr row ∧ (f_13, n_14) = exLine bhV ahV pr sh le row (f, n) ∧ lnOK 160 n_14 := by
    have h9 : row_7 = exRow bhV ahV pr row := by rw [exRow, ← w3_1, ← w24_3, ← w35_4, ← ex5, ← ex6]; exact w42_7
    exact ⟨w13_2, h9, by rw [exLine, ← h9, ← w3_1, ← w57_8, ← ex9, ← w67_11, exPut_E, ← w79_12]; exact w82_14, w82_14b⟩
  exact W.vret hx hb hr (fun t ht hW => ⟨⟨(x2, row_7, f_13, n_14), rfl, hq9, by rw [ht]; exact hP9, va_K.moved hW.alike hK9, hD9⟩, hS.F ht⟩) hS.2.2 d_Sh_formExponent_85

set_option maxHeartbeats 4000000 in
set_option maxRecDepth 100000 in
theorem c_Shape_formQuoted (l : Launch) (dC : Nat → ClassId) (dI : Nat → Nat → Nat) (sz : Nat) (cC : ClassId) (sa : Nat) (h : Nat) (g : Nat) (la : Nat) (sg : Int32) (ba : Int32) (a : Nat) (f : Nat → Int32) (n : Int32) (vV : Nat) (wV : Nat) (waV : Nat) (decV : Int32) (belV : Int32) (ahV : Int64) (bhV : Int64) (fV : Nat → Int32) (nV : Int32) (fi : Nat) (mi : Int32) (pl : Int32) (ze : Int32) (sh : Int32) (bl : Int32) (sw : Int32) (sp : Int32) (wi : Int32) (pr : Int32) (le : Int32) (so : Int32) (nx : Int32) (hn : lnOK 160 n) (hnV : lnOK 60 nV) : Met l y_Sh_formQuoted w_Sh_formQuoted ({ frames := 2, cells := 0, slots := 0, locals := 42 } : Room) (va_Pc [.ref sa, .ref vV, .ref fi] (fun U => U.heap.size = sz ∧ va_P (dC, dI) CL [(sa, .inr (3, [.ref h, .ref g, .ref la, .int sg, .int ba])), (h, .inr (2, [.ref a, .int n])), (a, .inl (cC, 160, .inl f)), (vV, .inr (4, [.ref wV, .int decV, .int belV, .long ahV, .long bhV])), (wV, .inr (2, [.ref waV, .int nV])), (waV, .inl (cC, 60, .inl fV)), (fi, .inr (1, [.int mi, .int pl, .int ze, .int sh, .int bl, .int sw, .int sp, .int wi, .int pr, .int le, .int so, .int nx]))] U.heap ∧ va_K (dC, dI) CL [(cC, .char)] U ∧ va_D (fun _ => True) [(sa, .inr (3, [.ref h, .ref g, .ref la, .int sg, .int ba])), (h, .inr (2, [.ref a, .int n])), (a, .inl (cC, 160, .inl f)), (vV, .inr (4, [.ref wV, .int decV, .int belV, .long ahV, .long bhV])), (wV, .inr (2, [.ref waV, .int nV])), (waV, .inl (cC, 60, .inl fV)), (fi, .inr (1, [.int mi, .int pl, .int ze, .int sh, .int bl, .int sw, .int sp, .int wi, .int pr, .int le, .int so, .int nx]))] ∧ kN U)) (va_Qv (fun (u : (Nat → Int32) × Int32) => match u with | (f2, n2) => (f2, n2) = qtLine fV nV pr (f, n) ∧ lnOK 160 n2) (fun (u : (Nat → Int32) × Int32) (t : State) => match u with | (f2, n2) => va_P (dC, dI) CL [(sa, .inr (3, [.ref h, .ref g, .ref la, .int sg, .int ba])), (h, .inr (2, [.ref a, .int n2])), (a, .inl (cC, 160, .inl f2)), (vV, .inr (4, [.ref wV, .int decV, .int belV, .long ahV, .long bhV])), (wV, .inr (2, [.ref waV, .int nV])), (waV, .inl (cC, 60, .inl fV)), (fi, .inr (1, [.int mi, .int pl, .int ze, .int sh, .int bl, .int sw, .int sp, .int wi, .int pr, .int le, .int so, .int nx]))] t.heap ∧ va_K (dC, dI) CL [(cC, .char)] t ∧ va_D (va_A [(sa, .inr (3, [.ref h, .ref g, .ref la, .int sg, .int ba])), (h, .inr (2, [.ref a, .int n])), (a, .inl (cC, 160, .inl f)), (vV, .inr (4, [.ref wV, .int decV, .int belV, .long ahV, .long bhV])), (wV, .inr (2, [.ref waV, .int nV])), (waV, .inl (cC, 60, .inl fV)), (fi, .inr (1, [.int mi, .int pl, .int ze, .int sh, .int bl, .int sw, .int sp, .int wi, .int pr, .int le, .int so, .int nx]))] sz) [(sa, .inr (3, [.ref h, .ref g, .ref la, .int sg, .int ba])), (h, .inr (2, [.ref a, .int n2])), (a, .inl (cC, 160, .inl f2)), (vV, .inr (4, [.ref wV, .int decV, .int belV, .long ahV, .long bhV])), (wV, .inr (2, [.ref waV, .int nV])), (waV, .inl (cC, 60, .inl fV)), (fi, .inr (1, [.int mi, .int pl, .int ze, .int sh, .int bl, .int sw, .int sp, .int wi, .int pr, .int le, .int so, .int nx]))]) (va_A [(sa, .inr (3, [.ref h, .ref g, .ref la, .int sg, .int ba])), (h, .inr (2, [.ref a, .int n])), (a, .inl (cC, 160, .inl f)), (vV, .inr (4, [.ref wV, .int decV, .int belV, .long ahV, .long bhV])), (wV, .inr (2, [.ref waV, .int nV])), (waV, .inl (cC, 60, .inl fV)), (fi, .inr (1, [.int mi, .int pl, .int ze, .int sh, .int bl, .int sw, .int sp, .int wi, .int pr, .int le, .int so, .int nx]))] sz)) 0 0 (va_A [(sa, .inr (3, [.ref h, .ref g, .ref la, .int sg, .int ba])), (h, .inr (2, [.ref a, .int n])), (a, .inl (cC, 160, .inl f)), (vV, .inr (4, [.ref wV, .int decV, .int belV, .long ahV, .long bhV])), (wV, .inr (2, [.ref waV, .int nV])), (waV, .inl (cC, 60, .inl fV)), (fi, .inr (1, [.int mi, .int pl, .int ze, .int sh, .int bl, .int sw, .int sp, .int wi, .int pr, .int le, .int so, .int nx]))] sz) := by
  refine Met.ofW (cc := b_Sh_formQuoted) (maxL := 6) (ret := none) (by decide) rfl ?_
  intro p e s m args below meth c s₁ B hml hv
  obtain ⟨rfl, hsz, hP, hK, hD0, hN⟩ := hv
  have hx := B.exec
  have hb := B.bytes
  have hr := B.returns
  have hts := atoms_spec (ws := w_Sh_formQuoted) B.pre
  have hT : ∀ w ∈ TB, w.before _ s = true := fun w h => hts w (List.mem_cons_of_mem _ h)
  have hown : s.vm.findClass R_Sh = some m.cls := findClass_of_methodNamed B.named
  have hlocks := B.notSynchronized
  subst hsz
  have hD := hD0.self (sz := s.heap.size)
  generalize hAe : va_A [(sa, .inr (3, [.ref h, .ref g, .ref la, .int sg, .int ba])), (h, .inr (2, [.ref a, .int n])), (a, .inl (cC, 160, .inl f)), (vV, .inr (4, [.ref wV, .int decV, .int belV, .long ahV, .long bhV])), (wV, .inr (2, [.ref waV, .int nV])), (waV, .inl (cC, 60, .inl fV)), (fi, .inr (1, [.int mi, .int pl, .int ze, .int sh, .int bl, .int sw, .int sp, .int wi, .int pr, .int le, .int so, .int nx]))] s.heap.size = A at hD ⊢
  have hA : ∀ q : Nat, s.heap.size ≤ q → A q := fun q h => by rw [← hAe]; exact Or.inr h
  have hS : va_S A s.heap s.heap [] := va_S.rf
  have hP : va_P (dC, dI) CL [(sa, .inr (3, [.ref h, .ref g, .ref la, .int sg, .int ba])), (h, .inr (2, [.ref a, .int n])), (a, .inl (cC, 160, .inl f)), (vV, .inr (4, [.ref wV, .int decV, .int belV, .long ahV, .long bhV])), (wV, .inr (2, [.ref waV, .int nV])), (waV, .inl (cC, 60, .inl fV)), (fi, .inr (1, [.int mi, .int pl, .int ze, .int sh, .int bl, .int sw, .int sp, .int wi, .int pr, .int le, .int so, .int nx]))] s.heap := hP
  have hl := lv_entry ([.ref sa, .ref vV, .ref fi]) (n := 6) (Nat.le_of_ble_eq_true rfl)
  rw [lg_entry_eq]
  generalize (lg_sl ([.ref sa, .ref vV, .ref fi]) ++ List.replicate (6 - (lg_sl ([.ref sa, .ref vV, .ref fi])).length) Slot.unset).toArray = ls at hl ⊢
  have hl : lv_has ls 6 [(0, .ref sa), (1, .ref vV), (2, .ref fi)] := hl
  refine k_Q (fun Q hQ => ?_)
  refine lv_aload_n hx hb d_Sh_formQuoted_0 rfl (lv_at hl 1 rfl) ?_
  refine lv_aload_n hx hb d_Sh_formQuoted_1 rfl (lv_at hl 2 rfl) ?_
  have hPc := hP.sub (ws' := [(vV, .inr (4, [.ref wV, .int decV, .int belV, .long ahV, .long bhV])), (wV, .inr (2, [.ref waV, .int nV])), (waV, .inl (cC, 60, .inl fV)), (fi, .inr (1, [.int mi, .int pl, .int ze, .int sh, .int bl, .int sw, .int sp, .int wi, .int pr, .int le, .int so, .int nx]))]) [3, 4, 5, 6] rfl
  have hDc := hD.sub (ws' := [(vV, .inr (4, [.ref wV, .int decV, .int belV, .long ahV, .long bhV])), (wV, .inr (2, [.ref waV, .int nV])), (waV, .inl (cC, 60, .inl fV)), (fi, .inr (1, [.int mi, .int pl, .int ze, .int sh, .int bl, .int sw, .int sp, .int wi, .int pr, .int le, .int so, .int nx]))]) [3, 4, 5, 6] (by decide) rfl
  have hKc := hK.sub (tys' := [(cC, .char)]) [0] rfl
  have hFc := va_free (wc := [(vV, .inr (4, [.ref wV, .int decV, .int belV, .long ahV, .long bhV])), (wV, .inr (2, [.ref waV, .int nV])), (waV, .inl (cC, 60, .inl fV)), (fi, .inr (1, [.int mi, .int pl, .int ze, .int sh, .int bl, .int sw, .int sp, .int wi, .int pr, .int le, .int so, .int nx]))]) hD hS hA [3, 4, 5, 6] rfl
  refine va_calli (va_runS (As := [.ref vV, .ref fi]) (rest := []) ⟨hx, hb, hml, hown, hT⟩ (c_Shape_cutLength l dC dI s.heap.size cC vV wV waV decV belV ahV bhV fV nV fi mi pl ze sh bl sw sp wi pr le so nx ) (cwS 2 hT g_Sh_75 rfl rfl rfl (by decide +kernel) ⟨Nat.le_of_ble_eq_true rfl, Nat.le_of_ble_eq_true rfl⟩) ⟨fun a U g mk q => by obtain ⟨q0, q1, qP, qK, qD, qN⟩ := q; exact ⟨q0, q1, qP, va_K.moved (u := U) (U := U.calling g mk a) (Vm.Alike.refl U.vm) qK, qD, qN.calling⟩, fun U hU hW => ⟨rfl, by rw [hU], by rw [hU]; exact hPc, va_K.moved hW.alike hKc, hDc.weaken (fun _ _ _ _ => trivial), hN.warm hW⟩⟩ rfl rfl hl.1 rfl (lv_room (Nat.le_of_ble_eq_true rfl)) d_Sh_formQuoted_2 ⟨Nat.le_of_ble_eq_true rfl, Nat.le_of_ble_eq_true rfl⟩) hS (fun q _ h => hFc q h) hFc (fun x1 u t H1 locs ht hvm w2_1 hB hz1 hk1 hS => ?_)
  obtain ⟨hP1, hK1, hD1⟩ := hB
  rw [ht] at hP1
  try dsimp only at w2_1
  obtain ⟨hP, hD⟩ := va_join (wr := [(sa, .inr (3, [.ref h, .ref g, .ref la, .int sg, .int ba])), (h, .inr (2, [.ref a, .int n])), (a, .inl (cC, 160, .inl f))]) (w1 := [(vV, .inr (4, [.ref wV, .int decV, .int belV, .long ahV, .long bhV])), (wV, .inr (2, [.ref waV, .int nV])), (waV, .inl (cC, 60, .inl fV)), (fi, .inr (1, [.int mi, .int pl, .int ze, .int sh, .int bl, .int sw, .int sp, .int wi, .int pr, .int le, .int so, .int nx]))]) hP hD [3, 4, 5, 6] [0, 1, 2] rfl rfl (by decide) (by decide) hk1 hFc hP1 hD1
  generalize H1 = H at hP hS ⊢
  have hP : va_P (dC, dI) CL [(sa, .inr (3, [.ref h, .ref g, .ref la, .int sg, .int ba])), (h, .inr (2, [.ref a, .int n])), (a, .inl (cC, 160, .inl f)), (vV, .inr (4, [.ref wV, .int decV, .int belV, .long ahV, .long bhV])), (wV, .inr (2, [.ref waV, .int nV])), (waV, .inl (cC, 60, .inl fV)), (fi, .inr (1, [.int mi, .int pl, .int ze, .int sh, .int bl, .int sw, .int sp, .int wi, .int pr, .int le, .int so, .int nx]))] H := hP
  have hD : va_D A [(sa, .inr (3, [.ref h, .ref g, .ref la, .int sg, .int ba])), (h, .inr (2, [.ref a, .int n])), (a, .inl (cC, 160, .inl f)), (vV, .inr (4, [.ref wV, .int decV, .int belV, .long ahV, .long bhV])), (wV, .inr (2, [.ref waV, .int nV])), (waV, .inl (cC, 60, .inl fV)), (fi, .inr (1, [.int mi, .int pl, .int ze, .int sh, .int bl, .int sw, .int sp, .int wi, .int pr, .int le, .int so, .int nx]))] := hD
  refine lv_istore_n (lv' := [(3, .int x1), (0, .ref sa), (1, .ref vV), (2, .ref fi)]) hx hb d_Sh_formQuoted_5 rfl hl (by decide) rfl (fun ls hl => ?_)
  refine lv_aload_n hx hb d_Sh_formQuoted_6 rfl (lv_at hl 1 rfl) ?_
  refine va_get (D := (dC, dI)) (ci := 3) (v := .ref h) (C := R_Sh) (T := F_Sh) (N := 5) hx hb hT (in_Sh) hown hK hP 0 rfl rfl 0 (by decide) (hT _ t_141) (fun _ h9 => h9) rfl d_Sh_formQuoted_7 ?_
  refine lv_bipush (v := 34) hx hb d_Sh_formQuoted_10 (by decide) ?_
  have hPc := hP.sub (ws' := [(h, .inr (2, [.ref a, .int n])), (a, .inl (cC, 160, .inl f))]) [1, 2] rfl
  have hDc := hD.sub (ws' := [(h, .inr (2, [.ref a, .int n])), (a, .inl (cC, 160, .inl f))]) [1, 2] (by decide) rfl
  have hKc := hK.sub (tys' := [(cC, .char)]) [0] rfl
  have hFc := va_free (wc := [(h, .inr (2, [.ref a, .int n])), (a, .inl (cC, 160, .inl f))]) hD hS hA [1, 2] rfl
  refine va_callv (va_runV (As := [.int 34]) (rest := []) ⟨hx, hb, hml, hown, hT⟩ (c_Line_add l dC dI H.size cC h a 160 f n 34 hn) (cwV 1 hT g_Sh_69 rfl rfl rfl (by decide +kernel) ⟨Nat.le_of_ble_eq_true rfl, Nat.le_of_ble_eq_true rfl⟩) ⟨fun a U g mk q => by obtain ⟨q0, q1, qP, qK, qD⟩ := q; exact ⟨q0, q1, qP, va_K.moved (u := U) (U := U.calling g mk a) (Vm.Alike.refl U.vm) qK, qD⟩, va_recv hKc hPc (ci := 2) (q0 := 0) rfl rfl, fun U hU hW => ⟨rfl, by rw [hU], by rw [hU]; exact hPc, va_K.moved hW.alike hKc, hDc.weaken (fun _ _ _ _ => trivial)⟩⟩ rfl rfl hl.1 rfl (lv_room (Nat.le_of_ble_eq_true rfl)) d_Sh_formQuoted_12 ⟨Nat.le_of_ble_eq_true rfl, Nat.le_of_ble_eq_true rfl⟩) hS (fun q _ h => hFc q h) hFc (fun u t H1 locs ht hvm w12_3 hB hz1 hk1 hS => ?_)
  obtain ⟨f_2, n_3⟩ := u
  obtain ⟨hP1, hK1, hD1⟩ := hB
  rw [ht] at hP1
  try dsimp only at w12_3
  obtain ⟨w12_3, w12_3b⟩ := w12_3
  obtain ⟨hP, hD⟩ := va_join (wr := [(sa, .inr (3, [.ref h, .ref g, .ref la, .int sg, .int ba])), (vV, .inr (4, [.ref wV, .int decV, .int belV, .long ahV, .long bhV])), (wV, .inr (2, [.ref waV, .int nV])), (waV, .inl (cC, 60, .inl fV)), (fi, .inr (1, [.int mi, .int pl, .int ze, .int sh, .int bl, .int sw, .int sp, .int wi, .int pr, .int le, .int so, .int nx]))]) (w1 := [(h, .inr (2, [.ref a, .int n_3])), (a, .inl (cC, 160, .inl f_2))]) hP hD [1, 2] [0, 3, 4, 5, 6] rfl rfl (by decide) (by decide) hk1 hFc hP1 hD1
  generalize H1 = H at hP hS ⊢
  have hP : va_P (dC, dI) CL [(sa, .inr (3, [.ref h, .ref g, .ref la, .int sg, .int ba])), (vV, .inr (4, [.ref wV, .int decV, .int belV, .long ahV, .long bhV])), (wV, .inr (2, [.ref waV, .int nV])), (waV, .inl (cC, 60, .inl fV)), (fi, .inr (1, [.int mi, .int pl, .int ze, .int sh, .int bl, .int sw, .int sp, .int wi, .int pr, .int le, .int so, .int nx])), (h, .inr (2, [.ref a, .int n_3])), (a, .inl (cC, 160, .inl f_2))] H := hP
  have hD : va_D A [(sa, .inr (3, [.ref h, .ref g, .ref la, .int sg, .int ba])), (vV, .inr (4, [.ref wV, .int decV, .int belV, .long ahV, .long bhV])), (wV, .inr (2, [.ref waV, .int nV])), (waV, .inl (cC, 60, .inl fV)), (fi, .inr (1, [.int mi, .int pl, .int ze, .int sh, .int bl, .int sw, .int sp, .int wi, .int pr, .int le, .int so, .int nx])), (h, .inr (2, [.ref a, .int n_3])), (a, .inl (cC, 160, .inl f_2))] := hD
  refine lv_iconst (v := 0) hx hb d_Sh_formQuoted_15 (by decide) ?_
  refine lv_istore (lv' := [(4, .int 0), (3, .int x1), (0, .ref sa), (1, .ref vV), (2, .ref fi)]) hx hb d_Sh_formQuoted_16 hl (by decide) rfl (fun ls hl => ?_)
  have loop18 : ∀ (fuel : Nat) (i : Int32) (n3 : Int32) (f3 : Nat → Int32) (H : Heap) (locs : List Loc) (ls : Array Slot), ((x1.toInt - i.toInt).toNat < fuel) → (lnOK 160 n3) → (lnAdd 160 (qtGo fV nV x1 fuel i (f3, n3)) 34 = qtLine fV nV pr (f, n)) → va_P (dC, dI) CL [(sa, .inr (3, [.ref h, .ref g, .ref la, .int sg, .int ba])), (vV, .inr (4, [.ref wV, .int decV, .int belV, .long ahV, .long bhV])), (wV, .inr (2, [.ref waV, .int nV])), (waV, .inl (cC, 60, .inl fV)), (fi, .inr (1, [.int mi, .int pl, .int ze, .int sh, .int bl, .int sw, .int sp, .int wi, .int pr, .int le, .int so, .int nx])), (h, .inr (2, [.ref a, .int n3])), (a, .inl (cC, 160, .inl f3))] H → va_D A [(sa, .inr (3, [.ref h, .ref g, .ref la, .int sg, .int ba])), (vV, .inr (4, [.ref wV, .int decV, .int belV, .long ahV, .long bhV])), (wV, .inr (2, [.ref waV, .int nV])), (waV, .inl (cC, 60, .inl fV)), (fi, .inr (1, [.int mi, .int pl, .int ze, .int sh, .int bl, .int sw, .int sp, .int wi, .int pr, .int le, .int so, .int nx])), (h, .inr (2, [.ref a, .int n3])), (a, .inl (cC, 160, .inl f3))] → va_S A s.heap H locs → lv_has ls 6 [(4, .int i), (3, .int x1), (0, .ref sa), (1, .ref vV), (2, .ref fi)] → W p l e (headSpec w_Sh_formQuoted ({ frames := 2, cells := 0, slots := 0, locals := 42 } : Room)).room s m ([.ref sa, .ref vV, .ref fi] : List Value).toArray below meth c H locs 0 0 Q (F0 m 18 ls []) := by
    intro fuel
    induction fuel with
    | zero =>
      intro i n3 f3 H locs ls hk hn3 hG hP hD hS hl
      exact absurd hk (Nat.not_lt_zero _)
    | succ fuel ih =>
      intro i n3 f3 H locs ls hk hn3 hG hP hD hS hl
      refine lv_iload hx hb d_Sh_formQuoted_18 (lv_at hl 0 rfl) ?_
      refine lv_iload_n hx hb d_Sh_formQuoted_20 rfl (lv_at hl 1 rfl) ?_
      refine lv_icmp_ge (tgt := 73) hx hb d_Sh_formQuoted_21 (by decide) (fun c21_4 => ?_) (fun c21_4 => ?_)
      · skip
        have hE1 : lnAdd 160 (f3, n3) 34 = qtLine fV nV pr (f, n) := by have h9 := hG; rw [qtGo, if_pos c21_4] at h9; exact h9
        refine lv_aload_n hx hb d_Sh_formQuoted_73 rfl (lv_at hl 2 rfl) ?_
        refine va_get (D := (dC, dI)) (ci := 3) (v := .ref h) (C := R_Sh) (T := F_Sh) (N := 5) hx hb hT (in_Sh) hown hK hP 0 rfl rfl 0 (by decide) (hT _ t_141) (fun _ h9 => h9) rfl d_Sh_formQuoted_74 ?_
        refine lv_bipush (v := 34) hx hb d_Sh_formQuoted_77 (by decide) ?_
        have hPc := hP.sub (ws' := [(h, .inr (2, [.ref a, .int n3])), (a, .inl (cC, 160, .inl f3))]) [5, 6] rfl
        have hDc := hD.sub (ws' := [(h, .inr (2, [.ref a, .int n3])), (a, .inl (cC, 160, .inl f3))]) [5, 6] (by decide) rfl
        have hKc := hK.sub (tys' := [(cC, .char)]) [0] rfl
        have hFc := va_free (wc := [(h, .inr (2, [.ref a, .int n3])), (a, .inl (cC, 160, .inl f3))]) hD hS hA [5, 6] rfl
        refine va_callv (va_runV (As := [.int 34]) (rest := []) ⟨hx, hb, hml, hown, hT⟩ (c_Line_add l dC dI H.size cC h a 160 f3 n3 34 hn3) (cwV 1 hT g_Sh_69 rfl rfl rfl (by decide +kernel) ⟨Nat.le_of_ble_eq_true rfl, Nat.le_of_ble_eq_true rfl⟩) ⟨fun a U g mk q => by obtain ⟨q0, q1, qP, qK, qD⟩ := q; exact ⟨q0, q1, qP, va_K.moved (u := U) (U := U.calling g mk a) (Vm.Alike.refl U.vm) qK, qD⟩, va_recv hKc hPc (ci := 2) (q0 := 0) rfl rfl, fun U hU hW => ⟨rfl, by rw [hU], by rw [hU]; exact hPc, va_K.moved hW.alike hKc, hDc.weaken (fun _ _ _ _ => trivial)⟩⟩ rfl rfl hl.1 rfl (lv_room (Nat.le_of_ble_eq_true rfl)) d_Sh_formQuoted_79 ⟨Nat.le_of_ble_eq_true rfl, Nat.le_of_ble_eq_true rfl⟩) hS (fun q _ h => hFc q h) hFc (fun u t H1 locs ht hvm w79_6 hB hz1 hk1 hS => ?_)
        obtain ⟨f_5, n_6⟩ := u
        obtain ⟨hP1, hK1, hD1⟩ := hB
        rw [ht] at hP1
        try dsimp only at w79_6
        obtain ⟨w79_6, w79_6b⟩ := w79_6
        obtain ⟨hP, hD⟩ := va_join (wr := [(sa, .inr (3, [.ref h, .ref g, .ref la, .int sg, .int ba])), (vV, .inr (4, [.ref wV, .int decV, .int belV, .long ahV, .long bhV])), (wV, .inr (2, [.ref waV, .int nV])), (waV, .inl (cC, 60, .inl fV)), (fi, .inr (1, [.int mi, .int pl, .int ze, .int sh, .int bl, .int sw, .int sp, .int wi, .int pr, .int le, .int so, .int nx]))]) (w1 := [(h, .inr (2, [.ref a, .int n_6])), (a, .inl (cC, 160, .inl f_5))]) hP hD [5, 6] [0, 1, 2, 3, 4] rfl rfl (by decide) (by decide) hk1 hFc hP1 hD1
        generalize H1 = H at hP hS ⊢
        have hP : va_P (dC, dI) CL [(sa, .inr (3, [.ref h, .ref g, .ref la, .int sg, .int ba])), (vV, .inr (4, [.ref wV, .int decV, .int belV, .long ahV, .long bhV])), (wV, .inr (2, [.ref waV, .int nV])), (waV, .inl (cC, 60, .inl fV)), (fi, .inr (1, [.int mi, .int pl, .int ze, .int sh, .int bl, .int sw, .int sp, .int wi, .int pr, .int le, .int so, .int nx])), (h, .inr (2, [.ref a, .int n_6])), (a, .inl (cC, 160, .inl f_5))] H := hP
        have hD : va_D A [(sa, .inr (3, [.ref h, .ref g, .ref la, .int sg, .int ba])), (vV, .inr (4, [.ref wV, .int decV, .int belV, .long ahV, .long bhV])), (wV, .inr (2, [.ref waV, .int nV])), (waV, .inl (cC, 60, .inl fV)), (fi, .inr (1, [.int mi, .int pl, .int ze, .int sh, .int bl, .int sw, .int sp, .int wi, .int pr, .int le, .int so, .int nx])), (h, .inr (2, [.ref a, .int n_6])), (a, .inl (cC, 160, .inl f_5))] := hD
        have hP9 := hP.sub (ws' := [(sa, .inr (3, [.ref h, .ref g, .ref la, .int sg, .int ba])), (h, .inr (2, [.ref a, .int n_6])), (a, .inl (cC, 160, .inl f_5)), (vV, .inr (4, [.ref wV, .int decV, .int belV, .long ahV, .long bhV])), (wV, .inr (2, [.ref waV, .int nV])), (waV, .inl (cC, 60, .inl fV)), (fi, .inr (1, [.int mi, .int pl, .int ze, .int sh, .int bl, .int sw, .int sp, .int wi, .int pr, .int le, .int so, .int nx]))]) [0, 5, 6, 1, 2, 3, 4] rfl
        have hD9 := hD.sub (ws' := [(sa, .inr (3, [.ref h, .ref g, .ref la, .int sg, .int ba])), (h, .inr (2, [.ref a, .int n_6])), (a, .inl (cC, 160, .inl f_5)), (vV, .inr (4, [.ref wV, .int decV, .int belV, .long ahV, .long bhV])), (wV, .inr (2, [.ref waV, .int nV])), (waV, .inl (cC, 60, .inl fV)), (fi, .inr (1, [.int mi, .int pl, .int ze, .int sh, .int bl, .int sw, .int sp, .int wi, .int pr, .int le, .int so, .int nx]))]) [0, 5, 6, 1, 2, 3, 4] (by decide) rfl
        have hK9 := hK.sub (tys' := [(cC, .char)]) [0] rfl
        have hq9 : (f_5, n_6) = qtLine fV nV pr (f, n) ∧ lnOK 160 n_6 := by rw [← hE1]; exact ⟨w79_6, w79_6b⟩
        subst hQ
        exact W.vret hx hb hr (fun t ht hW => ⟨⟨(f_5, n_6), rfl, hq9, by rw [ht]; exact hP9, va_K.moved hW.alike hK9, hD9⟩, hS.F ht⟩) hS.2.2 d_Sh_formQuoted_82
      · skip
        refine lv_aload_n hx hb d_Sh_formQuoted_24 rfl (lv_at hl 3 rfl) ?_
        refine va_getN (D := (dC, dI)) (ci := 4) (v := .ref wV) (C := R_Va) (T := F_Va) (N := 5) hx hb hT (in_Va) hown hK hP 1 rfl rfl 0 (by decide) (va_Nw.use rfl (kN_50 hN)) (fun _ h9 => h9) rfl d_Sh_formQuoted_25 ?_
        refine lv_iload hx hb d_Sh_formQuoted_28 (lv_at hl 0 rfl) ?_
        have hPc := hP.sub (ws' := [(wV, .inr (2, [.ref waV, .int nV])), (waV, .inl (cC, 60, .inl fV))]) [2, 3] rfl
        have hDc := hD.sub (ws' := [(wV, .inr (2, [.ref waV, .int nV])), (waV, .inl (cC, 60, .inl fV))]) [2, 3] (by decide) rfl
        have hKc := hK.sub (tys' := [(cC, .char)]) [0] rfl
        have hFc := va_free (wc := [(wV, .inr (2, [.ref waV, .int nV])), (waV, .inl (cC, 60, .inl fV))]) hD hS hA [2, 3] rfl
        refine va_calli (va_runV (As := [.int i]) (rest := []) ⟨hx, hb, hml, hown, hT⟩ (c_Line_at l dC dI H.size cC wV waV 60 fV nV i hnV) (cwV 1 hT g_Sh_155 rfl rfl rfl (by decide +kernel) ⟨Nat.le_of_ble_eq_true rfl, Nat.le_of_ble_eq_true rfl⟩) ⟨fun a U g mk q => by obtain ⟨q0, q1, qP, qK, qD⟩ := q; exact ⟨q0, q1, qP, va_K.moved (u := U) (U := U.calling g mk a) (Vm.Alike.refl U.vm) qK, qD⟩, va_recv hKc hPc (ci := 2) (q0 := 0) rfl rfl, fun U hU hW => ⟨rfl, by rw [hU], by rw [hU]; exact hPc, va_K.moved hW.alike hKc, hDc.weaken (fun _ _ _ _ => trivial)⟩⟩ rfl rfl hl.1 rfl (lv_room (Nat.le_of_ble_eq_true rfl)) d_Sh_formQuoted_30 ⟨Nat.le_of_ble_eq_true rfl, Nat.le_of_ble_eq_true rfl⟩) hS (fun q _ h => hFc q h) hFc (fun x7 u t H1 locs ht hvm w30_7 hB hz1 hk1 hS => ?_)
        obtain ⟨hP1, hK1, hD1⟩ := hB
        rw [ht] at hP1
        try dsimp only at w30_7
        obtain ⟨hP, hD⟩ := va_join (wr := [(sa, .inr (3, [.ref h, .ref g, .ref la, .int sg, .int ba])), (vV, .inr (4, [.ref wV, .int decV, .int belV, .long ahV, .long bhV])), (fi, .inr (1, [.int mi, .int pl, .int ze, .int sh, .int bl, .int sw, .int sp, .int wi, .int pr, .int le, .int so, .int nx])), (h, .inr (2, [.ref a, .int n3])), (a, .inl (cC, 160, .inl f3))]) (w1 := [(wV, .inr (2, [.ref waV, .int nV])), (waV, .inl (cC, 60, .inl fV))]) hP hD [2, 3] [0, 1, 4, 5, 6] rfl rfl (by decide) (by decide) hk1 hFc hP1 hD1
        generalize H1 = H at hP hS ⊢
        have hP : va_P (dC, dI) CL [(sa, .inr (3, [.ref h, .ref g, .ref la, .int sg, .int ba])), (vV, .inr (4, [.ref wV, .int decV, .int belV, .long ahV, .long bhV])), (fi, .inr (1, [.int mi, .int pl, .int ze, .int sh, .int bl, .int sw, .int sp, .int wi, .int pr, .int le, .int so, .int nx])), (h, .inr (2, [.ref a, .int n3])), (a, .inl (cC, 160, .inl f3)), (wV, .inr (2, [.ref waV, .int nV])), (waV, .inl (cC, 60, .inl fV))] H := hP
        have hD : va_D A [(sa, .inr (3, [.ref h, .ref g, .ref la, .int sg, .int ba])), (vV, .inr (4, [.ref wV, .int decV, .int belV, .long ahV, .long bhV])), (fi, .inr (1, [.int mi, .int pl, .int ze, .int sh, .int bl, .int sw, .int sp, .int wi, .int pr, .int le, .int so, .int nx])), (h, .inr (2, [.ref a, .int n3])), (a, .inl (cC, 160, .inl f3)), (wV, .inr (2, [.ref waV, .int nV])), (waV, .inl (cC, 60, .inl fV))] := hD
        refine lv_istore (lv' := [(5, .int x7), (4, .int i), (3, .int x1), (0, .ref sa), (1, .ref vV), (2, .ref fi)]) hx hb d_Sh_formQuoted_33 hl (by decide) rfl (fun ls hl => ?_)
        refine lv_iload hx hb d_Sh_formQuoted_35 (lv_at hl 0 rfl) ?_
        refine lv_bipush (v := 34) hx hb d_Sh_formQuoted_37 (by decide) ?_
        refine lv_icmp_eq (tgt := 49) hx hb d_Sh_formQuoted_39 (by decide) (fun c39_8 => ?_) (fun c39_8 => ?_)
        · skip
          refine lv_aload_n hx hb d_Sh_formQuoted_49 rfl (lv_at hl 3 rfl) ?_
          refine va_get (D := (dC, dI)) (ci := 3) (v := .ref h) (C := R_Sh) (T := F_Sh) (N := 5) hx hb hT (in_Sh) hown hK hP 0 rfl rfl 0 (by decide) (hT _ t_141) (fun _ h9 => h9) rfl d_Sh_formQuoted_50 ?_
          refine lv_bipush (v := 92) hx hb d_Sh_formQuoted_53 (by decide) ?_
          have hPc := hP.sub (ws' := [(h, .inr (2, [.ref a, .int n3])), (a, .inl (cC, 160, .inl f3))]) [3, 4] rfl
          have hDc := hD.sub (ws' := [(h, .inr (2, [.ref a, .int n3])), (a, .inl (cC, 160, .inl f3))]) [3, 4] (by decide) rfl
          have hKc := hK.sub (tys' := [(cC, .char)]) [0] rfl
          have hFc := va_free (wc := [(h, .inr (2, [.ref a, .int n3])), (a, .inl (cC, 160, .inl f3))]) hD hS hA [3, 4] rfl
          refine va_callv (va_runV (As := [.int 92]) (rest := []) ⟨hx, hb, hml, hown, hT⟩ (c_Line_add l dC dI H.size cC h a 160 f3 n3 92 hn3) (cwV 1 hT g_Sh_69 rfl rfl rfl (by decide +kernel) ⟨Nat.le_of_ble_eq_true rfl, Nat.le_of_ble_eq_true rfl⟩) ⟨fun a U g mk q => by obtain ⟨q0, q1, qP, qK, qD⟩ := q; exact ⟨q0, q1, qP, va_K.moved (u := U) (U := U.calling g mk a) (Vm.Alike.refl U.vm) qK, qD⟩, va_recv hKc hPc (ci := 2) (q0 := 0) rfl rfl, fun U hU hW => ⟨rfl, by rw [hU], by rw [hU]; exact hPc, va_K.moved hW.alike hKc, hDc.weaken (fun _ _ _ _ => trivial)⟩⟩ rfl rfl hl.1 rfl (lv_room (Nat.le_of_ble_eq_true rfl)) d_Sh_formQuoted_55 ⟨Nat.le_of_ble_eq_true rfl, Nat.le_of_ble_eq_true rfl⟩) hS (fun q _ h => hFc q h) hFc (fun u t H1 locs ht hvm w55_10 hB hz1 hk1 hS => ?_)
          obtain ⟨f_9, n_10⟩ := u
          obtain ⟨hP1, hK1, hD1⟩ := hB
          rw [ht] at hP1
          try dsimp only at w55_10
          obtain ⟨w55_10, w55_10b⟩ := w55_10
          obtain ⟨hP, hD⟩ := va_join (wr := [(sa, .inr (3, [.ref h, .ref g, .ref la, .int sg, .int ba])), (vV, .inr (4, [.ref wV, .int decV, .int belV, .long ahV, .long bhV])), (fi, .inr (1, [.int mi, .int pl, .int ze, .int sh, .int bl, .int sw, .int sp, .int wi, .int pr, .int le, .int so, .int nx])), (wV, .inr (2, [.ref waV, .int nV])), (waV, .inl (cC, 60, .inl fV))]) (w1 := [(h, .inr (2, [.ref a, .int n_10])), (a, .inl (cC, 160, .inl f_9))]) hP hD [3, 4] [0, 1, 2, 5, 6] rfl rfl (by decide) (by decide) hk1 hFc hP1 hD1
          generalize H1 = H at hP hS ⊢
          have hP : va_P (dC, dI) CL [(sa, .inr (3, [.ref h, .ref g, .ref la, .int sg, .int ba])), (vV, .inr (4, [.ref wV, .int decV, .int belV, .long ahV, .long bhV])), (fi, .inr (1, [.int mi, .int pl, .int ze, .int sh, .int bl, .int sw, .int sp, .int wi, .int pr, .int le, .int so, .int nx])), (wV, .inr (2, [.ref waV, .int nV])), (waV, .inl (cC, 60, .inl fV)), (h, .inr (2, [.ref a, .int n_10])), (a, .inl (cC, 160, .inl f_9))] H := hP
          have hD : va_D A [(sa, .inr (3, [.ref h, .ref g, .ref la, .int sg, .int ba])), (vV, .inr (4, [.ref wV, .int decV, .int belV, .long ahV, .long bhV])), (fi, .inr (1, [.int mi, .int pl, .int ze, .int sh, .int bl, .int sw, .int sp, .int wi, .int pr, .int le, .int so, .int nx])), (wV, .inr (2, [.ref waV, .int nV])), (waV, .inl (cC, 60, .inl fV)), (h, .inr (2, [.ref a, .int n_10])), (a, .inl (cC, 160, .inl f_9))] := hD
          refine lv_aload_n hx hb d_Sh_formQuoted_58 rfl (lv_at hl 3 rfl) ?_
          refine va_get (D := (dC, dI)) (ci := 3) (v := .ref h) (C := R_Sh) (T := F_Sh) (N := 5) hx hb hT (in_Sh) hown hK hP 0 rfl rfl 0 (by decide) (hT _ t_141) (fun _ h9 => h9) rfl d_Sh_formQuoted_59 ?_
          refine lv_iload hx hb d_Sh_formQuoted_62 (lv_at hl 0 rfl) ?_
          have hPc := hP.sub (ws' := [(h, .inr (2, [.ref a, .int n_10])), (a, .inl (cC, 160, .inl f_9))]) [5, 6] rfl
          have hDc := hD.sub (ws' := [(h, .inr (2, [.ref a, .int n_10])), (a, .inl (cC, 160, .inl f_9))]) [5, 6] (by decide) rfl
          have hKc := hK.sub (tys' := [(cC, .char)]) [0] rfl
          have hFc := va_free (wc := [(h, .inr (2, [.ref a, .int n_10])), (a, .inl (cC, 160, .inl f_9))]) hD hS hA [5, 6] rfl
          refine va_callv (va_runV (As := [.int x7]) (rest := []) ⟨hx, hb, hml, hown, hT⟩ (c_Line_add l dC dI H.size cC h a 160 f_9 n_10 x7 (by first | exact hn3 | assumption)) (cwV 1 hT g_Sh_69 rfl rfl rfl (by decide +kernel) ⟨Nat.le_of_ble_eq_true rfl, Nat.le_of_ble_eq_true rfl⟩) ⟨fun a U g mk q => by obtain ⟨q0, q1, qP, qK, qD⟩ := q; exact ⟨q0, q1, qP, va_K.moved (u := U) (U := U.calling g mk a) (Vm.Alike.refl U.vm) qK, qD⟩, va_recv hKc hPc (ci := 2) (q0 := 0) rfl rfl, fun U hU hW => ⟨rfl, by rw [hU], by rw [hU]; exact hPc, va_K.moved hW.alike hKc, hDc.weaken (fun _ _ _ _ => trivial)⟩⟩ rfl rfl hl.1 rfl (lv_room (Nat.le_of_ble_eq_true rfl)) d_Sh_formQuoted_64 ⟨Nat.le_of_ble_eq_true rfl, Nat.le_of_ble_eq_true rfl⟩) hS (fun q _ h => hFc q h) hFc (fun u t H1 locs ht hvm w64_12 hB hz1 hk1 hS => ?_)
          obtain ⟨f_11, n_12⟩ := u
          obtain ⟨hP1, hK1, hD1⟩ := hB
          rw [ht] at hP1
          try dsimp only at w64_12
          obtain ⟨w64_12, w64_12b⟩ := w64_12
          obtain ⟨hP, hD⟩ := va_join (wr := [(sa, .inr (3, [.ref h, .ref g, .ref la, .int sg, .int ba])), (vV, .inr (4, [.ref wV, .int decV, .int belV, .long ahV, .long bhV])), (fi, .inr (1, [.int mi, .int pl, .int ze, .int sh, .int bl, .int sw, .int sp, .int wi, .int pr, .int le, .int so, .int nx])), (wV, .inr (2, [.ref waV, .int nV])), (waV, .inl (cC, 60, .inl fV))]) (w1 := [(h, .inr (2, [.ref a, .int n_12])), (a, .inl (cC, 160, .inl f_11))]) hP hD [5, 6] [0, 1, 2, 3, 4] rfl rfl (by decide) (by decide) hk1 hFc hP1 hD1
          generalize H1 = H at hP hS ⊢
          have hP : va_P (dC, dI) CL [(sa, .inr (3, [.ref h, .ref g, .ref la, .int sg, .int ba])), (vV, .inr (4, [.ref wV, .int decV, .int belV, .long ahV, .long bhV])), (fi, .inr (1, [.int mi, .int pl, .int ze, .int sh, .int bl, .int sw, .int sp, .int wi, .int pr, .int le, .int so, .int nx])), (wV, .inr (2, [.ref waV, .int nV])), (waV, .inl (cC, 60, .inl fV)), (h, .inr (2, [.ref a, .int n_12])), (a, .inl (cC, 160, .inl f_11))] H := hP
          have hD : va_D A [(sa, .inr (3, [.ref h, .ref g, .ref la, .int sg, .int ba])), (vV, .inr (4, [.ref wV, .int decV, .int belV, .long ahV, .long bhV])), (fi, .inr (1, [.int mi, .int pl, .int ze, .int sh, .int bl, .int sw, .int sp, .int wi, .int pr, .int le, .int so, .int nx])), (wV, .inr (2, [.ref waV, .int nV])), (waV, .inl (cC, 60, .inl fV)), (h, .inr (2, [.ref a, .int n_12])), (a, .inl (cC, 160, .inl f_11))] := hD
          obtain ⟨x13, ex13⟩ : ∃ y : Int32, y = i + 1 := ⟨_, rfl⟩
          refine lv_iinc (v := x13) (lv' := [(4, .int x13), (5, .int x7), (3, .int x1), (0, .ref sa), (1, .ref vV), (2, .ref fi)]) hx hb d_Sh_formQuoted_67 hl (k := 1) rfl (by rw [ex13]; rfl) (by decide) rfl (fun ls hl => ?_)
          refine lv_goto (tgt := 18) hx hb d_Sh_formQuoted_70 (by decide) ?_
          exact ih x13 n_12 f_11 _ _ _ (by rw [ex13]; exact k_fuel c21_4 hk) (w64_12b) (by have h9 := hG; rw [qtGo, if_neg c21_4] at h9; rw [ex13, w64_12]; rw [← w30_7, qtOne, if_pos c39_8] at h9; rw [w55_10]; exact h9) (hP.sub [0, 1, 3, 4, 2, 5, 6] rfl) (hD.sub [0, 1, 3, 4, 2, 5, 6] (by decide) rfl) hS (lv_sub hl [0, 2, 3, 4, 5] rfl)
        · skip
          refine lv_iload hx hb d_Sh_formQuoted_42 (lv_at hl 0 rfl) ?_
          refine lv_bipush (v := 92) hx hb d_Sh_formQuoted_44 (by decide) ?_
          refine lv_icmp_ne (tgt := 58) hx hb d_Sh_formQuoted_46 (by decide) (fun c46_14 => ?_) (fun c46_14 => ?_)
          · skip
            refine lv_aload_n hx hb d_Sh_formQuoted_58 rfl (lv_at hl 3 rfl) ?_
            refine va_get (D := (dC, dI)) (ci := 3) (v := .ref h) (C := R_Sh) (T := F_Sh) (N := 5) hx hb hT (in_Sh) hown hK hP 0 rfl rfl 0 (by decide) (hT _ t_141) (fun _ h9 => h9) rfl d_Sh_formQuoted_59 ?_
            refine lv_iload hx hb d_Sh_formQuoted_62 (lv_at hl 0 rfl) ?_
            have hPc := hP.sub (ws' := [(h, .inr (2, [.ref a, .int n3])), (a, .inl (cC, 160, .inl f3))]) [3, 4] rfl
            have hDc := hD.sub (ws' := [(h, .inr (2, [.ref a, .int n3])), (a, .inl (cC, 160, .inl f3))]) [3, 4] (by decide) rfl
            have hKc := hK.sub (tys' := [(cC, .char)]) [0] rfl
            have hFc := va_free (wc := [(h, .inr (2, [.ref a, .int n3])), (a, .inl (cC, 160, .inl f3))]) hD hS hA [3, 4] rfl
            refine va_callv (va_runV (As := [.int x7]) (rest := []) ⟨hx, hb, hml, hown, hT⟩ (c_Line_add l dC dI H.size cC h a 160 f3 n3 x7 (by first | exact hn3 | assumption)) (cwV 1 hT g_Sh_69 rfl rfl rfl (by decide +kernel) ⟨Nat.le_of_ble_eq_true rfl, Nat.le_of_ble_eq_true rfl⟩) ⟨fun a U g mk q => by obtain ⟨q0, q1, qP, qK, qD⟩ := q; exact ⟨q0, q1, qP, va_K.moved (u := U) (U := U.calling g mk a) (Vm.Alike.refl U.vm) qK, qD⟩, va_recv hKc hPc (ci := 2) (q0 := 0) rfl rfl, fun U hU hW => ⟨rfl, by rw [hU], by rw [hU]; exact hPc, va_K.moved hW.alike hKc, hDc.weaken (fun _ _ _ _ => trivial)⟩⟩ rfl rfl hl.1 rfl (lv_room (Nat.le_of_ble_eq_true rfl)) d_Sh_formQuoted_64 ⟨Nat.le_of_ble_eq_true rfl, Nat.le_of_ble_eq_true rfl⟩) hS (fun q _ h => hFc q h) hFc (fun u t H1 locs ht hvm w64_16 hB hz1 hk1 hS => ?_)
            obtain ⟨f_15, n_16⟩ := u
            obtain ⟨hP1, hK1, hD1⟩ := hB
            rw [ht] at hP1
            try dsimp only at w64_16
            obtain ⟨w64_16, w64_16b⟩ := w64_16
            obtain ⟨hP, hD⟩ := va_join (wr := [(sa, .inr (3, [.ref h, .ref g, .ref la, .int sg, .int ba])), (vV, .inr (4, [.ref wV, .int decV, .int belV, .long ahV, .long bhV])), (fi, .inr (1, [.int mi, .int pl, .int ze, .int sh, .int bl, .int sw, .int sp, .int wi, .int pr, .int le, .int so, .int nx])), (wV, .inr (2, [.ref waV, .int nV])), (waV, .inl (cC, 60, .inl fV))]) (w1 := [(h, .inr (2, [.ref a, .int n_16])), (a, .inl (cC, 160, .inl f_15))]) hP hD [3, 4] [0, 1, 2, 5, 6] rfl rfl (by decide) (by decide) hk1 hFc hP1 hD1
            generalize H1 = H at hP hS ⊢
            have hP : va_P (dC, dI) CL [(sa, .inr (3, [.ref h, .ref g, .ref la, .int sg, .int ba])), (vV, .inr (4, [.ref wV, .int decV, .int belV, .long ahV, .long bhV])), (fi, .inr (1, [.int mi, .int pl, .int ze, .int sh, .int bl, .int sw, .int sp, .int wi, .int pr, .int le, .int so, .int nx])), (wV, .inr (2, [.ref waV, .int nV])), (waV, .inl (cC, 60, .inl fV)), (h, .inr (2, [.ref a, .int n_16])), (a, .inl (cC, 160, .inl f_15))] H := hP
            have hD : va_D A [(sa, .inr (3, [.ref h, .ref g, .ref la, .int sg, .int ba])), (vV, .inr (4, [.ref wV, .int decV, .int belV, .long ahV, .long bhV])), (fi, .inr (1, [.int mi, .int pl, .int ze, .int sh, .int bl, .int sw, .int sp, .int wi, .int pr, .int le, .int so, .int nx])), (wV, .inr (2, [.ref waV, .int nV])), (waV, .inl (cC, 60, .inl fV)), (h, .inr (2, [.ref a, .int n_16])), (a, .inl (cC, 160, .inl f_15))] := hD
            obtain ⟨x17, ex17⟩ : ∃ y : Int32, y = i + 1 := ⟨_, rfl⟩
            refine lv_iinc (v := x17) (lv' := [(4, .int x17), (5, .int x7), (3, .int x1), (0, .ref sa), (1, .ref vV), (2, .ref fi)]) hx hb d_Sh_formQuoted_67 hl (k := 1) rfl (by rw [ex17]; rfl) (by decide) rfl (fun ls hl => ?_)
            refine lv_goto (tgt := 18) hx hb d_Sh_formQuoted_70 (by decide) ?_
            exact ih x17 n_16 f_15 _ _ _ (by rw [ex17]; exact k_fuel c21_4 hk) (w64_16b) (by have h9 := hG; rw [qtGo, if_neg c21_4] at h9; rw [ex17, w64_16]; rw [← w30_7, qtOne, if_neg c39_8, if_neg c46_14] at h9; exact h9) (hP.sub [0, 1, 3, 4, 2, 5, 6] rfl) (hD.sub [0, 1, 3, 4, 2, 5, 6] (by decide) rfl) hS (lv_sub hl [0, 2, 3, 4, 5] rfl)
          · skip
            refine lv_aload_n hx hb d_Sh_formQuoted_49 rfl (lv_at hl 3 rfl) ?_
            refine va_get (D := (dC, dI)) (ci := 3) (v := .ref h) (C := R_Sh) (T := F_Sh) (N := 5) hx hb hT (in_Sh) hown hK hP 0 rfl rfl 0 (by decide) (hT _ t_141) (fun _ h9 => h9) rfl d_Sh_formQuoted_50 ?_
            refine lv_bipush (v := 92) hx hb d_Sh_formQuoted_53 (by decide) ?_
            have hPc := hP.sub (ws' := [(h, .inr (2, [.ref a, .int n3])), (a, .inl (cC, 160, .inl f3))]) [3, 4] rfl
            have hDc := hD.sub (ws' := [(h, .inr (2, [.ref a, .int n3])), (a, .inl (cC, 160, .inl f3))]) [3, 4] (by decide) rfl
            have hKc := hK.sub (tys' := [(cC, .char)]) [0] rfl
            have hFc := va_free (wc := [(h, .inr (2, [.ref a, .int n3])), (a, .inl (cC, 160, .inl f3))]) hD hS hA [3, 4] rfl
            refine va_callv (va_runV (As := [.int 92]) (rest := []) ⟨hx, hb, hml, hown, hT⟩ (c_Line_add l dC dI H.size cC h a 160 f3 n3 92 hn3) (cwV 1 hT g_Sh_69 rfl rfl rfl (by decide +kernel) ⟨Nat.le_of_ble_eq_true rfl, Nat.le_of_ble_eq_true rfl⟩) ⟨fun a U g mk q => by obtain ⟨q0, q1, qP, qK, qD⟩ := q; exact ⟨q0, q1, qP, va_K.moved (u := U) (U := U.calling g mk a) (Vm.Alike.refl U.vm) qK, qD⟩, va_recv hKc hPc (ci := 2) (q0 := 0) rfl rfl, fun U hU hW => ⟨rfl, by rw [hU], by rw [hU]; exact hPc, va_K.moved hW.alike hKc, hDc.weaken (fun _ _ _ _ => trivial)⟩⟩ rfl rfl hl.1 rfl (lv_room (Nat.le_of_ble_eq_true rfl)) d_Sh_formQuoted_55 ⟨Nat.le_of_ble_eq_true rfl, Nat.le_of_ble_eq_true rfl⟩) hS (fun q _ h => hFc q h) hFc (fun u t H1 locs ht hvm w55_19 hB hz1 hk1 hS => ?_)
            obtain ⟨f_18, n_19⟩ := u
            obtain ⟨hP1, hK1, hD1⟩ := hB
            rw [ht] at hP1
            try dsimp only at w55_19
            obtain ⟨w55_19, w55_19b⟩ := w55_19
            obtain ⟨hP, hD⟩ := va_join (wr := [(sa, .inr (3, [.ref h, .ref g, .ref la, .int sg, .int ba])), (vV, .inr (4, [.ref wV, .int decV, .int belV, .long ahV, .long bhV])), (fi, .inr (1, [.int mi, .int pl, .int ze, .int sh, .int bl, .int sw, .int sp, .int wi, .int pr, .int le, .int so, .int nx])), (wV, .inr (2, [.ref waV, .int nV])), (waV, .inl (cC, 60, .inl fV))]) (w1 := [(h, .inr (2, [.ref a, .int n_19])), (a, .inl (cC, 160, .inl f_18))]) hP hD [3, 4] [0, 1, 2, 5, 6] rfl rfl (by decide) (by decide) hk1 hFc hP1 hD1
            generalize H1 = H at hP hS ⊢
            have hP : va_P (dC, dI) CL [(sa, .inr (3, [.ref h, .ref g, .ref la, .int sg, .int ba])), (vV, .inr (4, [.ref wV, .int decV, .int belV, .long ahV, .long bhV])), (fi, .inr (1, [.int mi, .int pl, .int ze, .int sh, .int bl, .int sw, .int sp, .int wi, .int pr, .int le, .int so, .int nx])), (wV, .inr (2, [.ref waV, .int nV])), (waV, .inl (cC, 60, .inl fV)), (h, .inr (2, [.ref a, .int n_19])), (a, .inl (cC, 160, .inl f_18))] H := hP
            have hD : va_D A [(sa, .inr (3, [.ref h, .ref g, .ref la, .int sg, .int ba])), (vV, .inr (4, [.ref wV, .int decV, .int belV, .long ahV, .long bhV])), (fi, .inr (1, [.int mi, .int pl, .int ze, .int sh, .int bl, .int sw, .int sp, .int wi, .int pr, .int le, .int so, .int nx])), (wV, .inr (2, [.ref waV, .int nV])), (waV, .inl (cC, 60, .inl fV)), (h, .inr (2, [.ref a, .int n_19])), (a, .inl (cC, 160, .inl f_18))] := hD
            refine lv_aload_n hx hb d_Sh_formQuoted_58 rfl (lv_at hl 3 rfl) ?_
            refine va_get (D := (dC, dI)) (ci := 3) (v := .ref h) (C := R_Sh) (T := F_Sh) (N := 5) hx hb hT (in_Sh) hown hK hP 0 rfl rfl 0 (by decide) (hT _ t_141) (fun _ h9 => h9) rfl d_Sh_formQuoted_59 ?_
            refine lv_iload hx hb d_Sh_formQuoted_62 (lv_at hl 0 rfl) ?_
            have hPc := hP.sub (ws' := [(h, .inr (2, [.ref a, .int n_19])), (a, .inl (cC, 160, .inl f_18))]) [5, 6] rfl
            have hDc := hD.sub (ws' := [(h, .inr (2, [.ref a, .int n_19])), (a, .inl (cC, 160, .inl f_18))]) [5, 6] (by decide) rfl
            have hKc := hK.sub (tys' := [(cC, .char)]) [0] rfl
            have hFc := va_free (wc := [(h, .inr (2, [.ref a, .int n_19])), (a, .inl (cC, 160, .inl f_18))]) hD hS hA [5, 6] rfl
            refine va_callv (va_runV (As := [.int x7]) (rest := []) ⟨hx, hb, hml, hown, hT⟩ (c_Line_add l dC dI H.size cC h a 160 f_18 n_19 x7 (by first | exact hn3 | assumption)) (cwV 1 hT g_Sh_69 rfl rfl rfl (by decide +kernel) ⟨Nat.le_of_ble_eq_true rfl, Nat.le_of_ble_eq_true rfl⟩) ⟨fun a U g mk q => by obtain ⟨q0, q1, qP, qK, qD⟩ := q; exact ⟨q0, q1, qP, va_K.moved (u := U) (U := U.calling g mk a) (Vm.Alike.refl U.vm) qK, qD⟩, va_recv hKc hPc (ci := 2) (q0 := 0) rfl rfl, fun U hU hW => ⟨rfl, by rw [hU], by rw [hU]; exact hPc, va_K.moved hW.alike hKc, hDc.weaken (fun _ _ _ _ => trivial)⟩⟩ rfl rfl hl.1 rfl (lv_room (Nat.le_of_ble_eq_true rfl)) d_Sh_formQuoted_64 ⟨Nat.le_of_ble_eq_true rfl, Nat.le_of_ble_eq_true rfl⟩) hS (fun q _ h => hFc q h) hFc (fun u t H1 locs ht hvm w64_21 hB hz1 hk1 hS => ?_)
            obtain ⟨f_20, n_21⟩ := u
            obtain ⟨hP1, hK1, hD1⟩ := hB
            rw [ht] at hP1
            try dsimp only at w64_21
            obtain ⟨w64_21, w64_21b⟩ := w64_21
            obtain ⟨hP, hD⟩ := va_join (wr := [(sa, .inr (3, [.ref h, .ref g, .ref la, .int sg, .int ba])), (vV, .inr (4, [.ref wV, .int decV, .int belV, .long ahV, .long bhV])), (fi, .inr (1, [.int mi, .int pl, .int ze, .int sh, .int bl, .int sw, .int sp, .int wi, .int pr, .int le, .int so, .int nx])), (wV, .inr (2, [.ref waV, .int nV])), (waV, .inl (cC, 60, .inl fV))]) (w1 := [(h, .inr (2, [.ref a, .int n_21])), (a, .inl (cC, 160, .inl f_20))]) hP hD [5, 6] [0, 1, 2, 3, 4] rfl rfl (by decide) (by decide) hk1 hFc hP1 hD1
            generalize H1 = H at hP hS ⊢
            have hP : va_P (dC, dI) CL [(sa, .inr (3, [.ref h, .ref g, .ref la, .int sg, .int ba])), (vV, .inr (4, [.ref wV, .int decV, .int belV, .long ahV, .long bhV])), (fi, .inr (1, [.int mi, .int pl, .int ze, .int sh, .int bl, .int sw, .int sp, .int wi, .int pr, .int le, .int so, .int nx])), (wV, .inr (2, [.ref waV, .int nV])), (waV, .inl (cC, 60, .inl fV)), (h, .inr (2, [.ref a, .int n_21])), (a, .inl (cC, 160, .inl f_20))] H := hP
            have hD : va_D A [(sa, .inr (3, [.ref h, .ref g, .ref la, .int sg, .int ba])), (vV, .inr (4, [.ref wV, .int decV, .int belV, .long ahV, .long bhV])), (fi, .inr (1, [.int mi, .int pl, .int ze, .int sh, .int bl, .int sw, .int sp, .int wi, .int pr, .int le, .int so, .int nx])), (wV, .inr (2, [.ref waV, .int nV])), (waV, .inl (cC, 60, .inl fV)), (h, .inr (2, [.ref a, .int n_21])), (a, .inl (cC, 160, .inl f_20))] := hD
            obtain ⟨x22, ex22⟩ : ∃ y : Int32, y = i + 1 := ⟨_, rfl⟩
            refine lv_iinc (v := x22) (lv' := [(4, .int x22), (5, .int x7), (3, .int x1), (0, .ref sa), (1, .ref vV), (2, .ref fi)]) hx hb d_Sh_formQuoted_67 hl (k := 1) rfl (by rw [ex22]; rfl) (by decide) rfl (fun ls hl => ?_)
            refine lv_goto (tgt := 18) hx hb d_Sh_formQuoted_70 (by decide) ?_
            exact ih x22 n_21 f_20 _ _ _ (by rw [ex22]; exact k_fuel c21_4 hk) (w64_21b) (by have h9 := hG; rw [qtGo, if_neg c21_4] at h9; rw [ex22, w64_21]; rw [← w30_7, qtOne, if_neg c39_8, if_pos c46_14] at h9; rw [w55_19]; exact h9) (hP.sub [0, 1, 3, 4, 2, 5, 6] rfl) (hD.sub [0, 1, 3, 4, 2, 5, 6] (by decide) rfl) hS (lv_sub hl [0, 2, 3, 4, 5] rfl)
  exact loop18 (x1.toInt.toNat + 1) 0 n_3 f_2 _ _ _ (by rw [l_0]; omega) (w12_3b) (by rw [qtLine, ← w2_1, ← w12_3]) hP hD hS (lv_sub hl [0, 1, 2, 3, 4] rfl)

set_option maxHeartbeats 4000000 in
set_option maxRecDepth 100000 in
theorem c_Shape_formShorter (l : Launch) (dC : Nat → ClassId) (dI : Nat → Nat → Nat) (sz : Nat) (cC : ClassId) (cI : ClassId) (sa : Nat) (h : Nat) (g : Nat) (la : Nat) (sg : Int32) (ba : Int32) (a : Nat) (f : Nat → Int32) (n : Int32) (ra : Nat) (row : Nat → Int32) (vV : Nat) (wV : Nat) (waV : Nat) (decV : Int32) (belV : Int32) (ahV : Int64) (bhV : Int64) (fV : Nat → Int32) (nV : Int32) (fi : Nat) (mi : Int32) (pl : Int32) (ze : Int32) (sh : Int32) (bl : Int32) (sw : Int32) (sp : Int32) (wi : Int32) (pr : Int32) (le : Int32) (so : Int32) (nx : Int32) (hn : lnOK 160 n) : Met l y_Sh_formShorter w_Sh_formShorter ({ frames := 2, cells := 0, slots := 0, locals := 46 } : Room) (va_Pc [.ref sa, .ref vV, .ref fi] (fun U => U.heap.size = sz ∧ va_P (dC, dI) CL [(sa, .inr (3, [.ref h, .ref g, .ref la, .int sg, .int ba])), (h, .inr (2, [.ref a, .int n])), (a, .inl (cC, 160, .inl f)), (g, .inr (0, [.ref ra])), (ra, .inl (cI, 31, .inl row)), (vV, .inr (4, [.ref wV, .int decV, .int belV, .long ahV, .long bhV])), (wV, .inr (2, [.ref waV, .int nV])), (waV, .inl (cC, 60, .inl fV)), (fi, .inr (1, [.int mi, .int pl, .int ze, .int sh, .int bl, .int sw, .int sp, .int wi, .int pr, .int le, .int so, .int nx]))] U.heap ∧ va_K (dC, dI) CL [(cC, .char), (cI, .int)] U ∧ va_D (fun _ => True) [(sa, .inr (3, [.ref h, .ref g, .ref la, .int sg, .int ba])), (h, .inr (2, [.ref a, .int n])), (a, .inl (cC, 160, .inl f)), (g, .inr (0, [.ref ra])), (ra, .inl (cI, 31, .inl row)), (vV, .inr (4, [.ref wV, .int decV, .int belV, .long ahV, .long bhV])), (wV, .inr (2, [.ref waV, .int nV])), (waV, .inl (cC, 60, .inl fV)), (fi, .inr (1, [.int mi, .int pl, .int ze, .int sh, .int bl, .int sw, .int sp, .int wi, .int pr, .int le, .int so, .int nx]))] ∧ kN U)) (va_Qv (fun (u : Int32 × (Nat → Int32) × (Nat → Int32) × Int32) => match u with | (sg2, row2, f2, n2) => sg2 = fiSign belV pl bl ∧ row2 = gRow bhV ahV pr row ∧ (f2, n2) = gL3 (gRow bhV ahV pr row) pr sh le (f, n) ∧ lnOK 160 n2) (fun (u : Int32 × (Nat → Int32) × (Nat → Int32) × Int32) (t : State) => match u with | (sg2, row2, f2, n2) => va_P (dC, dI) CL [(sa, .inr (3, [.ref h, .ref g, .ref la, .int sg2, .int ba])), (h, .inr (2, [.ref a, .int n2])), (a, .inl (cC, 160, .inl f2)), (g, .inr (0, [.ref ra])), (ra, .inl (cI, 31, .inl row2)), (vV, .inr (4, [.ref wV, .int decV, .int belV, .long ahV, .long bhV])), (wV, .inr (2, [.ref waV, .int nV])), (waV, .inl (cC, 60, .inl fV)), (fi, .inr (1, [.int mi, .int pl, .int ze, .int sh, .int bl, .int sw, .int sp, .int wi, .int pr, .int le, .int so, .int nx]))] t.heap ∧ va_K (dC, dI) CL [(cC, .char), (cI, .int)] t ∧ va_D (va_A [(sa, .inr (3, [.ref h, .ref g, .ref la, .int sg, .int ba])), (h, .inr (2, [.ref a, .int n])), (a, .inl (cC, 160, .inl f)), (g, .inr (0, [.ref ra])), (ra, .inl (cI, 31, .inl row)), (vV, .inr (4, [.ref wV, .int decV, .int belV, .long ahV, .long bhV])), (wV, .inr (2, [.ref waV, .int nV])), (waV, .inl (cC, 60, .inl fV)), (fi, .inr (1, [.int mi, .int pl, .int ze, .int sh, .int bl, .int sw, .int sp, .int wi, .int pr, .int le, .int so, .int nx]))] sz) [(sa, .inr (3, [.ref h, .ref g, .ref la, .int sg2, .int ba])), (h, .inr (2, [.ref a, .int n2])), (a, .inl (cC, 160, .inl f2)), (g, .inr (0, [.ref ra])), (ra, .inl (cI, 31, .inl row2)), (vV, .inr (4, [.ref wV, .int decV, .int belV, .long ahV, .long bhV])), (wV, .inr (2, [.ref waV, .int nV])), (waV, .inl (cC, 60, .inl fV)), (fi, .inr (1, [.int mi, .int pl, .int ze, .int sh, .int bl, .int sw, .int sp, .int wi, .int pr, .int le, .int so, .int nx]))]) (va_A [(sa, .inr (3, [.ref h, .ref g, .ref la, .int sg, .int ba])), (h, .inr (2, [.ref a, .int n])), (a, .inl (cC, 160, .inl f)), (g, .inr (0, [.ref ra])), (ra, .inl (cI, 31, .inl row)), (vV, .inr (4, [.ref wV, .int decV, .int belV, .long ahV, .long bhV])), (wV, .inr (2, [.ref waV, .int nV])), (waV, .inl (cC, 60, .inl fV)), (fi, .inr (1, [.int mi, .int pl, .int ze, .int sh, .int bl, .int sw, .int sp, .int wi, .int pr, .int le, .int so, .int nx]))] sz)) 0 0 (va_A [(sa, .inr (3, [.ref h, .ref g, .ref la, .int sg, .int ba])), (h, .inr (2, [.ref a, .int n])), (a, .inl (cC, 160, .inl f)), (g, .inr (0, [.ref ra])), (ra, .inl (cI, 31, .inl row)), (vV, .inr (4, [.ref wV, .int decV, .int belV, .long ahV, .long bhV])), (wV, .inr (2, [.ref waV, .int nV])), (waV, .inl (cC, 60, .inl fV)), (fi, .inr (1, [.int mi, .int pl, .int ze, .int sh, .int bl, .int sw, .int sp, .int wi, .int pr, .int le, .int so, .int nx]))] sz) := by
  refine Met.ofW (cc := b_Sh_formShorter) (maxL := 8) (ret := none) (by decide) rfl ?_
  intro p e s m args below meth c s₁ B hml hv
  obtain ⟨rfl, hsz, hP, hK, hD0, hN⟩ := hv
  have hx := B.exec
  have hb := B.bytes
  have hr := B.returns
  have hts := atoms_spec (ws := w_Sh_formShorter) B.pre
  have hT : ∀ w ∈ TB, w.before _ s = true := fun w h => hts w (List.mem_cons_of_mem _ h)
  have hown : s.vm.findClass R_Sh = some m.cls := findClass_of_methodNamed B.named
  have hlocks := B.notSynchronized
  subst hsz
  have hD := hD0.self (sz := s.heap.size)
  generalize hAe : va_A [(sa, .inr (3, [.ref h, .ref g, .ref la, .int sg, .int ba])), (h, .inr (2, [.ref a, .int n])), (a, .inl (cC, 160, .inl f)), (g, .inr (0, [.ref ra])), (ra, .inl (cI, 31, .inl row)), (vV, .inr (4, [.ref wV, .int decV, .int belV, .long ahV, .long bhV])), (wV, .inr (2, [.ref waV, .int nV])), (waV, .inl (cC, 60, .inl fV)), (fi, .inr (1, [.int mi, .int pl, .int ze, .int sh, .int bl, .int sw, .int sp, .int wi, .int pr, .int le, .int so, .int nx]))] s.heap.size = A at hD ⊢
  have hA : ∀ q : Nat, s.heap.size ≤ q → A q := fun q h => by rw [← hAe]; exact Or.inr h
  have hS : va_S A s.heap s.heap [] := va_S.rf
  have hP : va_P (dC, dI) CL [(sa, .inr (3, [.ref h, .ref g, .ref la, .int sg, .int ba])), (h, .inr (2, [.ref a, .int n])), (a, .inl (cC, 160, .inl f)), (g, .inr (0, [.ref ra])), (ra, .inl (cI, 31, .inl row)), (vV, .inr (4, [.ref wV, .int decV, .int belV, .long ahV, .long bhV])), (wV, .inr (2, [.ref waV, .int nV])), (waV, .inl (cC, 60, .inl fV)), (fi, .inr (1, [.int mi, .int pl, .int ze, .int sh, .int bl, .int sw, .int sp, .int wi, .int pr, .int le, .int so, .int nx]))] s.heap := hP
  have hl := lv_entry ([.ref sa, .ref vV, .ref fi]) (n := 8) (Nat.le_of_ble_eq_true rfl)
  rw [lg_entry_eq]
  generalize (lg_sl ([.ref sa, .ref vV, .ref fi]) ++ List.replicate (8 - (lg_sl ([.ref sa, .ref vV, .ref fi])).length) Slot.unset).toArray = ls at hl ⊢
  have hl : lv_has ls 8 [(0, .ref sa), (1, .ref vV), (2, .ref fi)] := hl
  refine k_Q (fun Q hQ => ?_)
  refine lv_iconst (v := 1) hx hb d_Sh_formShorter_0 (by decide) ?_
  refine lv_aload_n hx hb d_Sh_formShorter_1 rfl (lv_at hl 2 rfl) ?_
  refine lv_bipush (v := 6) hx hb d_Sh_formShorter_2 (by decide) ?_
  have hPc := hP.sub (ws' := [(fi, .inr (1, [.int mi, .int pl, .int ze, .int sh, .int bl, .int sw, .int sp, .int wi, .int pr, .int le, .int so, .int nx]))]) [8] rfl
  have hDc := hD.sub (ws' := [(fi, .inr (1, [.int mi, .int pl, .int ze, .int sh, .int bl, .int sw, .int sp, .int wi, .int pr, .int le, .int so, .int nx]))]) [8] (by decide) rfl
  have hKc := hK.sub (tys' := []) [] rfl
  have hFc := va_free (wc := [(fi, .inr (1, [.int mi, .int pl, .int ze, .int sh, .int bl, .int sw, .int sp, .int wi, .int pr, .int le, .int so, .int nx]))]) hD hS hA [8] rfl
  refine va_calli (va_runV (As := [.int 6]) (rest := [.int 1]) ⟨hx, hb, hml, hown, hT⟩ (c_Field_precisionOr l dC dI s.heap.size fi mi pl ze sh bl sw sp wi pr le so nx 6 ) (cwV 1 hT g_Sh_110 rfl rfl rfl (by decide +kernel) ⟨Nat.le_of_ble_eq_true rfl, Nat.le_of_ble_eq_true rfl⟩) ⟨fun a U g mk q => by obtain ⟨q0, q1, qP, qK, qD⟩ := q; exact ⟨q0, q1, qP, va_K.moved (u := U) (U := U.calling g mk a) (Vm.Alike.refl U.vm) qK, qD⟩, va_recv hKc hPc (ci := 1) (q0 := 0) rfl rfl, fun U hU hW => ⟨rfl, by rw [hU], by rw [hU]; exact hPc, va_K.moved hW.alike hKc, hDc.weaken (fun _ _ _ _ => trivial)⟩⟩ rfl rfl hl.1 rfl (lv_room (Nat.le_of_ble_eq_true rfl)) d_Sh_formShorter_4 ⟨Nat.le_of_ble_eq_true rfl, Nat.le_of_ble_eq_true rfl⟩) hS (fun q _ h => hFc q h) hFc (fun x1 u t H1 locs ht hvm w4_1 hB hz1 hk1 hS => ?_)
  obtain ⟨hP1, hK1, hD1⟩ := hB
  rw [ht] at hP1
  try dsimp only at w4_1
  obtain ⟨hP, hD⟩ := va_join (wr := [(sa, .inr (3, [.ref h, .ref g, .ref la, .int sg, .int ba])), (h, .inr (2, [.ref a, .int n])), (a, .inl (cC, 160, .inl f)), (g, .inr (0, [.ref ra])), (ra, .inl (cI, 31, .inl row)), (vV, .inr (4, [.ref wV, .int decV, .int belV, .long ahV, .long bhV])), (wV, .inr (2, [.ref waV, .int nV])), (waV, .inl (cC, 60, .inl fV))]) (w1 := [(fi, .inr (1, [.int mi, .int pl, .int ze, .int sh, .int bl, .int sw, .int sp, .int wi, .int pr, .int le, .int so, .int nx]))]) hP hD [8] [0, 1, 2, 3, 4, 5, 6, 7] rfl rfl (by decide) (by decide) hk1 hFc hP1 hD1
  generalize H1 = H at hP hS ⊢
  have hP : va_P (dC, dI) CL [(sa, .inr (3, [.ref h, .ref g, .ref la, .int sg, .int ba])), (h, .inr (2, [.ref a, .int n])), (a, .inl (cC, 160, .inl f)), (g, .inr (0, [.ref ra])), (ra, .inl (cI, 31, .inl row)), (vV, .inr (4, [.ref wV, .int decV, .int belV, .long ahV, .long bhV])), (wV, .inr (2, [.ref waV, .int nV])), (waV, .inl (cC, 60, .inl fV)), (fi, .inr (1, [.int mi, .int pl, .int ze, .int sh, .int bl, .int sw, .int sp, .int wi, .int pr, .int le, .int so, .int nx]))] H := hP
  have hD : va_D A [(sa, .inr (3, [.ref h, .ref g, .ref la, .int sg, .int ba])), (h, .inr (2, [.ref a, .int n])), (a, .inl (cC, 160, .inl f)), (g, .inr (0, [.ref ra])), (ra, .inl (cI, 31, .inl row)), (vV, .inr (4, [.ref wV, .int decV, .int belV, .long ahV, .long bhV])), (wV, .inr (2, [.ref waV, .int nV])), (waV, .inl (cC, 60, .inl fV)), (fi, .inr (1, [.int mi, .int pl, .int ze, .int sh, .int bl, .int sw, .int sp, .int wi, .int pr, .int le, .int so, .int nx]))] := hD
  refine va_mmax hx hb (hml.trans hl.1.symm) hown (hT _ t_561) (hT _ t_30) (hT _ t_3) (hT _ t_31) (Nat.le_of_ble_eq_true rfl) (Nat.le_of_ble_eq_true rfl) (Nat.le_of_ble_eq_true rfl) (Nat.le_of_ble_eq_true rfl) d_Sh_formShorter_7 ?_
  refine lv_topi (fun x2 ex2 => ?_)
  have hmo : x2 = gMost pr := by rw [gMost, ← w4_1]; exact ex2
  refine lv_istore_n (lv' := [(3, .int x2), (0, .ref sa), (1, .ref vV), (2, .ref fi)]) hx hb d_Sh_formShorter_10 rfl hl (by decide) rfl (fun ls hl => ?_)
  refine lv_aload_n hx hb d_Sh_formShorter_11 rfl (lv_at hl 1 rfl) ?_
  refine lv_aload_n hx hb d_Sh_formShorter_12 rfl (lv_at hl 3 rfl) ?_
  refine lv_aload_n hx hb d_Sh_formShorter_13 rfl (lv_at hl 2 rfl) ?_
  refine va_getN (D := (dC, dI)) (ci := 4) (v := .int belV) (C := R_Va) (T := F_Va) (N := 5) hx hb hT (in_Va) hown hK hP 5 rfl rfl 2 (by decide) (va_Nw.use rfl (kN_54 hN)) (fun _ h9 => h9) rfl d_Sh_formShorter_14 ?_
  have hPc := hP.sub (ws' := [(fi, .inr (1, [.int mi, .int pl, .int ze, .int sh, .int bl, .int sw, .int sp, .int wi, .int pr, .int le, .int so, .int nx]))]) [8] rfl
  have hDc := hD.sub (ws' := [(fi, .inr (1, [.int mi, .int pl, .int ze, .int sh, .int bl, .int sw, .int sp, .int wi, .int pr, .int le, .int so, .int nx]))]) [8] (by decide) rfl
  have hKc := hK.sub (tys' := []) [] rfl
  have hFc := va_free (wc := [(fi, .inr (1, [.int mi, .int pl, .int ze, .int sh, .int bl, .int sw, .int sp, .int wi, .int pr, .int le, .int so, .int nx]))]) hD hS hA [8] rfl
  refine va_calli (va_runV (As := [.int belV]) (rest := [.ref sa]) ⟨hx, hb, hml, hown, hT⟩ (c_Field_signFor l dC dI H.size fi mi pl ze sh bl sw sp wi pr le so nx belV ) (cwV 1 hT g_Sh_87 rfl rfl rfl (by decide +kernel) ⟨Nat.le_of_ble_eq_true rfl, Nat.le_of_ble_eq_true rfl⟩) ⟨fun a U g mk q => by obtain ⟨q0, q1, qP, qK, qD⟩ := q; exact ⟨q0, q1, qP, va_K.moved (u := U) (U := U.calling g mk a) (Vm.Alike.refl U.vm) qK, qD⟩, va_recv hKc hPc (ci := 1) (q0 := 0) rfl rfl, fun U hU hW => ⟨rfl, by rw [hU], by rw [hU]; exact hPc, va_K.moved hW.alike hKc, hDc.weaken (fun _ _ _ _ => trivial)⟩⟩ rfl rfl hl.1 rfl (lv_room (Nat.le_of_ble_eq_true rfl)) d_Sh_formShorter_17 ⟨Nat.le_of_ble_eq_true rfl, Nat.le_of_ble_eq_true rfl⟩) hS (fun q _ h => hFc q h) hFc (fun x3 u t H1 locs ht hvm w17_3 hB hz1 hk1 hS => ?_)
  obtain ⟨hP1, hK1, hD1⟩ := hB
  rw [ht] at hP1
  try dsimp only at w17_3
  obtain ⟨hP, hD⟩ := va_join (wr := [(sa, .inr (3, [.ref h, .ref g, .ref la, .int sg, .int ba])), (h, .inr (2, [.ref a, .int n])), (a, .inl (cC, 160, .inl f)), (g, .inr (0, [.ref ra])), (ra, .inl (cI, 31, .inl row)), (vV, .inr (4, [.ref wV, .int decV, .int belV, .long ahV, .long bhV])), (wV, .inr (2, [.ref waV, .int nV])), (waV, .inl (cC, 60, .inl fV))]) (w1 := [(fi, .inr (1, [.int mi, .int pl, .int ze, .int sh, .int bl, .int sw, .int sp, .int wi, .int pr, .int le, .int so, .int nx]))]) hP hD [8] [0, 1, 2, 3, 4, 5, 6, 7] rfl rfl (by decide) (by decide) hk1 hFc hP1 hD1
  generalize H1 = H at hP hS ⊢
  have hP : va_P (dC, dI) CL [(sa, .inr (3, [.ref h, .ref g, .ref la, .int sg, .int ba])), (h, .inr (2, [.ref a, .int n])), (a, .inl (cC, 160, .inl f)), (g, .inr (0, [.ref ra])), (ra, .inl (cI, 31, .inl row)), (vV, .inr (4, [.ref wV, .int decV, .int belV, .long ahV, .long bhV])), (wV, .inr (2, [.ref waV, .int nV])), (waV, .inl (cC, 60, .inl fV)), (fi, .inr (1, [.int mi, .int pl, .int ze, .int sh, .int bl, .int sw, .int sp, .int wi, .int pr, .int le, .int so, .int nx]))] H := hP
  have hD : va_D A [(sa, .inr (3, [.ref h, .ref g, .ref la, .int sg, .int ba])), (h, .inr (2, [.ref a, .int n])), (a, .inl (cC, 160, .inl f)), (g, .inr (0, [.ref ra])), (ra, .inl (cI, 31, .inl row)), (vV, .inr (4, [.ref wV, .int decV, .int belV, .long ahV, .long bhV])), (wV, .inr (2, [.ref waV, .int nV])), (waV, .inl (cC, 60, .inl fV)), (fi, .inr (1, [.int mi, .int pl, .int ze, .int sh, .int bl, .int sw, .int sp, .int wi, .int pr, .int le, .int so, .int nx]))] := hD
  refine va_put (D := (dC, dI)) (ci := 3) (v := .int x3) (ty := .int) (C := R_Sh) (T := F_Sh) (N := 5) hx hb hT (in_Sh) t_Sh t_Sh_ok n_Sh hown hK hP hD hS 0 rfl rfl 3 (by decide) (hT _ t_144) (fun _ h9 => h9) rfl (by decide +kernel) rfl rfl (Nat.le_of_ble_eq_true rfl) d_Sh_formShorter_20 (fun H locs hP hD hS => ?_)
  have hP : va_P (dC, dI) CL [(sa, .inr (3, [.ref h, .ref g, .ref la, .int x3, .int ba])), (h, .inr (2, [.ref a, .int n])), (a, .inl (cC, 160, .inl f)), (g, .inr (0, [.ref ra])), (ra, .inl (cI, 31, .inl row)), (vV, .inr (4, [.ref wV, .int decV, .int belV, .long ahV, .long bhV])), (wV, .inr (2, [.ref waV, .int nV])), (waV, .inl (cC, 60, .inl fV)), (fi, .inr (1, [.int mi, .int pl, .int ze, .int sh, .int bl, .int sw, .int sp, .int wi, .int pr, .int le, .int so, .int nx]))] H := hP
  have hD : va_D A [(sa, .inr (3, [.ref h, .ref g, .ref la, .int x3, .int ba])), (h, .inr (2, [.ref a, .int n])), (a, .inl (cC, 160, .inl f)), (g, .inr (0, [.ref ra])), (ra, .inl (cI, 31, .inl row)), (vV, .inr (4, [.ref wV, .int decV, .int belV, .long ahV, .long bhV])), (wV, .inr (2, [.ref waV, .int nV])), (waV, .inl (cC, 60, .inl fV)), (fi, .inr (1, [.int mi, .int pl, .int ze, .int sh, .int bl, .int sw, .int sp, .int wi, .int pr, .int le, .int so, .int nx]))] := hD
  refine lv_aload_n hx hb d_Sh_formShorter_23 rfl (lv_at hl 1 rfl) ?_
  refine va_get (D := (dC, dI)) (ci := 3) (v := .ref g) (C := R_Sh) (T := F_Sh) (N := 5) hx hb hT (in_Sh) hown hK hP 0 rfl rfl 1 (by decide) (hT _ t_142) (fun _ h9 => h9) rfl d_Sh_formShorter_24 ?_
  refine lv_aload_n hx hb d_Sh_formShorter_27 rfl (lv_at hl 2 rfl) ?_
  have hPc := hP.sub (ws' := [(g, .inr (0, [.ref ra])), (ra, .inl (cI, 31, .inl row)), (vV, .inr (4, [.ref wV, .int decV, .int belV, .long ahV, .long bhV])), (wV, .inr (2, [.ref waV, .int nV])), (waV, .inl (cC, 60, .inl fV))]) [3, 4, 5, 6, 7] rfl
  have hDc := hD.sub (ws' := [(g, .inr (0, [.ref ra])), (ra, .inl (cI, 31, .inl row)), (vV, .inr (4, [.ref wV, .int decV, .int belV, .long ahV, .long bhV])), (wV, .inr (2, [.ref waV, .int nV])), (waV, .inl (cC, 60, .inl fV))]) [3, 4, 5, 6, 7] (by decide) rfl
  have hKc := hK.sub (tys' := [(cI, .int), (cC, .char)]) [1, 0] rfl
  have hFc := va_free (wc := [(g, .inr (0, [.ref ra])), (ra, .inl (cI, 31, .inl row)), (vV, .inr (4, [.ref wV, .int decV, .int belV, .long ahV, .long bhV])), (wV, .inr (2, [.ref waV, .int nV])), (waV, .inl (cC, 60, .inl fV))]) hD hS hA [3, 4, 5, 6, 7] rfl
  refine va_callv (va_runV (As := [.ref vV]) (rest := []) ⟨hx, hb, hml, hown, hT⟩ (c_Digits_load l dC dI H.size cI cC g ra row vV wV waV decV belV ahV bhV fV nV ) (cwV 1 hT g_Sh_117 rfl rfl rfl (by decide +kernel) ⟨Nat.le_of_ble_eq_true rfl, Nat.le_of_ble_eq_true rfl⟩) ⟨fun a U g mk q => by obtain ⟨q0, q1, qP, qK, qD, qN⟩ := q; exact ⟨q0, q1, qP, va_K.moved (u := U) (U := U.calling g mk a) (Vm.Alike.refl U.vm) qK, qD, qN.calling⟩, va_recv hKc hPc (ci := 0) (q0 := 0) rfl rfl, fun U hU hW => ⟨rfl, by rw [hU], by rw [hU]; exact hPc, va_K.moved hW.alike hKc, hDc.weaken (fun _ _ _ _ => trivial), hN.warm hW⟩⟩ rfl rfl hl.1 rfl (lv_room (Nat.le_of_ble_eq_true rfl)) d_Sh_formShorter_28 ⟨Nat.le_of_ble_eq_true rfl, Nat.le_of_ble_eq_true rfl⟩) hS (fun q _ h => hFc q h) hFc (fun u t H1 locs ht hvm w28_4 hB hz1 hk1 hS => ?_)
  obtain ⟨row_4, rfl⟩ : ∃ z, z = u := ⟨_, rfl⟩
  obtain ⟨hP1, hK1, hD1⟩ := hB
  rw [ht] at hP1
  try dsimp only at w28_4
  obtain ⟨hP, hD⟩ := va_join (wr := [(sa, .inr (3, [.ref h, .ref g, .ref la, .int x3, .int ba])), (h, .inr (2, [.ref a, .int n])), (a, .inl (cC, 160, .inl f)), (fi, .inr (1, [.int mi, .int pl, .int ze, .int sh, .int bl, .int sw, .int sp, .int wi, .int pr, .int le, .int so, .int nx]))]) (w1 := [(g, .inr (0, [.ref ra])), (ra, .inl (cI, 31, .inl row_4)), (vV, .inr (4, [.ref wV, .int decV, .int belV, .long ahV, .long bhV])), (wV, .inr (2, [.ref waV, .int nV])), (waV, .inl (cC, 60, .inl fV))]) hP hD [3, 4, 5, 6, 7] [0, 1, 2, 8] rfl rfl (by decide) (by decide) hk1 hFc hP1 hD1
  generalize H1 = H at hP hS ⊢
  have hP : va_P (dC, dI) CL [(sa, .inr (3, [.ref h, .ref g, .ref la, .int x3, .int ba])), (h, .inr (2, [.ref a, .int n])), (a, .inl (cC, 160, .inl f)), (fi, .inr (1, [.int mi, .int pl, .int ze, .int sh, .int bl, .int sw, .int sp, .int wi, .int pr, .int le, .int so, .int nx])), (g, .inr (0, [.ref ra])), (ra, .inl (cI, 31, .inl row_4)), (vV, .inr (4, [.ref wV, .int decV, .int belV, .long ahV, .long bhV])), (wV, .inr (2, [.ref waV, .int nV])), (waV, .inl (cC, 60, .inl fV))] H := hP
  have hD : va_D A [(sa, .inr (3, [.ref h, .ref g, .ref la, .int x3, .int ba])), (h, .inr (2, [.ref a, .int n])), (a, .inl (cC, 160, .inl f)), (fi, .inr (1, [.int mi, .int pl, .int ze, .int sh, .int bl, .int sw, .int sp, .int wi, .int pr, .int le, .int so, .int nx])), (g, .inr (0, [.ref ra])), (ra, .inl (cI, 31, .inl row_4)), (vV, .inr (4, [.ref wV, .int decV, .int belV, .long ahV, .long bhV])), (wV, .inr (2, [.ref waV, .int nV])), (waV, .inl (cC, 60, .inl fV))] := hD
  refine lv_aload_n hx hb d_Sh_formShorter_31 rfl (lv_at hl 1 rfl) ?_
  refine va_get (D := (dC, dI)) (ci := 3) (v := .ref g) (C := R_Sh) (T := F_Sh) (N := 5) hx hb hT (in_Sh) hown hK hP 0 rfl rfl 1 (by decide) (hT _ t_142) (fun _ h9 => h9) rfl d_Sh_formShorter_32 ?_
  refine lv_aload_n hx hb d_Sh_formShorter_35 rfl (lv_at hl 1 rfl) ?_
  refine va_get (D := (dC, dI)) (ci := 3) (v := .ref g) (C := R_Sh) (T := F_Sh) (N := 5) hx hb hT (in_Sh) hown hK hP 0 rfl rfl 1 (by decide) (hT _ t_142) (fun _ h9 => h9) rfl d_Sh_formShorter_36 ?_
  have hPc := hP.sub (ws' := [(g, .inr (0, [.ref ra])), (ra, .inl (cI, 31, .inl row_4))]) [4, 5] rfl
  have hDc := hD.sub (ws' := [(g, .inr (0, [.ref ra])), (ra, .inl (cI, 31, .inl row_4))]) [4, 5] (by decide) rfl
  have hKc := hK.sub (tys' := [(cI, .int)]) [1] rfl
  have hFc := va_free (wc := [(g, .inr (0, [.ref ra])), (ra, .inl (cI, 31, .inl row_4))]) hD hS hA [4, 5] rfl
  refine va_calli (va_runV (As := []) (rest := [.ref g]) ⟨hx, hb, hml, hown, hT⟩ (c_Digits_first l dC dI H.size cI g ra row_4 ) (cwV 0 hT g_Sh_128 rfl rfl rfl (by decide +kernel) ⟨Nat.le_of_ble_eq_true rfl, Nat.le_of_ble_eq_true rfl⟩) ⟨fun a U g mk q => by obtain ⟨q0, q1, qP, qK, qD⟩ := q; exact ⟨q0, q1, qP, va_K.moved (u := U) (U := U.calling g mk a) (Vm.Alike.refl U.vm) qK, qD⟩, va_recv hKc hPc (ci := 0) (q0 := 0) rfl rfl, fun U hU hW => ⟨rfl, by rw [hU], by rw [hU]; exact hPc, va_K.moved hW.alike hKc, hDc.weaken (fun _ _ _ _ => trivial)⟩⟩ rfl rfl hl.1 rfl (lv_room (Nat.le_of_ble_eq_true rfl)) d_Sh_formShorter_39 ⟨Nat.le_of_ble_eq_true rfl, Nat.le_of_ble_eq_true rfl⟩) hS (fun q _ h => hFc q h) hFc (fun x5 u t H1 locs ht hvm w39_5 hB hz1 hk1 hS => ?_)
  obtain ⟨hP1, hK1, hD1⟩ := hB
  rw [ht] at hP1
  try dsimp only at w39_5
  obtain ⟨hP, hD⟩ := va_join (wr := [(sa, .inr (3, [.ref h, .ref g, .ref la, .int x3, .int ba])), (h, .inr (2, [.ref a, .int n])), (a, .inl (cC, 160, .inl f)), (fi, .inr (1, [.int mi, .int pl, .int ze, .int sh, .int bl, .int sw, .int sp, .int wi, .int pr, .int le, .int so, .int nx])), (vV, .inr (4, [.ref wV, .int decV, .int belV, .long ahV, .long bhV])), (wV, .inr (2, [.ref waV, .int nV])), (waV, .inl (cC, 60, .inl fV))]) (w1 := [(g, .inr (0, [.ref ra])), (ra, .inl (cI, 31, .inl row_4))]) hP hD [4, 5] [0, 1, 2, 3, 6, 7, 8] rfl rfl (by decide) (by decide) hk1 hFc hP1 hD1
  generalize H1 = H at hP hS ⊢
  have hP : va_P (dC, dI) CL [(sa, .inr (3, [.ref h, .ref g, .ref la, .int x3, .int ba])), (h, .inr (2, [.ref a, .int n])), (a, .inl (cC, 160, .inl f)), (fi, .inr (1, [.int mi, .int pl, .int ze, .int sh, .int bl, .int sw, .int sp, .int wi, .int pr, .int le, .int so, .int nx])), (vV, .inr (4, [.ref wV, .int decV, .int belV, .long ahV, .long bhV])), (wV, .inr (2, [.ref waV, .int nV])), (waV, .inl (cC, 60, .inl fV)), (g, .inr (0, [.ref ra])), (ra, .inl (cI, 31, .inl row_4))] H := hP
  have hD : va_D A [(sa, .inr (3, [.ref h, .ref g, .ref la, .int x3, .int ba])), (h, .inr (2, [.ref a, .int n])), (a, .inl (cC, 160, .inl f)), (fi, .inr (1, [.int mi, .int pl, .int ze, .int sh, .int bl, .int sw, .int sp, .int wi, .int pr, .int le, .int so, .int nx])), (vV, .inr (4, [.ref wV, .int decV, .int belV, .long ahV, .long bhV])), (wV, .inr (2, [.ref waV, .int nV])), (waV, .inl (cC, 60, .inl fV)), (g, .inr (0, [.ref ra])), (ra, .inl (cI, 31, .inl row_4))] := hD
  refine lv_iload_n hx hb d_Sh_formShorter_42 rfl (lv_at hl 0 rfl) ?_
  refine lv_iadd hx hb d_Sh_formShorter_43 ?_
  refine lv_topi (fun x6 ex6 => ?_)
  have hPc := hP.sub (ws' := [(g, .inr (0, [.ref ra])), (ra, .inl (cI, 31, .inl row_4))]) [7, 8] rfl
  have hDc := hD.sub (ws' := [(g, .inr (0, [.ref ra])), (ra, .inl (cI, 31, .inl row_4))]) [7, 8] (by decide) rfl
  have hKc := hK.sub (tys' := [(cI, .int)]) [1] rfl
  have hFc := va_free (wc := [(g, .inr (0, [.ref ra])), (ra, .inl (cI, 31, .inl row_4))]) hD hS hA [7, 8] rfl
  refine va_callv (va_runV (As := [.int x6]) (rest := []) ⟨hx, hb, hml, hown, hT⟩ (c_Digits_round l dC dI H.size cI g ra row_4 x6 ) (cwV 1 hT g_Sh_121 rfl rfl rfl (by decide +kernel) ⟨Nat.le_of_ble_eq_true rfl, Nat.le_of_ble_eq_true rfl⟩) ⟨fun a U g mk q => by obtain ⟨q0, q1, qP, qK, qD⟩ := q; exact ⟨q0, q1, qP, va_K.moved (u := U) (U := U.calling g mk a) (Vm.Alike.refl U.vm) qK, qD⟩, va_recv hKc hPc (ci := 0) (q0 := 0) rfl rfl, fun U hU hW => ⟨rfl, by rw [hU], by rw [hU]; exact hPc, va_K.moved hW.alike hKc, hDc.weaken (fun _ _ _ _ => trivial)⟩⟩ rfl rfl hl.1 rfl (lv_room (Nat.le_of_ble_eq_true rfl)) d_Sh_formShorter_44 ⟨Nat.le_of_ble_eq_true rfl, Nat.le_of_ble_eq_true rfl⟩) hS (fun q _ h => hFc q h) hFc (fun u t H1 locs ht hvm w44_7 hB hz1 hk1 hS => ?_)
  obtain ⟨row_7, rfl⟩ : ∃ z, z = u := ⟨_, rfl⟩
  obtain ⟨hP1, hK1, hD1⟩ := hB
  rw [ht] at hP1
  try dsimp only at w44_7
  obtain ⟨hP, hD⟩ := va_join (wr := [(sa, .inr (3, [.ref h, .ref g, .ref la, .int x3, .int ba])), (h, .inr (2, [.ref a, .int n])), (a, .inl (cC, 160, .inl f)), (fi, .inr (1, [.int mi, .int pl, .int ze, .int sh, .int bl, .int sw, .int sp, .int wi, .int pr, .int le, .int so, .int nx])), (vV, .inr (4, [.ref wV, .int decV, .int belV, .long ahV, .long bhV])), (wV, .inr (2, [.ref waV, .int nV])), (waV, .inl (cC, 60, .inl fV))]) (w1 := [(g, .inr (0, [.ref ra])), (ra, .inl (cI, 31, .inl row_7))]) hP hD [7, 8] [0, 1, 2, 3, 4, 5, 6] rfl rfl (by decide) (by decide) hk1 hFc hP1 hD1
  generalize H1 = H at hP hS ⊢
  have hP : va_P (dC, dI) CL [(sa, .inr (3, [.ref h, .ref g, .ref la, .int x3, .int ba])), (h, .inr (2, [.ref a, .int n])), (a, .inl (cC, 160, .inl f)), (fi, .inr (1, [.int mi, .int pl, .int ze, .int sh, .int bl, .int sw, .int sp, .int wi, .int pr, .int le, .int so, .int nx])), (vV, .inr (4, [.ref wV, .int decV, .int belV, .long ahV, .long bhV])), (wV, .inr (2, [.ref waV, .int nV])), (waV, .inl (cC, 60, .inl fV)), (g, .inr (0, [.ref ra])), (ra, .inl (cI, 31, .inl row_7))] H := hP
  have hD : va_D A [(sa, .inr (3, [.ref h, .ref g, .ref la, .int x3, .int ba])), (h, .inr (2, [.ref a, .int n])), (a, .inl (cC, 160, .inl f)), (fi, .inr (1, [.int mi, .int pl, .int ze, .int sh, .int bl, .int sw, .int sp, .int wi, .int pr, .int le, .int so, .int nx])), (vV, .inr (4, [.ref wV, .int decV, .int belV, .long ahV, .long bhV])), (wV, .inr (2, [.ref waV, .int nV])), (waV, .inl (cC, 60, .inl fV)), (g, .inr (0, [.ref ra])), (ra, .inl (cI, 31, .inl row_7))] := hD
  have hro : row_7 = gRow bhV ahV pr row := by rw [gRow, ← hmo, ← w28_4, ← w39_5, ← ex6]; exact w44_7
  refine lv_aload_n hx hb d_Sh_formShorter_47 rfl (lv_at hl 1 rfl) ?_
  refine va_get (D := (dC, dI)) (ci := 3) (v := .ref g) (C := R_Sh) (T := F_Sh) (N := 5) hx hb hT (in_Sh) hown hK hP 0 rfl rfl 1 (by decide) (hT _ t_142) (fun _ h9 => h9) rfl d_Sh_formShorter_48 ?_
  have hPc := hP.sub (ws' := [(g, .inr (0, [.ref ra])), (ra, .inl (cI, 31, .inl row_7))]) [7, 8] rfl
  have hDc := hD.sub (ws' := [(g, .inr (0, [.ref ra])), (ra, .inl (cI, 31, .inl row_7))]) [7, 8] (by decide) rfl
  have hKc := hK.sub (tys' := [(cI, .int)]) [1] rfl
  have hFc := va_free (wc := [(g, .inr (0, [.ref ra])), (ra, .inl (cI, 31, .inl row_7))]) hD hS hA [7, 8] rfl
  refine va_calli (va_runV (As := []) (rest := []) ⟨hx, hb, hml, hown, hT⟩ (c_Digits_exponent l dC dI H.size cI g ra row_7 ) (cwV 0 hT g_Sh_131 rfl rfl rfl (by decide +kernel) ⟨Nat.le_of_ble_eq_true rfl, Nat.le_of_ble_eq_true rfl⟩) ⟨fun a U g mk q => by obtain ⟨q0, q1, qP, qK, qD⟩ := q; exact ⟨q0, q1, qP, va_K.moved (u := U) (U := U.calling g mk a) (Vm.Alike.refl U.vm) qK, qD⟩, va_recv hKc hPc (ci := 0) (q0 := 0) rfl rfl, fun U hU hW => ⟨rfl, by rw [hU], by rw [hU]; exact hPc, va_K.moved hW.alike hKc, hDc.weaken (fun _ _ _ _ => trivial)⟩⟩ rfl rfl hl.1 rfl (lv_room (Nat.le_of_ble_eq_true rfl)) d_Sh_formShorter_51 ⟨Nat.le_of_ble_eq_true rfl, Nat.le_of_ble_eq_true rfl⟩) hS (fun q _ h => hFc q h) hFc (fun x8 u t H1 locs ht hvm w51_8 hB hz1 hk1 hS => ?_)
  obtain ⟨hP1, hK1, hD1⟩ := hB
  rw [ht] at hP1
  try dsimp only at w51_8
  obtain ⟨hP, hD⟩ := va_join (wr := [(sa, .inr (3, [.ref h, .ref g, .ref la, .int x3, .int ba])), (h, .inr (2, [.ref a, .int n])), (a, .inl (cC, 160, .inl f)), (fi, .inr (1, [.int mi, .int pl, .int ze, .int sh, .int bl, .int sw, .int sp, .int wi, .int pr, .int le, .int so, .int nx])), (vV, .inr (4, [.ref wV, .int decV, .int belV, .long ahV, .long bhV])), (wV, .inr (2, [.ref waV, .int nV])), (waV, .inl (cC, 60, .inl fV))]) (w1 := [(g, .inr (0, [.ref ra])), (ra, .inl (cI, 31, .inl row_7))]) hP hD [7, 8] [0, 1, 2, 3, 4, 5, 6] rfl rfl (by decide) (by decide) hk1 hFc hP1 hD1
  generalize H1 = H at hP hS ⊢
  have hP : va_P (dC, dI) CL [(sa, .inr (3, [.ref h, .ref g, .ref la, .int x3, .int ba])), (h, .inr (2, [.ref a, .int n])), (a, .inl (cC, 160, .inl f)), (fi, .inr (1, [.int mi, .int pl, .int ze, .int sh, .int bl, .int sw, .int sp, .int wi, .int pr, .int le, .int so, .int nx])), (vV, .inr (4, [.ref wV, .int decV, .int belV, .long ahV, .long bhV])), (wV, .inr (2, [.ref waV, .int nV])), (waV, .inl (cC, 60, .inl fV)), (g, .inr (0, [.ref ra])), (ra, .inl (cI, 31, .inl row_7))] H := hP
  have hD : va_D A [(sa, .inr (3, [.ref h, .ref g, .ref la, .int x3, .int ba])), (h, .inr (2, [.ref a, .int n])), (a, .inl (cC, 160, .inl f)), (fi, .inr (1, [.int mi, .int pl, .int ze, .int sh, .int bl, .int sw, .int sp, .int wi, .int pr, .int le, .int so, .int nx])), (vV, .inr (4, [.ref wV, .int decV, .int belV, .long ahV, .long bhV])), (wV, .inr (2, [.ref waV, .int nV])), (waV, .inl (cC, 60, .inl fV)), (g, .inr (0, [.ref ra])), (ra, .inl (cI, 31, .inl row_7))] := hD
  rw [hro] at w51_8
  refine lv_istore (lv' := [(4, .int x8), (3, .int x2), (0, .ref sa), (1, .ref vV), (2, .ref fi)]) hx hb d_Sh_formShorter_54 hl (by decide) rfl (fun ls hl => ?_)
  refine lv_iload hx hb d_Sh_formShorter_56 (lv_at hl 0 rfl) ?_
  refine lv_bipush (v := (-4)) hx hb d_Sh_formShorter_58 (by decide) ?_
  have cut74 : ∀ (fa9 : Int32) (H : Heap) (locs : List Loc) (ls : Array Slot), (fa9 = k_b (gFar (gRow bhV ahV pr row) pr)) → va_P (dC, dI) CL [(sa, .inr (3, [.ref h, .ref g, .ref la, .int x3, .int ba])), (h, .inr (2, [.ref a, .int n])), (a, .inl (cC, 160, .inl f)), (fi, .inr (1, [.int mi, .int pl, .int ze, .int sh, .int bl, .int sw, .int sp, .int wi, .int pr, .int le, .int so, .int nx])), (vV, .inr (4, [.ref wV, .int decV, .int belV, .long ahV, .long bhV])), (wV, .inr (2, [.ref waV, .int nV])), (waV, .inl (cC, 60, .inl fV)), (g, .inr (0, [.ref ra])), (ra, .inl (cI, 31, .inl row_7))] H → va_D A [(sa, .inr (3, [.ref h, .ref g, .ref la, .int x3, .int ba])), (h, .inr (2, [.ref a, .int n])), (a, .inl (cC, 160, .inl f)), (fi, .inr (1, [.int mi, .int pl, .int ze, .int sh, .int bl, .int sw, .int sp, .int wi, .int pr, .int le, .int so, .int nx])), (vV, .inr (4, [.ref wV, .int decV, .int belV, .long ahV, .long bhV])), (wV, .inr (2, [.ref waV, .int nV])), (waV, .inl (cC, 60, .inl fV)), (g, .inr (0, [.ref ra])), (ra, .inl (cI, 31, .inl row_7))] → va_S A s.heap H locs → lv_has ls 8 [(4, .int x8), (3, .int x2), (0, .ref sa), (1, .ref vV), (2, .ref fi)] → W p l e (headSpec w_Sh_formShorter ({ frames := 2, cells := 0, slots := 0, locals := 46 } : Room)).room s m ([.ref sa, .ref vV, .ref fi] : List Value).toArray below meth c H locs 0 0 Q (F0 m 74 ls [.int fa9]) := by
    intro fa9 H locs ls hfa hP hD hS hl
    refine lv_istore (lv' := [(5, .int fa9), (4, .int x8), (3, .int x2), (0, .ref sa), (1, .ref vV), (2, .ref fi)]) hx hb d_Sh_formShorter_74 hl (by decide) rfl (fun ls hl => ?_)
    refine lv_iload hx hb d_Sh_formShorter_76 (lv_at hl 0 rfl) ?_
    have cut93 : ∀ (pc9 : Int32) (H : Heap) (locs : List Loc) (ls : Array Slot), (pc9 = gPlaces (gRow bhV ahV pr row) pr) → va_P (dC, dI) CL [(sa, .inr (3, [.ref h, .ref g, .ref la, .int x3, .int ba])), (h, .inr (2, [.ref a, .int n])), (a, .inl (cC, 160, .inl f)), (fi, .inr (1, [.int mi, .int pl, .int ze, .int sh, .int bl, .int sw, .int sp, .int wi, .int pr, .int le, .int so, .int nx])), (vV, .inr (4, [.ref wV, .int decV, .int belV, .long ahV, .long bhV])), (wV, .inr (2, [.ref waV, .int nV])), (waV, .inl (cC, 60, .inl fV)), (g, .inr (0, [.ref ra])), (ra, .inl (cI, 31, .inl row_7))] H → va_D A [(sa, .inr (3, [.ref h, .ref g, .ref la, .int x3, .int ba])), (h, .inr (2, [.ref a, .int n])), (a, .inl (cC, 160, .inl f)), (fi, .inr (1, [.int mi, .int pl, .int ze, .int sh, .int bl, .int sw, .int sp, .int wi, .int pr, .int le, .int so, .int nx])), (vV, .inr (4, [.ref wV, .int decV, .int belV, .long ahV, .long bhV])), (wV, .inr (2, [.ref waV, .int nV])), (waV, .inl (cC, 60, .inl fV)), (g, .inr (0, [.ref ra])), (ra, .inl (cI, 31, .inl row_7))] → va_S A s.heap H locs → lv_has ls 8 [(5, .int fa9), (4, .int x8), (3, .int x2), (0, .ref sa), (1, .ref vV), (2, .ref fi)] → W p l e (headSpec w_Sh_formShorter ({ frames := 2, cells := 0, slots := 0, locals := 46 } : Room)).room s m ([.ref sa, .ref vV, .ref fi] : List Value).toArray below meth c H locs 0 0 Q (F0 m 93 ls [.int pc9]) := by
      intro pc9 H locs ls hpc hP hD hS hl
      refine lv_istore (lv' := [(6, .int pc9), (5, .int fa9), (4, .int x8), (3, .int x2), (0, .ref sa), (1, .ref vV), (2, .ref fi)]) hx hb d_Sh_formShorter_93 hl (by decide) rfl (fun ls hl => ?_)
      refine lv_iload hx hb d_Sh_formShorter_95 (lv_at hl 1 rfl) ?_
      have cut114 : ∀ (po9 : Int32) (H : Heap) (locs : List Loc) (ls : Array Slot), (po9 = gPoint (gRow bhV ahV pr row) pr) → va_P (dC, dI) CL [(sa, .inr (3, [.ref h, .ref g, .ref la, .int x3, .int ba])), (h, .inr (2, [.ref a, .int n])), (a, .inl (cC, 160, .inl f)), (fi, .inr (1, [.int mi, .int pl, .int ze, .int sh, .int bl, .int sw, .int sp, .int wi, .int pr, .int le, .int so, .int nx])), (vV, .inr (4, [.ref wV, .int decV, .int belV, .long ahV, .long bhV])), (wV, .inr (2, [.ref waV, .int nV])), (waV, .inl (cC, 60, .inl fV)), (g, .inr (0, [.ref ra])), (ra, .inl (cI, 31, .inl row_7))] H → va_D A [(sa, .inr (3, [.ref h, .ref g, .ref la, .int x3, .int ba])), (h, .inr (2, [.ref a, .int n])), (a, .inl (cC, 160, .inl f)), (fi, .inr (1, [.int mi, .int pl, .int ze, .int sh, .int bl, .int sw, .int sp, .int wi, .int pr, .int le, .int so, .int nx])), (vV, .inr (4, [.ref wV, .int decV, .int belV, .long ahV, .long bhV])), (wV, .inr (2, [.ref waV, .int nV])), (waV, .inl (cC, 60, .inl fV)), (g, .inr (0, [.ref ra])), (ra, .inl (cI, 31, .inl row_7))] → va_S A s.heap H locs → lv_has ls 8 [(6, .int pc9), (5, .int fa9), (4, .int x8), (3, .int x2), (0, .ref sa), (1, .ref vV), (2, .ref fi)] → W p l e (headSpec w_Sh_formShorter ({ frames := 2, cells := 0, slots := 0, locals := 46 } : Room)).room s m ([.ref sa, .ref vV, .ref fi] : List Value).toArray below meth c H locs 0 0 Q (F0 m 114 ls [.int po9]) := by
        intro po9 H locs ls hpo hP hD hS hl
        refine lv_istore (lv' := [(7, .int po9), (6, .int pc9), (5, .int fa9), (4, .int x8), (3, .int x2), (0, .ref sa), (1, .ref vV), (2, .ref fi)]) hx hb d_Sh_formShorter_114 hl (by decide) rfl (fun ls hl => ?_)
        refine lv_aload_n hx hb d_Sh_formShorter_116 rfl (lv_at hl 5 rfl) ?_
        refine va_get (D := (dC, dI)) (ci := 3) (v := .ref g) (C := R_Sh) (T := F_Sh) (N := 5) hx hb hT (in_Sh) hown hK hP 0 rfl rfl 1 (by decide) (hT _ t_142) (fun _ h9 => h9) rfl d_Sh_formShorter_117 ?_
        refine lv_aload_n hx hb d_Sh_formShorter_120 rfl (lv_at hl 5 rfl) ?_
        refine va_get (D := (dC, dI)) (ci := 3) (v := .ref h) (C := R_Sh) (T := F_Sh) (N := 5) hx hb hT (in_Sh) hown hK hP 0 rfl rfl 0 (by decide) (hT _ t_141) (fun _ h9 => h9) rfl d_Sh_formShorter_121 ?_
        refine lv_iload hx hb d_Sh_formShorter_124 (lv_at hl 0 rfl) ?_
        refine lv_iload hx hb d_Sh_formShorter_126 (lv_at hl 1 rfl) ?_
        refine lv_aload_n hx hb d_Sh_formShorter_128 rfl (lv_at hl 7 rfl) ?_
        refine va_getN (D := (dC, dI)) (ci := 1) (v := .int sh) (C := R_Fi) (T := F_Fi) (N := 12) hx hb hT (in_Fi) hown hK hP 3 rfl rfl 3 (by decide) (va_Nw.use rfl (kN_82 hN)) (fun _ h9 => h9) rfl d_Sh_formShorter_129 ?_
        have hPc := hP.sub (ws' := [(g, .inr (0, [.ref ra])), (ra, .inl (cI, 31, .inl row_7)), (h, .inr (2, [.ref a, .int n])), (a, .inl (cC, 160, .inl f))]) [7, 8, 1, 2] rfl
        have hDc := hD.sub (ws' := [(g, .inr (0, [.ref ra])), (ra, .inl (cI, 31, .inl row_7)), (h, .inr (2, [.ref a, .int n])), (a, .inl (cC, 160, .inl f))]) [7, 8, 1, 2] (by decide) rfl
        have hKc := hK.sub (tys' := [(cI, .int), (cC, .char)]) [1, 0] rfl
        have hFc := va_free (wc := [(g, .inr (0, [.ref ra])), (ra, .inl (cI, 31, .inl row_7)), (h, .inr (2, [.ref a, .int n])), (a, .inl (cC, 160, .inl f))]) hD hS hA [7, 8, 1, 2] rfl
        refine va_callv (va_runV (As := [.ref h, .int po9, .int pc9, .int sh]) (rest := []) ⟨hx, hb, hml, hown, hT⟩ (c_Digits_put l dC dI H.size cI cC g ra row_7 h a 160 f n po9 pc9 sh hn) (cwV 4 hT g_Sh_124 rfl rfl rfl (by decide +kernel) ⟨Nat.le_of_ble_eq_true rfl, Nat.le_of_ble_eq_true rfl⟩) ⟨fun a U g mk q => by obtain ⟨q0, q1, qP, qK, qD⟩ := q; exact ⟨q0, q1, qP, va_K.moved (u := U) (U := U.calling g mk a) (Vm.Alike.refl U.vm) qK, qD⟩, va_recv hKc hPc (ci := 0) (q0 := 0) rfl rfl, fun U hU hW => ⟨rfl, by rw [hU], by rw [hU]; exact hPc, va_K.moved hW.alike hKc, hDc.weaken (fun _ _ _ _ => trivial)⟩⟩ rfl rfl hl.1 rfl (lv_room (Nat.le_of_ble_eq_true rfl)) d_Sh_formShorter_132 ⟨Nat.le_of_ble_eq_true rfl, Nat.le_of_ble_eq_true rfl⟩) hS (fun q _ h => hFc q h) hFc (fun u t H1 locs ht hvm w132_10 hB hz1 hk1 hS => ?_)
        obtain ⟨f_9, n_10⟩ := u
        obtain ⟨hP1, hK1, hD1⟩ := hB
        rw [ht] at hP1
        try dsimp only at w132_10
        obtain ⟨w132_10, w132_10b⟩ := w132_10
        obtain ⟨hP, hD⟩ := va_join (wr := [(sa, .inr (3, [.ref h, .ref g, .ref la, .int x3, .int ba])), (fi, .inr (1, [.int mi, .int pl, .int ze, .int sh, .int bl, .int sw, .int sp, .int wi, .int pr, .int le, .int so, .int nx])), (vV, .inr (4, [.ref wV, .int decV, .int belV, .long ahV, .long bhV])), (wV, .inr (2, [.ref waV, .int nV])), (waV, .inl (cC, 60, .inl fV))]) (w1 := [(g, .inr (0, [.ref ra])), (ra, .inl (cI, 31, .inl row_7)), (h, .inr (2, [.ref a, .int n_10])), (a, .inl (cC, 160, .inl f_9))]) hP hD [7, 8, 1, 2] [0, 3, 4, 5, 6] rfl rfl (by decide) (by decide) hk1 hFc hP1 hD1
        generalize H1 = H at hP hS ⊢
        have hP : va_P (dC, dI) CL [(sa, .inr (3, [.ref h, .ref g, .ref la, .int x3, .int ba])), (fi, .inr (1, [.int mi, .int pl, .int ze, .int sh, .int bl, .int sw, .int sp, .int wi, .int pr, .int le, .int so, .int nx])), (vV, .inr (4, [.ref wV, .int decV, .int belV, .long ahV, .long bhV])), (wV, .inr (2, [.ref waV, .int nV])), (waV, .inl (cC, 60, .inl fV)), (g, .inr (0, [.ref ra])), (ra, .inl (cI, 31, .inl row_7)), (h, .inr (2, [.ref a, .int n_10])), (a, .inl (cC, 160, .inl f_9))] H := hP
        have hD : va_D A [(sa, .inr (3, [.ref h, .ref g, .ref la, .int x3, .int ba])), (fi, .inr (1, [.int mi, .int pl, .int ze, .int sh, .int bl, .int sw, .int sp, .int wi, .int pr, .int le, .int so, .int nx])), (vV, .inr (4, [.ref wV, .int decV, .int belV, .long ahV, .long bhV])), (wV, .inr (2, [.ref waV, .int nV])), (waV, .inl (cC, 60, .inl fV)), (g, .inr (0, [.ref ra])), (ra, .inl (cI, 31, .inl row_7)), (h, .inr (2, [.ref a, .int n_10])), (a, .inl (cC, 160, .inl f_9))] := hD
        rw [hro, hpo, hpc] at w132_10
        have hL1 : (f_9, n_10) = gL1 (gRow bhV ahV pr row) pr sh (f, n) := w132_10
        refine lv_aload_n hx hb d_Sh_formShorter_135 rfl (lv_at hl 7 rfl) ?_
        refine va_getN (D := (dC, dI)) (ci := 1) (v := .int sh) (C := R_Fi) (T := F_Fi) (N := 12) hx hb hT (in_Fi) hown hK hP 1 rfl rfl 3 (by decide) (va_Nw.use rfl (kN_82 hN)) (fun _ h9 => h9) rfl d_Sh_formShorter_136 ?_
        have cut151 : ∀ (n3 : Int32) (H : Heap) (locs : List Loc) (ls : Array Slot), ((f_9, n3) = gL2 (gRow bhV ahV pr row) pr sh (f, n)) → (lnOK 160 n3) → va_P (dC, dI) CL [(sa, .inr (3, [.ref h, .ref g, .ref la, .int x3, .int ba])), (fi, .inr (1, [.int mi, .int pl, .int ze, .int sh, .int bl, .int sw, .int sp, .int wi, .int pr, .int le, .int so, .int nx])), (vV, .inr (4, [.ref wV, .int decV, .int belV, .long ahV, .long bhV])), (wV, .inr (2, [.ref waV, .int nV])), (waV, .inl (cC, 60, .inl fV)), (g, .inr (0, [.ref ra])), (ra, .inl (cI, 31, .inl row_7)), (h, .inr (2, [.ref a, .int n3])), (a, .inl (cC, 160, .inl f_9))] H → va_D A [(sa, .inr (3, [.ref h, .ref g, .ref la, .int x3, .int ba])), (fi, .inr (1, [.int mi, .int pl, .int ze, .int sh, .int bl, .int sw, .int sp, .int wi, .int pr, .int le, .int so, .int nx])), (vV, .inr (4, [.ref wV, .int decV, .int belV, .long ahV, .long bhV])), (wV, .inr (2, [.ref waV, .int nV])), (waV, .inl (cC, 60, .inl fV)), (g, .inr (0, [.ref ra])), (ra, .inl (cI, 31, .inl row_7)), (h, .inr (2, [.ref a, .int n3])), (a, .inl (cC, 160, .inl f_9))] → va_S A s.heap H locs → lv_has ls 8 [(7, .int po9), (6, .int pc9), (5, .int fa9), (4, .int x8), (3, .int x2), (0, .ref sa), (1, .ref vV), (2, .ref fi)] → W p l e (headSpec w_Sh_formShorter ({ frames := 2, cells := 0, slots := 0, locals := 46 } : Room)).room s m ([.ref sa, .ref vV, .ref fi] : List Value).toArray below meth c H locs 0 0 Q (F0 m 151 ls []) := by
          intro n3 H locs ls hL2 hn3 hP hD hS hl
          refine lv_iload hx hb d_Sh_formShorter_151 (lv_at hl 2 rfl) ?_
          refine lv_if_eq (tgt := 178) hx hb d_Sh_formShorter_153 (by decide) (fun c153_11 => ?_) (fun c153_11 => ?_)
          · skip
            have hP9 := hP.sub (ws' := [(sa, .inr (3, [.ref h, .ref g, .ref la, .int x3, .int ba])), (h, .inr (2, [.ref a, .int n3])), (a, .inl (cC, 160, .inl f_9)), (g, .inr (0, [.ref ra])), (ra, .inl (cI, 31, .inl row_7)), (vV, .inr (4, [.ref wV, .int decV, .int belV, .long ahV, .long bhV])), (wV, .inr (2, [.ref waV, .int nV])), (waV, .inl (cC, 60, .inl fV)), (fi, .inr (1, [.int mi, .int pl, .int ze, .int sh, .int bl, .int sw, .int sp, .int wi, .int pr, .int le, .int so, .int nx]))]) [0, 7, 8, 5, 6, 2, 3, 4, 1] rfl
            have hD9 := hD.sub (ws' := [(sa, .inr (3, [.ref h, .ref g, .ref la, .int x3, .int ba])), (h, .inr (2, [.ref a, .int n3])), (a, .inl (cC, 160, .inl f_9)), (g, .inr (0, [.ref ra])), (ra, .inl (cI, 31, .inl row_7)), (vV, .inr (4, [.ref wV, .int decV, .int belV, .long ahV, .long bhV])), (wV, .inr (2, [.ref waV, .int nV])), (waV, .inl (cC, 60, .inl fV)), (fi, .inr (1, [.int mi, .int pl, .int ze, .int sh, .int bl, .int sw, .int sp, .int wi, .int pr, .int le, .int so, .int nx]))]) [0, 7, 8, 5, 6, 2, 3, 4, 1] (by decide) rfl
            have hK9 := hK.sub (tys' := [(cC, .char), (cI, .int)]) [0, 1] rfl
            have hq9 : x3 = fiSign belV pl bl ∧ row_7 = gRow bhV ahV pr row ∧ (f_9, n3) = gL3 (gRow bhV ahV pr row) pr sh le (f, n) ∧ lnOK 160 n3 := by refine ⟨w17_3, hro, ?_, hn3⟩; rw [gL3, if_neg (k_bF1 c153_11 hfa)]; exact hL2
            subst hQ
            exact W.vret hx hb hr (fun t ht hW => ⟨⟨(x3, row_7, f_9, n3), rfl, hq9, by rw [ht]; exact hP9, va_K.moved hW.alike hK9, hD9⟩, hS.F ht⟩) hS.2.2 d_Sh_formShorter_178
          · skip
            refine lv_aload_n hx hb d_Sh_formShorter_156 rfl (lv_at hl 5 rfl) ?_
            refine lv_aload_n hx hb d_Sh_formShorter_157 rfl (lv_at hl 7 rfl) ?_
            refine va_getN (D := (dC, dI)) (ci := 1) (v := .int le) (C := R_Fi) (T := F_Fi) (N := 12) hx hb hT (in_Fi) hown hK hP 1 rfl rfl 9 (by decide) (va_Nw.use rfl (kN_92 hN)) (fun _ h9 => h9) rfl d_Sh_formShorter_158 ?_
            refine lv_bipush (v := 71) hx hb d_Sh_formShorter_161 (by decide) ?_
            have cut173 : ∀ (mk9 : Int32) (H : Heap) (locs : List Loc) (ls : Array Slot), (mk9 = if le = 71 then 69 else 101) → va_P (dC, dI) CL [(sa, .inr (3, [.ref h, .ref g, .ref la, .int x3, .int ba])), (fi, .inr (1, [.int mi, .int pl, .int ze, .int sh, .int bl, .int sw, .int sp, .int wi, .int pr, .int le, .int so, .int nx])), (vV, .inr (4, [.ref wV, .int decV, .int belV, .long ahV, .long bhV])), (wV, .inr (2, [.ref waV, .int nV])), (waV, .inl (cC, 60, .inl fV)), (g, .inr (0, [.ref ra])), (ra, .inl (cI, 31, .inl row_7)), (h, .inr (2, [.ref a, .int n3])), (a, .inl (cC, 160, .inl f_9))] H → va_D A [(sa, .inr (3, [.ref h, .ref g, .ref la, .int x3, .int ba])), (fi, .inr (1, [.int mi, .int pl, .int ze, .int sh, .int bl, .int sw, .int sp, .int wi, .int pr, .int le, .int so, .int nx])), (vV, .inr (4, [.ref wV, .int decV, .int belV, .long ahV, .long bhV])), (wV, .inr (2, [.ref waV, .int nV])), (waV, .inl (cC, 60, .inl fV)), (g, .inr (0, [.ref ra])), (ra, .inl (cI, 31, .inl row_7)), (h, .inr (2, [.ref a, .int n3])), (a, .inl (cC, 160, .inl f_9))] → va_S A s.heap H locs → lv_has ls 8 [(7, .int po9), (6, .int pc9), (5, .int fa9), (4, .int x8), (3, .int x2), (0, .ref sa), (1, .ref vV), (2, .ref fi)] → W p l e (headSpec w_Sh_formShorter ({ frames := 2, cells := 0, slots := 0, locals := 46 } : Room)).room s m ([.ref sa, .ref vV, .ref fi] : List Value).toArray below meth c H locs 0 0 Q (F0 m 173 ls [.int mk9, .ref sa]) := by
              intro mk9 H locs ls hmk hP hD hS hl
              refine lv_iload hx hb d_Sh_formShorter_173 (lv_at hl 3 rfl) ?_
              have hPc := hP.sub (ws' := [(sa, .inr (3, [.ref h, .ref g, .ref la, .int x3, .int ba])), (h, .inr (2, [.ref a, .int n3])), (a, .inl (cC, 160, .inl f_9)), (g, .inr (0, [.ref ra])), (ra, .inl (cI, 31, .inl row_7))]) [0, 7, 8, 5, 6] rfl
              have hDc := hD.sub (ws' := [(sa, .inr (3, [.ref h, .ref g, .ref la, .int x3, .int ba])), (h, .inr (2, [.ref a, .int n3])), (a, .inl (cC, 160, .inl f_9)), (g, .inr (0, [.ref ra])), (ra, .inl (cI, 31, .inl row_7))]) [0, 7, 8, 5, 6] (by decide) rfl
              have hKc := hK.sub (tys' := [(cC, .char), (cI, .int)]) [0, 1] rfl
              have hFc := va_free (wc := [(sa, .inr (3, [.ref h, .ref g, .ref la, .int x3, .int ba])), (h, .inr (2, [.ref a, .int n3])), (a, .inl (cC, 160, .inl f_9)), (g, .inr (0, [.ref ra])), (ra, .inl (cI, 31, .inl row_7))]) hD hS hA [0, 7, 8, 5, 6] rfl
              refine va_callv (va_runV (As := [.int mk9, .int x8]) (rest := []) ⟨hx, hb, hml, hown, hT⟩ (c_Shape_putExponent l dC dI H.size cC cI sa h g la x3 ba a f_9 n3 ra row_7 mk9 x8 hn3) (cwV 2 hT g_Sh_134 rfl rfl rfl (by decide +kernel) ⟨Nat.le_of_ble_eq_true rfl, Nat.le_of_ble_eq_true rfl⟩) ⟨fun a U g mk q => by obtain ⟨q0, q1, qP, qK, qD, qN⟩ := q; exact ⟨q0, q1, qP, va_K.moved (u := U) (U := U.calling g mk a) (Vm.Alike.refl U.vm) qK, qD, qN.calling⟩, va_recv hKc hPc (ci := 3) (q0 := 0) rfl rfl, fun U hU hW => ⟨rfl, by rw [hU], by rw [hU]; exact hPc, va_K.moved hW.alike hKc, hDc.weaken (fun _ _ _ _ => trivial), hN.warm hW⟩⟩ rfl rfl hl.1 rfl (lv_room (Nat.le_of_ble_eq_true rfl)) d_Sh_formShorter_175 ⟨Nat.le_of_ble_eq_true rfl, Nat.le_of_ble_eq_true rfl⟩) hS (fun q _ h => hFc q h) hFc (fun u t H1 locs ht hvm w175_13 hB hz1 hk1 hS => ?_)
              obtain ⟨f_12, n_13⟩ := u
              obtain ⟨hP1, hK1, hD1⟩ := hB
              rw [ht] at hP1
              try dsimp only at w175_13
              obtain ⟨w175_13, w175_13b⟩ := w175_13
              obtain ⟨hP, hD⟩ := va_join (wr := [(fi, .inr (1, [.int mi, .int pl, .int ze, .int sh, .int bl, .int sw, .int sp, .int wi, .int pr, .int le, .int so, .int nx])), (vV, .inr (4, [.ref wV, .int decV, .int belV, .long ahV, .long bhV])), (wV, .inr (2, [.ref waV, .int nV])), (waV, .inl (cC, 60, .inl fV))]) (w1 := [(sa, .inr (3, [.ref h, .ref g, .ref la, .int x3, .int ba])), (h, .inr (2, [.ref a, .int n_13])), (a, .inl (cC, 160, .inl f_12)), (g, .inr (0, [.ref ra])), (ra, .inl (cI, 31, .inl row_7))]) hP hD [0, 7, 8, 5, 6] [1, 2, 3, 4] rfl rfl (by decide) (by decide) hk1 hFc hP1 hD1
              generalize H1 = H at hP hS ⊢
              have hP : va_P (dC, dI) CL [(fi, .inr (1, [.int mi, .int pl, .int ze, .int sh, .int bl, .int sw, .int sp, .int wi, .int pr, .int le, .int so, .int nx])), (vV, .inr (4, [.ref wV, .int decV, .int belV, .long ahV, .long bhV])), (wV, .inr (2, [.ref waV, .int nV])), (waV, .inl (cC, 60, .inl fV)), (sa, .inr (3, [.ref h, .ref g, .ref la, .int x3, .int ba])), (h, .inr (2, [.ref a, .int n_13])), (a, .inl (cC, 160, .inl f_12)), (g, .inr (0, [.ref ra])), (ra, .inl (cI, 31, .inl row_7))] H := hP
              have hD : va_D A [(fi, .inr (1, [.int mi, .int pl, .int ze, .int sh, .int bl, .int sw, .int sp, .int wi, .int pr, .int le, .int so, .int nx])), (vV, .inr (4, [.ref wV, .int decV, .int belV, .long ahV, .long bhV])), (wV, .inr (2, [.ref waV, .int nV])), (waV, .inl (cC, 60, .inl fV)), (sa, .inr (3, [.ref h, .ref g, .ref la, .int x3, .int ba])), (h, .inr (2, [.ref a, .int n_13])), (a, .inl (cC, 160, .inl f_12)), (g, .inr (0, [.ref ra])), (ra, .inl (cI, 31, .inl row_7))] := hD
              have hP9 := hP.sub (ws' := [(sa, .inr (3, [.ref h, .ref g, .ref la, .int x3, .int ba])), (h, .inr (2, [.ref a, .int n_13])), (a, .inl (cC, 160, .inl f_12)), (g, .inr (0, [.ref ra])), (ra, .inl (cI, 31, .inl row_7)), (vV, .inr (4, [.ref wV, .int decV, .int belV, .long ahV, .long bhV])), (wV, .inr (2, [.ref waV, .int nV])), (waV, .inl (cC, 60, .inl fV)), (fi, .inr (1, [.int mi, .int pl, .int ze, .int sh, .int bl, .int sw, .int sp, .int wi, .int pr, .int le, .int so, .int nx]))]) [4, 5, 6, 7, 8, 1, 2, 3, 0] rfl
              have hD9 := hD.sub (ws' := [(sa, .inr (3, [.ref h, .ref g, .ref la, .int x3, .int ba])), (h, .inr (2, [.ref a, .int n_13])), (a, .inl (cC, 160, .inl f_12)), (g, .inr (0, [.ref ra])), (ra, .inl (cI, 31, .inl row_7)), (vV, .inr (4, [.ref wV, .int decV, .int belV, .long ahV, .long bhV])), (wV, .inr (2, [.ref waV, .int nV])), (waV, .inl (cC, 60, .inl fV)), (fi, .inr (1, [.int mi, .int pl, .int ze, .int sh, .int bl, .int sw, .int sp, .int wi, .int pr, .int le, .int so, .int nx]))]) [4, 5, 6, 7, 8, 1, 2, 3, 0] (by decide) rfl
              have hK9 := hK.sub (tys' := [(cC, .char), (cI, .int)]) [0, 1] rfl
              have hq9 : x3 = fiSign belV pl bl ∧ row_7 = gRow bhV ahV pr row ∧ (f_12, n_13) = gL3 (gRow bhV ahV pr row) pr sh le (f, n) ∧ lnOK 160 n_13 := by refine ⟨w17_3, hro, ?_, w175_13b⟩; rw [gL3, if_pos (k_bT1 c153_11 hfa), ← hL2, ← hmk, exPut_E, ← w51_8]; exact w175_13
              subst hQ
              exact W.vret hx hb hr (fun t ht hW => ⟨⟨(x3, row_7, f_12, n_13), rfl, hq9, by rw [ht]; exact hP9, va_K.moved hW.alike hK9, hD9⟩, hS.F ht⟩) hS.2.2 d_Sh_formShorter_178
            refine lv_icmp_ne (tgt := 171) hx hb d_Sh_formShorter_163 (by decide) (fun c163_14 => ?_) (fun c163_14 => ?_)
            · skip
              refine lv_bipush (v := 101) hx hb d_Sh_formShorter_171 (by decide) ?_
              exact cut173 101 _ _ _ (by simp [c163_14]) (hP.sub [0, 1, 2, 3, 4, 5, 6, 7, 8] rfl) (hD.sub [0, 1, 2, 3, 4, 5, 6, 7, 8] (by decide) rfl) hS (lv_sub hl [0, 1, 2, 3, 4, 5, 6, 7] rfl)
            · skip
              refine lv_bipush (v := 69) hx hb d_Sh_formShorter_166 (by decide) ?_
              refine lv_goto (tgt := 173) hx hb d_Sh_formShorter_168 (by decide) ?_
              exact cut173 69 _ _ _ (by simp [c163_14]) (hP.sub [0, 1, 2, 3, 4, 5, 6, 7, 8] rfl) (hD.sub [0, 1, 2, 3, 4, 5, 6, 7, 8] (by decide) rfl) hS (lv_sub hl [0, 1, 2, 3, 4, 5, 6, 7] rfl)
        refine lv_if_ne (tgt := 151) hx hb d_Sh_formShorter_139 (by decide) (fun c139_15 => ?_) (fun c139_15 => ?_)
        · skip
          exact cut151 n_10 _ _ _ (by rw [gL2, if_neg c139_15]; exact hL1) (w132_10b) (hP.sub [0, 1, 2, 3, 4, 5, 6, 7, 8] rfl) (hD.sub [0, 1, 2, 3, 4, 5, 6, 7, 8] (by decide) rfl) hS (lv_sub hl [0, 1, 2, 3, 4, 5, 6, 7] rfl)
        · skip
          refine lv_aload_n hx hb d_Sh_formShorter_142 rfl (lv_at hl 5 rfl) ?_
          refine va_get (D := (dC, dI)) (ci := 3) (v := .ref h) (C := R_Sh) (T := F_Sh) (N := 5) hx hb hT (in_Sh) hown hK hP 0 rfl rfl 0 (by decide) (hT _ t_141) (fun _ h9 => h9) rfl d_Sh_formShorter_143 ?_
          refine lv_iload hx hb d_Sh_formShorter_146 (lv_at hl 1 rfl) ?_
          have hPc := hP.sub (ws' := [(h, .inr (2, [.ref a, .int n_10])), (a, .inl (cC, 160, .inl f_9))]) [7, 8] rfl
          have hDc := hD.sub (ws' := [(h, .inr (2, [.ref a, .int n_10])), (a, .inl (cC, 160, .inl f_9))]) [7, 8] (by decide) rfl
          have hKc := hK.sub (tys' := [(cC, .char)]) [0] rfl
          have hFc := va_free (wc := [(h, .inr (2, [.ref a, .int n_10])), (a, .inl (cC, 160, .inl f_9))]) hD hS hA [7, 8] rfl
          refine va_callv (va_runV (As := [.int pc9]) (rest := []) ⟨hx, hb, hml, hown, hT⟩ (c_Line_dropZeros l dC dI H.size cC h a 160 f_9 n_10 pc9 (by first | assumption | omega)) (cwV 1 hT g_Sh_146 rfl rfl rfl (by decide +kernel) ⟨Nat.le_of_ble_eq_true rfl, Nat.le_of_ble_eq_true rfl⟩) ⟨fun a U g mk q => by obtain ⟨q0, q1, qP, qK, qD⟩ := q; exact ⟨q0, q1, qP, va_K.moved (u := U) (U := U.calling g mk a) (Vm.Alike.refl U.vm) qK, qD⟩, va_recv hKc hPc (ci := 2) (q0 := 0) rfl rfl, fun U hU hW => ⟨rfl, by rw [hU], by rw [hU]; exact hPc, va_K.moved hW.alike hKc, hDc.weaken (fun _ _ _ _ => trivial)⟩⟩ rfl rfl hl.1 rfl (lv_room (Nat.le_of_ble_eq_true rfl)) d_Sh_formShorter_148 ⟨Nat.le_of_ble_eq_true rfl, Nat.le_of_ble_eq_true rfl⟩) hS (fun q _ h => hFc q h) hFc (fun u t H1 locs ht hvm w148_16 hB hz1 hk1 hS => ?_)
          obtain ⟨n_16, rfl⟩ : ∃ z, z = u := ⟨_, rfl⟩
          obtain ⟨hP1, hK1, hD1⟩ := hB
          rw [ht] at hP1
          try dsimp only at w148_16
          obtain ⟨w148_16, w148_16b⟩ := w148_16
          obtain ⟨hP, hD⟩ := va_join (wr := [(sa, .inr (3, [.ref h, .ref g, .ref la, .int x3, .int ba])), (fi, .inr (1, [.int mi, .int pl, .int ze, .int sh, .int bl, .int sw, .int sp, .int wi, .int pr, .int le, .int so, .int nx])), (vV, .inr (4, [.ref wV, .int decV, .int belV, .long ahV, .long bhV])), (wV, .inr (2, [.ref waV, .int nV])), (waV, .inl (cC, 60, .inl fV)), (g, .inr (0, [.ref ra])), (ra, .inl (cI, 31, .inl row_7))]) (w1 := [(h, .inr (2, [.ref a, .int n_16])), (a, .inl (cC, 160, .inl f_9))]) hP hD [7, 8] [0, 1, 2, 3, 4, 5, 6] rfl rfl (by decide) (by decide) hk1 hFc hP1 hD1
          generalize H1 = H at hP hS ⊢
          have hP : va_P (dC, dI) CL [(sa, .inr (3, [.ref h, .ref g, .ref la, .int x3, .int ba])), (fi, .inr (1, [.int mi, .int pl, .int ze, .int sh, .int bl, .int sw, .int sp, .int wi, .int pr, .int le, .int so, .int nx])), (vV, .inr (4, [.ref wV, .int decV, .int belV, .long ahV, .long bhV])), (wV, .inr (2, [.ref waV, .int nV])), (waV, .inl (cC, 60, .inl fV)), (g, .inr (0, [.ref ra])), (ra, .inl (cI, 31, .inl row_7)), (h, .inr (2, [.ref a, .int n_16])), (a, .inl (cC, 160, .inl f_9))] H := hP
          have hD : va_D A [(sa, .inr (3, [.ref h, .ref g, .ref la, .int x3, .int ba])), (fi, .inr (1, [.int mi, .int pl, .int ze, .int sh, .int bl, .int sw, .int sp, .int wi, .int pr, .int le, .int so, .int nx])), (vV, .inr (4, [.ref wV, .int decV, .int belV, .long ahV, .long bhV])), (wV, .inr (2, [.ref waV, .int nV])), (waV, .inl (cC, 60, .inl fV)), (g, .inr (0, [.ref ra])), (ra, .inl (cI, 31, .inl row_7)), (h, .inr (2, [.ref a, .int n_16])), (a, .inl (cC, 160, .inl f_9))] := hD
          exact cut151 n_16 _ _ _ (by rw [gL2, if_pos c139_15, ← hL1, ← hpc]; rw [w148_16]) (w148_16b) (hP.sub [0, 1, 2, 3, 4, 5, 6, 7, 8] rfl) (hD.sub [0, 1, 2, 3, 4, 5, 6, 7, 8] (by decide) rfl) hS (lv_sub hl [0, 1, 2, 3, 4, 5, 6, 7] rfl)
      refine lv_if_eq (tgt := 112) hx hb d_Sh_formShorter_97 (by decide) (fun c97_17 => ?_) (fun c97_17 => ?_)
      · skip
        refine lv_bipush (v := 19) hx hb d_Sh_formShorter_112 (by decide) ?_
        exact cut114 19 _ _ _ (by rw [gPoint, if_neg (k_bF1 c97_17 hfa)]) (hP.sub [0, 1, 2, 3, 4, 5, 6, 7, 8] rfl) (hD.sub [0, 1, 2, 3, 4, 5, 6, 7, 8] (by decide) rfl) hS (lv_sub hl [0, 1, 2, 3, 4, 5, 6] rfl)
      · skip
        refine lv_aload_n hx hb d_Sh_formShorter_100 rfl (lv_at hl 4 rfl) ?_
        refine va_get (D := (dC, dI)) (ci := 3) (v := .ref g) (C := R_Sh) (T := F_Sh) (N := 5) hx hb hT (in_Sh) hown hK hP 0 rfl rfl 1 (by decide) (hT _ t_142) (fun _ h9 => h9) rfl d_Sh_formShorter_101 ?_
        have hPc := hP.sub (ws' := [(g, .inr (0, [.ref ra])), (ra, .inl (cI, 31, .inl row_7))]) [7, 8] rfl
        have hDc := hD.sub (ws' := [(g, .inr (0, [.ref ra])), (ra, .inl (cI, 31, .inl row_7))]) [7, 8] (by decide) rfl
        have hKc := hK.sub (tys' := [(cI, .int)]) [1] rfl
        have hFc := va_free (wc := [(g, .inr (0, [.ref ra])), (ra, .inl (cI, 31, .inl row_7))]) hD hS hA [7, 8] rfl
        refine va_calli (va_runV (As := []) (rest := []) ⟨hx, hb, hml, hown, hT⟩ (c_Digits_first l dC dI H.size cI g ra row_7 ) (cwV 0 hT g_Sh_128 rfl rfl rfl (by decide +kernel) ⟨Nat.le_of_ble_eq_true rfl, Nat.le_of_ble_eq_true rfl⟩) ⟨fun a U g mk q => by obtain ⟨q0, q1, qP, qK, qD⟩ := q; exact ⟨q0, q1, qP, va_K.moved (u := U) (U := U.calling g mk a) (Vm.Alike.refl U.vm) qK, qD⟩, va_recv hKc hPc (ci := 0) (q0 := 0) rfl rfl, fun U hU hW => ⟨rfl, by rw [hU], by rw [hU]; exact hPc, va_K.moved hW.alike hKc, hDc.weaken (fun _ _ _ _ => trivial)⟩⟩ rfl rfl hl.1 rfl (lv_room (Nat.le_of_ble_eq_true rfl)) d_Sh_formShorter_104 ⟨Nat.le_of_ble_eq_true rfl, Nat.le_of_ble_eq_true rfl⟩) hS (fun q _ h => hFc q h) hFc (fun x18 u t H1 locs ht hvm w104_18 hB hz1 hk1 hS => ?_)
        obtain ⟨hP1, hK1, hD1⟩ := hB
        rw [ht] at hP1
        try dsimp only at w104_18
        obtain ⟨hP, hD⟩ := va_join (wr := [(sa, .inr (3, [.ref h, .ref g, .ref la, .int x3, .int ba])), (h, .inr (2, [.ref a, .int n])), (a, .inl (cC, 160, .inl f)), (fi, .inr (1, [.int mi, .int pl, .int ze, .int sh, .int bl, .int sw, .int sp, .int wi, .int pr, .int le, .int so, .int nx])), (vV, .inr (4, [.ref wV, .int decV, .int belV, .long ahV, .long bhV])), (wV, .inr (2, [.ref waV, .int nV])), (waV, .inl (cC, 60, .inl fV))]) (w1 := [(g, .inr (0, [.ref ra])), (ra, .inl (cI, 31, .inl row_7))]) hP hD [7, 8] [0, 1, 2, 3, 4, 5, 6] rfl rfl (by decide) (by decide) hk1 hFc hP1 hD1
        generalize H1 = H at hP hS ⊢
        have hP : va_P (dC, dI) CL [(sa, .inr (3, [.ref h, .ref g, .ref la, .int x3, .int ba])), (h, .inr (2, [.ref a, .int n])), (a, .inl (cC, 160, .inl f)), (fi, .inr (1, [.int mi, .int pl, .int ze, .int sh, .int bl, .int sw, .int sp, .int wi, .int pr, .int le, .int so, .int nx])), (vV, .inr (4, [.ref wV, .int decV, .int belV, .long ahV, .long bhV])), (wV, .inr (2, [.ref waV, .int nV])), (waV, .inl (cC, 60, .inl fV)), (g, .inr (0, [.ref ra])), (ra, .inl (cI, 31, .inl row_7))] H := hP
        have hD : va_D A [(sa, .inr (3, [.ref h, .ref g, .ref la, .int x3, .int ba])), (h, .inr (2, [.ref a, .int n])), (a, .inl (cC, 160, .inl f)), (fi, .inr (1, [.int mi, .int pl, .int ze, .int sh, .int bl, .int sw, .int sp, .int wi, .int pr, .int le, .int so, .int nx])), (vV, .inr (4, [.ref wV, .int decV, .int belV, .long ahV, .long bhV])), (wV, .inr (2, [.ref waV, .int nV])), (waV, .inl (cC, 60, .inl fV)), (g, .inr (0, [.ref ra])), (ra, .inl (cI, 31, .inl row_7))] := hD
        refine lv_iconst (v := 1) hx hb d_Sh_formShorter_107 (by decide) ?_
        refine lv_iadd hx hb d_Sh_formShorter_108 ?_
        refine lv_topi (fun x19 ex19 => ?_)
        refine lv_goto (tgt := 114) hx hb d_Sh_formShorter_109 (by decide) ?_
        exact cut114 x19 _ _ _ (by rw [gPoint, if_pos (k_bT1 c97_17 hfa), ← hro, ← w104_18]; exact ex19) (hP.sub [0, 1, 2, 3, 4, 5, 6, 7, 8] rfl) (hD.sub [0, 1, 2, 3, 4, 5, 6, 7, 8] (by decide) rfl) hS (lv_sub hl [0, 1, 2, 3, 4, 5, 6] rfl)
    refine lv_if_eq (tgt := 87) hx hb d_Sh_formShorter_78 (by decide) (fun c78_20 => ?_) (fun c78_20 => ?_)
    · skip
      refine lv_iload_n hx hb d_Sh_formShorter_87 rfl (lv_at hl 2 rfl) ?_
      refine lv_iconst (v := 1) hx hb d_Sh_formShorter_88 (by decide) ?_
      refine lv_isub hx hb d_Sh_formShorter_89 ?_
      refine lv_topi (fun x21 ex21 => ?_)
      refine lv_iload hx hb d_Sh_formShorter_90 (lv_at hl 1 rfl) ?_
      refine lv_isub hx hb d_Sh_formShorter_92 ?_
      refine lv_topi (fun x22 ex22 => ?_)
      exact cut93 x22 _ _ _ (by rw [gPlaces, if_neg (k_bF1 c78_20 hfa), ← hmo, ← w51_8]; subst ex21 ex22; rfl) (hP.sub [0, 1, 2, 3, 4, 5, 6, 7, 8] rfl) (hD.sub [0, 1, 2, 3, 4, 5, 6, 7, 8] (by decide) rfl) hS (lv_sub hl [0, 1, 2, 3, 4, 5] rfl)
    · skip
      refine lv_iload_n hx hb d_Sh_formShorter_81 rfl (lv_at hl 2 rfl) ?_
      refine lv_iconst (v := 1) hx hb d_Sh_formShorter_82 (by decide) ?_
      refine lv_isub hx hb d_Sh_formShorter_83 ?_
      refine lv_topi (fun x23 ex23 => ?_)
      refine lv_goto (tgt := 93) hx hb d_Sh_formShorter_84 (by decide) ?_
      exact cut93 x23 _ _ _ (by rw [gPlaces, if_pos (k_bT1 c78_20 hfa), ← hmo]; subst ex23; rfl) (hP.sub [0, 1, 2, 3, 4, 5, 6, 7, 8] rfl) (hD.sub [0, 1, 2, 3, 4, 5, 6, 7, 8] (by decide) rfl) hS (lv_sub hl [0, 1, 2, 3, 4, 5] rfl)
  refine lv_icmp_lt (tgt := 69) hx hb d_Sh_formShorter_60 (by decide) (fun c60_24 => ?_) (fun c60_24 => ?_)
  · skip
    refine lv_iconst (v := 1) hx hb d_Sh_formShorter_69 (by decide) ?_
    refine lv_goto (tgt := 74) hx hb d_Sh_formShorter_70 (by decide) ?_
    exact cut74 1 _ _ _ (by rw [gFar, ← hmo, ← w51_8]; simp [k_b, c60_24]) (hP.sub [0, 1, 2, 3, 4, 5, 6, 7, 8] rfl) (hD.sub [0, 1, 2, 3, 4, 5, 6, 7, 8] (by decide) rfl) hS (lv_sub hl [0, 1, 2, 3, 4] rfl)
  · skip
    refine lv_iload hx hb d_Sh_formShorter_63 (lv_at hl 0 rfl) ?_
    refine lv_iload_n hx hb d_Sh_formShorter_65 rfl (lv_at hl 1 rfl) ?_
    refine lv_icmp_lt (tgt := 73) hx hb d_Sh_formShorter_66 (by decide) (fun c66_25 => ?_) (fun c66_25 => ?_)
    · skip
      refine lv_iconst (v := 0) hx hb d_Sh_formShorter_73 (by decide) ?_
      exact cut74 0 _ _ _ (by rw [gFar, ← hmo, ← w51_8]; simp [k_b, c60_24, c66_25]) (hP.sub [0, 1, 2, 3, 4, 5, 6, 7, 8] rfl) (hD.sub [0, 1, 2, 3, 4, 5, 6, 7, 8] (by decide) rfl) hS (lv_sub hl [0, 1, 2, 3, 4] rfl)
    · skip
      refine lv_iconst (v := 1) hx hb d_Sh_formShorter_69 (by decide) ?_
      refine lv_goto (tgt := 74) hx hb d_Sh_formShorter_70 (by decide) ?_
      exact cut74 1 _ _ _ (by rw [gFar, ← hmo, ← w51_8]; simp [k_b, c60_24, c66_25]) (hP.sub [0, 1, 2, 3, 4, 5, 6, 7, 8] rfl) (hD.sub [0, 1, 2, 3, 4, 5, 6, 7, 8] (by decide) rfl) hS (lv_sub hl [0, 1, 2, 3, 4] rfl)

set_option maxHeartbeats 4000000 in
set_option maxRecDepth 100000 in
theorem c_Shape_putInto (l : Launch) (dC : Nat → ClassId) (dI : Nat → Nat → Nat) (sz : Nat) (cC : ClassId) (sa : Nat) (h : Nat) (g : Nat) (la : Nat) (sg : Int32) (ba : Int32) (a : Nat) (f : Nat → Int32) (n : Int32) (hO : Nat) (aO : Nat) (roomO : Nat) (fO : Nat → Int32) (nO : Int32) (fi : Nat) (mi : Int32) (pl : Int32) (ze : Int32) (sh : Int32) (bl : Int32) (sw : Int32) (sp : Int32) (wi : Int32) (pr : Int32) (le : Int32) (so : Int32) (nx : Int32) (hn : lnOK 160 n) (hnO : lnOK roomO nO) : Met l y_Sh_putInto w_Sh_putInto ({ frames := 2, cells := 0, slots := 0, locals := 45 } : Room) (va_Pc [.ref sa, .ref hO, .ref fi] (fun U => U.heap.size = sz ∧ va_P (dC, dI) CL [(sa, .inr (3, [.ref h, .ref g, .ref la, .int sg, .int ba])), (h, .inr (2, [.ref a, .int n])), (a, .inl (cC, 160, .inl f)), (hO, .inr (2, [.ref aO, .int nO])), (aO, .inl (cC, roomO, .inl fO)), (fi, .inr (1, [.int mi, .int pl, .int ze, .int sh, .int bl, .int sw, .int sp, .int wi, .int pr, .int le, .int so, .int nx]))] U.heap ∧ va_K (dC, dI) CL [(cC, .char)] U ∧ va_D (fun _ => True) [(sa, .inr (3, [.ref h, .ref g, .ref la, .int sg, .int ba])), (h, .inr (2, [.ref a, .int n])), (a, .inl (cC, 160, .inl f)), (hO, .inr (2, [.ref aO, .int nO])), (aO, .inl (cC, roomO, .inl fO)), (fi, .inr (1, [.int mi, .int pl, .int ze, .int sh, .int bl, .int sw, .int sp, .int wi, .int pr, .int le, .int so, .int nx]))] ∧ kN U)) (va_Qi (fun (r : Int32) (u : (Nat → Int32) × Int32) => match u with | (f2, n2) => r = k_b (piOK roomO nO n sg ba wi) ∧ (f2, n2) = (if piOK roomO nO n sg ba wi = true then piLine roomO f n sg ba wi ze mi so (fO, nO) else (fO, nO)) ∧ lnOK roomO n2) (fun (u : (Nat → Int32) × Int32) (t : State) => match u with | (f2, n2) => va_P (dC, dI) CL [(sa, .inr (3, [.ref h, .ref g, .ref la, .int sg, .int ba])), (h, .inr (2, [.ref a, .int n])), (a, .inl (cC, 160, .inl f)), (hO, .inr (2, [.ref aO, .int n2])), (aO, .inl (cC, roomO, .inl f2)), (fi, .inr (1, [.int mi, .int pl, .int ze, .int sh, .int bl, .int sw, .int sp, .int wi, .int pr, .int le, .int so, .int nx]))] t.heap ∧ va_K (dC, dI) CL [(cC, .char)] t ∧ va_D (va_A [(sa, .inr (3, [.ref h, .ref g, .ref la, .int sg, .int ba])), (h, .inr (2, [.ref a, .int n])), (a, .inl (cC, 160, .inl f)), (hO, .inr (2, [.ref aO, .int nO])), (aO, .inl (cC, roomO, .inl fO)), (fi, .inr (1, [.int mi, .int pl, .int ze, .int sh, .int bl, .int sw, .int sp, .int wi, .int pr, .int le, .int so, .int nx]))] sz) [(sa, .inr (3, [.ref h, .ref g, .ref la, .int sg, .int ba])), (h, .inr (2, [.ref a, .int n])), (a, .inl (cC, 160, .inl f)), (hO, .inr (2, [.ref aO, .int n2])), (aO, .inl (cC, roomO, .inl f2)), (fi, .inr (1, [.int mi, .int pl, .int ze, .int sh, .int bl, .int sw, .int sp, .int wi, .int pr, .int le, .int so, .int nx]))]) (va_A [(sa, .inr (3, [.ref h, .ref g, .ref la, .int sg, .int ba])), (h, .inr (2, [.ref a, .int n])), (a, .inl (cC, 160, .inl f)), (hO, .inr (2, [.ref aO, .int nO])), (aO, .inl (cC, roomO, .inl fO)), (fi, .inr (1, [.int mi, .int pl, .int ze, .int sh, .int bl, .int sw, .int sp, .int wi, .int pr, .int le, .int so, .int nx]))] sz)) 0 0 (va_A [(sa, .inr (3, [.ref h, .ref g, .ref la, .int sg, .int ba])), (h, .inr (2, [.ref a, .int n])), (a, .inl (cC, 160, .inl f)), (hO, .inr (2, [.ref aO, .int nO])), (aO, .inl (cC, roomO, .inl fO)), (fi, .inr (1, [.int mi, .int pl, .int ze, .int sh, .int bl, .int sw, .int sp, .int wi, .int pr, .int le, .int so, .int nx]))] sz) := by
  refine Met.ofW (cc := b_Sh_putInto) (maxL := 6) (ret := (some .boolean)) (by decide) rfl ?_
  intro p e s m args below meth c s₁ B hml hv
  obtain ⟨rfl, hsz, hP, hK, hD0, hN⟩ := hv
  have hx := B.exec
  have hb := B.bytes
  have hr := B.returns
  have hts := atoms_spec (ws := w_Sh_putInto) B.pre
  have hT : ∀ w ∈ TB, w.before _ s = true := fun w h => hts w (List.mem_cons_of_mem _ h)
  have hown : s.vm.findClass R_Sh = some m.cls := findClass_of_methodNamed B.named
  have hlocks := B.notSynchronized
  subst hsz
  have hD := hD0.self (sz := s.heap.size)
  generalize hAe : va_A [(sa, .inr (3, [.ref h, .ref g, .ref la, .int sg, .int ba])), (h, .inr (2, [.ref a, .int n])), (a, .inl (cC, 160, .inl f)), (hO, .inr (2, [.ref aO, .int nO])), (aO, .inl (cC, roomO, .inl fO)), (fi, .inr (1, [.int mi, .int pl, .int ze, .int sh, .int bl, .int sw, .int sp, .int wi, .int pr, .int le, .int so, .int nx]))] s.heap.size = A at hD ⊢
  have hA : ∀ q : Nat, s.heap.size ≤ q → A q := fun q h => by rw [← hAe]; exact Or.inr h
  have hS : va_S A s.heap s.heap [] := va_S.rf
  have hP : va_P (dC, dI) CL [(sa, .inr (3, [.ref h, .ref g, .ref la, .int sg, .int ba])), (h, .inr (2, [.ref a, .int n])), (a, .inl (cC, 160, .inl f)), (hO, .inr (2, [.ref aO, .int nO])), (aO, .inl (cC, roomO, .inl fO)), (fi, .inr (1, [.int mi, .int pl, .int ze, .int sh, .int bl, .int sw, .int sp, .int wi, .int pr, .int le, .int so, .int nx]))] s.heap := hP
  have hl := lv_entry ([.ref sa, .ref hO, .ref fi]) (n := 6) (Nat.le_of_ble_eq_true rfl)
  rw [lg_entry_eq]
  generalize (lg_sl ([.ref sa, .ref hO, .ref fi]) ++ List.replicate (6 - (lg_sl ([.ref sa, .ref hO, .ref fi])).length) Slot.unset).toArray = ls at hl ⊢
  have hl : lv_has ls 6 [(0, .ref sa), (1, .ref hO), (2, .ref fi)] := hl
  refine k_Q (fun Q hQ => ?_)
  refine lv_aload_n hx hb d_Sh_putInto_0 rfl (lv_at hl 0 rfl) ?_
  refine va_get (D := (dC, dI)) (ci := 3) (v := .ref h) (C := R_Sh) (T := F_Sh) (N := 5) hx hb hT (in_Sh) hown hK hP 0 rfl rfl 0 (by decide) (hT _ t_141) (fun _ h9 => h9) rfl d_Sh_putInto_1 ?_
  have hPc := hP.sub (ws' := [(h, .inr (2, [.ref a, .int n])), (a, .inl (cC, 160, .inl f))]) [1, 2] rfl
  have hDc := hD.sub (ws' := [(h, .inr (2, [.ref a, .int n])), (a, .inl (cC, 160, .inl f))]) [1, 2] (by decide) rfl
  have hKc := hK.sub (tys' := [(cC, .char)]) [0] rfl
  have hFc := va_free (wc := [(h, .inr (2, [.ref a, .int n])), (a, .inl (cC, 160, .inl f))]) hD hS hA [1, 2] rfl
  refine va_calli (va_runV (As := []) (rest := []) ⟨hx, hb, hml, hown, hT⟩ (c_Line_size l dC dI s.heap.size cC h a 160 f n ) (cwV 0 hT g_Sh_149 rfl rfl rfl (by decide +kernel) ⟨Nat.le_of_ble_eq_true rfl, Nat.le_of_ble_eq_true rfl⟩) ⟨fun a U g mk q => by obtain ⟨q0, q1, qP, qK, qD⟩ := q; exact ⟨q0, q1, qP, va_K.moved (u := U) (U := U.calling g mk a) (Vm.Alike.refl U.vm) qK, qD⟩, va_recv hKc hPc (ci := 2) (q0 := 0) rfl rfl, fun U hU hW => ⟨rfl, by rw [hU], by rw [hU]; exact hPc, va_K.moved hW.alike hKc, hDc.weaken (fun _ _ _ _ => trivial)⟩⟩ rfl rfl hl.1 rfl (lv_room (Nat.le_of_ble_eq_true rfl)) d_Sh_putInto_4 ⟨Nat.le_of_ble_eq_true rfl, Nat.le_of_ble_eq_true rfl⟩) hS (fun q _ h => hFc q h) hFc (fun x1 u t H1 locs ht hvm w4_1 hB hz1 hk1 hS => ?_)
  obtain ⟨hP1, hK1, hD1⟩ := hB
  rw [ht] at hP1
  try dsimp only at w4_1
  obtain ⟨hP, hD⟩ := va_join (wr := [(sa, .inr (3, [.ref h, .ref g, .ref la, .int sg, .int ba])), (hO, .inr (2, [.ref aO, .int nO])), (aO, .inl (cC, roomO, .inl fO)), (fi, .inr (1, [.int mi, .int pl, .int ze, .int sh, .int bl, .int sw, .int sp, .int wi, .int pr, .int le, .int so, .int nx]))]) (w1 := [(h, .inr (2, [.ref a, .int n])), (a, .inl (cC, 160, .inl f))]) hP hD [1, 2] [0, 3, 4, 5] rfl rfl (by decide) (by decide) hk1 hFc hP1 hD1
  generalize H1 = H at hP hS ⊢
  have hP : va_P (dC, dI) CL [(sa, .inr (3, [.ref h, .ref g, .ref la, .int sg, .int ba])), (hO, .inr (2, [.ref aO, .int nO])), (aO, .inl (cC, roomO, .inl fO)), (fi, .inr (1, [.int mi, .int pl, .int ze, .int sh, .int bl, .int sw, .int sp, .int wi, .int pr, .int le, .int so, .int nx])), (h, .inr (2, [.ref a, .int n])), (a, .inl (cC, 160, .inl f))] H := hP
  have hD : va_D A [(sa, .inr (3, [.ref h, .ref g, .ref la, .int sg, .int ba])), (hO, .inr (2, [.ref aO, .int nO])), (aO, .inl (cC, roomO, .inl fO)), (fi, .inr (1, [.int mi, .int pl, .int ze, .int sh, .int bl, .int sw, .int sp, .int wi, .int pr, .int le, .int so, .int nx])), (h, .inr (2, [.ref a, .int n])), (a, .inl (cC, 160, .inl f))] := hD
  refine lv_aload_n hx hb d_Sh_putInto_7 rfl (lv_at hl 0 rfl) ?_
  refine va_get (D := (dC, dI)) (ci := 3) (v := .int sg) (C := R_Sh) (T := F_Sh) (N := 5) hx hb hT (in_Sh) hown hK hP 0 rfl rfl 3 (by decide) (hT _ t_144) (fun _ h9 => h9) rfl d_Sh_putInto_8 ?_
  refine lv_iconst (v := (-1)) hx hb d_Sh_putInto_11 (by decide) ?_
  have cut20 : ∀ (s9 : Int32) (H : Heap) (locs : List Loc) (ls : Array Slot), (s9 = if sg = -1 then 0 else 1) → va_P (dC, dI) CL [(sa, .inr (3, [.ref h, .ref g, .ref la, .int sg, .int ba])), (hO, .inr (2, [.ref aO, .int nO])), (aO, .inl (cC, roomO, .inl fO)), (fi, .inr (1, [.int mi, .int pl, .int ze, .int sh, .int bl, .int sw, .int sp, .int wi, .int pr, .int le, .int so, .int nx])), (h, .inr (2, [.ref a, .int n])), (a, .inl (cC, 160, .inl f))] H → va_D A [(sa, .inr (3, [.ref h, .ref g, .ref la, .int sg, .int ba])), (hO, .inr (2, [.ref aO, .int nO])), (aO, .inl (cC, roomO, .inl fO)), (fi, .inr (1, [.int mi, .int pl, .int ze, .int sh, .int bl, .int sw, .int sp, .int wi, .int pr, .int le, .int so, .int nx])), (h, .inr (2, [.ref a, .int n])), (a, .inl (cC, 160, .inl f))] → va_S A s.heap H locs → lv_has ls 6 [(0, .ref sa), (1, .ref hO), (2, .ref fi)] → W p l e (headSpec w_Sh_putInto ({ frames := 2, cells := 0, slots := 0, locals := 45 } : Room)).room s m ([.ref sa, .ref hO, .ref fi] : List Value).toArray below meth c H locs 0 0 Q (F0 m 20 ls [.int s9, .int x1]) := by
    intro s9 H locs ls hs9 hP hD hS hl
    refine lv_iadd hx hb d_Sh_putInto_20 ?_
    refine lv_topi (fun x2 ex2 => ?_)
    refine lv_aload_n hx hb d_Sh_putInto_21 rfl (lv_at hl 0 rfl) ?_
    refine va_get (D := (dC, dI)) (ci := 3) (v := .int ba) (C := R_Sh) (T := F_Sh) (N := 5) hx hb hT (in_Sh) hown hK hP 0 rfl rfl 4 (by decide) (hT _ t_145) (fun _ h9 => h9) rfl d_Sh_putInto_22 ?_
    refine lv_iconst (v := (-1)) hx hb d_Sh_putInto_25 (by decide) ?_
    have cut34 : ∀ (t9 : Int32) (H : Heap) (locs : List Loc) (ls : Array Slot), (t9 = if ba = -1 then 0 else 2) → va_P (dC, dI) CL [(sa, .inr (3, [.ref h, .ref g, .ref la, .int sg, .int ba])), (hO, .inr (2, [.ref aO, .int nO])), (aO, .inl (cC, roomO, .inl fO)), (fi, .inr (1, [.int mi, .int pl, .int ze, .int sh, .int bl, .int sw, .int sp, .int wi, .int pr, .int le, .int so, .int nx])), (h, .inr (2, [.ref a, .int n])), (a, .inl (cC, 160, .inl f))] H → va_D A [(sa, .inr (3, [.ref h, .ref g, .ref la, .int sg, .int ba])), (hO, .inr (2, [.ref aO, .int nO])), (aO, .inl (cC, roomO, .inl fO)), (fi, .inr (1, [.int mi, .int pl, .int ze, .int sh, .int bl, .int sw, .int sp, .int wi, .int pr, .int le, .int so, .int nx])), (h, .inr (2, [.ref a, .int n])), (a, .inl (cC, 160, .inl f))] → va_S A s.heap H locs → lv_has ls 6 [(0, .ref sa), (1, .ref hO), (2, .ref fi)] → W p l e (headSpec w_Sh_putInto ({ frames := 2, cells := 0, slots := 0, locals := 45 } : Room)).room s m ([.ref sa, .ref hO, .ref fi] : List Value).toArray below meth c H locs 0 0 Q (F0 m 34 ls [.int t9, .int x2]) := by
      intro t9 H locs ls ht9 hP hD hS hl
      refine lv_iadd hx hb d_Sh_putInto_34 ?_
      refine lv_topi (fun x3 ex3 => ?_)
      have hsz9 : x3 = piSize n sg ba := by rw [piSize, ← hs9, ← ht9, ex3, ex2, w4_1]
      refine lv_istore_n (lv' := [(3, .int x3), (0, .ref sa), (1, .ref hO), (2, .ref fi)]) hx hb d_Sh_putInto_35 rfl hl (by decide) rfl (fun ls hl => ?_)
      refine lv_iconst (v := 0) hx hb d_Sh_putInto_36 (by decide) ?_
      refine lv_aload_n hx hb d_Sh_putInto_37 rfl (lv_at hl 3 rfl) ?_
      refine va_getN (D := (dC, dI)) (ci := 1) (v := .int wi) (C := R_Fi) (T := F_Fi) (N := 12) hx hb hT (in_Fi) hown hK hP 3 rfl rfl 7 (by decide) (va_Nw.use rfl (kN_89 hN)) (fun _ h9 => h9) rfl d_Sh_putInto_38 ?_
      refine lv_iload_n hx hb d_Sh_putInto_41 rfl (lv_at hl 0 rfl) ?_
      refine lv_isub hx hb d_Sh_putInto_42 ?_
      refine lv_topi (fun x4 ex4 => ?_)
      refine va_mmax hx hb (hml.trans hl.1.symm) hown (hT _ t_561) (hT _ t_30) (hT _ t_3) (hT _ t_31) (Nat.le_of_ble_eq_true rfl) (Nat.le_of_ble_eq_true rfl) (Nat.le_of_ble_eq_true rfl) (Nat.le_of_ble_eq_true rfl) d_Sh_putInto_43 ?_
      refine lv_topi (fun x5 ex5 => ?_)
      have hgap : x5 = piGap wi (piSize n sg ba) := by rw [piGap, ← hsz9, ← ex4]; exact ex5
      refine lv_istore (lv' := [(4, .int x5), (3, .int x3), (0, .ref sa), (1, .ref hO), (2, .ref fi)]) hx hb d_Sh_putInto_46 hl (by decide) rfl (fun ls hl => ?_)
      refine lv_aload_n hx hb d_Sh_putInto_48 rfl (lv_at hl 3 rfl) ?_
      refine lv_iload_n hx hb d_Sh_putInto_49 rfl (lv_at hl 1 rfl) ?_
      refine lv_iload hx hb d_Sh_putInto_50 (lv_at hl 0 rfl) ?_
      refine lv_iadd hx hb d_Sh_putInto_52 ?_
      refine lv_topi (fun x6 ex6 => ?_)
      have hPc := hP.sub (ws' := [(hO, .inr (2, [.ref aO, .int nO])), (aO, .inl (cC, roomO, .inl fO))]) [1, 2] rfl
      have hDc := hD.sub (ws' := [(hO, .inr (2, [.ref aO, .int nO])), (aO, .inl (cC, roomO, .inl fO))]) [1, 2] (by decide) rfl
      have hKc := hK.sub (tys' := [(cC, .char)]) [0] rfl
      have hFc := va_free (wc := [(hO, .inr (2, [.ref aO, .int nO])), (aO, .inl (cC, roomO, .inl fO))]) hD hS hA [1, 2] rfl
      refine va_calli (va_runV (As := [.int x6]) (rest := []) ⟨hx, hb, hml, hown, hT⟩ (c_Line_hasRoom l dC dI H.size cC hO aO roomO fO nO x6 ) (cwV 1 hT g_Sh_161 rfl rfl rfl (by decide +kernel) ⟨Nat.le_of_ble_eq_true rfl, Nat.le_of_ble_eq_true rfl⟩) ⟨fun a U g mk q => by obtain ⟨q0, q1, qP, qK, qD⟩ := q; exact ⟨q0, q1, qP, va_K.moved (u := U) (U := U.calling g mk a) (Vm.Alike.refl U.vm) qK, qD⟩, va_recv hKc hPc (ci := 2) (q0 := 0) rfl rfl, fun U hU hW => ⟨rfl, by rw [hU], by rw [hU]; exact hPc, va_K.moved hW.alike hKc, hDc.weaken (fun _ _ _ _ => trivial)⟩⟩ rfl rfl hl.1 rfl (lv_room (Nat.le_of_ble_eq_true rfl)) d_Sh_putInto_53 ⟨Nat.le_of_ble_eq_true rfl, Nat.le_of_ble_eq_true rfl⟩) hS (fun q _ h => hFc q h) hFc (fun x7 u t H1 locs ht hvm w53_7 hB hz1 hk1 hS => ?_)
      obtain ⟨hP1, hK1, hD1⟩ := hB
      rw [ht] at hP1
      try dsimp only at w53_7
      obtain ⟨hP, hD⟩ := va_join (wr := [(sa, .inr (3, [.ref h, .ref g, .ref la, .int sg, .int ba])), (fi, .inr (1, [.int mi, .int pl, .int ze, .int sh, .int bl, .int sw, .int sp, .int wi, .int pr, .int le, .int so, .int nx])), (h, .inr (2, [.ref a, .int n])), (a, .inl (cC, 160, .inl f))]) (w1 := [(hO, .inr (2, [.ref aO, .int nO])), (aO, .inl (cC, roomO, .inl fO))]) hP hD [1, 2] [0, 3, 4, 5] rfl rfl (by decide) (by decide) hk1 hFc hP1 hD1
      generalize H1 = H at hP hS ⊢
      have hP : va_P (dC, dI) CL [(sa, .inr (3, [.ref h, .ref g, .ref la, .int sg, .int ba])), (fi, .inr (1, [.int mi, .int pl, .int ze, .int sh, .int bl, .int sw, .int sp, .int wi, .int pr, .int le, .int so, .int nx])), (h, .inr (2, [.ref a, .int n])), (a, .inl (cC, 160, .inl f)), (hO, .inr (2, [.ref aO, .int nO])), (aO, .inl (cC, roomO, .inl fO))] H := hP
      have hD : va_D A [(sa, .inr (3, [.ref h, .ref g, .ref la, .int sg, .int ba])), (fi, .inr (1, [.int mi, .int pl, .int ze, .int sh, .int bl, .int sw, .int sp, .int wi, .int pr, .int le, .int so, .int nx])), (h, .inr (2, [.ref a, .int n])), (a, .inl (cC, 160, .inl f)), (hO, .inr (2, [.ref aO, .int nO])), (aO, .inl (cC, roomO, .inl fO))] := hD
      have hok : x7 = k_b (piOK roomO nO n sg ba wi) := by rw [piOK, ← hgap, ← hsz9, ← ex6]; exact w53_7
      refine lv_if_ne (tgt := 61) hx hb d_Sh_putInto_56 (by decide) (fun c56_8 => ?_) (fun c56_8 => ?_)
      · skip
        have hOK9 := k_bT1 c56_8 hok
        refine lv_aload_n hx hb d_Sh_putInto_61 rfl (lv_at hl 4 rfl) ?_
        have hPc := hP.sub (ws' := [(fi, .inr (1, [.int mi, .int pl, .int ze, .int sh, .int bl, .int sw, .int sp, .int wi, .int pr, .int le, .int so, .int nx]))]) [1] rfl
        have hDc := hD.sub (ws' := [(fi, .inr (1, [.int mi, .int pl, .int ze, .int sh, .int bl, .int sw, .int sp, .int wi, .int pr, .int le, .int so, .int nx]))]) [1] (by decide) rfl
        have hKc := hK.sub (tys' := []) [] rfl
        have hFc := va_free (wc := [(fi, .inr (1, [.int mi, .int pl, .int ze, .int sh, .int bl, .int sw, .int sp, .int wi, .int pr, .int le, .int so, .int nx]))]) hD hS hA [1] rfl
        refine va_calli (va_runV (As := []) (rest := []) ⟨hx, hb, hml, hown, hT⟩ (c_Field_padsWithZeros l dC dI H.size fi mi pl ze sh bl sw sp wi pr le so nx ) (cwV 0 hT g_Sh_165 rfl rfl rfl (by decide +kernel) ⟨Nat.le_of_ble_eq_true rfl, Nat.le_of_ble_eq_true rfl⟩) ⟨fun a U g mk q => by obtain ⟨q0, q1, qP, qK, qD⟩ := q; exact ⟨q0, q1, qP, va_K.moved (u := U) (U := U.calling g mk a) (Vm.Alike.refl U.vm) qK, qD⟩, va_recv hKc hPc (ci := 1) (q0 := 0) rfl rfl, fun U hU hW => ⟨rfl, by rw [hU], by rw [hU]; exact hPc, va_K.moved hW.alike hKc, hDc.weaken (fun _ _ _ _ => trivial)⟩⟩ rfl rfl hl.1 rfl (lv_room (Nat.le_of_ble_eq_true rfl)) d_Sh_putInto_62 ⟨Nat.le_of_ble_eq_true rfl, Nat.le_of_ble_eq_true rfl⟩) hS (fun q _ h => hFc q h) hFc (fun x9 u t H1 locs ht hvm w62_9 hB hz1 hk1 hS => ?_)
        obtain ⟨hP1, hK1, hD1⟩ := hB
        rw [ht] at hP1
        try dsimp only at w62_9
        obtain ⟨hP, hD⟩ := va_join (wr := [(sa, .inr (3, [.ref h, .ref g, .ref la, .int sg, .int ba])), (h, .inr (2, [.ref a, .int n])), (a, .inl (cC, 160, .inl f)), (hO, .inr (2, [.ref aO, .int nO])), (aO, .inl (cC, roomO, .inl fO))]) (w1 := [(fi, .inr (1, [.int mi, .int pl, .int ze, .int sh, .int bl, .int sw, .int sp, .int wi, .int pr, .int le, .int so, .int nx]))]) hP hD [1] [0, 2, 3, 4, 5] rfl rfl (by decide) (by decide) hk1 hFc hP1 hD1
        generalize H1 = H at hP hS ⊢
        have hP : va_P (dC, dI) CL [(sa, .inr (3, [.ref h, .ref g, .ref la, .int sg, .int ba])), (h, .inr (2, [.ref a, .int n])), (a, .inl (cC, 160, .inl f)), (hO, .inr (2, [.ref aO, .int nO])), (aO, .inl (cC, roomO, .inl fO)), (fi, .inr (1, [.int mi, .int pl, .int ze, .int sh, .int bl, .int sw, .int sp, .int wi, .int pr, .int le, .int so, .int nx]))] H := hP
        have hD : va_D A [(sa, .inr (3, [.ref h, .ref g, .ref la, .int sg, .int ba])), (h, .inr (2, [.ref a, .int n])), (a, .inl (cC, 160, .inl f)), (hO, .inr (2, [.ref aO, .int nO])), (aO, .inl (cC, roomO, .inl fO)), (fi, .inr (1, [.int mi, .int pl, .int ze, .int sh, .int bl, .int sw, .int sp, .int wi, .int pr, .int le, .int so, .int nx]))] := hD
        refine lv_istore (lv' := [(5, .int x9), (4, .int x5), (3, .int x3), (0, .ref sa), (1, .ref hO), (2, .ref fi)]) hx hb d_Sh_putInto_65 hl (by decide) rfl (fun ls hl => ?_)
        refine lv_iload hx hb d_Sh_putInto_67 (lv_at hl 0 rfl) ?_
        have cut87 : ∀ (n4 : Int32) (f4 : Nat → Int32) (H : Heap) (locs : List Loc) (ls : Array Slot), ((f4, n4) = piA roomO (piGap wi (piSize n sg ba)) (k_b (fiZeros ze mi so)) mi (fO, nO)) → (lnOK roomO n4) → va_P (dC, dI) CL [(sa, .inr (3, [.ref h, .ref g, .ref la, .int sg, .int ba])), (h, .inr (2, [.ref a, .int n])), (a, .inl (cC, 160, .inl f)), (fi, .inr (1, [.int mi, .int pl, .int ze, .int sh, .int bl, .int sw, .int sp, .int wi, .int pr, .int le, .int so, .int nx])), (hO, .inr (2, [.ref aO, .int n4])), (aO, .inl (cC, roomO, .inl f4))] H → va_D A [(sa, .inr (3, [.ref h, .ref g, .ref la, .int sg, .int ba])), (h, .inr (2, [.ref a, .int n])), (a, .inl (cC, 160, .inl f)), (fi, .inr (1, [.int mi, .int pl, .int ze, .int sh, .int bl, .int sw, .int sp, .int wi, .int pr, .int le, .int so, .int nx])), (hO, .inr (2, [.ref aO, .int n4])), (aO, .inl (cC, roomO, .inl f4))] → va_S A s.heap H locs → lv_has ls 6 [(5, .int x9), (4, .int x5), (3, .int x3), (0, .ref sa), (1, .ref hO), (2, .ref fi)] → W p l e (headSpec w_Sh_putInto ({ frames := 2, cells := 0, slots := 0, locals := 45 } : Room)).room s m ([.ref sa, .ref hO, .ref fi] : List Value).toArray below meth c H locs 0 0 Q (F0 m 87 ls []) := by
          intro n4 f4 H locs ls h4 h4n hP hD hS hl
          refine lv_aload_n hx hb d_Sh_putInto_87 rfl (lv_at hl 3 rfl) ?_
          refine va_get (D := (dC, dI)) (ci := 3) (v := .int sg) (C := R_Sh) (T := F_Sh) (N := 5) hx hb hT (in_Sh) hown hK hP 0 rfl rfl 3 (by decide) (hT _ t_144) (fun _ h9 => h9) rfl d_Sh_putInto_88 ?_
          refine lv_iconst (v := (-1)) hx hb d_Sh_putInto_91 (by decide) ?_
          have cut103 : ∀ (n5 : Int32) (f5 : Nat → Int32) (H : Heap) (locs : List Loc) (ls : Array Slot), ((f5, n5) = piB roomO sg (piA roomO (piGap wi (piSize n sg ba)) (k_b (fiZeros ze mi so)) mi (fO, nO))) → (lnOK roomO n5) → va_P (dC, dI) CL [(sa, .inr (3, [.ref h, .ref g, .ref la, .int sg, .int ba])), (h, .inr (2, [.ref a, .int n])), (a, .inl (cC, 160, .inl f)), (fi, .inr (1, [.int mi, .int pl, .int ze, .int sh, .int bl, .int sw, .int sp, .int wi, .int pr, .int le, .int so, .int nx])), (hO, .inr (2, [.ref aO, .int n5])), (aO, .inl (cC, roomO, .inl f5))] H → va_D A [(sa, .inr (3, [.ref h, .ref g, .ref la, .int sg, .int ba])), (h, .inr (2, [.ref a, .int n])), (a, .inl (cC, 160, .inl f)), (fi, .inr (1, [.int mi, .int pl, .int ze, .int sh, .int bl, .int sw, .int sp, .int wi, .int pr, .int le, .int so, .int nx])), (hO, .inr (2, [.ref aO, .int n5])), (aO, .inl (cC, roomO, .inl f5))] → va_S A s.heap H locs → lv_has ls 6 [(5, .int x9), (4, .int x5), (3, .int x3), (0, .ref sa), (1, .ref hO), (2, .ref fi)] → W p l e (headSpec w_Sh_putInto ({ frames := 2, cells := 0, slots := 0, locals := 45 } : Room)).room s m ([.ref sa, .ref hO, .ref fi] : List Value).toArray below meth c H locs 0 0 Q (F0 m 103 ls []) := by
            intro n5 f5 H locs ls h5 h5n hP hD hS hl
            refine lv_aload_n hx hb d_Sh_putInto_103 rfl (lv_at hl 3 rfl) ?_
            refine va_get (D := (dC, dI)) (ci := 3) (v := .int ba) (C := R_Sh) (T := F_Sh) (N := 5) hx hb hT (in_Sh) hown hK hP 0 rfl rfl 4 (by decide) (hT _ t_145) (fun _ h9 => h9) rfl d_Sh_putInto_104 ?_
            refine lv_iconst (v := (-1)) hx hb d_Sh_putInto_107 (by decide) ?_
            have cut125 : ∀ (n6 : Int32) (f6 : Nat → Int32) (H : Heap) (locs : List Loc) (ls : Array Slot), ((f6, n6) = piC roomO ba (piB roomO sg (piA roomO (piGap wi (piSize n sg ba)) (k_b (fiZeros ze mi so)) mi (fO, nO)))) → (lnOK roomO n6) → va_P (dC, dI) CL [(sa, .inr (3, [.ref h, .ref g, .ref la, .int sg, .int ba])), (h, .inr (2, [.ref a, .int n])), (a, .inl (cC, 160, .inl f)), (fi, .inr (1, [.int mi, .int pl, .int ze, .int sh, .int bl, .int sw, .int sp, .int wi, .int pr, .int le, .int so, .int nx])), (hO, .inr (2, [.ref aO, .int n6])), (aO, .inl (cC, roomO, .inl f6))] H → va_D A [(sa, .inr (3, [.ref h, .ref g, .ref la, .int sg, .int ba])), (h, .inr (2, [.ref a, .int n])), (a, .inl (cC, 160, .inl f)), (fi, .inr (1, [.int mi, .int pl, .int ze, .int sh, .int bl, .int sw, .int sp, .int wi, .int pr, .int le, .int so, .int nx])), (hO, .inr (2, [.ref aO, .int n6])), (aO, .inl (cC, roomO, .inl f6))] → va_S A s.heap H locs → lv_has ls 6 [(5, .int x9), (4, .int x5), (3, .int x3), (0, .ref sa), (1, .ref hO), (2, .ref fi)] → W p l e (headSpec w_Sh_putInto ({ frames := 2, cells := 0, slots := 0, locals := 45 } : Room)).room s m ([.ref sa, .ref hO, .ref fi] : List Value).toArray below meth c H locs 0 0 Q (F0 m 125 ls []) := by
              intro n6 f6 H locs ls h6 h6n hP hD hS hl
              refine lv_iload hx hb d_Sh_putInto_125 (lv_at hl 0 rfl) ?_
              have cut138 : ∀ (n7 : Int32) (f7 : Nat → Int32) (H : Heap) (locs : List Loc) (ls : Array Slot), ((f7, n7) = piD roomO (piGap wi (piSize n sg ba)) (k_b (fiZeros ze mi so)) (piC roomO ba (piB roomO sg (piA roomO (piGap wi (piSize n sg ba)) (k_b (fiZeros ze mi so)) mi (fO, nO))))) → (lnOK roomO n7) → va_P (dC, dI) CL [(sa, .inr (3, [.ref h, .ref g, .ref la, .int sg, .int ba])), (h, .inr (2, [.ref a, .int n])), (a, .inl (cC, 160, .inl f)), (fi, .inr (1, [.int mi, .int pl, .int ze, .int sh, .int bl, .int sw, .int sp, .int wi, .int pr, .int le, .int so, .int nx])), (hO, .inr (2, [.ref aO, .int n7])), (aO, .inl (cC, roomO, .inl f7))] H → va_D A [(sa, .inr (3, [.ref h, .ref g, .ref la, .int sg, .int ba])), (h, .inr (2, [.ref a, .int n])), (a, .inl (cC, 160, .inl f)), (fi, .inr (1, [.int mi, .int pl, .int ze, .int sh, .int bl, .int sw, .int sp, .int wi, .int pr, .int le, .int so, .int nx])), (hO, .inr (2, [.ref aO, .int n7])), (aO, .inl (cC, roomO, .inl f7))] → va_S A s.heap H locs → lv_has ls 6 [(5, .int x9), (4, .int x5), (3, .int x3), (0, .ref sa), (1, .ref hO), (2, .ref fi)] → W p l e (headSpec w_Sh_putInto ({ frames := 2, cells := 0, slots := 0, locals := 45 } : Room)).room s m ([.ref sa, .ref hO, .ref fi] : List Value).toArray below meth c H locs 0 0 Q (F0 m 138 ls []) := by
                intro n7 f7 H locs ls h7 h7n hP hD hS hl
                refine lv_aload_n hx hb d_Sh_putInto_138 rfl (lv_at hl 4 rfl) ?_
                refine lv_aload_n hx hb d_Sh_putInto_139 rfl (lv_at hl 3 rfl) ?_
                refine va_get (D := (dC, dI)) (ci := 3) (v := .ref h) (C := R_Sh) (T := F_Sh) (N := 5) hx hb hT (in_Sh) hown hK hP 0 rfl rfl 0 (by decide) (hT _ t_141) (fun _ h9 => h9) rfl d_Sh_putInto_140 ?_
                refine lv_iconst (v := 0) hx hb d_Sh_putInto_143 (by decide) ?_
                refine lv_aload_n hx hb d_Sh_putInto_144 rfl (lv_at hl 3 rfl) ?_
                refine va_get (D := (dC, dI)) (ci := 3) (v := .ref h) (C := R_Sh) (T := F_Sh) (N := 5) hx hb hT (in_Sh) hown hK hP 0 rfl rfl 0 (by decide) (hT _ t_141) (fun _ h9 => h9) rfl d_Sh_putInto_145 ?_
                have hPc := hP.sub (ws' := [(h, .inr (2, [.ref a, .int n])), (a, .inl (cC, 160, .inl f))]) [1, 2] rfl
                have hDc := hD.sub (ws' := [(h, .inr (2, [.ref a, .int n])), (a, .inl (cC, 160, .inl f))]) [1, 2] (by decide) rfl
                have hKc := hK.sub (tys' := [(cC, .char)]) [0] rfl
                have hFc := va_free (wc := [(h, .inr (2, [.ref a, .int n])), (a, .inl (cC, 160, .inl f))]) hD hS hA [1, 2] rfl
                refine va_calli (va_runV (As := []) (rest := [.int 0, .ref h, .ref hO]) ⟨hx, hb, hml, hown, hT⟩ (c_Line_size l dC dI H.size cC h a 160 f n ) (cwV 0 hT g_Sh_149 rfl rfl rfl (by decide +kernel) ⟨Nat.le_of_ble_eq_true rfl, Nat.le_of_ble_eq_true rfl⟩) ⟨fun a U g mk q => by obtain ⟨q0, q1, qP, qK, qD⟩ := q; exact ⟨q0, q1, qP, va_K.moved (u := U) (U := U.calling g mk a) (Vm.Alike.refl U.vm) qK, qD⟩, va_recv hKc hPc (ci := 2) (q0 := 0) rfl rfl, fun U hU hW => ⟨rfl, by rw [hU], by rw [hU]; exact hPc, va_K.moved hW.alike hKc, hDc.weaken (fun _ _ _ _ => trivial)⟩⟩ rfl rfl hl.1 rfl (lv_room (Nat.le_of_ble_eq_true rfl)) d_Sh_putInto_148 ⟨Nat.le_of_ble_eq_true rfl, Nat.le_of_ble_eq_true rfl⟩) hS (fun q _ h => hFc q h) hFc (fun x10 u t H1 locs ht hvm w148_10 hB hz1 hk1 hS => ?_)
                obtain ⟨hP1, hK1, hD1⟩ := hB
                rw [ht] at hP1
                try dsimp only at w148_10
                obtain ⟨hP, hD⟩ := va_join (wr := [(sa, .inr (3, [.ref h, .ref g, .ref la, .int sg, .int ba])), (fi, .inr (1, [.int mi, .int pl, .int ze, .int sh, .int bl, .int sw, .int sp, .int wi, .int pr, .int le, .int so, .int nx])), (hO, .inr (2, [.ref aO, .int n7])), (aO, .inl (cC, roomO, .inl f7))]) (w1 := [(h, .inr (2, [.ref a, .int n])), (a, .inl (cC, 160, .inl f))]) hP hD [1, 2] [0, 3, 4, 5] rfl rfl (by decide) (by decide) hk1 hFc hP1 hD1
                generalize H1 = H at hP hS ⊢
                have hP : va_P (dC, dI) CL [(sa, .inr (3, [.ref h, .ref g, .ref la, .int sg, .int ba])), (fi, .inr (1, [.int mi, .int pl, .int ze, .int sh, .int bl, .int sw, .int sp, .int wi, .int pr, .int le, .int so, .int nx])), (hO, .inr (2, [.ref aO, .int n7])), (aO, .inl (cC, roomO, .inl f7)), (h, .inr (2, [.ref a, .int n])), (a, .inl (cC, 160, .inl f))] H := hP
                have hD : va_D A [(sa, .inr (3, [.ref h, .ref g, .ref la, .int sg, .int ba])), (fi, .inr (1, [.int mi, .int pl, .int ze, .int sh, .int bl, .int sw, .int sp, .int wi, .int pr, .int le, .int so, .int nx])), (hO, .inr (2, [.ref aO, .int n7])), (aO, .inl (cC, roomO, .inl f7)), (h, .inr (2, [.ref a, .int n])), (a, .inl (cC, 160, .inl f))] := hD
                have hPc := hP.sub (ws' := [(hO, .inr (2, [.ref aO, .int n7])), (aO, .inl (cC, roomO, .inl f7)), (h, .inr (2, [.ref a, .int n])), (a, .inl (cC, 160, .inl f))]) [2, 3, 4, 5] rfl
                have hDc := hD.sub (ws' := [(hO, .inr (2, [.ref aO, .int n7])), (aO, .inl (cC, roomO, .inl f7)), (h, .inr (2, [.ref a, .int n])), (a, .inl (cC, 160, .inl f))]) [2, 3, 4, 5] (by decide) rfl
                have hKc := hK.sub (tys' := [(cC, .char)]) [0] rfl
                have hFc := va_free (wc := [(hO, .inr (2, [.ref aO, .int n7])), (aO, .inl (cC, roomO, .inl f7)), (h, .inr (2, [.ref a, .int n])), (a, .inl (cC, 160, .inl f))]) hD hS hA [2, 3, 4, 5] rfl
                refine va_callv (va_runV (As := [.ref h, .int 0, .int x10]) (rest := []) ⟨hx, hb, hml, hown, hT⟩ (c_Line_addPart l dC dI H.size cC hO aO roomO f7 n7 h a 160 f n 0 x10 h7n hn) (cwV 3 hT g_Sh_79 rfl rfl rfl (by decide +kernel) ⟨Nat.le_of_ble_eq_true rfl, Nat.le_of_ble_eq_true rfl⟩) ⟨fun a U g mk q => by obtain ⟨q0, q1, qP, qK, qD⟩ := q; exact ⟨q0, q1, qP, va_K.moved (u := U) (U := U.calling g mk a) (Vm.Alike.refl U.vm) qK, qD⟩, va_recv hKc hPc (ci := 2) (q0 := 0) rfl rfl, fun U hU hW => ⟨rfl, by rw [hU], by rw [hU]; exact hPc, va_K.moved hW.alike hKc, hDc.weaken (fun _ _ _ _ => trivial)⟩⟩ rfl rfl hl.1 rfl (lv_room (Nat.le_of_ble_eq_true rfl)) d_Sh_putInto_151 ⟨Nat.le_of_ble_eq_true rfl, Nat.le_of_ble_eq_true rfl⟩) hS (fun q _ h => hFc q h) hFc (fun u t H1 locs ht hvm w151_12 hB hz1 hk1 hS => ?_)
                obtain ⟨f_11, n_12⟩ := u
                obtain ⟨hP1, hK1, hD1⟩ := hB
                rw [ht] at hP1
                try dsimp only at w151_12
                obtain ⟨w151_12, w151_12b⟩ := w151_12
                obtain ⟨hP, hD⟩ := va_join (wr := [(sa, .inr (3, [.ref h, .ref g, .ref la, .int sg, .int ba])), (fi, .inr (1, [.int mi, .int pl, .int ze, .int sh, .int bl, .int sw, .int sp, .int wi, .int pr, .int le, .int so, .int nx]))]) (w1 := [(hO, .inr (2, [.ref aO, .int n_12])), (aO, .inl (cC, roomO, .inl f_11)), (h, .inr (2, [.ref a, .int n])), (a, .inl (cC, 160, .inl f))]) hP hD [2, 3, 4, 5] [0, 1] rfl rfl (by decide) (by decide) hk1 hFc hP1 hD1
                generalize H1 = H at hP hS ⊢
                have hP : va_P (dC, dI) CL [(sa, .inr (3, [.ref h, .ref g, .ref la, .int sg, .int ba])), (fi, .inr (1, [.int mi, .int pl, .int ze, .int sh, .int bl, .int sw, .int sp, .int wi, .int pr, .int le, .int so, .int nx])), (hO, .inr (2, [.ref aO, .int n_12])), (aO, .inl (cC, roomO, .inl f_11)), (h, .inr (2, [.ref a, .int n])), (a, .inl (cC, 160, .inl f))] H := hP
                have hD : va_D A [(sa, .inr (3, [.ref h, .ref g, .ref la, .int sg, .int ba])), (fi, .inr (1, [.int mi, .int pl, .int ze, .int sh, .int bl, .int sw, .int sp, .int wi, .int pr, .int le, .int so, .int nx])), (hO, .inr (2, [.ref aO, .int n_12])), (aO, .inl (cC, roomO, .inl f_11)), (h, .inr (2, [.ref a, .int n])), (a, .inl (cC, 160, .inl f))] := hD
                rw [w148_10, h7] at w151_12
                refine lv_aload_n hx hb d_Sh_putInto_154 rfl (lv_at hl 5 rfl) ?_
                refine va_getN (D := (dC, dI)) (ci := 1) (v := .int mi) (C := R_Fi) (T := F_Fi) (N := 12) hx hb hT (in_Fi) hown hK hP 1 rfl rfl 0 (by decide) (va_Nw.use rfl (kN_78 hN)) (fun _ h9 => h9) rfl d_Sh_putInto_155 ?_
                refine lv_if_eq (tgt := 169) hx hb d_Sh_putInto_158 (by decide) (fun c158_13 => ?_) (fun c158_13 => ?_)
                · skip
                  refine lv_iconst (v := 1) hx hb d_Sh_putInto_169 (by decide) ?_
                  have hP9 := hP.sub (ws' := [(sa, .inr (3, [.ref h, .ref g, .ref la, .int sg, .int ba])), (h, .inr (2, [.ref a, .int n])), (a, .inl (cC, 160, .inl f)), (hO, .inr (2, [.ref aO, .int n_12])), (aO, .inl (cC, roomO, .inl f_11)), (fi, .inr (1, [.int mi, .int pl, .int ze, .int sh, .int bl, .int sw, .int sp, .int wi, .int pr, .int le, .int so, .int nx]))]) [0, 4, 5, 2, 3, 1] rfl
                  have hD9 := hD.sub (ws' := [(sa, .inr (3, [.ref h, .ref g, .ref la, .int sg, .int ba])), (h, .inr (2, [.ref a, .int n])), (a, .inl (cC, 160, .inl f)), (hO, .inr (2, [.ref aO, .int n_12])), (aO, .inl (cC, roomO, .inl f_11)), (fi, .inr (1, [.int mi, .int pl, .int ze, .int sh, .int bl, .int sw, .int sp, .int wi, .int pr, .int le, .int so, .int nx]))]) [0, 4, 5, 2, 3, 1] (by decide) rfl
                  have hK9 := hK.sub (tys' := [(cC, .char)]) [0] rfl
                  have hq9 : (1 : Int32) = k_b (piOK roomO nO n sg ba wi) ∧ (f_11, n_12) = (if piOK roomO nO n sg ba wi = true then piLine roomO f n sg ba wi ze mi so (fO, nO) else (fO, nO)) ∧ lnOK roomO n_12 := by refine ⟨by rw [hOK9]; rfl, ?_, w151_12b⟩; rw [if_pos hOK9, piLine, piE, if_pos c158_13]; exact w151_12
                  subst hQ
                  exact W.zret (v := 1) hx hb hr rfl (fun t ht hW => ⟨⟨1, (f_11, n_12), rfl, hq9, by rw [ht]; exact hP9, va_K.moved hW.alike hK9, hD9⟩, hS.F ht⟩) hS.2.2 d_Sh_putInto_170
                · skip
                  refine lv_aload_n hx hb d_Sh_putInto_161 rfl (lv_at hl 4 rfl) ?_
                  refine lv_bipush (v := 32) hx hb d_Sh_putInto_162 (by decide) ?_
                  refine lv_iload hx hb d_Sh_putInto_164 (lv_at hl 1 rfl) ?_
                  have hPc := hP.sub (ws' := [(hO, .inr (2, [.ref aO, .int n_12])), (aO, .inl (cC, roomO, .inl f_11))]) [2, 3] rfl
                  have hDc := hD.sub (ws' := [(hO, .inr (2, [.ref aO, .int n_12])), (aO, .inl (cC, roomO, .inl f_11))]) [2, 3] (by decide) rfl
                  have hKc := hK.sub (tys' := [(cC, .char)]) [0] rfl
                  have hFc := va_free (wc := [(hO, .inr (2, [.ref aO, .int n_12])), (aO, .inl (cC, roomO, .inl f_11))]) hD hS hA [2, 3] rfl
                  refine va_callv (va_runV (As := [.int 32, .int x5]) (rest := []) ⟨hx, hb, hml, hown, hT⟩ (c_Line_repeat l dC dI H.size cC hO aO roomO f_11 n_12 32 x5 (by assumption)) (cwV 2 hT g_Sh_106 rfl rfl rfl (by decide +kernel) ⟨Nat.le_of_ble_eq_true rfl, Nat.le_of_ble_eq_true rfl⟩) ⟨fun a U g mk q => by obtain ⟨q0, q1, qP, qK, qD⟩ := q; exact ⟨q0, q1, qP, va_K.moved (u := U) (U := U.calling g mk a) (Vm.Alike.refl U.vm) qK, qD⟩, va_recv hKc hPc (ci := 2) (q0 := 0) rfl rfl, fun U hU hW => ⟨rfl, by rw [hU], by rw [hU]; exact hPc, va_K.moved hW.alike hKc, hDc.weaken (fun _ _ _ _ => trivial)⟩⟩ rfl rfl hl.1 rfl (lv_room (Nat.le_of_ble_eq_true rfl)) d_Sh_putInto_166 ⟨Nat.le_of_ble_eq_true rfl, Nat.le_of_ble_eq_true rfl⟩) hS (fun q _ h => hFc q h) hFc (fun u t H1 locs ht hvm w166_15 hB hz1 hk1 hS => ?_)
                  obtain ⟨f_14, n_15⟩ := u
                  obtain ⟨hP1, hK1, hD1⟩ := hB
                  rw [ht] at hP1
                  try dsimp only at w166_15
                  obtain ⟨w166_15, w166_15b⟩ := w166_15
                  obtain ⟨hP, hD⟩ := va_join (wr := [(sa, .inr (3, [.ref h, .ref g, .ref la, .int sg, .int ba])), (fi, .inr (1, [.int mi, .int pl, .int ze, .int sh, .int bl, .int sw, .int sp, .int wi, .int pr, .int le, .int so, .int nx])), (h, .inr (2, [.ref a, .int n])), (a, .inl (cC, 160, .inl f))]) (w1 := [(hO, .inr (2, [.ref aO, .int n_15])), (aO, .inl (cC, roomO, .inl f_14))]) hP hD [2, 3] [0, 1, 4, 5] rfl rfl (by decide) (by decide) hk1 hFc hP1 hD1
                  generalize H1 = H at hP hS ⊢
                  have hP : va_P (dC, dI) CL [(sa, .inr (3, [.ref h, .ref g, .ref la, .int sg, .int ba])), (fi, .inr (1, [.int mi, .int pl, .int ze, .int sh, .int bl, .int sw, .int sp, .int wi, .int pr, .int le, .int so, .int nx])), (h, .inr (2, [.ref a, .int n])), (a, .inl (cC, 160, .inl f)), (hO, .inr (2, [.ref aO, .int n_15])), (aO, .inl (cC, roomO, .inl f_14))] H := hP
                  have hD : va_D A [(sa, .inr (3, [.ref h, .ref g, .ref la, .int sg, .int ba])), (fi, .inr (1, [.int mi, .int pl, .int ze, .int sh, .int bl, .int sw, .int sp, .int wi, .int pr, .int le, .int so, .int nx])), (h, .inr (2, [.ref a, .int n])), (a, .inl (cC, 160, .inl f)), (hO, .inr (2, [.ref aO, .int n_15])), (aO, .inl (cC, roomO, .inl f_14))] := hD
                  refine lv_iconst (v := 1) hx hb d_Sh_putInto_169 (by decide) ?_
                  have hP9 := hP.sub (ws' := [(sa, .inr (3, [.ref h, .ref g, .ref la, .int sg, .int ba])), (h, .inr (2, [.ref a, .int n])), (a, .inl (cC, 160, .inl f)), (hO, .inr (2, [.ref aO, .int n_15])), (aO, .inl (cC, roomO, .inl f_14)), (fi, .inr (1, [.int mi, .int pl, .int ze, .int sh, .int bl, .int sw, .int sp, .int wi, .int pr, .int le, .int so, .int nx]))]) [0, 2, 3, 4, 5, 1] rfl
                  have hD9 := hD.sub (ws' := [(sa, .inr (3, [.ref h, .ref g, .ref la, .int sg, .int ba])), (h, .inr (2, [.ref a, .int n])), (a, .inl (cC, 160, .inl f)), (hO, .inr (2, [.ref aO, .int n_15])), (aO, .inl (cC, roomO, .inl f_14)), (fi, .inr (1, [.int mi, .int pl, .int ze, .int sh, .int bl, .int sw, .int sp, .int wi, .int pr, .int le, .int so, .int nx]))]) [0, 2, 3, 4, 5, 1] (by decide) rfl
                  have hK9 := hK.sub (tys' := [(cC, .char)]) [0] rfl
                  have hq9 : (1 : Int32) = k_b (piOK roomO nO n sg ba wi) ∧ (f_14, n_15) = (if piOK roomO nO n sg ba wi = true then piLine roomO f n sg ba wi ze mi so (fO, nO) else (fO, nO)) ∧ lnOK roomO n_15 := by refine ⟨by rw [hOK9]; rfl, ?_, w166_15b⟩; rw [if_pos hOK9, piLine, piE, if_neg c158_13, ← w151_12, ← hgap]; exact w166_15
                  subst hQ
                  exact W.zret (v := 1) hx hb hr rfl (fun t ht hW => ⟨⟨1, (f_14, n_15), rfl, hq9, by rw [ht]; exact hP9, va_K.moved hW.alike hK9, hD9⟩, hS.F ht⟩) hS.2.2 d_Sh_putInto_170
              refine lv_if_eq (tgt := 138) hx hb d_Sh_putInto_127 (by decide) (fun c127_16 => ?_) (fun c127_16 => ?_)
              · skip
                exact cut138 n6 f6 _ _ _ (by rw [piD, ← w62_9, if_pos c127_16]; rw [w62_9]; exact h6) (h6n) (hP.sub [0, 1, 2, 3, 4, 5] rfl) (hD.sub [0, 1, 2, 3, 4, 5] (by decide) rfl) hS (lv_sub hl [0, 1, 2, 3, 4, 5] rfl)
              · skip
                refine lv_aload_n hx hb d_Sh_putInto_130 rfl (lv_at hl 4 rfl) ?_
                refine lv_bipush (v := 48) hx hb d_Sh_putInto_131 (by decide) ?_
                refine lv_iload hx hb d_Sh_putInto_133 (lv_at hl 1 rfl) ?_
                have hPc := hP.sub (ws' := [(hO, .inr (2, [.ref aO, .int n6])), (aO, .inl (cC, roomO, .inl f6))]) [4, 5] rfl
                have hDc := hD.sub (ws' := [(hO, .inr (2, [.ref aO, .int n6])), (aO, .inl (cC, roomO, .inl f6))]) [4, 5] (by decide) rfl
                have hKc := hK.sub (tys' := [(cC, .char)]) [0] rfl
                have hFc := va_free (wc := [(hO, .inr (2, [.ref aO, .int n6])), (aO, .inl (cC, roomO, .inl f6))]) hD hS hA [4, 5] rfl
                refine va_callv (va_runV (As := [.int 48, .int x5]) (rest := []) ⟨hx, hb, hml, hown, hT⟩ (c_Line_repeat l dC dI H.size cC hO aO roomO f6 n6 48 x5 h6n) (cwV 2 hT g_Sh_106 rfl rfl rfl (by decide +kernel) ⟨Nat.le_of_ble_eq_true rfl, Nat.le_of_ble_eq_true rfl⟩) ⟨fun a U g mk q => by obtain ⟨q0, q1, qP, qK, qD⟩ := q; exact ⟨q0, q1, qP, va_K.moved (u := U) (U := U.calling g mk a) (Vm.Alike.refl U.vm) qK, qD⟩, va_recv hKc hPc (ci := 2) (q0 := 0) rfl rfl, fun U hU hW => ⟨rfl, by rw [hU], by rw [hU]; exact hPc, va_K.moved hW.alike hKc, hDc.weaken (fun _ _ _ _ => trivial)⟩⟩ rfl rfl hl.1 rfl (lv_room (Nat.le_of_ble_eq_true rfl)) d_Sh_putInto_135 ⟨Nat.le_of_ble_eq_true rfl, Nat.le_of_ble_eq_true rfl⟩) hS (fun q _ h => hFc q h) hFc (fun u t H1 locs ht hvm w135_18 hB hz1 hk1 hS => ?_)
                obtain ⟨f_17, n_18⟩ := u
                obtain ⟨hP1, hK1, hD1⟩ := hB
                rw [ht] at hP1
                try dsimp only at w135_18
                obtain ⟨w135_18, w135_18b⟩ := w135_18
                obtain ⟨hP, hD⟩ := va_join (wr := [(sa, .inr (3, [.ref h, .ref g, .ref la, .int sg, .int ba])), (h, .inr (2, [.ref a, .int n])), (a, .inl (cC, 160, .inl f)), (fi, .inr (1, [.int mi, .int pl, .int ze, .int sh, .int bl, .int sw, .int sp, .int wi, .int pr, .int le, .int so, .int nx]))]) (w1 := [(hO, .inr (2, [.ref aO, .int n_18])), (aO, .inl (cC, roomO, .inl f_17))]) hP hD [4, 5] [0, 1, 2, 3] rfl rfl (by decide) (by decide) hk1 hFc hP1 hD1
                generalize H1 = H at hP hS ⊢
                have hP : va_P (dC, dI) CL [(sa, .inr (3, [.ref h, .ref g, .ref la, .int sg, .int ba])), (h, .inr (2, [.ref a, .int n])), (a, .inl (cC, 160, .inl f)), (fi, .inr (1, [.int mi, .int pl, .int ze, .int sh, .int bl, .int sw, .int sp, .int wi, .int pr, .int le, .int so, .int nx])), (hO, .inr (2, [.ref aO, .int n_18])), (aO, .inl (cC, roomO, .inl f_17))] H := hP
                have hD : va_D A [(sa, .inr (3, [.ref h, .ref g, .ref la, .int sg, .int ba])), (h, .inr (2, [.ref a, .int n])), (a, .inl (cC, 160, .inl f)), (fi, .inr (1, [.int mi, .int pl, .int ze, .int sh, .int bl, .int sw, .int sp, .int wi, .int pr, .int le, .int so, .int nx])), (hO, .inr (2, [.ref aO, .int n_18])), (aO, .inl (cC, roomO, .inl f_17))] := hD
                exact cut138 n_18 f_17 _ _ _ (by rw [piD, ← h6, ← hgap, if_neg (by rw [← w62_9]; exact c127_16)]; exact w135_18) (w135_18b) (hP.sub [0, 1, 2, 3, 4, 5] rfl) (hD.sub [0, 1, 2, 3, 4, 5] (by decide) rfl) hS (lv_sub hl [0, 1, 2, 3, 4, 5] rfl)
            refine lv_icmp_eq (tgt := 125) hx hb d_Sh_putInto_108 (by decide) (fun c108_19 => ?_) (fun c108_19 => ?_)
            · skip
              exact cut125 n5 f5 _ _ _ (by rw [piC, if_pos c108_19]; exact h5) (h5n) (hP.sub [0, 1, 2, 3, 4, 5] rfl) (hD.sub [0, 1, 2, 3, 4, 5] (by decide) rfl) hS (lv_sub hl [0, 1, 2, 3, 4, 5] rfl)
            · skip
              refine lv_aload_n hx hb d_Sh_putInto_111 rfl (lv_at hl 4 rfl) ?_
              refine lv_bipush (v := 48) hx hb d_Sh_putInto_112 (by decide) ?_
              have hPc := hP.sub (ws' := [(hO, .inr (2, [.ref aO, .int n5])), (aO, .inl (cC, roomO, .inl f5))]) [4, 5] rfl
              have hDc := hD.sub (ws' := [(hO, .inr (2, [.ref aO, .int n5])), (aO, .inl (cC, roomO, .inl f5))]) [4, 5] (by decide) rfl
              have hKc := hK.sub (tys' := [(cC, .char)]) [0] rfl
              have hFc := va_free (wc := [(hO, .inr (2, [.ref aO, .int n5])), (aO, .inl (cC, roomO, .inl f5))]) hD hS hA [4, 5] rfl
              refine va_callv (va_runV (As := [.int 48]) (rest := []) ⟨hx, hb, hml, hown, hT⟩ (c_Line_add l dC dI H.size cC hO aO roomO f5 n5 48 h5n) (cwV 1 hT g_Sh_69 rfl rfl rfl (by decide +kernel) ⟨Nat.le_of_ble_eq_true rfl, Nat.le_of_ble_eq_true rfl⟩) ⟨fun a U g mk q => by obtain ⟨q0, q1, qP, qK, qD⟩ := q; exact ⟨q0, q1, qP, va_K.moved (u := U) (U := U.calling g mk a) (Vm.Alike.refl U.vm) qK, qD⟩, va_recv hKc hPc (ci := 2) (q0 := 0) rfl rfl, fun U hU hW => ⟨rfl, by rw [hU], by rw [hU]; exact hPc, va_K.moved hW.alike hKc, hDc.weaken (fun _ _ _ _ => trivial)⟩⟩ rfl rfl hl.1 rfl (lv_room (Nat.le_of_ble_eq_true rfl)) d_Sh_putInto_114 ⟨Nat.le_of_ble_eq_true rfl, Nat.le_of_ble_eq_true rfl⟩) hS (fun q _ h => hFc q h) hFc (fun u t H1 locs ht hvm w114_21 hB hz1 hk1 hS => ?_)
              obtain ⟨f_20, n_21⟩ := u
              obtain ⟨hP1, hK1, hD1⟩ := hB
              rw [ht] at hP1
              try dsimp only at w114_21
              obtain ⟨w114_21, w114_21b⟩ := w114_21
              obtain ⟨hP, hD⟩ := va_join (wr := [(sa, .inr (3, [.ref h, .ref g, .ref la, .int sg, .int ba])), (h, .inr (2, [.ref a, .int n])), (a, .inl (cC, 160, .inl f)), (fi, .inr (1, [.int mi, .int pl, .int ze, .int sh, .int bl, .int sw, .int sp, .int wi, .int pr, .int le, .int so, .int nx]))]) (w1 := [(hO, .inr (2, [.ref aO, .int n_21])), (aO, .inl (cC, roomO, .inl f_20))]) hP hD [4, 5] [0, 1, 2, 3] rfl rfl (by decide) (by decide) hk1 hFc hP1 hD1
              generalize H1 = H at hP hS ⊢
              have hP : va_P (dC, dI) CL [(sa, .inr (3, [.ref h, .ref g, .ref la, .int sg, .int ba])), (h, .inr (2, [.ref a, .int n])), (a, .inl (cC, 160, .inl f)), (fi, .inr (1, [.int mi, .int pl, .int ze, .int sh, .int bl, .int sw, .int sp, .int wi, .int pr, .int le, .int so, .int nx])), (hO, .inr (2, [.ref aO, .int n_21])), (aO, .inl (cC, roomO, .inl f_20))] H := hP
              have hD : va_D A [(sa, .inr (3, [.ref h, .ref g, .ref la, .int sg, .int ba])), (h, .inr (2, [.ref a, .int n])), (a, .inl (cC, 160, .inl f)), (fi, .inr (1, [.int mi, .int pl, .int ze, .int sh, .int bl, .int sw, .int sp, .int wi, .int pr, .int le, .int so, .int nx])), (hO, .inr (2, [.ref aO, .int n_21])), (aO, .inl (cC, roomO, .inl f_20))] := hD
              refine lv_aload_n hx hb d_Sh_putInto_117 rfl (lv_at hl 4 rfl) ?_
              refine lv_aload_n hx hb d_Sh_putInto_118 rfl (lv_at hl 3 rfl) ?_
              refine va_get (D := (dC, dI)) (ci := 3) (v := .int ba) (C := R_Sh) (T := F_Sh) (N := 5) hx hb hT (in_Sh) hown hK hP 0 rfl rfl 4 (by decide) (hT _ t_145) (fun _ h9 => h9) rfl d_Sh_putInto_119 ?_
              have hPc := hP.sub (ws' := [(hO, .inr (2, [.ref aO, .int n_21])), (aO, .inl (cC, roomO, .inl f_20))]) [4, 5] rfl
              have hDc := hD.sub (ws' := [(hO, .inr (2, [.ref aO, .int n_21])), (aO, .inl (cC, roomO, .inl f_20))]) [4, 5] (by decide) rfl
              have hKc := hK.sub (tys' := [(cC, .char)]) [0] rfl
              have hFc := va_free (wc := [(hO, .inr (2, [.ref aO, .int n_21])), (aO, .inl (cC, roomO, .inl f_20))]) hD hS hA [4, 5] rfl
              refine va_callv (va_runV (As := [.int ba]) (rest := []) ⟨hx, hb, hml, hown, hT⟩ (c_Line_add l dC dI H.size cC hO aO roomO f_20 n_21 ba (by first | assumption | omega)) (cwV 1 hT g_Sh_69 rfl rfl rfl (by decide +kernel) ⟨Nat.le_of_ble_eq_true rfl, Nat.le_of_ble_eq_true rfl⟩) ⟨fun a U g mk q => by obtain ⟨q0, q1, qP, qK, qD⟩ := q; exact ⟨q0, q1, qP, va_K.moved (u := U) (U := U.calling g mk a) (Vm.Alike.refl U.vm) qK, qD⟩, va_recv hKc hPc (ci := 2) (q0 := 0) rfl rfl, fun U hU hW => ⟨rfl, by rw [hU], by rw [hU]; exact hPc, va_K.moved hW.alike hKc, hDc.weaken (fun _ _ _ _ => trivial)⟩⟩ rfl rfl hl.1 rfl (lv_room (Nat.le_of_ble_eq_true rfl)) d_Sh_putInto_122 ⟨Nat.le_of_ble_eq_true rfl, Nat.le_of_ble_eq_true rfl⟩) hS (fun q _ h => hFc q h) hFc (fun u t H1 locs ht hvm w122_23 hB hz1 hk1 hS => ?_)
              obtain ⟨f_22, n_23⟩ := u
              obtain ⟨hP1, hK1, hD1⟩ := hB
              rw [ht] at hP1
              try dsimp only at w122_23
              obtain ⟨w122_23, w122_23b⟩ := w122_23
              obtain ⟨hP, hD⟩ := va_join (wr := [(sa, .inr (3, [.ref h, .ref g, .ref la, .int sg, .int ba])), (h, .inr (2, [.ref a, .int n])), (a, .inl (cC, 160, .inl f)), (fi, .inr (1, [.int mi, .int pl, .int ze, .int sh, .int bl, .int sw, .int sp, .int wi, .int pr, .int le, .int so, .int nx]))]) (w1 := [(hO, .inr (2, [.ref aO, .int n_23])), (aO, .inl (cC, roomO, .inl f_22))]) hP hD [4, 5] [0, 1, 2, 3] rfl rfl (by decide) (by decide) hk1 hFc hP1 hD1
              generalize H1 = H at hP hS ⊢
              have hP : va_P (dC, dI) CL [(sa, .inr (3, [.ref h, .ref g, .ref la, .int sg, .int ba])), (h, .inr (2, [.ref a, .int n])), (a, .inl (cC, 160, .inl f)), (fi, .inr (1, [.int mi, .int pl, .int ze, .int sh, .int bl, .int sw, .int sp, .int wi, .int pr, .int le, .int so, .int nx])), (hO, .inr (2, [.ref aO, .int n_23])), (aO, .inl (cC, roomO, .inl f_22))] H := hP
              have hD : va_D A [(sa, .inr (3, [.ref h, .ref g, .ref la, .int sg, .int ba])), (h, .inr (2, [.ref a, .int n])), (a, .inl (cC, 160, .inl f)), (fi, .inr (1, [.int mi, .int pl, .int ze, .int sh, .int bl, .int sw, .int sp, .int wi, .int pr, .int le, .int so, .int nx])), (hO, .inr (2, [.ref aO, .int n_23])), (aO, .inl (cC, roomO, .inl f_22))] := hD
              exact cut125 n_23 f_22 _ _ _ (by rw [piC, if_neg c108_19, ← h5, ← w114_21]; exact w122_23) (w122_23b) (hP.sub [0, 1, 2, 3, 4, 5] rfl) (hD.sub [0, 1, 2, 3, 4, 5] (by decide) rfl) hS (lv_sub hl [0, 1, 2, 3, 4, 5] rfl)
          refine lv_icmp_eq (tgt := 103) hx hb d_Sh_putInto_92 (by decide) (fun c92_24 => ?_) (fun c92_24 => ?_)
          · skip
            exact cut103 n4 f4 _ _ _ (by rw [piB, if_pos c92_24]; exact h4) (h4n) (hP.sub [0, 1, 2, 3, 4, 5] rfl) (hD.sub [0, 1, 2, 3, 4, 5] (by decide) rfl) hS (lv_sub hl [0, 1, 2, 3, 4, 5] rfl)
          · skip
            refine lv_aload_n hx hb d_Sh_putInto_95 rfl (lv_at hl 4 rfl) ?_
            refine lv_aload_n hx hb d_Sh_putInto_96 rfl (lv_at hl 3 rfl) ?_
            refine va_get (D := (dC, dI)) (ci := 3) (v := .int sg) (C := R_Sh) (T := F_Sh) (N := 5) hx hb hT (in_Sh) hown hK hP 0 rfl rfl 3 (by decide) (hT _ t_144) (fun _ h9 => h9) rfl d_Sh_putInto_97 ?_
            have hPc := hP.sub (ws' := [(hO, .inr (2, [.ref aO, .int n4])), (aO, .inl (cC, roomO, .inl f4))]) [4, 5] rfl
            have hDc := hD.sub (ws' := [(hO, .inr (2, [.ref aO, .int n4])), (aO, .inl (cC, roomO, .inl f4))]) [4, 5] (by decide) rfl
            have hKc := hK.sub (tys' := [(cC, .char)]) [0] rfl
            have hFc := va_free (wc := [(hO, .inr (2, [.ref aO, .int n4])), (aO, .inl (cC, roomO, .inl f4))]) hD hS hA [4, 5] rfl
            refine va_callv (va_runV (As := [.int sg]) (rest := []) ⟨hx, hb, hml, hown, hT⟩ (c_Line_add l dC dI H.size cC hO aO roomO f4 n4 sg h4n) (cwV 1 hT g_Sh_69 rfl rfl rfl (by decide +kernel) ⟨Nat.le_of_ble_eq_true rfl, Nat.le_of_ble_eq_true rfl⟩) ⟨fun a U g mk q => by obtain ⟨q0, q1, qP, qK, qD⟩ := q; exact ⟨q0, q1, qP, va_K.moved (u := U) (U := U.calling g mk a) (Vm.Alike.refl U.vm) qK, qD⟩, va_recv hKc hPc (ci := 2) (q0 := 0) rfl rfl, fun U hU hW => ⟨rfl, by rw [hU], by rw [hU]; exact hPc, va_K.moved hW.alike hKc, hDc.weaken (fun _ _ _ _ => trivial)⟩⟩ rfl rfl hl.1 rfl (lv_room (Nat.le_of_ble_eq_true rfl)) d_Sh_putInto_100 ⟨Nat.le_of_ble_eq_true rfl, Nat.le_of_ble_eq_true rfl⟩) hS (fun q _ h => hFc q h) hFc (fun u t H1 locs ht hvm w100_26 hB hz1 hk1 hS => ?_)
            obtain ⟨f_25, n_26⟩ := u
            obtain ⟨hP1, hK1, hD1⟩ := hB
            rw [ht] at hP1
            try dsimp only at w100_26
            obtain ⟨w100_26, w100_26b⟩ := w100_26
            obtain ⟨hP, hD⟩ := va_join (wr := [(sa, .inr (3, [.ref h, .ref g, .ref la, .int sg, .int ba])), (h, .inr (2, [.ref a, .int n])), (a, .inl (cC, 160, .inl f)), (fi, .inr (1, [.int mi, .int pl, .int ze, .int sh, .int bl, .int sw, .int sp, .int wi, .int pr, .int le, .int so, .int nx]))]) (w1 := [(hO, .inr (2, [.ref aO, .int n_26])), (aO, .inl (cC, roomO, .inl f_25))]) hP hD [4, 5] [0, 1, 2, 3] rfl rfl (by decide) (by decide) hk1 hFc hP1 hD1
            generalize H1 = H at hP hS ⊢
            have hP : va_P (dC, dI) CL [(sa, .inr (3, [.ref h, .ref g, .ref la, .int sg, .int ba])), (h, .inr (2, [.ref a, .int n])), (a, .inl (cC, 160, .inl f)), (fi, .inr (1, [.int mi, .int pl, .int ze, .int sh, .int bl, .int sw, .int sp, .int wi, .int pr, .int le, .int so, .int nx])), (hO, .inr (2, [.ref aO, .int n_26])), (aO, .inl (cC, roomO, .inl f_25))] H := hP
            have hD : va_D A [(sa, .inr (3, [.ref h, .ref g, .ref la, .int sg, .int ba])), (h, .inr (2, [.ref a, .int n])), (a, .inl (cC, 160, .inl f)), (fi, .inr (1, [.int mi, .int pl, .int ze, .int sh, .int bl, .int sw, .int sp, .int wi, .int pr, .int le, .int so, .int nx])), (hO, .inr (2, [.ref aO, .int n_26])), (aO, .inl (cC, roomO, .inl f_25))] := hD
            exact cut103 n_26 f_25 _ _ _ (by rw [piB, if_neg c92_24, ← h4]; exact w100_26) (w100_26b) (hP.sub [0, 1, 2, 3, 4, 5] rfl) (hD.sub [0, 1, 2, 3, 4, 5] (by decide) rfl) hS (lv_sub hl [0, 1, 2, 3, 4, 5] rfl)
        refine lv_if_ne (tgt := 87) hx hb d_Sh_putInto_69 (by decide) (fun c69_27 => ?_) (fun c69_27 => ?_)
        · skip
          exact cut87 nO fO _ _ _ (by rw [piA, ← w62_9]; simp [c69_27]) (hnO) (hP.sub [0, 1, 2, 5, 3, 4] rfl) (hD.sub [0, 1, 2, 5, 3, 4] (by decide) rfl) hS (lv_sub hl [0, 1, 2, 3, 4, 5] rfl)
        · skip
          refine lv_aload_n hx hb d_Sh_putInto_72 rfl (lv_at hl 5 rfl) ?_
          refine va_getN (D := (dC, dI)) (ci := 1) (v := .int mi) (C := R_Fi) (T := F_Fi) (N := 12) hx hb hT (in_Fi) hown hK hP 5 rfl rfl 0 (by decide) (va_Nw.use rfl (kN_78 hN)) (fun _ h9 => h9) rfl d_Sh_putInto_73 ?_
          refine lv_if_ne (tgt := 87) hx hb d_Sh_putInto_76 (by decide) (fun c76_28 => ?_) (fun c76_28 => ?_)
          · skip
            exact cut87 nO fO _ _ _ (by rw [piA, ← w62_9]; simp [c69_27, c76_28]) (hnO) (hP.sub [0, 1, 2, 5, 3, 4] rfl) (hD.sub [0, 1, 2, 5, 3, 4] (by decide) rfl) hS (lv_sub hl [0, 1, 2, 3, 4, 5] rfl)
          · skip
            refine lv_aload_n hx hb d_Sh_putInto_79 rfl (lv_at hl 4 rfl) ?_
            refine lv_bipush (v := 32) hx hb d_Sh_putInto_80 (by decide) ?_
            refine lv_iload hx hb d_Sh_putInto_82 (lv_at hl 1 rfl) ?_
            have hPc := hP.sub (ws' := [(hO, .inr (2, [.ref aO, .int nO])), (aO, .inl (cC, roomO, .inl fO))]) [3, 4] rfl
            have hDc := hD.sub (ws' := [(hO, .inr (2, [.ref aO, .int nO])), (aO, .inl (cC, roomO, .inl fO))]) [3, 4] (by decide) rfl
            have hKc := hK.sub (tys' := [(cC, .char)]) [0] rfl
            have hFc := va_free (wc := [(hO, .inr (2, [.ref aO, .int nO])), (aO, .inl (cC, roomO, .inl fO))]) hD hS hA [3, 4] rfl
            refine va_callv (va_runV (As := [.int 32, .int x5]) (rest := []) ⟨hx, hb, hml, hown, hT⟩ (c_Line_repeat l dC dI H.size cC hO aO roomO fO nO 32 x5 hnO) (cwV 2 hT g_Sh_106 rfl rfl rfl (by decide +kernel) ⟨Nat.le_of_ble_eq_true rfl, Nat.le_of_ble_eq_true rfl⟩) ⟨fun a U g mk q => by obtain ⟨q0, q1, qP, qK, qD⟩ := q; exact ⟨q0, q1, qP, va_K.moved (u := U) (U := U.calling g mk a) (Vm.Alike.refl U.vm) qK, qD⟩, va_recv hKc hPc (ci := 2) (q0 := 0) rfl rfl, fun U hU hW => ⟨rfl, by rw [hU], by rw [hU]; exact hPc, va_K.moved hW.alike hKc, hDc.weaken (fun _ _ _ _ => trivial)⟩⟩ rfl rfl hl.1 rfl (lv_room (Nat.le_of_ble_eq_true rfl)) d_Sh_putInto_84 ⟨Nat.le_of_ble_eq_true rfl, Nat.le_of_ble_eq_true rfl⟩) hS (fun q _ h => hFc q h) hFc (fun u t H1 locs ht hvm w84_30 hB hz1 hk1 hS => ?_)
            obtain ⟨f_29, n_30⟩ := u
            obtain ⟨hP1, hK1, hD1⟩ := hB
            rw [ht] at hP1
            try dsimp only at w84_30
            obtain ⟨w84_30, w84_30b⟩ := w84_30
            obtain ⟨hP, hD⟩ := va_join (wr := [(sa, .inr (3, [.ref h, .ref g, .ref la, .int sg, .int ba])), (h, .inr (2, [.ref a, .int n])), (a, .inl (cC, 160, .inl f)), (fi, .inr (1, [.int mi, .int pl, .int ze, .int sh, .int bl, .int sw, .int sp, .int wi, .int pr, .int le, .int so, .int nx]))]) (w1 := [(hO, .inr (2, [.ref aO, .int n_30])), (aO, .inl (cC, roomO, .inl f_29))]) hP hD [3, 4] [0, 1, 2, 5] rfl rfl (by decide) (by decide) hk1 hFc hP1 hD1
            generalize H1 = H at hP hS ⊢
            have hP : va_P (dC, dI) CL [(sa, .inr (3, [.ref h, .ref g, .ref la, .int sg, .int ba])), (h, .inr (2, [.ref a, .int n])), (a, .inl (cC, 160, .inl f)), (fi, .inr (1, [.int mi, .int pl, .int ze, .int sh, .int bl, .int sw, .int sp, .int wi, .int pr, .int le, .int so, .int nx])), (hO, .inr (2, [.ref aO, .int n_30])), (aO, .inl (cC, roomO, .inl f_29))] H := hP
            have hD : va_D A [(sa, .inr (3, [.ref h, .ref g, .ref la, .int sg, .int ba])), (h, .inr (2, [.ref a, .int n])), (a, .inl (cC, 160, .inl f)), (fi, .inr (1, [.int mi, .int pl, .int ze, .int sh, .int bl, .int sw, .int sp, .int wi, .int pr, .int le, .int so, .int nx])), (hO, .inr (2, [.ref aO, .int n_30])), (aO, .inl (cC, roomO, .inl f_29))] := hD
            exact cut87 n_30 f_29 _ _ _ (by rw [piA, ← w62_9, ← hgap, w84_30]; simp [c69_27, c76_28]) (w84_30b) (hP.sub [0, 1, 2, 3, 4, 5] rfl) (hD.sub [0, 1, 2, 3, 4, 5] (by decide) rfl) hS (lv_sub hl [0, 1, 2, 3, 4, 5] rfl)
      · skip
        refine lv_iconst (v := 0) hx hb d_Sh_putInto_59 (by decide) ?_
        have hP9 := hP.sub (ws' := [(sa, .inr (3, [.ref h, .ref g, .ref la, .int sg, .int ba])), (h, .inr (2, [.ref a, .int n])), (a, .inl (cC, 160, .inl f)), (hO, .inr (2, [.ref aO, .int nO])), (aO, .inl (cC, roomO, .inl fO)), (fi, .inr (1, [.int mi, .int pl, .int ze, .int sh, .int bl, .int sw, .int sp, .int wi, .int pr, .int le, .int so, .int nx]))]) [0, 2, 3, 4, 5, 1] rfl
        have hD9 := hD.sub (ws' := [(sa, .inr (3, [.ref h, .ref g, .ref la, .int sg, .int ba])), (h, .inr (2, [.ref a, .int n])), (a, .inl (cC, 160, .inl f)), (hO, .inr (2, [.ref aO, .int nO])), (aO, .inl (cC, roomO, .inl fO)), (fi, .inr (1, [.int mi, .int pl, .int ze, .int sh, .int bl, .int sw, .int sp, .int wi, .int pr, .int le, .int so, .int nx]))]) [0, 2, 3, 4, 5, 1] (by decide) rfl
        have hK9 := hK.sub (tys' := [(cC, .char)]) [0] rfl
        have hq9 : (0 : Int32) = k_b (piOK roomO nO n sg ba wi) ∧ (fO, nO) = (if piOK roomO nO n sg ba wi = true then piLine roomO f n sg ba wi ze mi so (fO, nO) else (fO, nO)) ∧ lnOK roomO nO := by
          have h9 := k_bF1 c56_8 hok
          exact ⟨by rw [k_b, if_neg h9], by rw [if_neg h9], hnO⟩
        subst hQ
        exact W.zret (v := 0) hx hb hr rfl (fun t ht hW => ⟨⟨0, (fO, nO), rfl, hq9, by rw [ht]; exact hP9, va_K.moved hW.alike hK9, hD9⟩, hS.F ht⟩) hS.2.2 d_Sh_putInto_60
    refine lv_icmp_ne (tgt := 33) hx hb d_Sh_putInto_26 (by decide) (fun c26_31 => ?_) (fun c26_31 => ?_)
    · skip
      refine lv_iconst (v := 2) hx hb d_Sh_putInto_33 (by decide) ?_
      exact cut34 2 _ _ _ (by simp [c26_31]) (hP.sub [0, 1, 2, 3, 4, 5] rfl) (hD.sub [0, 1, 2, 3, 4, 5] (by decide) rfl) hS (lv_sub hl [0, 1, 2] rfl)
    · skip
      refine lv_iconst (v := 0) hx hb d_Sh_putInto_29 (by decide) ?_
      refine lv_goto (tgt := 34) hx hb d_Sh_putInto_30 (by decide) ?_
      exact cut34 0 _ _ _ (by simp [c26_31]) (hP.sub [0, 1, 2, 3, 4, 5] rfl) (hD.sub [0, 1, 2, 3, 4, 5] (by decide) rfl) hS (lv_sub hl [0, 1, 2] rfl)
  refine lv_icmp_ne (tgt := 19) hx hb d_Sh_putInto_12 (by decide) (fun c12_32 => ?_) (fun c12_32 => ?_)
  · skip
    refine lv_iconst (v := 1) hx hb d_Sh_putInto_19 (by decide) ?_
    exact cut20 1 _ _ _ (by simp [c12_32]) (hP.sub [0, 1, 2, 3, 4, 5] rfl) (hD.sub [0, 1, 2, 3, 4, 5] (by decide) rfl) hS (lv_sub hl [0, 1, 2] rfl)
  · skip
    refine lv_iconst (v := 0) hx hb d_Sh_putInto_15 (by decide) ?_
    refine lv_goto (tgt := 20) hx hb d_Sh_putInto_16 (by decide) ?_
    exact cut20 0 _ _ _ (by simp [c12_32]) (hP.sub [0, 1, 2, 3, 4, 5] rfl) (hD.sub [0, 1, 2, 3, 4, 5] (by decide) rfl) hS (lv_sub hl [0, 1, 2] rfl)

set_option maxHeartbeats 4000000 in
set_option maxRecDepth 100000 in
theorem c_Shape_form (l : Launch) (dC : Nat → ClassId) (dI : Nat → Nat → Nat) (sz : Nat) (cC : ClassId) (cI : ClassId) (sa : Nat) (h : Nat) (g : Nat) (la : Nat) (sg : Int32) (ba : Int32) (a : Nat) (f : Nat → Int32) (n : Int32) (ra : Nat) (row : Nat → Int32) (lo : Nat → Int32) (vV : Nat) (wV : Nat) (waV : Nat) (decV : Int32) (belV : Int32) (ahV : Int64) (bhV : Int64) (fV : Nat → Int32) (nV : Int32) (fi : Nat) (mi : Int32) (pl : Int32) (ze : Int32) (sh : Int32) (bl : Int32) (sw : Int32) (sp : Int32) (wi : Int32) (pr : Int32) (le : Int32) (so : Int32) (nx : Int32) (hnV : lnOK 60 nV) : Met l y_Sh_form w_Sh_form ({ frames := 3, cells := 0, slots := 0, locals := 73 } : Room) (va_Pc [.ref sa, .ref vV, .ref fi] (fun U => U.heap.size = sz ∧ va_P (dC, dI) CL [(sa, .inr (3, [.ref h, .ref g, .ref la, .int sg, .int ba])), (h, .inr (2, [.ref a, .int n])), (a, .inl (cC, 160, .inl f)), (g, .inr (0, [.ref ra])), (ra, .inl (cI, 31, .inl row)), (la, .inl (cI, 64, .inl lo)), (vV, .inr (4, [.ref wV, .int decV, .int belV, .long ahV, .long bhV])), (wV, .inr (2, [.ref waV, .int nV])), (waV, .inl (cC, 60, .inl fV)), (fi, .inr (1, [.int mi, .int pl, .int ze, .int sh, .int bl, .int sw, .int sp, .int wi, .int pr, .int le, .int so, .int nx]))] U.heap ∧ va_K (dC, dI) CL [(cC, .char), (cI, .int)] U ∧ va_D (fun _ => True) [(sa, .inr (3, [.ref h, .ref g, .ref la, .int sg, .int ba])), (h, .inr (2, [.ref a, .int n])), (a, .inl (cC, 160, .inl f)), (g, .inr (0, [.ref ra])), (ra, .inl (cI, 31, .inl row)), (la, .inl (cI, 64, .inl lo)), (vV, .inr (4, [.ref wV, .int decV, .int belV, .long ahV, .long bhV])), (wV, .inr (2, [.ref waV, .int nV])), (waV, .inl (cC, 60, .inl fV)), (fi, .inr (1, [.int mi, .int pl, .int ze, .int sh, .int bl, .int sw, .int sp, .int wi, .int pr, .int le, .int so, .int nx]))] ∧ kN U)) (va_Qv (fun (u : Int32 × Int32 × (Nat → Int32) × (Nat → Int32) × (Nat → Int32) × Int32) => match u with | (sg2, ba2, row2, lo2, f2, n2) => sg2 = foSign le belV ahV pl bl ∧ ba2 = foBase le sh ∧ (f2, n2) = foLine le decV belV ahV bhV fV nV pr sh row lo f ∧ lnOK 160 n2) (fun (u : Int32 × Int32 × (Nat → Int32) × (Nat → Int32) × (Nat → Int32) × Int32) (t : State) => match u with | (sg2, ba2, row2, lo2, f2, n2) => va_P (dC, dI) CL [(sa, .inr (3, [.ref h, .ref g, .ref la, .int sg2, .int ba2])), (h, .inr (2, [.ref a, .int n2])), (a, .inl (cC, 160, .inl f2)), (g, .inr (0, [.ref ra])), (ra, .inl (cI, 31, .inl row2)), (la, .inl (cI, 64, .inl lo2)), (vV, .inr (4, [.ref wV, .int decV, .int belV, .long ahV, .long bhV])), (wV, .inr (2, [.ref waV, .int nV])), (waV, .inl (cC, 60, .inl fV)), (fi, .inr (1, [.int mi, .int pl, .int ze, .int sh, .int bl, .int sw, .int sp, .int wi, .int pr, .int le, .int so, .int nx]))] t.heap ∧ va_K (dC, dI) CL [(cC, .char), (cI, .int)] t ∧ va_D (va_A [(sa, .inr (3, [.ref h, .ref g, .ref la, .int sg, .int ba])), (h, .inr (2, [.ref a, .int n])), (a, .inl (cC, 160, .inl f)), (g, .inr (0, [.ref ra])), (ra, .inl (cI, 31, .inl row)), (la, .inl (cI, 64, .inl lo)), (vV, .inr (4, [.ref wV, .int decV, .int belV, .long ahV, .long bhV])), (wV, .inr (2, [.ref waV, .int nV])), (waV, .inl (cC, 60, .inl fV)), (fi, .inr (1, [.int mi, .int pl, .int ze, .int sh, .int bl, .int sw, .int sp, .int wi, .int pr, .int le, .int so, .int nx]))] sz) [(sa, .inr (3, [.ref h, .ref g, .ref la, .int sg2, .int ba2])), (h, .inr (2, [.ref a, .int n2])), (a, .inl (cC, 160, .inl f2)), (g, .inr (0, [.ref ra])), (ra, .inl (cI, 31, .inl row2)), (la, .inl (cI, 64, .inl lo2)), (vV, .inr (4, [.ref wV, .int decV, .int belV, .long ahV, .long bhV])), (wV, .inr (2, [.ref waV, .int nV])), (waV, .inl (cC, 60, .inl fV)), (fi, .inr (1, [.int mi, .int pl, .int ze, .int sh, .int bl, .int sw, .int sp, .int wi, .int pr, .int le, .int so, .int nx]))]) (va_A [(sa, .inr (3, [.ref h, .ref g, .ref la, .int sg, .int ba])), (h, .inr (2, [.ref a, .int n])), (a, .inl (cC, 160, .inl f)), (g, .inr (0, [.ref ra])), (ra, .inl (cI, 31, .inl row)), (la, .inl (cI, 64, .inl lo)), (vV, .inr (4, [.ref wV, .int decV, .int belV, .long ahV, .long bhV])), (wV, .inr (2, [.ref waV, .int nV])), (waV, .inl (cC, 60, .inl fV)), (fi, .inr (1, [.int mi, .int pl, .int ze, .int sh, .int bl, .int sw, .int sp, .int wi, .int pr, .int le, .int so, .int nx]))] sz)) 0 0 (va_A [(sa, .inr (3, [.ref h, .ref g, .ref la, .int sg, .int ba])), (h, .inr (2, [.ref a, .int n])), (a, .inl (cC, 160, .inl f)), (g, .inr (0, [.ref ra])), (ra, .inl (cI, 31, .inl row)), (la, .inl (cI, 64, .inl lo)), (vV, .inr (4, [.ref wV, .int decV, .int belV, .long ahV, .long bhV])), (wV, .inr (2, [.ref waV, .int nV])), (waV, .inl (cC, 60, .inl fV)), (fi, .inr (1, [.int mi, .int pl, .int ze, .int sh, .int bl, .int sw, .int sp, .int wi, .int pr, .int le, .int so, .int nx]))] sz) := by
  refine Met.ofW (cc := b_Sh_form) (maxL := 3) (ret := none) (by decide) rfl ?_
  intro p e s m args below meth c s₁ B hml hv
  obtain ⟨rfl, hsz, hP, hK, hD0, hN⟩ := hv
  have hx := B.exec
  have hb := B.bytes
  have hr := B.returns
  have hts := atoms_spec (ws := w_Sh_form) B.pre
  have hT : ∀ w ∈ TB, w.before _ s = true := fun w h => hts w (List.mem_cons_of_mem _ h)
  have hown : s.vm.findClass R_Sh = some m.cls := findClass_of_methodNamed B.named
  have hlocks := B.notSynchronized
  subst hsz
  have hD := hD0.self (sz := s.heap.size)
  generalize hAe : va_A [(sa, .inr (3, [.ref h, .ref g, .ref la, .int sg, .int ba])), (h, .inr (2, [.ref a, .int n])), (a, .inl (cC, 160, .inl f)), (g, .inr (0, [.ref ra])), (ra, .inl (cI, 31, .inl row)), (la, .inl (cI, 64, .inl lo)), (vV, .inr (4, [.ref wV, .int decV, .int belV, .long ahV, .long bhV])), (wV, .inr (2, [.ref waV, .int nV])), (waV, .inl (cC, 60, .inl fV)), (fi, .inr (1, [.int mi, .int pl, .int ze, .int sh, .int bl, .int sw, .int sp, .int wi, .int pr, .int le, .int so, .int nx]))] s.heap.size = A at hD ⊢
  have hA : ∀ q : Nat, s.heap.size ≤ q → A q := fun q h => by rw [← hAe]; exact Or.inr h
  have hS : va_S A s.heap s.heap [] := va_S.rf
  have hP : va_P (dC, dI) CL [(sa, .inr (3, [.ref h, .ref g, .ref la, .int sg, .int ba])), (h, .inr (2, [.ref a, .int n])), (a, .inl (cC, 160, .inl f)), (g, .inr (0, [.ref ra])), (ra, .inl (cI, 31, .inl row)), (la, .inl (cI, 64, .inl lo)), (vV, .inr (4, [.ref wV, .int decV, .int belV, .long ahV, .long bhV])), (wV, .inr (2, [.ref waV, .int nV])), (waV, .inl (cC, 60, .inl fV)), (fi, .inr (1, [.int mi, .int pl, .int ze, .int sh, .int bl, .int sw, .int sp, .int wi, .int pr, .int le, .int so, .int nx]))] s.heap := hP
  have hl := lv_entry ([.ref sa, .ref vV, .ref fi]) (n := 3) (Nat.le_of_ble_eq_true rfl)
  rw [lg_entry_eq]
  generalize (lg_sl ([.ref sa, .ref vV, .ref fi]) ++ List.replicate (3 - (lg_sl ([.ref sa, .ref vV, .ref fi])).length) Slot.unset).toArray = ls at hl ⊢
  have hl : lv_has ls 3 [(0, .ref sa), (1, .ref vV), (2, .ref fi)] := hl
  refine lv_aload_n hx hb d_Sh_form_0 rfl (lv_at hl 0 rfl) ?_
  refine va_get (D := (dC, dI)) (ci := 3) (v := .ref h) (C := R_Sh) (T := F_Sh) (N := 5) hx hb hT (in_Sh) hown hK hP 0 rfl rfl 0 (by decide) (hT _ t_141) (fun _ h9 => h9) rfl d_Sh_form_1 ?_
  have hPc := hP.sub (ws' := [(h, .inr (2, [.ref a, .int n])), (a, .inl (cC, 160, .inl f))]) [1, 2] rfl
  have hDc := hD.sub (ws' := [(h, .inr (2, [.ref a, .int n])), (a, .inl (cC, 160, .inl f))]) [1, 2] (by decide) rfl
  have hKc := hK.sub (tys' := [(cC, .char)]) [0] rfl
  have hFc := va_free (wc := [(h, .inr (2, [.ref a, .int n])), (a, .inl (cC, 160, .inl f))]) hD hS hA [1, 2] rfl
  refine va_callv (va_runV (As := []) (rest := []) ⟨hx, hb, hml, hown, hT⟩ (c_Line_empty l dC dI s.heap.size cC h a 160 f n ) (cwV 0 hT g_Sh_31 rfl rfl rfl (by decide +kernel) ⟨Nat.le_of_ble_eq_true rfl, Nat.le_of_ble_eq_true rfl⟩) ⟨fun a U g mk q => by obtain ⟨q0, q1, qP, qK, qD⟩ := q; exact ⟨q0, q1, qP, va_K.moved (u := U) (U := U.calling g mk a) (Vm.Alike.refl U.vm) qK, qD⟩, va_recv hKc hPc (ci := 2) (q0 := 0) rfl rfl, fun U hU hW => ⟨rfl, by rw [hU], by rw [hU]; exact hPc, va_K.moved hW.alike hKc, hDc.weaken (fun _ _ _ _ => trivial)⟩⟩ rfl rfl hl.1 rfl (lv_room (Nat.le_of_ble_eq_true rfl)) d_Sh_form_4 ⟨Nat.le_of_ble_eq_true rfl, Nat.le_of_ble_eq_true rfl⟩) hS (fun q _ h => hFc q h) hFc (fun u t H1 locs ht hvm w4_0 hB hz1 hk1 hS => ?_)
  obtain ⟨hP1, hK1, hD1⟩ := hB
  rw [ht] at hP1
  try dsimp only at w4_0
  obtain ⟨hP, hD⟩ := va_join (wr := [(sa, .inr (3, [.ref h, .ref g, .ref la, .int sg, .int ba])), (g, .inr (0, [.ref ra])), (ra, .inl (cI, 31, .inl row)), (la, .inl (cI, 64, .inl lo)), (vV, .inr (4, [.ref wV, .int decV, .int belV, .long ahV, .long bhV])), (wV, .inr (2, [.ref waV, .int nV])), (waV, .inl (cC, 60, .inl fV)), (fi, .inr (1, [.int mi, .int pl, .int ze, .int sh, .int bl, .int sw, .int sp, .int wi, .int pr, .int le, .int so, .int nx]))]) (w1 := [(h, .inr (2, [.ref a, .int 0])), (a, .inl (cC, 160, .inl f))]) hP hD [1, 2] [0, 3, 4, 5, 6, 7, 8, 9] rfl rfl (by decide) (by decide) hk1 hFc hP1 hD1
  generalize H1 = H at hP hS ⊢
  have hP : va_P (dC, dI) CL [(sa, .inr (3, [.ref h, .ref g, .ref la, .int sg, .int ba])), (g, .inr (0, [.ref ra])), (ra, .inl (cI, 31, .inl row)), (la, .inl (cI, 64, .inl lo)), (vV, .inr (4, [.ref wV, .int decV, .int belV, .long ahV, .long bhV])), (wV, .inr (2, [.ref waV, .int nV])), (waV, .inl (cC, 60, .inl fV)), (fi, .inr (1, [.int mi, .int pl, .int ze, .int sh, .int bl, .int sw, .int sp, .int wi, .int pr, .int le, .int so, .int nx])), (h, .inr (2, [.ref a, .int 0])), (a, .inl (cC, 160, .inl f))] H := hP
  have hD : va_D A [(sa, .inr (3, [.ref h, .ref g, .ref la, .int sg, .int ba])), (g, .inr (0, [.ref ra])), (ra, .inl (cI, 31, .inl row)), (la, .inl (cI, 64, .inl lo)), (vV, .inr (4, [.ref wV, .int decV, .int belV, .long ahV, .long bhV])), (wV, .inr (2, [.ref waV, .int nV])), (waV, .inl (cC, 60, .inl fV)), (fi, .inr (1, [.int mi, .int pl, .int ze, .int sh, .int bl, .int sw, .int sp, .int wi, .int pr, .int le, .int so, .int nx])), (h, .inr (2, [.ref a, .int 0])), (a, .inl (cC, 160, .inl f))] := hD
  refine lv_aload_n hx hb d_Sh_form_7 rfl (lv_at hl 0 rfl) ?_
  refine lv_iconst (v := (-1)) hx hb d_Sh_form_8 (by decide) ?_
  refine va_put (D := (dC, dI)) (ci := 3) (v := .int (-1)) (ty := .int) (C := R_Sh) (T := F_Sh) (N := 5) hx hb hT (in_Sh) t_Sh t_Sh_ok n_Sh hown hK hP hD hS 0 rfl rfl 3 (by decide) (hT _ t_144) (fun _ h9 => h9) rfl (by decide +kernel) rfl rfl (Nat.le_of_ble_eq_true rfl) d_Sh_form_9 (fun H locs hP hD hS => ?_)
  have hP : va_P (dC, dI) CL [(sa, .inr (3, [.ref h, .ref g, .ref la, .int (-1), .int ba])), (g, .inr (0, [.ref ra])), (ra, .inl (cI, 31, .inl row)), (la, .inl (cI, 64, .inl lo)), (vV, .inr (4, [.ref wV, .int decV, .int belV, .long ahV, .long bhV])), (wV, .inr (2, [.ref waV, .int nV])), (waV, .inl (cC, 60, .inl fV)), (fi, .inr (1, [.int mi, .int pl, .int ze, .int sh, .int bl, .int sw, .int sp, .int wi, .int pr, .int le, .int so, .int nx])), (h, .inr (2, [.ref a, .int 0])), (a, .inl (cC, 160, .inl f))] H := hP
  have hD : va_D A [(sa, .inr (3, [.ref h, .ref g, .ref la, .int (-1), .int ba])), (g, .inr (0, [.ref ra])), (ra, .inl (cI, 31, .inl row)), (la, .inl (cI, 64, .inl lo)), (vV, .inr (4, [.ref wV, .int decV, .int belV, .long ahV, .long bhV])), (wV, .inr (2, [.ref waV, .int nV])), (waV, .inl (cC, 60, .inl fV)), (fi, .inr (1, [.int mi, .int pl, .int ze, .int sh, .int bl, .int sw, .int sp, .int wi, .int pr, .int le, .int so, .int nx])), (h, .inr (2, [.ref a, .int 0])), (a, .inl (cC, 160, .inl f))] := hD
  refine lv_aload_n hx hb d_Sh_form_12 rfl (lv_at hl 0 rfl) ?_
  refine lv_iconst (v := (-1)) hx hb d_Sh_form_13 (by decide) ?_
  refine va_put (D := (dC, dI)) (ci := 3) (v := .int (-1)) (ty := .int) (C := R_Sh) (T := F_Sh) (N := 5) hx hb hT (in_Sh) t_Sh t_Sh_ok n_Sh hown hK hP hD hS 0 rfl rfl 4 (by decide) (hT _ t_145) (fun _ h9 => h9) rfl (by decide +kernel) rfl rfl (Nat.le_of_ble_eq_true rfl) d_Sh_form_14 (fun H locs hP hD hS => ?_)
  have hP : va_P (dC, dI) CL [(sa, .inr (3, [.ref h, .ref g, .ref la, .int (-1), .int (-1)])), (g, .inr (0, [.ref ra])), (ra, .inl (cI, 31, .inl row)), (la, .inl (cI, 64, .inl lo)), (vV, .inr (4, [.ref wV, .int decV, .int belV, .long ahV, .long bhV])), (wV, .inr (2, [.ref waV, .int nV])), (waV, .inl (cC, 60, .inl fV)), (fi, .inr (1, [.int mi, .int pl, .int ze, .int sh, .int bl, .int sw, .int sp, .int wi, .int pr, .int le, .int so, .int nx])), (h, .inr (2, [.ref a, .int 0])), (a, .inl (cC, 160, .inl f))] H := hP
  have hD : va_D A [(sa, .inr (3, [.ref h, .ref g, .ref la, .int (-1), .int (-1)])), (g, .inr (0, [.ref ra])), (ra, .inl (cI, 31, .inl row)), (la, .inl (cI, 64, .inl lo)), (vV, .inr (4, [.ref wV, .int decV, .int belV, .long ahV, .long bhV])), (wV, .inr (2, [.ref waV, .int nV])), (waV, .inl (cC, 60, .inl fV)), (fi, .inr (1, [.int mi, .int pl, .int ze, .int sh, .int bl, .int sw, .int sp, .int wi, .int pr, .int le, .int so, .int nx])), (h, .inr (2, [.ref a, .int 0])), (a, .inl (cC, 160, .inl f))] := hD
  refine lv_aload_n hx hb d_Sh_form_17 rfl (lv_at hl 2 rfl) ?_
  refine va_getN (D := (dC, dI)) (ci := 1) (v := .int le) (C := R_Fi) (T := F_Fi) (N := 12) hx hb hT (in_Fi) hown hK hP 7 rfl rfl 9 (by decide) (va_Nw.use rfl (kN_92 hN)) (fun _ h9 => h9) rfl d_Sh_form_18 ?_
  by_cases k21_1 : le = 69
  · refine lv_lookup (off := 159) (tgt := 180) hx hb d_Sh_form_21 (by decide) (by rw [k21_1]; rfl) (by decide) ?_
    refine lv_aload_n hx hb d_Sh_form_180 rfl (lv_at hl 0 rfl) ?_
    refine lv_aload_n hx hb d_Sh_form_181 rfl (lv_at hl 1 rfl) ?_
    refine lv_aload_n hx hb d_Sh_form_182 rfl (lv_at hl 2 rfl) ?_
    have hPc := hP.sub (ws' := [(sa, .inr (3, [.ref h, .ref g, .ref la, .int (-1), .int (-1)])), (h, .inr (2, [.ref a, .int 0])), (a, .inl (cC, 160, .inl f)), (g, .inr (0, [.ref ra])), (ra, .inl (cI, 31, .inl row)), (vV, .inr (4, [.ref wV, .int decV, .int belV, .long ahV, .long bhV])), (wV, .inr (2, [.ref waV, .int nV])), (waV, .inl (cC, 60, .inl fV)), (fi, .inr (1, [.int mi, .int pl, .int ze, .int sh, .int bl, .int sw, .int sp, .int wi, .int pr, .int le, .int so, .int nx]))]) [0, 8, 9, 1, 2, 4, 5, 6, 7] rfl
    have hDc := hD.sub (ws' := [(sa, .inr (3, [.ref h, .ref g, .ref la, .int (-1), .int (-1)])), (h, .inr (2, [.ref a, .int 0])), (a, .inl (cC, 160, .inl f)), (g, .inr (0, [.ref ra])), (ra, .inl (cI, 31, .inl row)), (vV, .inr (4, [.ref wV, .int decV, .int belV, .long ahV, .long bhV])), (wV, .inr (2, [.ref waV, .int nV])), (waV, .inl (cC, 60, .inl fV)), (fi, .inr (1, [.int mi, .int pl, .int ze, .int sh, .int bl, .int sw, .int sp, .int wi, .int pr, .int le, .int so, .int nx]))]) [0, 8, 9, 1, 2, 4, 5, 6, 7] (by decide) rfl
    have hKc := hK.sub (tys' := [(cC, .char), (cI, .int)]) [0, 1] rfl
    have hFc := va_free (wc := [(sa, .inr (3, [.ref h, .ref g, .ref la, .int (-1), .int (-1)])), (h, .inr (2, [.ref a, .int 0])), (a, .inl (cC, 160, .inl f)), (g, .inr (0, [.ref ra])), (ra, .inl (cI, 31, .inl row)), (vV, .inr (4, [.ref wV, .int decV, .int belV, .long ahV, .long bhV])), (wV, .inr (2, [.ref waV, .int nV])), (waV, .inl (cC, 60, .inl fV)), (fi, .inr (1, [.int mi, .int pl, .int ze, .int sh, .int bl, .int sw, .int sp, .int wi, .int pr, .int le, .int so, .int nx]))]) hD hS hA [0, 8, 9, 1, 2, 4, 5, 6, 7] rfl
    refine va_callv (va_runV (As := [.ref vV, .ref fi]) (rest := []) ⟨hx, hb, hml, hown, hT⟩ (c_Shape_formExponent l dC dI H.size cC cI sa h g la (-1) (-1) a f 0 ra row vV wV waV decV belV ahV bhV fV nV fi mi pl ze sh bl sw sp wi pr le so nx (⟨by decide, by decide, by decide⟩)) (cwV 2 hT g_Sh_54 rfl rfl rfl (by decide +kernel) ⟨Nat.le_of_ble_eq_true rfl, Nat.le_of_ble_eq_true rfl⟩) ⟨fun a U g mk q => by obtain ⟨q0, q1, qP, qK, qD, qN⟩ := q; exact ⟨q0, q1, qP, va_K.moved (u := U) (U := U.calling g mk a) (Vm.Alike.refl U.vm) qK, qD, qN.calling⟩, va_recv hKc hPc (ci := 3) (q0 := 0) rfl rfl, fun U hU hW => ⟨rfl, by rw [hU], by rw [hU]; exact hPc, va_K.moved hW.alike hKc, hDc.weaken (fun _ _ _ _ => trivial), hN.warm hW⟩⟩ rfl rfl hl.1 rfl (lv_room (Nat.le_of_ble_eq_true rfl)) d_Sh_form_183 ⟨Nat.le_of_ble_eq_true rfl, Nat.le_of_ble_eq_true rfl⟩) hS (fun q _ h => hFc q h) hFc (fun u t H1 locs ht hvm w183_5 hB hz1 hk1 hS => ?_)
    obtain ⟨sg_2, row_3, f_4, n_5⟩ := u
    obtain ⟨hP1, hK1, hD1⟩ := hB
    rw [ht] at hP1
    try dsimp only at w183_5
    obtain ⟨w183_5, w183_5b, w183_5c, w183_5d⟩ := w183_5
    obtain ⟨hP, hD⟩ := va_join (wr := [(la, .inl (cI, 64, .inl lo))]) (w1 := [(sa, .inr (3, [.ref h, .ref g, .ref la, .int sg_2, .int (-1)])), (h, .inr (2, [.ref a, .int n_5])), (a, .inl (cC, 160, .inl f_4)), (g, .inr (0, [.ref ra])), (ra, .inl (cI, 31, .inl row_3)), (vV, .inr (4, [.ref wV, .int decV, .int belV, .long ahV, .long bhV])), (wV, .inr (2, [.ref waV, .int nV])), (waV, .inl (cC, 60, .inl fV)), (fi, .inr (1, [.int mi, .int pl, .int ze, .int sh, .int bl, .int sw, .int sp, .int wi, .int pr, .int le, .int so, .int nx]))]) hP hD [0, 8, 9, 1, 2, 4, 5, 6, 7] [3] rfl rfl (by decide) (by decide) hk1 hFc hP1 hD1
    generalize H1 = H at hP hS ⊢
    have hP : va_P (dC, dI) CL [(la, .inl (cI, 64, .inl lo)), (sa, .inr (3, [.ref h, .ref g, .ref la, .int sg_2, .int (-1)])), (h, .inr (2, [.ref a, .int n_5])), (a, .inl (cC, 160, .inl f_4)), (g, .inr (0, [.ref ra])), (ra, .inl (cI, 31, .inl row_3)), (vV, .inr (4, [.ref wV, .int decV, .int belV, .long ahV, .long bhV])), (wV, .inr (2, [.ref waV, .int nV])), (waV, .inl (cC, 60, .inl fV)), (fi, .inr (1, [.int mi, .int pl, .int ze, .int sh, .int bl, .int sw, .int sp, .int wi, .int pr, .int le, .int so, .int nx]))] H := hP
    have hD : va_D A [(la, .inl (cI, 64, .inl lo)), (sa, .inr (3, [.ref h, .ref g, .ref la, .int sg_2, .int (-1)])), (h, .inr (2, [.ref a, .int n_5])), (a, .inl (cC, 160, .inl f_4)), (g, .inr (0, [.ref ra])), (ra, .inl (cI, 31, .inl row_3)), (vV, .inr (4, [.ref wV, .int decV, .int belV, .long ahV, .long bhV])), (wV, .inr (2, [.ref waV, .int nV])), (waV, .inl (cC, 60, .inl fV)), (fi, .inr (1, [.int mi, .int pl, .int ze, .int sh, .int bl, .int sw, .int sp, .int wi, .int pr, .int le, .int so, .int nx]))] := hD
    refine lv_goto (tgt := 238) hx hb d_Sh_form_186 (by decide) ?_
    have hP9 := hP.sub (ws' := [(sa, .inr (3, [.ref h, .ref g, .ref la, .int sg_2, .int (-1)])), (h, .inr (2, [.ref a, .int n_5])), (a, .inl (cC, 160, .inl f_4)), (g, .inr (0, [.ref ra])), (ra, .inl (cI, 31, .inl row_3)), (la, .inl (cI, 64, .inl lo)), (vV, .inr (4, [.ref wV, .int decV, .int belV, .long ahV, .long bhV])), (wV, .inr (2, [.ref waV, .int nV])), (waV, .inl (cC, 60, .inl fV)), (fi, .inr (1, [.int mi, .int pl, .int ze, .int sh, .int bl, .int sw, .int sp, .int wi, .int pr, .int le, .int so, .int nx]))]) [1, 2, 3, 4, 5, 0, 6, 7, 8, 9] rfl
    have hD9 := hD.sub (ws' := [(sa, .inr (3, [.ref h, .ref g, .ref la, .int sg_2, .int (-1)])), (h, .inr (2, [.ref a, .int n_5])), (a, .inl (cC, 160, .inl f_4)), (g, .inr (0, [.ref ra])), (ra, .inl (cI, 31, .inl row_3)), (la, .inl (cI, 64, .inl lo)), (vV, .inr (4, [.ref wV, .int decV, .int belV, .long ahV, .long bhV])), (wV, .inr (2, [.ref waV, .int nV])), (waV, .inl (cC, 60, .inl fV)), (fi, .inr (1, [.int mi, .int pl, .int ze, .int sh, .int bl, .int sw, .int sp, .int wi, .int pr, .int le, .int so, .int nx]))]) [1, 2, 3, 4, 5, 0, 6, 7, 8, 9] (by decide) rfl
    have hK9 := hK.sub (tys' := [(cC, .char), (cI, .int)]) [0, 1] rfl
    have hq9 : sg_2 = foSign le belV ahV pl bl ∧ (-1 : Int32) = foBase le sh ∧ (f_4, n_5) = foLine le decV belV ahV bhV fV nV pr sh row lo f ∧ lnOK 160 n_5 := by
      refine ⟨?_, ?_, ?_, w183_5d⟩
      · rw [foSign, foPick, if_pos k21_1]; exact w183_5
      · rw [foBase, foPick, if_pos k21_1]
      · rw [foLine, foPick, if_pos k21_1]; exact w183_5c
    exact W.vret hx hb hr (fun t ht hW => ⟨⟨(sg_2, (-1), row_3, lo, f_4, n_5), rfl, hq9, by rw [ht]; exact hP9, va_K.moved hW.alike hK9, hD9⟩, hS.F ht⟩) hS.2.2 d_Sh_form_238
  · skip
    by_cases k21_6 : le = 71
    · refine lv_lookup (off := 168) (tgt := 189) hx hb d_Sh_form_21 (by decide) (by rw [k21_6]; rfl) (by decide) ?_
      refine lv_aload_n hx hb d_Sh_form_189 rfl (lv_at hl 0 rfl) ?_
      refine lv_aload_n hx hb d_Sh_form_190 rfl (lv_at hl 1 rfl) ?_
      refine lv_aload_n hx hb d_Sh_form_191 rfl (lv_at hl 2 rfl) ?_
      have hPc := hP.sub (ws' := [(sa, .inr (3, [.ref h, .ref g, .ref la, .int (-1), .int (-1)])), (h, .inr (2, [.ref a, .int 0])), (a, .inl (cC, 160, .inl f)), (g, .inr (0, [.ref ra])), (ra, .inl (cI, 31, .inl row)), (vV, .inr (4, [.ref wV, .int decV, .int belV, .long ahV, .long bhV])), (wV, .inr (2, [.ref waV, .int nV])), (waV, .inl (cC, 60, .inl fV)), (fi, .inr (1, [.int mi, .int pl, .int ze, .int sh, .int bl, .int sw, .int sp, .int wi, .int pr, .int le, .int so, .int nx]))]) [0, 8, 9, 1, 2, 4, 5, 6, 7] rfl
      have hDc := hD.sub (ws' := [(sa, .inr (3, [.ref h, .ref g, .ref la, .int (-1), .int (-1)])), (h, .inr (2, [.ref a, .int 0])), (a, .inl (cC, 160, .inl f)), (g, .inr (0, [.ref ra])), (ra, .inl (cI, 31, .inl row)), (vV, .inr (4, [.ref wV, .int decV, .int belV, .long ahV, .long bhV])), (wV, .inr (2, [.ref waV, .int nV])), (waV, .inl (cC, 60, .inl fV)), (fi, .inr (1, [.int mi, .int pl, .int ze, .int sh, .int bl, .int sw, .int sp, .int wi, .int pr, .int le, .int so, .int nx]))]) [0, 8, 9, 1, 2, 4, 5, 6, 7] (by decide) rfl
      have hKc := hK.sub (tys' := [(cC, .char), (cI, .int)]) [0, 1] rfl
      have hFc := va_free (wc := [(sa, .inr (3, [.ref h, .ref g, .ref la, .int (-1), .int (-1)])), (h, .inr (2, [.ref a, .int 0])), (a, .inl (cC, 160, .inl f)), (g, .inr (0, [.ref ra])), (ra, .inl (cI, 31, .inl row)), (vV, .inr (4, [.ref wV, .int decV, .int belV, .long ahV, .long bhV])), (wV, .inr (2, [.ref waV, .int nV])), (waV, .inl (cC, 60, .inl fV)), (fi, .inr (1, [.int mi, .int pl, .int ze, .int sh, .int bl, .int sw, .int sp, .int wi, .int pr, .int le, .int so, .int nx]))]) hD hS hA [0, 8, 9, 1, 2, 4, 5, 6, 7] rfl
      refine va_callv (va_runV (As := [.ref vV, .ref fi]) (rest := []) ⟨hx, hb, hml, hown, hT⟩ (c_Shape_formShorter l dC dI H.size cC cI sa h g la (-1) (-1) a f 0 ra row vV wV waV decV belV ahV bhV fV nV fi mi pl ze sh bl sw sp wi pr le so nx (⟨by decide, by decide, by decide⟩)) (cwV 2 hT g_Sh_57 rfl rfl rfl (by decide +kernel) ⟨Nat.le_of_ble_eq_true rfl, Nat.le_of_ble_eq_true rfl⟩) ⟨fun a U g mk q => by obtain ⟨q0, q1, qP, qK, qD, qN⟩ := q; exact ⟨q0, q1, qP, va_K.moved (u := U) (U := U.calling g mk a) (Vm.Alike.refl U.vm) qK, qD, qN.calling⟩, va_recv hKc hPc (ci := 3) (q0 := 0) rfl rfl, fun U hU hW => ⟨rfl, by rw [hU], by rw [hU]; exact hPc, va_K.moved hW.alike hKc, hDc.weaken (fun _ _ _ _ => trivial), hN.warm hW⟩⟩ rfl rfl hl.1 rfl (lv_room (Nat.le_of_ble_eq_true rfl)) d_Sh_form_192 ⟨Nat.le_of_ble_eq_true rfl, Nat.le_of_ble_eq_true rfl⟩) hS (fun q _ h => hFc q h) hFc (fun u t H1 locs ht hvm w192_10 hB hz1 hk1 hS => ?_)
      obtain ⟨sg_7, row_8, f_9, n_10⟩ := u
      obtain ⟨hP1, hK1, hD1⟩ := hB
      rw [ht] at hP1
      try dsimp only at w192_10
      obtain ⟨w192_10, w192_10b, w192_10c, w192_10d⟩ := w192_10
      obtain ⟨hP, hD⟩ := va_join (wr := [(la, .inl (cI, 64, .inl lo))]) (w1 := [(sa, .inr (3, [.ref h, .ref g, .ref la, .int sg_7, .int (-1)])), (h, .inr (2, [.ref a, .int n_10])), (a, .inl (cC, 160, .inl f_9)), (g, .inr (0, [.ref ra])), (ra, .inl (cI, 31, .inl row_8)), (vV, .inr (4, [.ref wV, .int decV, .int belV, .long ahV, .long bhV])), (wV, .inr (2, [.ref waV, .int nV])), (waV, .inl (cC, 60, .inl fV)), (fi, .inr (1, [.int mi, .int pl, .int ze, .int sh, .int bl, .int sw, .int sp, .int wi, .int pr, .int le, .int so, .int nx]))]) hP hD [0, 8, 9, 1, 2, 4, 5, 6, 7] [3] rfl rfl (by decide) (by decide) hk1 hFc hP1 hD1
      generalize H1 = H at hP hS ⊢
      have hP : va_P (dC, dI) CL [(la, .inl (cI, 64, .inl lo)), (sa, .inr (3, [.ref h, .ref g, .ref la, .int sg_7, .int (-1)])), (h, .inr (2, [.ref a, .int n_10])), (a, .inl (cC, 160, .inl f_9)), (g, .inr (0, [.ref ra])), (ra, .inl (cI, 31, .inl row_8)), (vV, .inr (4, [.ref wV, .int decV, .int belV, .long ahV, .long bhV])), (wV, .inr (2, [.ref waV, .int nV])), (waV, .inl (cC, 60, .inl fV)), (fi, .inr (1, [.int mi, .int pl, .int ze, .int sh, .int bl, .int sw, .int sp, .int wi, .int pr, .int le, .int so, .int nx]))] H := hP
      have hD : va_D A [(la, .inl (cI, 64, .inl lo)), (sa, .inr (3, [.ref h, .ref g, .ref la, .int sg_7, .int (-1)])), (h, .inr (2, [.ref a, .int n_10])), (a, .inl (cC, 160, .inl f_9)), (g, .inr (0, [.ref ra])), (ra, .inl (cI, 31, .inl row_8)), (vV, .inr (4, [.ref wV, .int decV, .int belV, .long ahV, .long bhV])), (wV, .inr (2, [.ref waV, .int nV])), (waV, .inl (cC, 60, .inl fV)), (fi, .inr (1, [.int mi, .int pl, .int ze, .int sh, .int bl, .int sw, .int sp, .int wi, .int pr, .int le, .int so, .int nx]))] := hD
      refine lv_goto (tgt := 238) hx hb d_Sh_form_195 (by decide) ?_
      have hP9 := hP.sub (ws' := [(sa, .inr (3, [.ref h, .ref g, .ref la, .int sg_7, .int (-1)])), (h, .inr (2, [.ref a, .int n_10])), (a, .inl (cC, 160, .inl f_9)), (g, .inr (0, [.ref ra])), (ra, .inl (cI, 31, .inl row_8)), (la, .inl (cI, 64, .inl lo)), (vV, .inr (4, [.ref wV, .int decV, .int belV, .long ahV, .long bhV])), (wV, .inr (2, [.ref waV, .int nV])), (waV, .inl (cC, 60, .inl fV)), (fi, .inr (1, [.int mi, .int pl, .int ze, .int sh, .int bl, .int sw, .int sp, .int wi, .int pr, .int le, .int so, .int nx]))]) [1, 2, 3, 4, 5, 0, 6, 7, 8, 9] rfl
      have hD9 := hD.sub (ws' := [(sa, .inr (3, [.ref h, .ref g, .ref la, .int sg_7, .int (-1)])), (h, .inr (2, [.ref a, .int n_10])), (a, .inl (cC, 160, .inl f_9)), (g, .inr (0, [.ref ra])), (ra, .inl (cI, 31, .inl row_8)), (la, .inl (cI, 64, .inl lo)), (vV, .inr (4, [.ref wV, .int decV, .int belV, .long ahV, .long bhV])), (wV, .inr (2, [.ref waV, .int nV])), (waV, .inl (cC, 60, .inl fV)), (fi, .inr (1, [.int mi, .int pl, .int ze, .int sh, .int bl, .int sw, .int sp, .int wi, .int pr, .int le, .int so, .int nx]))]) [1, 2, 3, 4, 5, 0, 6, 7, 8, 9] (by decide) rfl
      have hK9 := hK.sub (tys' := [(cC, .char), (cI, .int)]) [0, 1] rfl
      have hq9 : sg_7 = foSign le belV ahV pl bl ∧ (-1 : Int32) = foBase le sh ∧ (f_9, n_10) = foLine le decV belV ahV bhV fV nV pr sh row lo f ∧ lnOK 160 n_10 := by
        refine ⟨?_, ?_, ?_, w192_10d⟩
        · rw [foSign, foPick, if_neg k21_1, if_pos k21_6]; exact w192_10
        · rw [foBase, foPick, if_neg k21_1, if_pos k21_6]
        · rw [foLine, foPick, if_neg k21_1, if_pos k21_6]; exact w192_10c
      exact W.vret hx hb hr (fun t ht hW => ⟨⟨(sg_7, (-1), row_8, lo, f_9, n_10), rfl, hq9, by rw [ht]; exact hP9, va_K.moved hW.alike hK9, hD9⟩, hS.F ht⟩) hS.2.2 d_Sh_form_238
    · skip
      by_cases k21_11 : le = 88
      · refine lv_lookup (off := 118) (tgt := 139) hx hb d_Sh_form_21 (by decide) (by rw [k21_11]; rfl) (by decide) ?_
        refine lv_aload_n hx hb d_Sh_form_139 rfl (lv_at hl 0 rfl) ?_
        refine lv_aload_n hx hb d_Sh_form_140 rfl (lv_at hl 1 rfl) ?_
        refine lv_aload_n hx hb d_Sh_form_141 rfl (lv_at hl 2 rfl) ?_
        refine lv_bipush (v := 16) hx hb d_Sh_form_142 (by decide) ?_
        have hPc := hP.sub (ws' := [(sa, .inr (3, [.ref h, .ref g, .ref la, .int (-1), .int (-1)])), (h, .inr (2, [.ref a, .int 0])), (a, .inl (cC, 160, .inl f)), (la, .inl (cI, 64, .inl lo)), (vV, .inr (4, [.ref wV, .int decV, .int belV, .long ahV, .long bhV])), (wV, .inr (2, [.ref waV, .int nV])), (waV, .inl (cC, 60, .inl fV)), (fi, .inr (1, [.int mi, .int pl, .int ze, .int sh, .int bl, .int sw, .int sp, .int wi, .int pr, .int le, .int so, .int nx]))]) [0, 8, 9, 3, 4, 5, 6, 7] rfl
        have hDc := hD.sub (ws' := [(sa, .inr (3, [.ref h, .ref g, .ref la, .int (-1), .int (-1)])), (h, .inr (2, [.ref a, .int 0])), (a, .inl (cC, 160, .inl f)), (la, .inl (cI, 64, .inl lo)), (vV, .inr (4, [.ref wV, .int decV, .int belV, .long ahV, .long bhV])), (wV, .inr (2, [.ref waV, .int nV])), (waV, .inl (cC, 60, .inl fV)), (fi, .inr (1, [.int mi, .int pl, .int ze, .int sh, .int bl, .int sw, .int sp, .int wi, .int pr, .int le, .int so, .int nx]))]) [0, 8, 9, 3, 4, 5, 6, 7] (by decide) rfl
        have hKc := hK.sub (tys' := [(cC, .char), (cI, .int)]) [0, 1] rfl
        have hFc := va_free (wc := [(sa, .inr (3, [.ref h, .ref g, .ref la, .int (-1), .int (-1)])), (h, .inr (2, [.ref a, .int 0])), (a, .inl (cC, 160, .inl f)), (la, .inl (cI, 64, .inl lo)), (vV, .inr (4, [.ref wV, .int decV, .int belV, .long ahV, .long bhV])), (wV, .inr (2, [.ref waV, .int nV])), (waV, .inl (cC, 60, .inl fV)), (fi, .inr (1, [.int mi, .int pl, .int ze, .int sh, .int bl, .int sw, .int sp, .int wi, .int pr, .int le, .int so, .int nx]))]) hD hS hA [0, 8, 9, 3, 4, 5, 6, 7] rfl
        refine va_callv (va_runV (As := [.ref vV, .ref fi, .int 16]) (rest := []) ⟨hx, hb, hml, hown, hT⟩ (c_Shape_formWhole l dC dI H.size cC cI sa h g la (-1) (-1) a f 0 lo vV wV waV decV belV ahV bhV fV nV fi mi pl ze sh bl sw sp wi pr le so nx 16 (⟨by decide, by decide, by decide⟩) (by decide)) (cwV 3 hT g_Sh_46 rfl rfl rfl (by decide +kernel) ⟨Nat.le_of_ble_eq_true rfl, Nat.le_of_ble_eq_true rfl⟩) ⟨fun a U g mk q => by obtain ⟨q0, q1, qP, qK, qD, qN⟩ := q; exact ⟨q0, q1, qP, va_K.moved (u := U) (U := U.calling g mk a) (Vm.Alike.refl U.vm) qK, qD, qN.calling⟩, va_recv hKc hPc (ci := 3) (q0 := 0) rfl rfl, fun U hU hW => ⟨rfl, by rw [hU], by rw [hU]; exact hPc, va_K.moved hW.alike hKc, hDc.weaken (fun _ _ _ _ => trivial), hN.warm hW⟩⟩ rfl rfl hl.1 rfl (lv_room (Nat.le_of_ble_eq_true rfl)) d_Sh_form_144 ⟨Nat.le_of_ble_eq_true rfl, Nat.le_of_ble_eq_true rfl⟩) hS (fun q _ h => hFc q h) hFc (fun u t H1 locs ht hvm w144_16 hB hz1 hk1 hS => ?_)
        obtain ⟨sg_12, ba_13, lo_14, f_15, n_16⟩ := u
        obtain ⟨hP1, hK1, hD1⟩ := hB
        rw [ht] at hP1
        try dsimp only at w144_16
        obtain ⟨w144_16, w144_16b, w144_16c, w144_16d⟩ := w144_16
        obtain ⟨hP, hD⟩ := va_join (wr := [(g, .inr (0, [.ref ra])), (ra, .inl (cI, 31, .inl row))]) (w1 := [(sa, .inr (3, [.ref h, .ref g, .ref la, .int sg_12, .int ba_13])), (h, .inr (2, [.ref a, .int n_16])), (a, .inl (cC, 160, .inl f_15)), (la, .inl (cI, 64, .inl lo_14)), (vV, .inr (4, [.ref wV, .int decV, .int belV, .long ahV, .long bhV])), (wV, .inr (2, [.ref waV, .int nV])), (waV, .inl (cC, 60, .inl fV)), (fi, .inr (1, [.int mi, .int pl, .int ze, .int sh, .int bl, .int sw, .int sp, .int wi, .int pr, .int le, .int so, .int nx]))]) hP hD [0, 8, 9, 3, 4, 5, 6, 7] [1, 2] rfl rfl (by decide) (by decide) hk1 hFc hP1 hD1
        generalize H1 = H at hP hS ⊢
        have hP : va_P (dC, dI) CL [(g, .inr (0, [.ref ra])), (ra, .inl (cI, 31, .inl row)), (sa, .inr (3, [.ref h, .ref g, .ref la, .int sg_12, .int ba_13])), (h, .inr (2, [.ref a, .int n_16])), (a, .inl (cC, 160, .inl f_15)), (la, .inl (cI, 64, .inl lo_14)), (vV, .inr (4, [.ref wV, .int decV, .int belV, .long ahV, .long bhV])), (wV, .inr (2, [.ref waV, .int nV])), (waV, .inl (cC, 60, .inl fV)), (fi, .inr (1, [.int mi, .int pl, .int ze, .int sh, .int bl, .int sw, .int sp, .int wi, .int pr, .int le, .int so, .int nx]))] H := hP
        have hD : va_D A [(g, .inr (0, [.ref ra])), (ra, .inl (cI, 31, .inl row)), (sa, .inr (3, [.ref h, .ref g, .ref la, .int sg_12, .int ba_13])), (h, .inr (2, [.ref a, .int n_16])), (a, .inl (cC, 160, .inl f_15)), (la, .inl (cI, 64, .inl lo_14)), (vV, .inr (4, [.ref wV, .int decV, .int belV, .long ahV, .long bhV])), (wV, .inr (2, [.ref waV, .int nV])), (waV, .inl (cC, 60, .inl fV)), (fi, .inr (1, [.int mi, .int pl, .int ze, .int sh, .int bl, .int sw, .int sp, .int wi, .int pr, .int le, .int so, .int nx]))] := hD
        refine lv_goto (tgt := 238) hx hb d_Sh_form_147 (by decide) ?_
        have hP9 := hP.sub (ws' := [(sa, .inr (3, [.ref h, .ref g, .ref la, .int sg_12, .int ba_13])), (h, .inr (2, [.ref a, .int n_16])), (a, .inl (cC, 160, .inl f_15)), (g, .inr (0, [.ref ra])), (ra, .inl (cI, 31, .inl row)), (la, .inl (cI, 64, .inl lo_14)), (vV, .inr (4, [.ref wV, .int decV, .int belV, .long ahV, .long bhV])), (wV, .inr (2, [.ref waV, .int nV])), (waV, .inl (cC, 60, .inl fV)), (fi, .inr (1, [.int mi, .int pl, .int ze, .int sh, .int bl, .int sw, .int sp, .int wi, .int pr, .int le, .int so, .int nx]))]) [2, 3, 4, 0, 1, 5, 6, 7, 8, 9] rfl
        have hD9 := hD.sub (ws' := [(sa, .inr (3, [.ref h, .ref g, .ref la, .int sg_12, .int ba_13])), (h, .inr (2, [.ref a, .int n_16])), (a, .inl (cC, 160, .inl f_15)), (g, .inr (0, [.ref ra])), (ra, .inl (cI, 31, .inl row)), (la, .inl (cI, 64, .inl lo_14)), (vV, .inr (4, [.ref wV, .int decV, .int belV, .long ahV, .long bhV])), (wV, .inr (2, [.ref waV, .int nV])), (waV, .inl (cC, 60, .inl fV)), (fi, .inr (1, [.int mi, .int pl, .int ze, .int sh, .int bl, .int sw, .int sp, .int wi, .int pr, .int le, .int so, .int nx]))]) [2, 3, 4, 0, 1, 5, 6, 7, 8, 9] (by decide) rfl
        have hK9 := hK.sub (tys' := [(cC, .char), (cI, .int)]) [0, 1] rfl
        have hq9 : sg_12 = foSign le belV ahV pl bl ∧ ba_13 = foBase le sh ∧ (f_15, n_16) = foLine le decV belV ahV bhV fV nV pr sh row lo f ∧ lnOK 160 n_16 := by
          refine ⟨?_, ?_, ?_, w144_16d⟩
          · rw [foSign, foPick, if_neg k21_1, if_neg k21_6, if_pos k21_11]; exact w144_16
          · rw [foBase, foPick, if_neg k21_1, if_neg k21_6, if_pos k21_11]; exact w144_16b
          · rw [foLine, foPick, if_neg k21_1, if_neg k21_6, if_pos k21_11]; exact w144_16c
        exact W.vret hx hb hr (fun t ht hW => ⟨⟨(sg_12, ba_13, row, lo_14, f_15, n_16), rfl, hq9, by rw [ht]; exact hP9, va_K.moved hW.alike hK9, hD9⟩, hS.F ht⟩) hS.2.2 d_Sh_form_238
      · skip
        by_cases k21_17 : le = 98
        · refine lv_lookup (off := 140) (tgt := 161) hx hb d_Sh_form_21 (by decide) (by rw [k21_17]; rfl) (by decide) ?_
          refine lv_aload_n hx hb d_Sh_form_161 rfl (lv_at hl 0 rfl) ?_
          refine lv_aload_n hx hb d_Sh_form_162 rfl (lv_at hl 1 rfl) ?_
          refine lv_aload_n hx hb d_Sh_form_163 rfl (lv_at hl 2 rfl) ?_
          refine lv_iconst (v := 2) hx hb d_Sh_form_164 (by decide) ?_
          have hPc := hP.sub (ws' := [(sa, .inr (3, [.ref h, .ref g, .ref la, .int (-1), .int (-1)])), (h, .inr (2, [.ref a, .int 0])), (a, .inl (cC, 160, .inl f)), (la, .inl (cI, 64, .inl lo)), (vV, .inr (4, [.ref wV, .int decV, .int belV, .long ahV, .long bhV])), (wV, .inr (2, [.ref waV, .int nV])), (waV, .inl (cC, 60, .inl fV)), (fi, .inr (1, [.int mi, .int pl, .int ze, .int sh, .int bl, .int sw, .int sp, .int wi, .int pr, .int le, .int so, .int nx]))]) [0, 8, 9, 3, 4, 5, 6, 7] rfl
          have hDc := hD.sub (ws' := [(sa, .inr (3, [.ref h, .ref g, .ref la, .int (-1), .int (-1)])), (h, .inr (2, [.ref a, .int 0])), (a, .inl (cC, 160, .inl f)), (la, .inl (cI, 64, .inl lo)), (vV, .inr (4, [.ref wV, .int decV, .int belV, .long ahV, .long bhV])), (wV, .inr (2, [.ref waV, .int nV])), (waV, .inl (cC, 60, .inl fV)), (fi, .inr (1, [.int mi, .int pl, .int ze, .int sh, .int bl, .int sw, .int sp, .int wi, .int pr, .int le, .int so, .int nx]))]) [0, 8, 9, 3, 4, 5, 6, 7] (by decide) rfl
          have hKc := hK.sub (tys' := [(cC, .char), (cI, .int)]) [0, 1] rfl
          have hFc := va_free (wc := [(sa, .inr (3, [.ref h, .ref g, .ref la, .int (-1), .int (-1)])), (h, .inr (2, [.ref a, .int 0])), (a, .inl (cC, 160, .inl f)), (la, .inl (cI, 64, .inl lo)), (vV, .inr (4, [.ref wV, .int decV, .int belV, .long ahV, .long bhV])), (wV, .inr (2, [.ref waV, .int nV])), (waV, .inl (cC, 60, .inl fV)), (fi, .inr (1, [.int mi, .int pl, .int ze, .int sh, .int bl, .int sw, .int sp, .int wi, .int pr, .int le, .int so, .int nx]))]) hD hS hA [0, 8, 9, 3, 4, 5, 6, 7] rfl
          refine va_callv (va_runV (As := [.ref vV, .ref fi, .int 2]) (rest := []) ⟨hx, hb, hml, hown, hT⟩ (c_Shape_formWhole l dC dI H.size cC cI sa h g la (-1) (-1) a f 0 lo vV wV waV decV belV ahV bhV fV nV fi mi pl ze sh bl sw sp wi pr le so nx 2 (⟨by decide, by decide, by decide⟩) (by decide)) (cwV 3 hT g_Sh_46 rfl rfl rfl (by decide +kernel) ⟨Nat.le_of_ble_eq_true rfl, Nat.le_of_ble_eq_true rfl⟩) ⟨fun a U g mk q => by obtain ⟨q0, q1, qP, qK, qD, qN⟩ := q; exact ⟨q0, q1, qP, va_K.moved (u := U) (U := U.calling g mk a) (Vm.Alike.refl U.vm) qK, qD, qN.calling⟩, va_recv hKc hPc (ci := 3) (q0 := 0) rfl rfl, fun U hU hW => ⟨rfl, by rw [hU], by rw [hU]; exact hPc, va_K.moved hW.alike hKc, hDc.weaken (fun _ _ _ _ => trivial), hN.warm hW⟩⟩ rfl rfl hl.1 rfl (lv_room (Nat.le_of_ble_eq_true rfl)) d_Sh_form_165 ⟨Nat.le_of_ble_eq_true rfl, Nat.le_of_ble_eq_true rfl⟩) hS (fun q _ h => hFc q h) hFc (fun u t H1 locs ht hvm w165_22 hB hz1 hk1 hS => ?_)
          obtain ⟨sg_18, ba_19, lo_20, f_21, n_22⟩ := u
          obtain ⟨hP1, hK1, hD1⟩ := hB
          rw [ht] at hP1
          try dsimp only at w165_22
          obtain ⟨w165_22, w165_22b, w165_22c, w165_22d⟩ := w165_22
          obtain ⟨hP, hD⟩ := va_join (wr := [(g, .inr (0, [.ref ra])), (ra, .inl (cI, 31, .inl row))]) (w1 := [(sa, .inr (3, [.ref h, .ref g, .ref la, .int sg_18, .int ba_19])), (h, .inr (2, [.ref a, .int n_22])), (a, .inl (cC, 160, .inl f_21)), (la, .inl (cI, 64, .inl lo_20)), (vV, .inr (4, [.ref wV, .int decV, .int belV, .long ahV, .long bhV])), (wV, .inr (2, [.ref waV, .int nV])), (waV, .inl (cC, 60, .inl fV)), (fi, .inr (1, [.int mi, .int pl, .int ze, .int sh, .int bl, .int sw, .int sp, .int wi, .int pr, .int le, .int so, .int nx]))]) hP hD [0, 8, 9, 3, 4, 5, 6, 7] [1, 2] rfl rfl (by decide) (by decide) hk1 hFc hP1 hD1
          generalize H1 = H at hP hS ⊢
          have hP : va_P (dC, dI) CL [(g, .inr (0, [.ref ra])), (ra, .inl (cI, 31, .inl row)), (sa, .inr (3, [.ref h, .ref g, .ref la, .int sg_18, .int ba_19])), (h, .inr (2, [.ref a, .int n_22])), (a, .inl (cC, 160, .inl f_21)), (la, .inl (cI, 64, .inl lo_20)), (vV, .inr (4, [.ref wV, .int decV, .int belV, .long ahV, .long bhV])), (wV, .inr (2, [.ref waV, .int nV])), (waV, .inl (cC, 60, .inl fV)), (fi, .inr (1, [.int mi, .int pl, .int ze, .int sh, .int bl, .int sw, .int sp, .int wi, .int pr, .int le, .int so, .int nx]))] H := hP
          have hD : va_D A [(g, .inr (0, [.ref ra])), (ra, .inl (cI, 31, .inl row)), (sa, .inr (3, [.ref h, .ref g, .ref la, .int sg_18, .int ba_19])), (h, .inr (2, [.ref a, .int n_22])), (a, .inl (cC, 160, .inl f_21)), (la, .inl (cI, 64, .inl lo_20)), (vV, .inr (4, [.ref wV, .int decV, .int belV, .long ahV, .long bhV])), (wV, .inr (2, [.ref waV, .int nV])), (waV, .inl (cC, 60, .inl fV)), (fi, .inr (1, [.int mi, .int pl, .int ze, .int sh, .int bl, .int sw, .int sp, .int wi, .int pr, .int le, .int so, .int nx]))] := hD
          refine lv_goto (tgt := 238) hx hb d_Sh_form_168 (by decide) ?_
          have hP9 := hP.sub (ws' := [(sa, .inr (3, [.ref h, .ref g, .ref la, .int sg_18, .int ba_19])), (h, .inr (2, [.ref a, .int n_22])), (a, .inl (cC, 160, .inl f_21)), (g, .inr (0, [.ref ra])), (ra, .inl (cI, 31, .inl row)), (la, .inl (cI, 64, .inl lo_20)), (vV, .inr (4, [.ref wV, .int decV, .int belV, .long ahV, .long bhV])), (wV, .inr (2, [.ref waV, .int nV])), (waV, .inl (cC, 60, .inl fV)), (fi, .inr (1, [.int mi, .int pl, .int ze, .int sh, .int bl, .int sw, .int sp, .int wi, .int pr, .int le, .int so, .int nx]))]) [2, 3, 4, 0, 1, 5, 6, 7, 8, 9] rfl
          have hD9 := hD.sub (ws' := [(sa, .inr (3, [.ref h, .ref g, .ref la, .int sg_18, .int ba_19])), (h, .inr (2, [.ref a, .int n_22])), (a, .inl (cC, 160, .inl f_21)), (g, .inr (0, [.ref ra])), (ra, .inl (cI, 31, .inl row)), (la, .inl (cI, 64, .inl lo_20)), (vV, .inr (4, [.ref wV, .int decV, .int belV, .long ahV, .long bhV])), (wV, .inr (2, [.ref waV, .int nV])), (waV, .inl (cC, 60, .inl fV)), (fi, .inr (1, [.int mi, .int pl, .int ze, .int sh, .int bl, .int sw, .int sp, .int wi, .int pr, .int le, .int so, .int nx]))]) [2, 3, 4, 0, 1, 5, 6, 7, 8, 9] (by decide) rfl
          have hK9 := hK.sub (tys' := [(cC, .char), (cI, .int)]) [0, 1] rfl
          have hq9 : sg_18 = foSign le belV ahV pl bl ∧ ba_19 = foBase le sh ∧ (f_21, n_22) = foLine le decV belV ahV bhV fV nV pr sh row lo f ∧ lnOK 160 n_22 := by
            refine ⟨?_, ?_, ?_, w165_22d⟩
            · rw [foSign, foPick, if_neg k21_1, if_neg k21_6, if_neg k21_11, if_pos k21_17]; exact w165_22
            · rw [foBase, foPick, if_neg k21_1, if_neg k21_6, if_neg k21_11, if_pos k21_17]; exact w165_22b
            · rw [foLine, foPick, if_neg k21_1, if_neg k21_6, if_neg k21_11, if_pos k21_17]; exact w165_22c
          exact W.vret hx hb hr (fun t ht hW => ⟨⟨(sg_18, ba_19, row, lo_20, f_21, n_22), rfl, hq9, by rw [ht]; exact hP9, va_K.moved hW.alike hK9, hD9⟩, hS.F ht⟩) hS.2.2 d_Sh_form_238
        · skip
          by_cases k21_23 : le = 99
          · refine lv_lookup (off := 186) (tgt := 207) hx hb d_Sh_form_21 (by decide) (by rw [k21_23]; rfl) (by decide) ?_
            refine lv_aload_n hx hb d_Sh_form_207 rfl (lv_at hl 0 rfl) ?_
            refine va_get (D := (dC, dI)) (ci := 3) (v := .ref h) (C := R_Sh) (T := F_Sh) (N := 5) hx hb hT (in_Sh) hown hK hP 0 rfl rfl 0 (by decide) (hT _ t_141) (fun _ h9 => h9) rfl d_Sh_form_208 ?_
            refine lv_aload_n hx hb d_Sh_form_211 rfl (lv_at hl 1 rfl) ?_
            have hPc := hP.sub (ws' := [(vV, .inr (4, [.ref wV, .int decV, .int belV, .long ahV, .long bhV])), (wV, .inr (2, [.ref waV, .int nV])), (waV, .inl (cC, 60, .inl fV))]) [4, 5, 6] rfl
            have hDc := hD.sub (ws' := [(vV, .inr (4, [.ref wV, .int decV, .int belV, .long ahV, .long bhV])), (wV, .inr (2, [.ref waV, .int nV])), (waV, .inl (cC, 60, .inl fV))]) [4, 5, 6] (by decide) rfl
            have hKc := hK.sub (tys' := [(cC, .char)]) [0] rfl
            have hFc := va_free (wc := [(vV, .inr (4, [.ref wV, .int decV, .int belV, .long ahV, .long bhV])), (wV, .inr (2, [.ref waV, .int nV])), (waV, .inl (cC, 60, .inl fV))]) hD hS hA [4, 5, 6] rfl
            refine va_calli (va_runV (As := []) (rest := [.ref h]) ⟨hx, hb, hml, hown, hT⟩ (c_Value_mark l dC dI H.size cC vV wV waV decV belV ahV bhV fV nV hnV) (cwV 0 hT g_Sh_63 rfl rfl rfl (by decide +kernel) ⟨Nat.le_of_ble_eq_true rfl, Nat.le_of_ble_eq_true rfl⟩) ⟨fun a U g mk q => by obtain ⟨q0, q1, qP, qK, qD⟩ := q; exact ⟨q0, q1, qP, va_K.moved (u := U) (U := U.calling g mk a) (Vm.Alike.refl U.vm) qK, qD⟩, va_recv hKc hPc (ci := 4) (q0 := 0) rfl rfl, fun U hU hW => ⟨rfl, by rw [hU], by rw [hU]; exact hPc, va_K.moved hW.alike hKc, hDc.weaken (fun _ _ _ _ => trivial)⟩⟩ rfl rfl hl.1 rfl (lv_room (Nat.le_of_ble_eq_true rfl)) d_Sh_form_212 ⟨Nat.le_of_ble_eq_true rfl, Nat.le_of_ble_eq_true rfl⟩) hS (fun q _ h => hFc q h) hFc (fun x24 u t H1 locs ht hvm w212_24 hB hz1 hk1 hS => ?_)
            obtain ⟨hP1, hK1, hD1⟩ := hB
            rw [ht] at hP1
            try dsimp only at w212_24
            obtain ⟨hP, hD⟩ := va_join (wr := [(sa, .inr (3, [.ref h, .ref g, .ref la, .int (-1), .int (-1)])), (g, .inr (0, [.ref ra])), (ra, .inl (cI, 31, .inl row)), (la, .inl (cI, 64, .inl lo)), (fi, .inr (1, [.int mi, .int pl, .int ze, .int sh, .int bl, .int sw, .int sp, .int wi, .int pr, .int le, .int so, .int nx])), (h, .inr (2, [.ref a, .int 0])), (a, .inl (cC, 160, .inl f))]) (w1 := [(vV, .inr (4, [.ref wV, .int decV, .int belV, .long ahV, .long bhV])), (wV, .inr (2, [.ref waV, .int nV])), (waV, .inl (cC, 60, .inl fV))]) hP hD [4, 5, 6] [0, 1, 2, 3, 7, 8, 9] rfl rfl (by decide) (by decide) hk1 hFc hP1 hD1
            generalize H1 = H at hP hS ⊢
            have hP : va_P (dC, dI) CL [(sa, .inr (3, [.ref h, .ref g, .ref la, .int (-1), .int (-1)])), (g, .inr (0, [.ref ra])), (ra, .inl (cI, 31, .inl row)), (la, .inl (cI, 64, .inl lo)), (fi, .inr (1, [.int mi, .int pl, .int ze, .int sh, .int bl, .int sw, .int sp, .int wi, .int pr, .int le, .int so, .int nx])), (h, .inr (2, [.ref a, .int 0])), (a, .inl (cC, 160, .inl f)), (vV, .inr (4, [.ref wV, .int decV, .int belV, .long ahV, .long bhV])), (wV, .inr (2, [.ref waV, .int nV])), (waV, .inl (cC, 60, .inl fV))] H := hP
            have hD : va_D A [(sa, .inr (3, [.ref h, .ref g, .ref la, .int (-1), .int (-1)])), (g, .inr (0, [.ref ra])), (ra, .inl (cI, 31, .inl row)), (la, .inl (cI, 64, .inl lo)), (fi, .inr (1, [.int mi, .int pl, .int ze, .int sh, .int bl, .int sw, .int sp, .int wi, .int pr, .int le, .int so, .int nx])), (h, .inr (2, [.ref a, .int 0])), (a, .inl (cC, 160, .inl f)), (vV, .inr (4, [.ref wV, .int decV, .int belV, .long ahV, .long bhV])), (wV, .inr (2, [.ref waV, .int nV])), (waV, .inl (cC, 60, .inl fV))] := hD
            have hPc := hP.sub (ws' := [(h, .inr (2, [.ref a, .int 0])), (a, .inl (cC, 160, .inl f))]) [5, 6] rfl
            have hDc := hD.sub (ws' := [(h, .inr (2, [.ref a, .int 0])), (a, .inl (cC, 160, .inl f))]) [5, 6] (by decide) rfl
            have hKc := hK.sub (tys' := [(cC, .char)]) [0] rfl
            have hFc := va_free (wc := [(h, .inr (2, [.ref a, .int 0])), (a, .inl (cC, 160, .inl f))]) hD hS hA [5, 6] rfl
            refine va_callv (va_runV (As := [.int x24]) (rest := []) ⟨hx, hb, hml, hown, hT⟩ (c_Line_add l dC dI H.size cC h a 160 f 0 x24 (⟨by decide, by decide, by decide⟩)) (cwV 1 hT g_Sh_69 rfl rfl rfl (by decide +kernel) ⟨Nat.le_of_ble_eq_true rfl, Nat.le_of_ble_eq_true rfl⟩) ⟨fun a U g mk q => by obtain ⟨q0, q1, qP, qK, qD⟩ := q; exact ⟨q0, q1, qP, va_K.moved (u := U) (U := U.calling g mk a) (Vm.Alike.refl U.vm) qK, qD⟩, va_recv hKc hPc (ci := 2) (q0 := 0) rfl rfl, fun U hU hW => ⟨rfl, by rw [hU], by rw [hU]; exact hPc, va_K.moved hW.alike hKc, hDc.weaken (fun _ _ _ _ => trivial)⟩⟩ rfl rfl hl.1 rfl (lv_room (Nat.le_of_ble_eq_true rfl)) d_Sh_form_215 ⟨Nat.le_of_ble_eq_true rfl, Nat.le_of_ble_eq_true rfl⟩) hS (fun q _ h => hFc q h) hFc (fun u t H1 locs ht hvm w215_26 hB hz1 hk1 hS => ?_)
            obtain ⟨f_25, n_26⟩ := u
            obtain ⟨hP1, hK1, hD1⟩ := hB
            rw [ht] at hP1
            try dsimp only at w215_26
            obtain ⟨w215_26, w215_26b⟩ := w215_26
            obtain ⟨hP, hD⟩ := va_join (wr := [(sa, .inr (3, [.ref h, .ref g, .ref la, .int (-1), .int (-1)])), (g, .inr (0, [.ref ra])), (ra, .inl (cI, 31, .inl row)), (la, .inl (cI, 64, .inl lo)), (fi, .inr (1, [.int mi, .int pl, .int ze, .int sh, .int bl, .int sw, .int sp, .int wi, .int pr, .int le, .int so, .int nx])), (vV, .inr (4, [.ref wV, .int decV, .int belV, .long ahV, .long bhV])), (wV, .inr (2, [.ref waV, .int nV])), (waV, .inl (cC, 60, .inl fV))]) (w1 := [(h, .inr (2, [.ref a, .int n_26])), (a, .inl (cC, 160, .inl f_25))]) hP hD [5, 6] [0, 1, 2, 3, 4, 7, 8, 9] rfl rfl (by decide) (by decide) hk1 hFc hP1 hD1
            generalize H1 = H at hP hS ⊢
            have hP : va_P (dC, dI) CL [(sa, .inr (3, [.ref h, .ref g, .ref la, .int (-1), .int (-1)])), (g, .inr (0, [.ref ra])), (ra, .inl (cI, 31, .inl row)), (la, .inl (cI, 64, .inl lo)), (fi, .inr (1, [.int mi, .int pl, .int ze, .int sh, .int bl, .int sw, .int sp, .int wi, .int pr, .int le, .int so, .int nx])), (vV, .inr (4, [.ref wV, .int decV, .int belV, .long ahV, .long bhV])), (wV, .inr (2, [.ref waV, .int nV])), (waV, .inl (cC, 60, .inl fV)), (h, .inr (2, [.ref a, .int n_26])), (a, .inl (cC, 160, .inl f_25))] H := hP
            have hD : va_D A [(sa, .inr (3, [.ref h, .ref g, .ref la, .int (-1), .int (-1)])), (g, .inr (0, [.ref ra])), (ra, .inl (cI, 31, .inl row)), (la, .inl (cI, 64, .inl lo)), (fi, .inr (1, [.int mi, .int pl, .int ze, .int sh, .int bl, .int sw, .int sp, .int wi, .int pr, .int le, .int so, .int nx])), (vV, .inr (4, [.ref wV, .int decV, .int belV, .long ahV, .long bhV])), (wV, .inr (2, [.ref waV, .int nV])), (waV, .inl (cC, 60, .inl fV)), (h, .inr (2, [.ref a, .int n_26])), (a, .inl (cC, 160, .inl f_25))] := hD
            rw [w212_24] at w215_26
            refine lv_goto (tgt := 238) hx hb d_Sh_form_218 (by decide) ?_
            have hP9 := hP.sub (ws' := [(sa, .inr (3, [.ref h, .ref g, .ref la, .int (-1), .int (-1)])), (h, .inr (2, [.ref a, .int n_26])), (a, .inl (cC, 160, .inl f_25)), (g, .inr (0, [.ref ra])), (ra, .inl (cI, 31, .inl row)), (la, .inl (cI, 64, .inl lo)), (vV, .inr (4, [.ref wV, .int decV, .int belV, .long ahV, .long bhV])), (wV, .inr (2, [.ref waV, .int nV])), (waV, .inl (cC, 60, .inl fV)), (fi, .inr (1, [.int mi, .int pl, .int ze, .int sh, .int bl, .int sw, .int sp, .int wi, .int pr, .int le, .int so, .int nx]))]) [0, 8, 9, 1, 2, 3, 5, 6, 7, 4] rfl
            have hD9 := hD.sub (ws' := [(sa, .inr (3, [.ref h, .ref g, .ref la, .int (-1), .int (-1)])), (h, .inr (2, [.ref a, .int n_26])), (a, .inl (cC, 160, .inl f_25)), (g, .inr (0, [.ref ra])), (ra, .inl (cI, 31, .inl row)), (la, .inl (cI, 64, .inl lo)), (vV, .inr (4, [.ref wV, .int decV, .int belV, .long ahV, .long bhV])), (wV, .inr (2, [.ref waV, .int nV])), (waV, .inl (cC, 60, .inl fV)), (fi, .inr (1, [.int mi, .int pl, .int ze, .int sh, .int bl, .int sw, .int sp, .int wi, .int pr, .int le, .int so, .int nx]))]) [0, 8, 9, 1, 2, 3, 5, 6, 7, 4] (by decide) rfl
            have hK9 := hK.sub (tys' := [(cC, .char), (cI, .int)]) [0, 1] rfl
            have hq9 : (-1 : Int32) = foSign le belV ahV pl bl ∧ (-1 : Int32) = foBase le sh ∧ (f_25, n_26) = foLine le decV belV ahV bhV fV nV pr sh row lo f ∧ lnOK 160 n_26 := by
              refine ⟨?_, ?_, ?_, w215_26b⟩
              · rw [foSign, foPick, if_neg k21_1, if_neg k21_6, if_neg k21_11, if_neg k21_17, if_pos k21_23]
              · rw [foBase, foPick, if_neg k21_1, if_neg k21_6, if_neg k21_11, if_neg k21_17, if_pos k21_23]
              · rw [foLine, foPick, if_neg k21_1, if_neg k21_6, if_neg k21_11, if_neg k21_17, if_pos k21_23]; exact w215_26
            exact W.vret hx hb hr (fun t ht hW => ⟨⟨((-1), (-1), row, lo, f_25, n_26), rfl, hq9, by rw [ht]; exact hP9, va_K.moved hW.alike hK9, hD9⟩, hS.F ht⟩) hS.2.2 d_Sh_form_238
          · skip
            by_cases k21_27 : le = 100
            · refine lv_lookup (off := 107) (tgt := 128) hx hb d_Sh_form_21 (by decide) (by rw [k21_27]; rfl) (by decide) ?_
              refine lv_aload_n hx hb d_Sh_form_128 rfl (lv_at hl 0 rfl) ?_
              refine lv_aload_n hx hb d_Sh_form_129 rfl (lv_at hl 1 rfl) ?_
              refine lv_aload_n hx hb d_Sh_form_130 rfl (lv_at hl 2 rfl) ?_
              refine lv_bipush (v := 10) hx hb d_Sh_form_131 (by decide) ?_
              have hPc := hP.sub (ws' := [(sa, .inr (3, [.ref h, .ref g, .ref la, .int (-1), .int (-1)])), (h, .inr (2, [.ref a, .int 0])), (a, .inl (cC, 160, .inl f)), (la, .inl (cI, 64, .inl lo)), (vV, .inr (4, [.ref wV, .int decV, .int belV, .long ahV, .long bhV])), (wV, .inr (2, [.ref waV, .int nV])), (waV, .inl (cC, 60, .inl fV)), (fi, .inr (1, [.int mi, .int pl, .int ze, .int sh, .int bl, .int sw, .int sp, .int wi, .int pr, .int le, .int so, .int nx]))]) [0, 8, 9, 3, 4, 5, 6, 7] rfl
              have hDc := hD.sub (ws' := [(sa, .inr (3, [.ref h, .ref g, .ref la, .int (-1), .int (-1)])), (h, .inr (2, [.ref a, .int 0])), (a, .inl (cC, 160, .inl f)), (la, .inl (cI, 64, .inl lo)), (vV, .inr (4, [.ref wV, .int decV, .int belV, .long ahV, .long bhV])), (wV, .inr (2, [.ref waV, .int nV])), (waV, .inl (cC, 60, .inl fV)), (fi, .inr (1, [.int mi, .int pl, .int ze, .int sh, .int bl, .int sw, .int sp, .int wi, .int pr, .int le, .int so, .int nx]))]) [0, 8, 9, 3, 4, 5, 6, 7] (by decide) rfl
              have hKc := hK.sub (tys' := [(cC, .char), (cI, .int)]) [0, 1] rfl
              have hFc := va_free (wc := [(sa, .inr (3, [.ref h, .ref g, .ref la, .int (-1), .int (-1)])), (h, .inr (2, [.ref a, .int 0])), (a, .inl (cC, 160, .inl f)), (la, .inl (cI, 64, .inl lo)), (vV, .inr (4, [.ref wV, .int decV, .int belV, .long ahV, .long bhV])), (wV, .inr (2, [.ref waV, .int nV])), (waV, .inl (cC, 60, .inl fV)), (fi, .inr (1, [.int mi, .int pl, .int ze, .int sh, .int bl, .int sw, .int sp, .int wi, .int pr, .int le, .int so, .int nx]))]) hD hS hA [0, 8, 9, 3, 4, 5, 6, 7] rfl
              refine va_callv (va_runV (As := [.ref vV, .ref fi, .int 10]) (rest := []) ⟨hx, hb, hml, hown, hT⟩ (c_Shape_formWhole l dC dI H.size cC cI sa h g la (-1) (-1) a f 0 lo vV wV waV decV belV ahV bhV fV nV fi mi pl ze sh bl sw sp wi pr le so nx 10 (⟨by decide, by decide, by decide⟩) (by decide)) (cwV 3 hT g_Sh_46 rfl rfl rfl (by decide +kernel) ⟨Nat.le_of_ble_eq_true rfl, Nat.le_of_ble_eq_true rfl⟩) ⟨fun a U g mk q => by obtain ⟨q0, q1, qP, qK, qD, qN⟩ := q; exact ⟨q0, q1, qP, va_K.moved (u := U) (U := U.calling g mk a) (Vm.Alike.refl U.vm) qK, qD, qN.calling⟩, va_recv hKc hPc (ci := 3) (q0 := 0) rfl rfl, fun U hU hW => ⟨rfl, by rw [hU], by rw [hU]; exact hPc, va_K.moved hW.alike hKc, hDc.weaken (fun _ _ _ _ => trivial), hN.warm hW⟩⟩ rfl rfl hl.1 rfl (lv_room (Nat.le_of_ble_eq_true rfl)) d_Sh_form_133 ⟨Nat.le_of_ble_eq_true rfl, Nat.le_of_ble_eq_true rfl⟩) hS (fun q _ h => hFc q h) hFc (fun u t H1 locs ht hvm w133_32 hB hz1 hk1 hS => ?_)
              obtain ⟨sg_28, ba_29, lo_30, f_31, n_32⟩ := u
              obtain ⟨hP1, hK1, hD1⟩ := hB
              rw [ht] at hP1
              try dsimp only at w133_32
              obtain ⟨w133_32, w133_32b, w133_32c, w133_32d⟩ := w133_32
              obtain ⟨hP, hD⟩ := va_join (wr := [(g, .inr (0, [.ref ra])), (ra, .inl (cI, 31, .inl row))]) (w1 := [(sa, .inr (3, [.ref h, .ref g, .ref la, .int sg_28, .int ba_29])), (h, .inr (2, [.ref a, .int n_32])), (a, .inl (cC, 160, .inl f_31)), (la, .inl (cI, 64, .inl lo_30)), (vV, .inr (4, [.ref wV, .int decV, .int belV, .long ahV, .long bhV])), (wV, .inr (2, [.ref waV, .int nV])), (waV, .inl (cC, 60, .inl fV)), (fi, .inr (1, [.int mi, .int pl, .int ze, .int sh, .int bl, .int sw, .int sp, .int wi, .int pr, .int le, .int so, .int nx]))]) hP hD [0, 8, 9, 3, 4, 5, 6, 7] [1, 2] rfl rfl (by decide) (by decide) hk1 hFc hP1 hD1
              generalize H1 = H at hP hS ⊢
              have hP : va_P (dC, dI) CL [(g, .inr (0, [.ref ra])), (ra, .inl (cI, 31, .inl row)), (sa, .inr (3, [.ref h, .ref g, .ref la, .int sg_28, .int ba_29])), (h, .inr (2, [.ref a, .int n_32])), (a, .inl (cC, 160, .inl f_31)), (la, .inl (cI, 64, .inl lo_30)), (vV, .inr (4, [.ref wV, .int decV, .int belV, .long ahV, .long bhV])), (wV, .inr (2, [.ref waV, .int nV])), (waV, .inl (cC, 60, .inl fV)), (fi, .inr (1, [.int mi, .int pl, .int ze, .int sh, .int bl, .int sw, .int sp, .int wi, .int pr, .int le, .int so, .int nx]))] H := hP
              have hD : va_D A [(g, .inr (0, [.ref ra])), (ra, .inl (cI, 31, .inl row)), (sa, .inr (3, [.ref h, .ref g, .ref la, .int sg_28, .int ba_29])), (h, .inr (2, [.ref a, .int n_32])), (a, .inl (cC, 160, .inl f_31)), (la, .inl (cI, 64, .inl lo_30)), (vV, .inr (4, [.ref wV, .int decV, .int belV, .long ahV, .long bhV])), (wV, .inr (2, [.ref waV, .int nV])), (waV, .inl (cC, 60, .inl fV)), (fi, .inr (1, [.int mi, .int pl, .int ze, .int sh, .int bl, .int sw, .int sp, .int wi, .int pr, .int le, .int so, .int nx]))] := hD
              refine lv_goto (tgt := 238) hx hb d_Sh_form_136 (by decide) ?_
              have hP9 := hP.sub (ws' := [(sa, .inr (3, [.ref h, .ref g, .ref la, .int sg_28, .int ba_29])), (h, .inr (2, [.ref a, .int n_32])), (a, .inl (cC, 160, .inl f_31)), (g, .inr (0, [.ref ra])), (ra, .inl (cI, 31, .inl row)), (la, .inl (cI, 64, .inl lo_30)), (vV, .inr (4, [.ref wV, .int decV, .int belV, .long ahV, .long bhV])), (wV, .inr (2, [.ref waV, .int nV])), (waV, .inl (cC, 60, .inl fV)), (fi, .inr (1, [.int mi, .int pl, .int ze, .int sh, .int bl, .int sw, .int sp, .int wi, .int pr, .int le, .int so, .int nx]))]) [2, 3, 4, 0, 1, 5, 6, 7, 8, 9] rfl
              have hD9 := hD.sub (ws' := [(sa, .inr (3, [.ref h, .ref g, .ref la, .int sg_28, .int ba_29])), (h, .inr (2, [.ref a, .int n_32])), (a, .inl (cC, 160, .inl f_31)), (g, .inr (0, [.ref ra])), (ra, .inl (cI, 31, .inl row)), (la, .inl (cI, 64, .inl lo_30)), (vV, .inr (4, [.ref wV, .int decV, .int belV, .long ahV, .long bhV])), (wV, .inr (2, [.ref waV, .int nV])), (waV, .inl (cC, 60, .inl fV)), (fi, .inr (1, [.int mi, .int pl, .int ze, .int sh, .int bl, .int sw, .int sp, .int wi, .int pr, .int le, .int so, .int nx]))]) [2, 3, 4, 0, 1, 5, 6, 7, 8, 9] (by decide) rfl
              have hK9 := hK.sub (tys' := [(cC, .char), (cI, .int)]) [0, 1] rfl
              have hq9 : sg_28 = foSign le belV ahV pl bl ∧ ba_29 = foBase le sh ∧ (f_31, n_32) = foLine le decV belV ahV bhV fV nV pr sh row lo f ∧ lnOK 160 n_32 := by
                refine ⟨?_, ?_, ?_, w133_32d⟩
                · rw [foSign, foPick, if_neg k21_1, if_neg k21_6, if_neg k21_11, if_neg k21_17, if_neg k21_23, if_pos k21_27]; exact w133_32
                · rw [foBase, foPick, if_neg k21_1, if_neg k21_6, if_neg k21_11, if_neg k21_17, if_neg k21_23, if_pos k21_27]; exact w133_32b
                · rw [foLine, foPick, if_neg k21_1, if_neg k21_6, if_neg k21_11, if_neg k21_17, if_neg k21_23, if_pos k21_27]; exact w133_32c
              exact W.vret hx hb hr (fun t ht hW => ⟨⟨(sg_28, ba_29, row, lo_30, f_31, n_32), rfl, hq9, by rw [ht]; exact hP9, va_K.moved hW.alike hK9, hD9⟩, hS.F ht⟩) hS.2.2 d_Sh_form_238
            · skip
              by_cases k21_33 : le = 101
              · refine lv_lookup (off := 159) (tgt := 180) hx hb d_Sh_form_21 (by decide) (by rw [k21_33]; rfl) (by decide) ?_
                refine lv_aload_n hx hb d_Sh_form_180 rfl (lv_at hl 0 rfl) ?_
                refine lv_aload_n hx hb d_Sh_form_181 rfl (lv_at hl 1 rfl) ?_
                refine lv_aload_n hx hb d_Sh_form_182 rfl (lv_at hl 2 rfl) ?_
                have hPc := hP.sub (ws' := [(sa, .inr (3, [.ref h, .ref g, .ref la, .int (-1), .int (-1)])), (h, .inr (2, [.ref a, .int 0])), (a, .inl (cC, 160, .inl f)), (g, .inr (0, [.ref ra])), (ra, .inl (cI, 31, .inl row)), (vV, .inr (4, [.ref wV, .int decV, .int belV, .long ahV, .long bhV])), (wV, .inr (2, [.ref waV, .int nV])), (waV, .inl (cC, 60, .inl fV)), (fi, .inr (1, [.int mi, .int pl, .int ze, .int sh, .int bl, .int sw, .int sp, .int wi, .int pr, .int le, .int so, .int nx]))]) [0, 8, 9, 1, 2, 4, 5, 6, 7] rfl
                have hDc := hD.sub (ws' := [(sa, .inr (3, [.ref h, .ref g, .ref la, .int (-1), .int (-1)])), (h, .inr (2, [.ref a, .int 0])), (a, .inl (cC, 160, .inl f)), (g, .inr (0, [.ref ra])), (ra, .inl (cI, 31, .inl row)), (vV, .inr (4, [.ref wV, .int decV, .int belV, .long ahV, .long bhV])), (wV, .inr (2, [.ref waV, .int nV])), (waV, .inl (cC, 60, .inl fV)), (fi, .inr (1, [.int mi, .int pl, .int ze, .int sh, .int bl, .int sw, .int sp, .int wi, .int pr, .int le, .int so, .int nx]))]) [0, 8, 9, 1, 2, 4, 5, 6, 7] (by decide) rfl
                have hKc := hK.sub (tys' := [(cC, .char), (cI, .int)]) [0, 1] rfl
                have hFc := va_free (wc := [(sa, .inr (3, [.ref h, .ref g, .ref la, .int (-1), .int (-1)])), (h, .inr (2, [.ref a, .int 0])), (a, .inl (cC, 160, .inl f)), (g, .inr (0, [.ref ra])), (ra, .inl (cI, 31, .inl row)), (vV, .inr (4, [.ref wV, .int decV, .int belV, .long ahV, .long bhV])), (wV, .inr (2, [.ref waV, .int nV])), (waV, .inl (cC, 60, .inl fV)), (fi, .inr (1, [.int mi, .int pl, .int ze, .int sh, .int bl, .int sw, .int sp, .int wi, .int pr, .int le, .int so, .int nx]))]) hD hS hA [0, 8, 9, 1, 2, 4, 5, 6, 7] rfl
                refine va_callv (va_runV (As := [.ref vV, .ref fi]) (rest := []) ⟨hx, hb, hml, hown, hT⟩ (c_Shape_formExponent l dC dI H.size cC cI sa h g la (-1) (-1) a f 0 ra row vV wV waV decV belV ahV bhV fV nV fi mi pl ze sh bl sw sp wi pr le so nx (⟨by decide, by decide, by decide⟩)) (cwV 2 hT g_Sh_54 rfl rfl rfl (by decide +kernel) ⟨Nat.le_of_ble_eq_true rfl, Nat.le_of_ble_eq_true rfl⟩) ⟨fun a U g mk q => by obtain ⟨q0, q1, qP, qK, qD, qN⟩ := q; exact ⟨q0, q1, qP, va_K.moved (u := U) (U := U.calling g mk a) (Vm.Alike.refl U.vm) qK, qD, qN.calling⟩, va_recv hKc hPc (ci := 3) (q0 := 0) rfl rfl, fun U hU hW => ⟨rfl, by rw [hU], by rw [hU]; exact hPc, va_K.moved hW.alike hKc, hDc.weaken (fun _ _ _ _ => trivial), hN.warm hW⟩⟩ rfl rfl hl.1 rfl (lv_room (Nat.le_of_ble_eq_true rfl)) d_Sh_form_183 ⟨Nat.le_of_ble_eq_true rfl, Nat.le_of_ble_eq_true rfl⟩) hS (fun q _ h => hFc q h) hFc (fun u t H1 locs ht hvm w183_37 hB hz1 hk1 hS => ?_)
                obtain ⟨sg_34, row_35, f_36, n_37⟩ := u
                obtain ⟨hP1, hK1, hD1⟩ := hB
                rw [ht] at hP1
                try dsimp only at w183_37
                obtain ⟨w183_37, w183_37b, w183_37c, w183_37d⟩ := w183_37
                obtain ⟨hP, hD⟩ := va_join (wr := [(la, .inl (cI, 64, .inl lo))]) (w1 := [(sa, .inr (3, [.ref h, .ref g, .ref la, .int sg_34, .int (-1)])), (h, .inr (2, [.ref a, .int n_37])), (a, .inl (cC, 160, .inl f_36)), (g, .inr (0, [.ref ra])), (ra, .inl (cI, 31, .inl row_35)), (vV, .inr (4, [.ref wV, .int decV, .int belV, .long ahV, .long bhV])), (wV, .inr (2, [.ref waV, .int nV])), (waV, .inl (cC, 60, .inl fV)), (fi, .inr (1, [.int mi, .int pl, .int ze, .int sh, .int bl, .int sw, .int sp, .int wi, .int pr, .int le, .int so, .int nx]))]) hP hD [0, 8, 9, 1, 2, 4, 5, 6, 7] [3] rfl rfl (by decide) (by decide) hk1 hFc hP1 hD1
                generalize H1 = H at hP hS ⊢
                have hP : va_P (dC, dI) CL [(la, .inl (cI, 64, .inl lo)), (sa, .inr (3, [.ref h, .ref g, .ref la, .int sg_34, .int (-1)])), (h, .inr (2, [.ref a, .int n_37])), (a, .inl (cC, 160, .inl f_36)), (g, .inr (0, [.ref ra])), (ra, .inl (cI, 31, .inl row_35)), (vV, .inr (4, [.ref wV, .int decV, .int belV, .long ahV, .long bhV])), (wV, .inr (2, [.ref waV, .int nV])), (waV, .inl (cC, 60, .inl fV)), (fi, .inr (1, [.int mi, .int pl, .int ze, .int sh, .int bl, .int sw, .int sp, .int wi, .int pr, .int le, .int so, .int nx]))] H := hP
                have hD : va_D A [(la, .inl (cI, 64, .inl lo)), (sa, .inr (3, [.ref h, .ref g, .ref la, .int sg_34, .int (-1)])), (h, .inr (2, [.ref a, .int n_37])), (a, .inl (cC, 160, .inl f_36)), (g, .inr (0, [.ref ra])), (ra, .inl (cI, 31, .inl row_35)), (vV, .inr (4, [.ref wV, .int decV, .int belV, .long ahV, .long bhV])), (wV, .inr (2, [.ref waV, .int nV])), (waV, .inl (cC, 60, .inl fV)), (fi, .inr (1, [.int mi, .int pl, .int ze, .int sh, .int bl, .int sw, .int sp, .int wi, .int pr, .int le, .int so, .int nx]))] := hD
                refine lv_goto (tgt := 238) hx hb d_Sh_form_186 (by decide) ?_
                have hP9 := hP.sub (ws' := [(sa, .inr (3, [.ref h, .ref g, .ref la, .int sg_34, .int (-1)])), (h, .inr (2, [.ref a, .int n_37])), (a, .inl (cC, 160, .inl f_36)), (g, .inr (0, [.ref ra])), (ra, .inl (cI, 31, .inl row_35)), (la, .inl (cI, 64, .inl lo)), (vV, .inr (4, [.ref wV, .int decV, .int belV, .long ahV, .long bhV])), (wV, .inr (2, [.ref waV, .int nV])), (waV, .inl (cC, 60, .inl fV)), (fi, .inr (1, [.int mi, .int pl, .int ze, .int sh, .int bl, .int sw, .int sp, .int wi, .int pr, .int le, .int so, .int nx]))]) [1, 2, 3, 4, 5, 0, 6, 7, 8, 9] rfl
                have hD9 := hD.sub (ws' := [(sa, .inr (3, [.ref h, .ref g, .ref la, .int sg_34, .int (-1)])), (h, .inr (2, [.ref a, .int n_37])), (a, .inl (cC, 160, .inl f_36)), (g, .inr (0, [.ref ra])), (ra, .inl (cI, 31, .inl row_35)), (la, .inl (cI, 64, .inl lo)), (vV, .inr (4, [.ref wV, .int decV, .int belV, .long ahV, .long bhV])), (wV, .inr (2, [.ref waV, .int nV])), (waV, .inl (cC, 60, .inl fV)), (fi, .inr (1, [.int mi, .int pl, .int ze, .int sh, .int bl, .int sw, .int sp, .int wi, .int pr, .int le, .int so, .int nx]))]) [1, 2, 3, 4, 5, 0, 6, 7, 8, 9] (by decide) rfl
                have hK9 := hK.sub (tys' := [(cC, .char), (cI, .int)]) [0, 1] rfl
                have hq9 : sg_34 = foSign le belV ahV pl bl ∧ (-1 : Int32) = foBase le sh ∧ (f_36, n_37) = foLine le decV belV ahV bhV fV nV pr sh row lo f ∧ lnOK 160 n_37 := by
                  refine ⟨?_, ?_, ?_, w183_37d⟩
                  · rw [foSign, foPick, if_neg k21_1, if_neg k21_6, if_neg k21_11, if_neg k21_17, if_neg k21_23, if_neg k21_27, if_pos k21_33]; exact w183_37
                  · rw [foBase, foPick, if_neg k21_1, if_neg k21_6, if_neg k21_11, if_neg k21_17, if_neg k21_23, if_neg k21_27, if_pos k21_33]
                  · rw [foLine, foPick, if_neg k21_1, if_neg k21_6, if_neg k21_11, if_neg k21_17, if_neg k21_23, if_neg k21_27, if_pos k21_33]; exact w183_37c
                exact W.vret hx hb hr (fun t ht hW => ⟨⟨(sg_34, (-1), row_35, lo, f_36, n_37), rfl, hq9, by rw [ht]; exact hP9, va_K.moved hW.alike hK9, hD9⟩, hS.F ht⟩) hS.2.2 d_Sh_form_238
              · skip
                by_cases k21_38 : le = 102
                · refine lv_lookup (off := 150) (tgt := 171) hx hb d_Sh_form_21 (by decide) (by rw [k21_38]; rfl) (by decide) ?_
                  refine lv_aload_n hx hb d_Sh_form_171 rfl (lv_at hl 0 rfl) ?_
                  refine lv_aload_n hx hb d_Sh_form_172 rfl (lv_at hl 1 rfl) ?_
                  refine lv_aload_n hx hb d_Sh_form_173 rfl (lv_at hl 2 rfl) ?_
                  have hPc := hP.sub (ws' := [(sa, .inr (3, [.ref h, .ref g, .ref la, .int (-1), .int (-1)])), (h, .inr (2, [.ref a, .int 0])), (a, .inl (cC, 160, .inl f)), (g, .inr (0, [.ref ra])), (ra, .inl (cI, 31, .inl row)), (vV, .inr (4, [.ref wV, .int decV, .int belV, .long ahV, .long bhV])), (wV, .inr (2, [.ref waV, .int nV])), (waV, .inl (cC, 60, .inl fV)), (fi, .inr (1, [.int mi, .int pl, .int ze, .int sh, .int bl, .int sw, .int sp, .int wi, .int pr, .int le, .int so, .int nx]))]) [0, 8, 9, 1, 2, 4, 5, 6, 7] rfl
                  have hDc := hD.sub (ws' := [(sa, .inr (3, [.ref h, .ref g, .ref la, .int (-1), .int (-1)])), (h, .inr (2, [.ref a, .int 0])), (a, .inl (cC, 160, .inl f)), (g, .inr (0, [.ref ra])), (ra, .inl (cI, 31, .inl row)), (vV, .inr (4, [.ref wV, .int decV, .int belV, .long ahV, .long bhV])), (wV, .inr (2, [.ref waV, .int nV])), (waV, .inl (cC, 60, .inl fV)), (fi, .inr (1, [.int mi, .int pl, .int ze, .int sh, .int bl, .int sw, .int sp, .int wi, .int pr, .int le, .int so, .int nx]))]) [0, 8, 9, 1, 2, 4, 5, 6, 7] (by decide) rfl
                  have hKc := hK.sub (tys' := [(cC, .char), (cI, .int)]) [0, 1] rfl
                  have hFc := va_free (wc := [(sa, .inr (3, [.ref h, .ref g, .ref la, .int (-1), .int (-1)])), (h, .inr (2, [.ref a, .int 0])), (a, .inl (cC, 160, .inl f)), (g, .inr (0, [.ref ra])), (ra, .inl (cI, 31, .inl row)), (vV, .inr (4, [.ref wV, .int decV, .int belV, .long ahV, .long bhV])), (wV, .inr (2, [.ref waV, .int nV])), (waV, .inl (cC, 60, .inl fV)), (fi, .inr (1, [.int mi, .int pl, .int ze, .int sh, .int bl, .int sw, .int sp, .int wi, .int pr, .int le, .int so, .int nx]))]) hD hS hA [0, 8, 9, 1, 2, 4, 5, 6, 7] rfl
                  refine va_callv (va_runV (As := [.ref vV, .ref fi]) (rest := []) ⟨hx, hb, hml, hown, hT⟩ (c_Shape_formPlaces l dC dI H.size cC cI sa h g la (-1) (-1) a f 0 ra row vV wV waV decV belV ahV bhV fV nV fi mi pl ze sh bl sw sp wi pr le so nx (⟨by decide, by decide, by decide⟩)) (cwV 2 hT g_Sh_50 rfl rfl rfl (by decide +kernel) ⟨Nat.le_of_ble_eq_true rfl, Nat.le_of_ble_eq_true rfl⟩) ⟨fun a U g mk q => by obtain ⟨q0, q1, qP, qK, qD, qN⟩ := q; exact ⟨q0, q1, qP, va_K.moved (u := U) (U := U.calling g mk a) (Vm.Alike.refl U.vm) qK, qD, qN.calling⟩, va_recv hKc hPc (ci := 3) (q0 := 0) rfl rfl, fun U hU hW => ⟨rfl, by rw [hU], by rw [hU]; exact hPc, va_K.moved hW.alike hKc, hDc.weaken (fun _ _ _ _ => trivial), hN.warm hW⟩⟩ rfl rfl hl.1 rfl (lv_room (Nat.le_of_ble_eq_true rfl)) d_Sh_form_174 ⟨Nat.le_of_ble_eq_true rfl, Nat.le_of_ble_eq_true rfl⟩) hS (fun q _ h => hFc q h) hFc (fun u t H1 locs ht hvm w174_42 hB hz1 hk1 hS => ?_)
                  obtain ⟨sg_39, row_40, f_41, n_42⟩ := u
                  obtain ⟨hP1, hK1, hD1⟩ := hB
                  rw [ht] at hP1
                  try dsimp only at w174_42
                  obtain ⟨w174_42, w174_42b, w174_42c, w174_42d⟩ := w174_42
                  obtain ⟨hP, hD⟩ := va_join (wr := [(la, .inl (cI, 64, .inl lo))]) (w1 := [(sa, .inr (3, [.ref h, .ref g, .ref la, .int sg_39, .int (-1)])), (h, .inr (2, [.ref a, .int n_42])), (a, .inl (cC, 160, .inl f_41)), (g, .inr (0, [.ref ra])), (ra, .inl (cI, 31, .inl row_40)), (vV, .inr (4, [.ref wV, .int decV, .int belV, .long ahV, .long bhV])), (wV, .inr (2, [.ref waV, .int nV])), (waV, .inl (cC, 60, .inl fV)), (fi, .inr (1, [.int mi, .int pl, .int ze, .int sh, .int bl, .int sw, .int sp, .int wi, .int pr, .int le, .int so, .int nx]))]) hP hD [0, 8, 9, 1, 2, 4, 5, 6, 7] [3] rfl rfl (by decide) (by decide) hk1 hFc hP1 hD1
                  generalize H1 = H at hP hS ⊢
                  have hP : va_P (dC, dI) CL [(la, .inl (cI, 64, .inl lo)), (sa, .inr (3, [.ref h, .ref g, .ref la, .int sg_39, .int (-1)])), (h, .inr (2, [.ref a, .int n_42])), (a, .inl (cC, 160, .inl f_41)), (g, .inr (0, [.ref ra])), (ra, .inl (cI, 31, .inl row_40)), (vV, .inr (4, [.ref wV, .int decV, .int belV, .long ahV, .long bhV])), (wV, .inr (2, [.ref waV, .int nV])), (waV, .inl (cC, 60, .inl fV)), (fi, .inr (1, [.int mi, .int pl, .int ze, .int sh, .int bl, .int sw, .int sp, .int wi, .int pr, .int le, .int so, .int nx]))] H := hP
                  have hD : va_D A [(la, .inl (cI, 64, .inl lo)), (sa, .inr (3, [.ref h, .ref g, .ref la, .int sg_39, .int (-1)])), (h, .inr (2, [.ref a, .int n_42])), (a, .inl (cC, 160, .inl f_41)), (g, .inr (0, [.ref ra])), (ra, .inl (cI, 31, .inl row_40)), (vV, .inr (4, [.ref wV, .int decV, .int belV, .long ahV, .long bhV])), (wV, .inr (2, [.ref waV, .int nV])), (waV, .inl (cC, 60, .inl fV)), (fi, .inr (1, [.int mi, .int pl, .int ze, .int sh, .int bl, .int sw, .int sp, .int wi, .int pr, .int le, .int so, .int nx]))] := hD
                  refine lv_goto (tgt := 238) hx hb d_Sh_form_177 (by decide) ?_
                  have hP9 := hP.sub (ws' := [(sa, .inr (3, [.ref h, .ref g, .ref la, .int sg_39, .int (-1)])), (h, .inr (2, [.ref a, .int n_42])), (a, .inl (cC, 160, .inl f_41)), (g, .inr (0, [.ref ra])), (ra, .inl (cI, 31, .inl row_40)), (la, .inl (cI, 64, .inl lo)), (vV, .inr (4, [.ref wV, .int decV, .int belV, .long ahV, .long bhV])), (wV, .inr (2, [.ref waV, .int nV])), (waV, .inl (cC, 60, .inl fV)), (fi, .inr (1, [.int mi, .int pl, .int ze, .int sh, .int bl, .int sw, .int sp, .int wi, .int pr, .int le, .int so, .int nx]))]) [1, 2, 3, 4, 5, 0, 6, 7, 8, 9] rfl
                  have hD9 := hD.sub (ws' := [(sa, .inr (3, [.ref h, .ref g, .ref la, .int sg_39, .int (-1)])), (h, .inr (2, [.ref a, .int n_42])), (a, .inl (cC, 160, .inl f_41)), (g, .inr (0, [.ref ra])), (ra, .inl (cI, 31, .inl row_40)), (la, .inl (cI, 64, .inl lo)), (vV, .inr (4, [.ref wV, .int decV, .int belV, .long ahV, .long bhV])), (wV, .inr (2, [.ref waV, .int nV])), (waV, .inl (cC, 60, .inl fV)), (fi, .inr (1, [.int mi, .int pl, .int ze, .int sh, .int bl, .int sw, .int sp, .int wi, .int pr, .int le, .int so, .int nx]))]) [1, 2, 3, 4, 5, 0, 6, 7, 8, 9] (by decide) rfl
                  have hK9 := hK.sub (tys' := [(cC, .char), (cI, .int)]) [0, 1] rfl
                  have hq9 : sg_39 = foSign le belV ahV pl bl ∧ (-1 : Int32) = foBase le sh ∧ (f_41, n_42) = foLine le decV belV ahV bhV fV nV pr sh row lo f ∧ lnOK 160 n_42 := by
                    refine ⟨?_, ?_, ?_, w174_42d⟩
                    · rw [foSign, foPick, if_neg k21_1, if_neg k21_6, if_neg k21_11, if_neg k21_17, if_neg k21_23, if_neg k21_27, if_neg k21_33, if_pos k21_38]; exact w174_42
                    · rw [foBase, foPick, if_neg k21_1, if_neg k21_6, if_neg k21_11, if_neg k21_17, if_neg k21_23, if_neg k21_27, if_neg k21_33, if_pos k21_38]
                    · rw [foLine, foPick, if_neg k21_1, if_neg k21_6, if_neg k21_11, if_neg k21_17, if_neg k21_23, if_neg k21_27, if_neg k21_33, if_pos k21_38]; exact w174_42c
                  exact W.vret hx hb hr (fun t ht hW => ⟨⟨(sg_39, (-1), row_40, lo, f_41, n_42), rfl, hq9, by rw [ht]; exact hP9, va_K.moved hW.alike hK9, hD9⟩, hS.F ht⟩) hS.2.2 d_Sh_form_238
                · skip
                  by_cases k21_43 : le = 103
                  · refine lv_lookup (off := 168) (tgt := 189) hx hb d_Sh_form_21 (by decide) (by rw [k21_43]; rfl) (by decide) ?_
                    refine lv_aload_n hx hb d_Sh_form_189 rfl (lv_at hl 0 rfl) ?_
                    refine lv_aload_n hx hb d_Sh_form_190 rfl (lv_at hl 1 rfl) ?_
                    refine lv_aload_n hx hb d_Sh_form_191 rfl (lv_at hl 2 rfl) ?_
                    have hPc := hP.sub (ws' := [(sa, .inr (3, [.ref h, .ref g, .ref la, .int (-1), .int (-1)])), (h, .inr (2, [.ref a, .int 0])), (a, .inl (cC, 160, .inl f)), (g, .inr (0, [.ref ra])), (ra, .inl (cI, 31, .inl row)), (vV, .inr (4, [.ref wV, .int decV, .int belV, .long ahV, .long bhV])), (wV, .inr (2, [.ref waV, .int nV])), (waV, .inl (cC, 60, .inl fV)), (fi, .inr (1, [.int mi, .int pl, .int ze, .int sh, .int bl, .int sw, .int sp, .int wi, .int pr, .int le, .int so, .int nx]))]) [0, 8, 9, 1, 2, 4, 5, 6, 7] rfl
                    have hDc := hD.sub (ws' := [(sa, .inr (3, [.ref h, .ref g, .ref la, .int (-1), .int (-1)])), (h, .inr (2, [.ref a, .int 0])), (a, .inl (cC, 160, .inl f)), (g, .inr (0, [.ref ra])), (ra, .inl (cI, 31, .inl row)), (vV, .inr (4, [.ref wV, .int decV, .int belV, .long ahV, .long bhV])), (wV, .inr (2, [.ref waV, .int nV])), (waV, .inl (cC, 60, .inl fV)), (fi, .inr (1, [.int mi, .int pl, .int ze, .int sh, .int bl, .int sw, .int sp, .int wi, .int pr, .int le, .int so, .int nx]))]) [0, 8, 9, 1, 2, 4, 5, 6, 7] (by decide) rfl
                    have hKc := hK.sub (tys' := [(cC, .char), (cI, .int)]) [0, 1] rfl
                    have hFc := va_free (wc := [(sa, .inr (3, [.ref h, .ref g, .ref la, .int (-1), .int (-1)])), (h, .inr (2, [.ref a, .int 0])), (a, .inl (cC, 160, .inl f)), (g, .inr (0, [.ref ra])), (ra, .inl (cI, 31, .inl row)), (vV, .inr (4, [.ref wV, .int decV, .int belV, .long ahV, .long bhV])), (wV, .inr (2, [.ref waV, .int nV])), (waV, .inl (cC, 60, .inl fV)), (fi, .inr (1, [.int mi, .int pl, .int ze, .int sh, .int bl, .int sw, .int sp, .int wi, .int pr, .int le, .int so, .int nx]))]) hD hS hA [0, 8, 9, 1, 2, 4, 5, 6, 7] rfl
                    refine va_callv (va_runV (As := [.ref vV, .ref fi]) (rest := []) ⟨hx, hb, hml, hown, hT⟩ (c_Shape_formShorter l dC dI H.size cC cI sa h g la (-1) (-1) a f 0 ra row vV wV waV decV belV ahV bhV fV nV fi mi pl ze sh bl sw sp wi pr le so nx (⟨by decide, by decide, by decide⟩)) (cwV 2 hT g_Sh_57 rfl rfl rfl (by decide +kernel) ⟨Nat.le_of_ble_eq_true rfl, Nat.le_of_ble_eq_true rfl⟩) ⟨fun a U g mk q => by obtain ⟨q0, q1, qP, qK, qD, qN⟩ := q; exact ⟨q0, q1, qP, va_K.moved (u := U) (U := U.calling g mk a) (Vm.Alike.refl U.vm) qK, qD, qN.calling⟩, va_recv hKc hPc (ci := 3) (q0 := 0) rfl rfl, fun U hU hW => ⟨rfl, by rw [hU], by rw [hU]; exact hPc, va_K.moved hW.alike hKc, hDc.weaken (fun _ _ _ _ => trivial), hN.warm hW⟩⟩ rfl rfl hl.1 rfl (lv_room (Nat.le_of_ble_eq_true rfl)) d_Sh_form_192 ⟨Nat.le_of_ble_eq_true rfl, Nat.le_of_ble_eq_true rfl⟩) hS (fun q _ h => hFc q h) hFc (fun u t H1 locs ht hvm w192_47 hB hz1 hk1 hS => ?_)
                    obtain ⟨sg_44, row_45, f_46, n_47⟩ := u
                    obtain ⟨hP1, hK1, hD1⟩ := hB
                    rw [ht] at hP1
                    try dsimp only at w192_47
                    obtain ⟨w192_47, w192_47b, w192_47c, w192_47d⟩ := w192_47
                    obtain ⟨hP, hD⟩ := va_join (wr := [(la, .inl (cI, 64, .inl lo))]) (w1 := [(sa, .inr (3, [.ref h, .ref g, .ref la, .int sg_44, .int (-1)])), (h, .inr (2, [.ref a, .int n_47])), (a, .inl (cC, 160, .inl f_46)), (g, .inr (0, [.ref ra])), (ra, .inl (cI, 31, .inl row_45)), (vV, .inr (4, [.ref wV, .int decV, .int belV, .long ahV, .long bhV])), (wV, .inr (2, [.ref waV, .int nV])), (waV, .inl (cC, 60, .inl fV)), (fi, .inr (1, [.int mi, .int pl, .int ze, .int sh, .int bl, .int sw, .int sp, .int wi, .int pr, .int le, .int so, .int nx]))]) hP hD [0, 8, 9, 1, 2, 4, 5, 6, 7] [3] rfl rfl (by decide) (by decide) hk1 hFc hP1 hD1
                    generalize H1 = H at hP hS ⊢
                    have hP : va_P (dC, dI) CL [(la, .inl (cI, 64, .inl lo)), (sa, .inr (3, [.ref h, .ref g, .ref la, .int sg_44, .int (-1)])), (h, .inr (2, [.ref a, .int n_47])), (a, .inl (cC, 160, .inl f_46)), (g, .inr (0, [.ref ra])), (ra, .inl (cI, 31, .inl row_45)), (vV, .inr (4, [.ref wV, .int decV, .int belV, .long ahV, .long bhV])), (wV, .inr (2, [.ref waV, .int nV])), (waV, .inl (cC, 60, .inl fV)), (fi, .inr (1, [.int mi, .int pl, .int ze, .int sh, .int bl, .int sw, .int sp, .int wi, .int pr, .int le, .int so, .int nx]))] H := hP
                    have hD : va_D A [(la, .inl (cI, 64, .inl lo)), (sa, .inr (3, [.ref h, .ref g, .ref la, .int sg_44, .int (-1)])), (h, .inr (2, [.ref a, .int n_47])), (a, .inl (cC, 160, .inl f_46)), (g, .inr (0, [.ref ra])), (ra, .inl (cI, 31, .inl row_45)), (vV, .inr (4, [.ref wV, .int decV, .int belV, .long ahV, .long bhV])), (wV, .inr (2, [.ref waV, .int nV])), (waV, .inl (cC, 60, .inl fV)), (fi, .inr (1, [.int mi, .int pl, .int ze, .int sh, .int bl, .int sw, .int sp, .int wi, .int pr, .int le, .int so, .int nx]))] := hD
                    refine lv_goto (tgt := 238) hx hb d_Sh_form_195 (by decide) ?_
                    have hP9 := hP.sub (ws' := [(sa, .inr (3, [.ref h, .ref g, .ref la, .int sg_44, .int (-1)])), (h, .inr (2, [.ref a, .int n_47])), (a, .inl (cC, 160, .inl f_46)), (g, .inr (0, [.ref ra])), (ra, .inl (cI, 31, .inl row_45)), (la, .inl (cI, 64, .inl lo)), (vV, .inr (4, [.ref wV, .int decV, .int belV, .long ahV, .long bhV])), (wV, .inr (2, [.ref waV, .int nV])), (waV, .inl (cC, 60, .inl fV)), (fi, .inr (1, [.int mi, .int pl, .int ze, .int sh, .int bl, .int sw, .int sp, .int wi, .int pr, .int le, .int so, .int nx]))]) [1, 2, 3, 4, 5, 0, 6, 7, 8, 9] rfl
                    have hD9 := hD.sub (ws' := [(sa, .inr (3, [.ref h, .ref g, .ref la, .int sg_44, .int (-1)])), (h, .inr (2, [.ref a, .int n_47])), (a, .inl (cC, 160, .inl f_46)), (g, .inr (0, [.ref ra])), (ra, .inl (cI, 31, .inl row_45)), (la, .inl (cI, 64, .inl lo)), (vV, .inr (4, [.ref wV, .int decV, .int belV, .long ahV, .long bhV])), (wV, .inr (2, [.ref waV, .int nV])), (waV, .inl (cC, 60, .inl fV)), (fi, .inr (1, [.int mi, .int pl, .int ze, .int sh, .int bl, .int sw, .int sp, .int wi, .int pr, .int le, .int so, .int nx]))]) [1, 2, 3, 4, 5, 0, 6, 7, 8, 9] (by decide) rfl
                    have hK9 := hK.sub (tys' := [(cC, .char), (cI, .int)]) [0, 1] rfl
                    have hq9 : sg_44 = foSign le belV ahV pl bl ∧ (-1 : Int32) = foBase le sh ∧ (f_46, n_47) = foLine le decV belV ahV bhV fV nV pr sh row lo f ∧ lnOK 160 n_47 := by
                      refine ⟨?_, ?_, ?_, w192_47d⟩
                      · rw [foSign, foPick, if_neg k21_1, if_neg k21_6, if_neg k21_11, if_neg k21_17, if_neg k21_23, if_neg k21_27, if_neg k21_33, if_neg k21_38, if_pos k21_43]; exact w192_47
                      · rw [foBase, foPick, if_neg k21_1, if_neg k21_6, if_neg k21_11, if_neg k21_17, if_neg k21_23, if_neg k21_27, if_neg k21_33, if_neg k21_38, if_pos k21_43]
                      · rw [foLine, foPick, if_neg k21_1, if_neg k21_6, if_neg k21_11, if_neg k21_17, if_neg k21_23, if_neg k21_27, if_neg k21_33, if_neg k21_38, if_pos k21_43]; exact w192_47c
                    exact W.vret hx hb hr (fun t ht hW => ⟨⟨(sg_44, (-1), row_45, lo, f_46, n_47), rfl, hq9, by rw [ht]; exact hP9, va_K.moved hW.alike hK9, hD9⟩, hS.F ht⟩) hS.2.2 d_Sh_form_238
                  · skip
                    by_cases k21_48 : le = 111
                    · refine lv_lookup (off := 129) (tgt := 150) hx hb d_Sh_form_21 (by decide) (by rw [k21_48]; rfl) (by decide) ?_
                      refine lv_aload_n hx hb d_Sh_form_150 rfl (lv_at hl 0 rfl) ?_
                      refine lv_aload_n hx hb d_Sh_form_151 rfl (lv_at hl 1 rfl) ?_
                      refine lv_aload_n hx hb d_Sh_form_152 rfl (lv_at hl 2 rfl) ?_
                      refine lv_bipush (v := 8) hx hb d_Sh_form_153 (by decide) ?_
                      have hPc := hP.sub (ws' := [(sa, .inr (3, [.ref h, .ref g, .ref la, .int (-1), .int (-1)])), (h, .inr (2, [.ref a, .int 0])), (a, .inl (cC, 160, .inl f)), (la, .inl (cI, 64, .inl lo)), (vV, .inr (4, [.ref wV, .int decV, .int belV, .long ahV, .long bhV])), (wV, .inr (2, [.ref waV, .int nV])), (waV, .inl (cC, 60, .inl fV)), (fi, .inr (1, [.int mi, .int pl, .int ze, .int sh, .int bl, .int sw, .int sp, .int wi, .int pr, .int le, .int so, .int nx]))]) [0, 8, 9, 3, 4, 5, 6, 7] rfl
                      have hDc := hD.sub (ws' := [(sa, .inr (3, [.ref h, .ref g, .ref la, .int (-1), .int (-1)])), (h, .inr (2, [.ref a, .int 0])), (a, .inl (cC, 160, .inl f)), (la, .inl (cI, 64, .inl lo)), (vV, .inr (4, [.ref wV, .int decV, .int belV, .long ahV, .long bhV])), (wV, .inr (2, [.ref waV, .int nV])), (waV, .inl (cC, 60, .inl fV)), (fi, .inr (1, [.int mi, .int pl, .int ze, .int sh, .int bl, .int sw, .int sp, .int wi, .int pr, .int le, .int so, .int nx]))]) [0, 8, 9, 3, 4, 5, 6, 7] (by decide) rfl
                      have hKc := hK.sub (tys' := [(cC, .char), (cI, .int)]) [0, 1] rfl
                      have hFc := va_free (wc := [(sa, .inr (3, [.ref h, .ref g, .ref la, .int (-1), .int (-1)])), (h, .inr (2, [.ref a, .int 0])), (a, .inl (cC, 160, .inl f)), (la, .inl (cI, 64, .inl lo)), (vV, .inr (4, [.ref wV, .int decV, .int belV, .long ahV, .long bhV])), (wV, .inr (2, [.ref waV, .int nV])), (waV, .inl (cC, 60, .inl fV)), (fi, .inr (1, [.int mi, .int pl, .int ze, .int sh, .int bl, .int sw, .int sp, .int wi, .int pr, .int le, .int so, .int nx]))]) hD hS hA [0, 8, 9, 3, 4, 5, 6, 7] rfl
                      refine va_callv (va_runV (As := [.ref vV, .ref fi, .int 8]) (rest := []) ⟨hx, hb, hml, hown, hT⟩ (c_Shape_formWhole l dC dI H.size cC cI sa h g la (-1) (-1) a f 0 lo vV wV waV decV belV ahV bhV fV nV fi mi pl ze sh bl sw sp wi pr le so nx 8 (⟨by decide, by decide, by decide⟩) (by decide)) (cwV 3 hT g_Sh_46 rfl rfl rfl (by decide +kernel) ⟨Nat.le_of_ble_eq_true rfl, Nat.le_of_ble_eq_true rfl⟩) ⟨fun a U g mk q => by obtain ⟨q0, q1, qP, qK, qD, qN⟩ := q; exact ⟨q0, q1, qP, va_K.moved (u := U) (U := U.calling g mk a) (Vm.Alike.refl U.vm) qK, qD, qN.calling⟩, va_recv hKc hPc (ci := 3) (q0 := 0) rfl rfl, fun U hU hW => ⟨rfl, by rw [hU], by rw [hU]; exact hPc, va_K.moved hW.alike hKc, hDc.weaken (fun _ _ _ _ => trivial), hN.warm hW⟩⟩ rfl rfl hl.1 rfl (lv_room (Nat.le_of_ble_eq_true rfl)) d_Sh_form_155 ⟨Nat.le_of_ble_eq_true rfl, Nat.le_of_ble_eq_true rfl⟩) hS (fun q _ h => hFc q h) hFc (fun u t H1 locs ht hvm w155_53 hB hz1 hk1 hS => ?_)
                      obtain ⟨sg_49, ba_50, lo_51, f_52, n_53⟩ := u
                      obtain ⟨hP1, hK1, hD1⟩ := hB
                      rw [ht] at hP1
                      try dsimp only at w155_53
                      obtain ⟨w155_53, w155_53b, w155_53c, w155_53d⟩ := w155_53
                      obtain ⟨hP, hD⟩ := va_join (wr := [(g, .inr (0, [.ref ra])), (ra, .inl (cI, 31, .inl row))]) (w1 := [(sa, .inr (3, [.ref h, .ref g, .ref la, .int sg_49, .int ba_50])), (h, .inr (2, [.ref a, .int n_53])), (a, .inl (cC, 160, .inl f_52)), (la, .inl (cI, 64, .inl lo_51)), (vV, .inr (4, [.ref wV, .int decV, .int belV, .long ahV, .long bhV])), (wV, .inr (2, [.ref waV, .int nV])), (waV, .inl (cC, 60, .inl fV)), (fi, .inr (1, [.int mi, .int pl, .int ze, .int sh, .int bl, .int sw, .int sp, .int wi, .int pr, .int le, .int so, .int nx]))]) hP hD [0, 8, 9, 3, 4, 5, 6, 7] [1, 2] rfl rfl (by decide) (by decide) hk1 hFc hP1 hD1
                      generalize H1 = H at hP hS ⊢
                      have hP : va_P (dC, dI) CL [(g, .inr (0, [.ref ra])), (ra, .inl (cI, 31, .inl row)), (sa, .inr (3, [.ref h, .ref g, .ref la, .int sg_49, .int ba_50])), (h, .inr (2, [.ref a, .int n_53])), (a, .inl (cC, 160, .inl f_52)), (la, .inl (cI, 64, .inl lo_51)), (vV, .inr (4, [.ref wV, .int decV, .int belV, .long ahV, .long bhV])), (wV, .inr (2, [.ref waV, .int nV])), (waV, .inl (cC, 60, .inl fV)), (fi, .inr (1, [.int mi, .int pl, .int ze, .int sh, .int bl, .int sw, .int sp, .int wi, .int pr, .int le, .int so, .int nx]))] H := hP
                      have hD : va_D A [(g, .inr (0, [.ref ra])), (ra, .inl (cI, 31, .inl row)), (sa, .inr (3, [.ref h, .ref g, .ref la, .int sg_49, .int ba_50])), (h, .inr (2, [.ref a, .int n_53])), (a, .inl (cC, 160, .inl f_52)), (la, .inl (cI, 64, .inl lo_51)), (vV, .inr (4, [.ref wV, .int decV, .int belV, .long ahV, .long bhV])), (wV, .inr (2, [.ref waV, .int nV])), (waV, .inl (cC, 60, .inl fV)), (fi, .inr (1, [.int mi, .int pl, .int ze, .int sh, .int bl, .int sw, .int sp, .int wi, .int pr, .int le, .int so, .int nx]))] := hD
                      refine lv_goto (tgt := 238) hx hb d_Sh_form_158 (by decide) ?_
                      have hP9 := hP.sub (ws' := [(sa, .inr (3, [.ref h, .ref g, .ref la, .int sg_49, .int ba_50])), (h, .inr (2, [.ref a, .int n_53])), (a, .inl (cC, 160, .inl f_52)), (g, .inr (0, [.ref ra])), (ra, .inl (cI, 31, .inl row)), (la, .inl (cI, 64, .inl lo_51)), (vV, .inr (4, [.ref wV, .int decV, .int belV, .long ahV, .long bhV])), (wV, .inr (2, [.ref waV, .int nV])), (waV, .inl (cC, 60, .inl fV)), (fi, .inr (1, [.int mi, .int pl, .int ze, .int sh, .int bl, .int sw, .int sp, .int wi, .int pr, .int le, .int so, .int nx]))]) [2, 3, 4, 0, 1, 5, 6, 7, 8, 9] rfl
                      have hD9 := hD.sub (ws' := [(sa, .inr (3, [.ref h, .ref g, .ref la, .int sg_49, .int ba_50])), (h, .inr (2, [.ref a, .int n_53])), (a, .inl (cC, 160, .inl f_52)), (g, .inr (0, [.ref ra])), (ra, .inl (cI, 31, .inl row)), (la, .inl (cI, 64, .inl lo_51)), (vV, .inr (4, [.ref wV, .int decV, .int belV, .long ahV, .long bhV])), (wV, .inr (2, [.ref waV, .int nV])), (waV, .inl (cC, 60, .inl fV)), (fi, .inr (1, [.int mi, .int pl, .int ze, .int sh, .int bl, .int sw, .int sp, .int wi, .int pr, .int le, .int so, .int nx]))]) [2, 3, 4, 0, 1, 5, 6, 7, 8, 9] (by decide) rfl
                      have hK9 := hK.sub (tys' := [(cC, .char), (cI, .int)]) [0, 1] rfl
                      have hq9 : sg_49 = foSign le belV ahV pl bl ∧ ba_50 = foBase le sh ∧ (f_52, n_53) = foLine le decV belV ahV bhV fV nV pr sh row lo f ∧ lnOK 160 n_53 := by
                        refine ⟨?_, ?_, ?_, w155_53d⟩
                        · rw [foSign, foPick, if_neg k21_1, if_neg k21_6, if_neg k21_11, if_neg k21_17, if_neg k21_23, if_neg k21_27, if_neg k21_33, if_neg k21_38, if_neg k21_43, if_pos k21_48]; exact w155_53
                        · rw [foBase, foPick, if_neg k21_1, if_neg k21_6, if_neg k21_11, if_neg k21_17, if_neg k21_23, if_neg k21_27, if_neg k21_33, if_neg k21_38, if_neg k21_43, if_pos k21_48]; exact w155_53b
                        · rw [foLine, foPick, if_neg k21_1, if_neg k21_6, if_neg k21_11, if_neg k21_17, if_neg k21_23, if_neg k21_27, if_neg k21_33, if_neg k21_38, if_neg k21_43, if_pos k21_48]; exact w155_53c
                      exact W.vret hx hb hr (fun t ht hW => ⟨⟨(sg_49, ba_50, row, lo_51, f_52, n_53), rfl, hq9, by rw [ht]; exact hP9, va_K.moved hW.alike hK9, hD9⟩, hS.F ht⟩) hS.2.2 d_Sh_form_238
                    · skip
                      by_cases k21_54 : le = 113
                      · refine lv_lookup (off := 177) (tgt := 198) hx hb d_Sh_form_21 (by decide) (by rw [k21_54]; rfl) (by decide) ?_
                        refine lv_aload_n hx hb d_Sh_form_198 rfl (lv_at hl 0 rfl) ?_
                        refine lv_aload_n hx hb d_Sh_form_199 rfl (lv_at hl 1 rfl) ?_
                        refine lv_aload_n hx hb d_Sh_form_200 rfl (lv_at hl 2 rfl) ?_
                        have hPc := hP.sub (ws' := [(sa, .inr (3, [.ref h, .ref g, .ref la, .int (-1), .int (-1)])), (h, .inr (2, [.ref a, .int 0])), (a, .inl (cC, 160, .inl f)), (vV, .inr (4, [.ref wV, .int decV, .int belV, .long ahV, .long bhV])), (wV, .inr (2, [.ref waV, .int nV])), (waV, .inl (cC, 60, .inl fV)), (fi, .inr (1, [.int mi, .int pl, .int ze, .int sh, .int bl, .int sw, .int sp, .int wi, .int pr, .int le, .int so, .int nx]))]) [0, 8, 9, 4, 5, 6, 7] rfl
                        have hDc := hD.sub (ws' := [(sa, .inr (3, [.ref h, .ref g, .ref la, .int (-1), .int (-1)])), (h, .inr (2, [.ref a, .int 0])), (a, .inl (cC, 160, .inl f)), (vV, .inr (4, [.ref wV, .int decV, .int belV, .long ahV, .long bhV])), (wV, .inr (2, [.ref waV, .int nV])), (waV, .inl (cC, 60, .inl fV)), (fi, .inr (1, [.int mi, .int pl, .int ze, .int sh, .int bl, .int sw, .int sp, .int wi, .int pr, .int le, .int so, .int nx]))]) [0, 8, 9, 4, 5, 6, 7] (by decide) rfl
                        have hKc := hK.sub (tys' := [(cC, .char)]) [0] rfl
                        have hFc := va_free (wc := [(sa, .inr (3, [.ref h, .ref g, .ref la, .int (-1), .int (-1)])), (h, .inr (2, [.ref a, .int 0])), (a, .inl (cC, 160, .inl f)), (vV, .inr (4, [.ref wV, .int decV, .int belV, .long ahV, .long bhV])), (wV, .inr (2, [.ref waV, .int nV])), (waV, .inl (cC, 60, .inl fV)), (fi, .inr (1, [.int mi, .int pl, .int ze, .int sh, .int bl, .int sw, .int sp, .int wi, .int pr, .int le, .int so, .int nx]))]) hD hS hA [0, 8, 9, 4, 5, 6, 7] rfl
                        refine va_callv (va_runV (As := [.ref vV, .ref fi]) (rest := []) ⟨hx, hb, hml, hown, hT⟩ (c_Shape_formQuoted l dC dI H.size cC sa h g la (-1) (-1) a f 0 vV wV waV decV belV ahV bhV fV nV fi mi pl ze sh bl sw sp wi pr le so nx (⟨by decide, by decide, by decide⟩) hnV) (cwV 2 hT g_Sh_60 rfl rfl rfl (by decide +kernel) ⟨Nat.le_of_ble_eq_true rfl, Nat.le_of_ble_eq_true rfl⟩) ⟨fun a U g mk q => by obtain ⟨q0, q1, qP, qK, qD, qN⟩ := q; exact ⟨q0, q1, qP, va_K.moved (u := U) (U := U.calling g mk a) (Vm.Alike.refl U.vm) qK, qD, qN.calling⟩, va_recv hKc hPc (ci := 3) (q0 := 0) rfl rfl, fun U hU hW => ⟨rfl, by rw [hU], by rw [hU]; exact hPc, va_K.moved hW.alike hKc, hDc.weaken (fun _ _ _ _ => trivial), hN.warm hW⟩⟩ rfl rfl hl.1 rfl (lv_room (Nat.le_of_ble_eq_true rfl)) d_Sh_form_201 ⟨Nat.le_of_ble_eq_true rfl, Nat.le_of_ble_eq_true rfl⟩) hS (fun q _ h => hFc q h) hFc (fun u t H1 locs ht hvm w201_56 hB hz1 hk1 hS => ?_)
                        obtain ⟨f_55, n_56⟩ := u
                        obtain ⟨hP1, hK1, hD1⟩ := hB
                        rw [ht] at hP1
                        try dsimp only at w201_56
                        obtain ⟨w201_56, w201_56b⟩ := w201_56
                        obtain ⟨hP, hD⟩ := va_join (wr := [(g, .inr (0, [.ref ra])), (ra, .inl (cI, 31, .inl row)), (la, .inl (cI, 64, .inl lo))]) (w1 := [(sa, .inr (3, [.ref h, .ref g, .ref la, .int (-1), .int (-1)])), (h, .inr (2, [.ref a, .int n_56])), (a, .inl (cC, 160, .inl f_55)), (vV, .inr (4, [.ref wV, .int decV, .int belV, .long ahV, .long bhV])), (wV, .inr (2, [.ref waV, .int nV])), (waV, .inl (cC, 60, .inl fV)), (fi, .inr (1, [.int mi, .int pl, .int ze, .int sh, .int bl, .int sw, .int sp, .int wi, .int pr, .int le, .int so, .int nx]))]) hP hD [0, 8, 9, 4, 5, 6, 7] [1, 2, 3] rfl rfl (by decide) (by decide) hk1 hFc hP1 hD1
                        generalize H1 = H at hP hS ⊢
                        have hP : va_P (dC, dI) CL [(g, .inr (0, [.ref ra])), (ra, .inl (cI, 31, .inl row)), (la, .inl (cI, 64, .inl lo)), (sa, .inr (3, [.ref h, .ref g, .ref la, .int (-1), .int (-1)])), (h, .inr (2, [.ref a, .int n_56])), (a, .inl (cC, 160, .inl f_55)), (vV, .inr (4, [.ref wV, .int decV, .int belV, .long ahV, .long bhV])), (wV, .inr (2, [.ref waV, .int nV])), (waV, .inl (cC, 60, .inl fV)), (fi, .inr (1, [.int mi, .int pl, .int ze, .int sh, .int bl, .int sw, .int sp, .int wi, .int pr, .int le, .int so, .int nx]))] H := hP
                        have hD : va_D A [(g, .inr (0, [.ref ra])), (ra, .inl (cI, 31, .inl row)), (la, .inl (cI, 64, .inl lo)), (sa, .inr (3, [.ref h, .ref g, .ref la, .int (-1), .int (-1)])), (h, .inr (2, [.ref a, .int n_56])), (a, .inl (cC, 160, .inl f_55)), (vV, .inr (4, [.ref wV, .int decV, .int belV, .long ahV, .long bhV])), (wV, .inr (2, [.ref waV, .int nV])), (waV, .inl (cC, 60, .inl fV)), (fi, .inr (1, [.int mi, .int pl, .int ze, .int sh, .int bl, .int sw, .int sp, .int wi, .int pr, .int le, .int so, .int nx]))] := hD
                        refine lv_goto (tgt := 238) hx hb d_Sh_form_204 (by decide) ?_
                        have hP9 := hP.sub (ws' := [(sa, .inr (3, [.ref h, .ref g, .ref la, .int (-1), .int (-1)])), (h, .inr (2, [.ref a, .int n_56])), (a, .inl (cC, 160, .inl f_55)), (g, .inr (0, [.ref ra])), (ra, .inl (cI, 31, .inl row)), (la, .inl (cI, 64, .inl lo)), (vV, .inr (4, [.ref wV, .int decV, .int belV, .long ahV, .long bhV])), (wV, .inr (2, [.ref waV, .int nV])), (waV, .inl (cC, 60, .inl fV)), (fi, .inr (1, [.int mi, .int pl, .int ze, .int sh, .int bl, .int sw, .int sp, .int wi, .int pr, .int le, .int so, .int nx]))]) [3, 4, 5, 0, 1, 2, 6, 7, 8, 9] rfl
                        have hD9 := hD.sub (ws' := [(sa, .inr (3, [.ref h, .ref g, .ref la, .int (-1), .int (-1)])), (h, .inr (2, [.ref a, .int n_56])), (a, .inl (cC, 160, .inl f_55)), (g, .inr (0, [.ref ra])), (ra, .inl (cI, 31, .inl row)), (la, .inl (cI, 64, .inl lo)), (vV, .inr (4, [.ref wV, .int decV, .int belV, .long ahV, .long bhV])), (wV, .inr (2, [.ref waV, .int nV])), (waV, .inl (cC, 60, .inl fV)), (fi, .inr (1, [.int mi, .int pl, .int ze, .int sh, .int bl, .int sw, .int sp, .int wi, .int pr, .int le, .int so, .int nx]))]) [3, 4, 5, 0, 1, 2, 6, 7, 8, 9] (by decide) rfl
                        have hK9 := hK.sub (tys' := [(cC, .char), (cI, .int)]) [0, 1] rfl
                        have hq9 : (-1 : Int32) = foSign le belV ahV pl bl ∧ (-1 : Int32) = foBase le sh ∧ (f_55, n_56) = foLine le decV belV ahV bhV fV nV pr sh row lo f ∧ lnOK 160 n_56 := by
                          refine ⟨?_, ?_, ?_, w201_56b⟩
                          · rw [foSign, foPick, if_neg k21_1, if_neg k21_6, if_neg k21_11, if_neg k21_17, if_neg k21_23, if_neg k21_27, if_neg k21_33, if_neg k21_38, if_neg k21_43, if_neg k21_48, if_pos k21_54]
                          · rw [foBase, foPick, if_neg k21_1, if_neg k21_6, if_neg k21_11, if_neg k21_17, if_neg k21_23, if_neg k21_27, if_neg k21_33, if_neg k21_38, if_neg k21_43, if_neg k21_48, if_pos k21_54]
                          · rw [foLine, foPick, if_neg k21_1, if_neg k21_6, if_neg k21_11, if_neg k21_17, if_neg k21_23, if_neg k21_27, if_neg k21_33, if_neg k21_38, if_neg k21_43, if_neg k21_48, if_pos k21_54]; exact w201_56
                        exact W.vret hx hb hr (fun t ht hW => ⟨⟨((-1), (-1), row, lo, f_55, n_56), rfl, hq9, by rw [ht]; exact hP9, va_K.moved hW.alike hK9, hD9⟩, hS.F ht⟩) hS.2.2 d_Sh_form_238
                      · skip
                        by_cases k21_57 : le = 120
                        · refine lv_lookup (off := 118) (tgt := 139) hx hb d_Sh_form_21 (by decide) (by rw [k21_57]; rfl) (by decide) ?_
                          refine lv_aload_n hx hb d_Sh_form_139 rfl (lv_at hl 0 rfl) ?_
                          refine lv_aload_n hx hb d_Sh_form_140 rfl (lv_at hl 1 rfl) ?_
                          refine lv_aload_n hx hb d_Sh_form_141 rfl (lv_at hl 2 rfl) ?_
                          refine lv_bipush (v := 16) hx hb d_Sh_form_142 (by decide) ?_
                          have hPc := hP.sub (ws' := [(sa, .inr (3, [.ref h, .ref g, .ref la, .int (-1), .int (-1)])), (h, .inr (2, [.ref a, .int 0])), (a, .inl (cC, 160, .inl f)), (la, .inl (cI, 64, .inl lo)), (vV, .inr (4, [.ref wV, .int decV, .int belV, .long ahV, .long bhV])), (wV, .inr (2, [.ref waV, .int nV])), (waV, .inl (cC, 60, .inl fV)), (fi, .inr (1, [.int mi, .int pl, .int ze, .int sh, .int bl, .int sw, .int sp, .int wi, .int pr, .int le, .int so, .int nx]))]) [0, 8, 9, 3, 4, 5, 6, 7] rfl
                          have hDc := hD.sub (ws' := [(sa, .inr (3, [.ref h, .ref g, .ref la, .int (-1), .int (-1)])), (h, .inr (2, [.ref a, .int 0])), (a, .inl (cC, 160, .inl f)), (la, .inl (cI, 64, .inl lo)), (vV, .inr (4, [.ref wV, .int decV, .int belV, .long ahV, .long bhV])), (wV, .inr (2, [.ref waV, .int nV])), (waV, .inl (cC, 60, .inl fV)), (fi, .inr (1, [.int mi, .int pl, .int ze, .int sh, .int bl, .int sw, .int sp, .int wi, .int pr, .int le, .int so, .int nx]))]) [0, 8, 9, 3, 4, 5, 6, 7] (by decide) rfl
                          have hKc := hK.sub (tys' := [(cC, .char), (cI, .int)]) [0, 1] rfl
                          have hFc := va_free (wc := [(sa, .inr (3, [.ref h, .ref g, .ref la, .int (-1), .int (-1)])), (h, .inr (2, [.ref a, .int 0])), (a, .inl (cC, 160, .inl f)), (la, .inl (cI, 64, .inl lo)), (vV, .inr (4, [.ref wV, .int decV, .int belV, .long ahV, .long bhV])), (wV, .inr (2, [.ref waV, .int nV])), (waV, .inl (cC, 60, .inl fV)), (fi, .inr (1, [.int mi, .int pl, .int ze, .int sh, .int bl, .int sw, .int sp, .int wi, .int pr, .int le, .int so, .int nx]))]) hD hS hA [0, 8, 9, 3, 4, 5, 6, 7] rfl
                          refine va_callv (va_runV (As := [.ref vV, .ref fi, .int 16]) (rest := []) ⟨hx, hb, hml, hown, hT⟩ (c_Shape_formWhole l dC dI H.size cC cI sa h g la (-1) (-1) a f 0 lo vV wV waV decV belV ahV bhV fV nV fi mi pl ze sh bl sw sp wi pr le so nx 16 (⟨by decide, by decide, by decide⟩) (by decide)) (cwV 3 hT g_Sh_46 rfl rfl rfl (by decide +kernel) ⟨Nat.le_of_ble_eq_true rfl, Nat.le_of_ble_eq_true rfl⟩) ⟨fun a U g mk q => by obtain ⟨q0, q1, qP, qK, qD, qN⟩ := q; exact ⟨q0, q1, qP, va_K.moved (u := U) (U := U.calling g mk a) (Vm.Alike.refl U.vm) qK, qD, qN.calling⟩, va_recv hKc hPc (ci := 3) (q0 := 0) rfl rfl, fun U hU hW => ⟨rfl, by rw [hU], by rw [hU]; exact hPc, va_K.moved hW.alike hKc, hDc.weaken (fun _ _ _ _ => trivial), hN.warm hW⟩⟩ rfl rfl hl.1 rfl (lv_room (Nat.le_of_ble_eq_true rfl)) d_Sh_form_144 ⟨Nat.le_of_ble_eq_true rfl, Nat.le_of_ble_eq_true rfl⟩) hS (fun q _ h => hFc q h) hFc (fun u t H1 locs ht hvm w144_62 hB hz1 hk1 hS => ?_)
                          obtain ⟨sg_58, ba_59, lo_60, f_61, n_62⟩ := u
                          obtain ⟨hP1, hK1, hD1⟩ := hB
                          rw [ht] at hP1
                          try dsimp only at w144_62
                          obtain ⟨w144_62, w144_62b, w144_62c, w144_62d⟩ := w144_62
                          obtain ⟨hP, hD⟩ := va_join (wr := [(g, .inr (0, [.ref ra])), (ra, .inl (cI, 31, .inl row))]) (w1 := [(sa, .inr (3, [.ref h, .ref g, .ref la, .int sg_58, .int ba_59])), (h, .inr (2, [.ref a, .int n_62])), (a, .inl (cC, 160, .inl f_61)), (la, .inl (cI, 64, .inl lo_60)), (vV, .inr (4, [.ref wV, .int decV, .int belV, .long ahV, .long bhV])), (wV, .inr (2, [.ref waV, .int nV])), (waV, .inl (cC, 60, .inl fV)), (fi, .inr (1, [.int mi, .int pl, .int ze, .int sh, .int bl, .int sw, .int sp, .int wi, .int pr, .int le, .int so, .int nx]))]) hP hD [0, 8, 9, 3, 4, 5, 6, 7] [1, 2] rfl rfl (by decide) (by decide) hk1 hFc hP1 hD1
                          generalize H1 = H at hP hS ⊢
                          have hP : va_P (dC, dI) CL [(g, .inr (0, [.ref ra])), (ra, .inl (cI, 31, .inl row)), (sa, .inr (3, [.ref h, .ref g, .ref la, .int sg_58, .int ba_59])), (h, .inr (2, [.ref a, .int n_62])), (a, .inl (cC, 160, .inl f_61)), (la, .inl (cI, 64, .inl lo_60)), (vV, .inr (4, [.ref wV, .int decV, .int belV, .long ahV, .long bhV])), (wV, .inr (2, [.ref waV, .int nV])), (waV, .inl (cC, 60, .inl fV)), (fi, .inr (1, [.int mi, .int pl, .int ze, .int sh, .int bl, .int sw, .int sp, .int wi, .int pr, .int le, .int so, .int nx]))] H := hP
                          have hD : va_D A [(g, .inr (0, [.ref ra])), (ra, .inl (cI, 31, .inl row)), (sa, .inr (3, [.ref h, .ref g, .ref la, .int sg_58, .int ba_59])), (h, .inr (2, [.ref a, .int n_62])), (a, .inl (cC, 160, .inl f_61)), (la, .inl (cI, 64, .inl lo_60)), (vV, .inr (4, [.ref wV, .int decV, .int belV, .long ahV, .long bhV])), (wV, .inr (2, [.ref waV, .int nV])), (waV, .inl (cC, 60, .inl fV)), (fi, .inr (1, [.int mi, .int pl, .int ze, .int sh, .int bl, .int sw, .int sp, .int wi, .int pr, .int le, .int so, .int nx]))] := hD
                          refine lv_goto (tgt := 238) hx hb d_Sh_form_147 (by decide) ?_
                          have hP9 := hP.sub (ws' := [(sa, .inr (3, [.ref h, .ref g, .ref la, .int sg_58, .int ba_59])), (h, .inr (2, [.ref a, .int n_62])), (a, .inl (cC, 160, .inl f_61)), (g, .inr (0, [.ref ra])), (ra, .inl (cI, 31, .inl row)), (la, .inl (cI, 64, .inl lo_60)), (vV, .inr (4, [.ref wV, .int decV, .int belV, .long ahV, .long bhV])), (wV, .inr (2, [.ref waV, .int nV])), (waV, .inl (cC, 60, .inl fV)), (fi, .inr (1, [.int mi, .int pl, .int ze, .int sh, .int bl, .int sw, .int sp, .int wi, .int pr, .int le, .int so, .int nx]))]) [2, 3, 4, 0, 1, 5, 6, 7, 8, 9] rfl
                          have hD9 := hD.sub (ws' := [(sa, .inr (3, [.ref h, .ref g, .ref la, .int sg_58, .int ba_59])), (h, .inr (2, [.ref a, .int n_62])), (a, .inl (cC, 160, .inl f_61)), (g, .inr (0, [.ref ra])), (ra, .inl (cI, 31, .inl row)), (la, .inl (cI, 64, .inl lo_60)), (vV, .inr (4, [.ref wV, .int decV, .int belV, .long ahV, .long bhV])), (wV, .inr (2, [.ref waV, .int nV])), (waV, .inl (cC, 60, .inl fV)), (fi, .inr (1, [.int mi, .int pl, .int ze, .int sh, .int bl, .int sw, .int sp, .int wi, .int pr, .int le, .int so, .int nx]))]) [2, 3, 4, 0, 1, 5, 6, 7, 8, 9] (by decide) rfl
                          have hK9 := hK.sub (tys' := [(cC, .char), (cI, .int)]) [0, 1] rfl
                          have hq9 : sg_58 = foSign le belV ahV pl bl ∧ ba_59 = foBase le sh ∧ (f_61, n_62) = foLine le decV belV ahV bhV fV nV pr sh row lo f ∧ lnOK 160 n_62 := by
                            refine ⟨?_, ?_, ?_, w144_62d⟩
                            · rw [foSign, foPick, if_neg k21_1, if_neg k21_6, if_neg k21_11, if_neg k21_17, if_neg k21_23, if_neg k21_27, if_neg k21_33, if_neg k21_38, if_neg k21_43, if_neg k21_48, if_neg k21_54, if_pos k21_57]; exact w144_62
                            · rw [foBase, foPick, if_neg k21_1, if_neg k21_6, if_neg k21_11, if_neg k21_17, if_neg k21_23, if_neg k21_27, if_neg k21_33, if_neg k21_38, if_neg k21_43, if_neg k21_48, if_neg k21_54, if_pos k21_57]; exact w144_62b
                            · rw [foLine, foPick, if_neg k21_1, if_neg k21_6, if_neg k21_11, if_neg k21_17, if_neg k21_23, if_neg k21_27, if_neg k21_33, if_neg k21_38, if_neg k21_43, if_neg k21_48, if_neg k21_54, if_pos k21_57]; exact w144_62c
                          exact W.vret hx hb hr (fun t ht hW => ⟨⟨(sg_58, ba_59, row, lo_60, f_61, n_62), rfl, hq9, by rw [ht]; exact hP9, va_K.moved hW.alike hK9, hD9⟩, hS.F ht⟩) hS.2.2 d_Sh_form_238
                        · skip
                          refine lv_lookup (off := 200) (tgt := 221) hx hb d_Sh_form_21 (by decide) (by show Op.lookupswitch.offset [(69, 159), (71, 168), (88, 118), (98, 140), (99, 186), (100, 107), (101, 159), (102, 150), (103, 168), (111, 129), (113, 177), (120, 118)] 200 le.toInt = _; rw [lv_osw (a := 69) k21_1 (by decide), lv_osw (a := 71) k21_6 (by decide), lv_osw (a := 88) k21_11 (by decide), lv_osw (a := 98) k21_17 (by decide), lv_osw (a := 99) k21_23 (by decide), lv_osw (a := 100) k21_27 (by decide), lv_osw (a := 101) k21_33 (by decide), lv_osw (a := 102) k21_38 (by decide), lv_osw (a := 103) k21_43 (by decide), lv_osw (a := 111) k21_48 (by decide), lv_osw (a := 113) k21_54 (by decide), lv_osw (a := 120) k21_57 (by decide)]; rfl) (by decide) ?_
                          refine lv_aload_n hx hb d_Sh_form_221 rfl (lv_at hl 0 rfl) ?_
                          refine va_get (D := (dC, dI)) (ci := 3) (v := .ref h) (C := R_Sh) (T := F_Sh) (N := 5) hx hb hT (in_Sh) hown hK hP 0 rfl rfl 0 (by decide) (hT _ t_141) (fun _ h9 => h9) rfl d_Sh_form_222 ?_
                          refine lv_aload_n hx hb d_Sh_form_225 rfl (lv_at hl 1 rfl) ?_
                          refine va_getN (D := (dC, dI)) (ci := 4) (v := .ref wV) (C := R_Va) (T := F_Va) (N := 5) hx hb hT (in_Va) hown hK hP 4 rfl rfl 0 (by decide) (va_Nw.use rfl (kN_50 hN)) (fun _ h9 => h9) rfl d_Sh_form_226 ?_
                          refine lv_iconst (v := 0) hx hb d_Sh_form_229 (by decide) ?_
                          refine lv_aload_n hx hb d_Sh_form_230 rfl (lv_at hl 1 rfl) ?_
                          refine lv_aload_n hx hb d_Sh_form_231 rfl (lv_at hl 2 rfl) ?_
                          have hPc := hP.sub (ws' := [(vV, .inr (4, [.ref wV, .int decV, .int belV, .long ahV, .long bhV])), (wV, .inr (2, [.ref waV, .int nV])), (waV, .inl (cC, 60, .inl fV)), (fi, .inr (1, [.int mi, .int pl, .int ze, .int sh, .int bl, .int sw, .int sp, .int wi, .int pr, .int le, .int so, .int nx]))]) [4, 5, 6, 7] rfl
                          have hDc := hD.sub (ws' := [(vV, .inr (4, [.ref wV, .int decV, .int belV, .long ahV, .long bhV])), (wV, .inr (2, [.ref waV, .int nV])), (waV, .inl (cC, 60, .inl fV)), (fi, .inr (1, [.int mi, .int pl, .int ze, .int sh, .int bl, .int sw, .int sp, .int wi, .int pr, .int le, .int so, .int nx]))]) [4, 5, 6, 7] (by decide) rfl
                          have hKc := hK.sub (tys' := [(cC, .char)]) [0] rfl
                          have hFc := va_free (wc := [(vV, .inr (4, [.ref wV, .int decV, .int belV, .long ahV, .long bhV])), (wV, .inr (2, [.ref waV, .int nV])), (waV, .inl (cC, 60, .inl fV)), (fi, .inr (1, [.int mi, .int pl, .int ze, .int sh, .int bl, .int sw, .int sp, .int wi, .int pr, .int le, .int so, .int nx]))]) hD hS hA [4, 5, 6, 7] rfl
                          refine va_calli (va_runS (As := [.ref vV, .ref fi]) (rest := [.int 0, .ref wV, .ref h]) ⟨hx, hb, hml, hown, hT⟩ (c_Shape_cutLength l dC dI H.size cC vV wV waV decV belV ahV bhV fV nV fi mi pl ze sh bl sw sp wi pr le so nx ) (cwS 2 hT g_Sh_75 rfl rfl rfl (by decide +kernel) ⟨Nat.le_of_ble_eq_true rfl, Nat.le_of_ble_eq_true rfl⟩) ⟨fun a U g mk q => by obtain ⟨q0, q1, qP, qK, qD, qN⟩ := q; exact ⟨q0, q1, qP, va_K.moved (u := U) (U := U.calling g mk a) (Vm.Alike.refl U.vm) qK, qD, qN.calling⟩, fun U hU hW => ⟨rfl, by rw [hU], by rw [hU]; exact hPc, va_K.moved hW.alike hKc, hDc.weaken (fun _ _ _ _ => trivial), hN.warm hW⟩⟩ rfl rfl hl.1 rfl (lv_room (Nat.le_of_ble_eq_true rfl)) d_Sh_form_232 ⟨Nat.le_of_ble_eq_true rfl, Nat.le_of_ble_eq_true rfl⟩) hS (fun q _ h => hFc q h) hFc (fun x63 u t H1 locs ht hvm w232_63 hB hz1 hk1 hS => ?_)
                          obtain ⟨hP1, hK1, hD1⟩ := hB
                          rw [ht] at hP1
                          try dsimp only at w232_63
                          obtain ⟨hP, hD⟩ := va_join (wr := [(sa, .inr (3, [.ref h, .ref g, .ref la, .int (-1), .int (-1)])), (g, .inr (0, [.ref ra])), (ra, .inl (cI, 31, .inl row)), (la, .inl (cI, 64, .inl lo)), (h, .inr (2, [.ref a, .int 0])), (a, .inl (cC, 160, .inl f))]) (w1 := [(vV, .inr (4, [.ref wV, .int decV, .int belV, .long ahV, .long bhV])), (wV, .inr (2, [.ref waV, .int nV])), (waV, .inl (cC, 60, .inl fV)), (fi, .inr (1, [.int mi, .int pl, .int ze, .int sh, .int bl, .int sw, .int sp, .int wi, .int pr, .int le, .int so, .int nx]))]) hP hD [4, 5, 6, 7] [0, 1, 2, 3, 8, 9] rfl rfl (by decide) (by decide) hk1 hFc hP1 hD1
                          generalize H1 = H at hP hS ⊢
                          have hP : va_P (dC, dI) CL [(sa, .inr (3, [.ref h, .ref g, .ref la, .int (-1), .int (-1)])), (g, .inr (0, [.ref ra])), (ra, .inl (cI, 31, .inl row)), (la, .inl (cI, 64, .inl lo)), (h, .inr (2, [.ref a, .int 0])), (a, .inl (cC, 160, .inl f)), (vV, .inr (4, [.ref wV, .int decV, .int belV, .long ahV, .long bhV])), (wV, .inr (2, [.ref waV, .int nV])), (waV, .inl (cC, 60, .inl fV)), (fi, .inr (1, [.int mi, .int pl, .int ze, .int sh, .int bl, .int sw, .int sp, .int wi, .int pr, .int le, .int so, .int nx]))] H := hP
                          have hD : va_D A [(sa, .inr (3, [.ref h, .ref g, .ref la, .int (-1), .int (-1)])), (g, .inr (0, [.ref ra])), (ra, .inl (cI, 31, .inl row)), (la, .inl (cI, 64, .inl lo)), (h, .inr (2, [.ref a, .int 0])), (a, .inl (cC, 160, .inl f)), (vV, .inr (4, [.ref wV, .int decV, .int belV, .long ahV, .long bhV])), (wV, .inr (2, [.ref waV, .int nV])), (waV, .inl (cC, 60, .inl fV)), (fi, .inr (1, [.int mi, .int pl, .int ze, .int sh, .int bl, .int sw, .int sp, .int wi, .int pr, .int le, .int so, .int nx]))] := hD
                          have hPc := hP.sub (ws' := [(h, .inr (2, [.ref a, .int 0])), (a, .inl (cC, 160, .inl f)), (wV, .inr (2, [.ref waV, .int nV])), (waV, .inl (cC, 60, .inl fV))]) [4, 5, 7, 8] rfl
                          have hDc := hD.sub (ws' := [(h, .inr (2, [.ref a, .int 0])), (a, .inl (cC, 160, .inl f)), (wV, .inr (2, [.ref waV, .int nV])), (waV, .inl (cC, 60, .inl fV))]) [4, 5, 7, 8] (by decide) rfl
                          have hKc := hK.sub (tys' := [(cC, .char)]) [0] rfl
                          have hFc := va_free (wc := [(h, .inr (2, [.ref a, .int 0])), (a, .inl (cC, 160, .inl f)), (wV, .inr (2, [.ref waV, .int nV])), (waV, .inl (cC, 60, .inl fV))]) hD hS hA [4, 5, 7, 8] rfl
                          refine va_callv (va_runV (As := [.ref wV, .int 0, .int x63]) (rest := []) ⟨hx, hb, hml, hown, hT⟩ (c_Line_addPart l dC dI H.size cC h a 160 f 0 wV waV 60 fV nV 0 x63 (⟨by decide, by decide, by decide⟩) hnV) (cwV 3 hT g_Sh_79 rfl rfl rfl (by decide +kernel) ⟨Nat.le_of_ble_eq_true rfl, Nat.le_of_ble_eq_true rfl⟩) ⟨fun a U g mk q => by obtain ⟨q0, q1, qP, qK, qD⟩ := q; exact ⟨q0, q1, qP, va_K.moved (u := U) (U := U.calling g mk a) (Vm.Alike.refl U.vm) qK, qD⟩, va_recv hKc hPc (ci := 2) (q0 := 0) rfl rfl, fun U hU hW => ⟨rfl, by rw [hU], by rw [hU]; exact hPc, va_K.moved hW.alike hKc, hDc.weaken (fun _ _ _ _ => trivial)⟩⟩ rfl rfl hl.1 rfl (lv_room (Nat.le_of_ble_eq_true rfl)) d_Sh_form_235 ⟨Nat.le_of_ble_eq_true rfl, Nat.le_of_ble_eq_true rfl⟩) hS (fun q _ h => hFc q h) hFc (fun u t H1 locs ht hvm w235_65 hB hz1 hk1 hS => ?_)
                          obtain ⟨f_64, n_65⟩ := u
                          obtain ⟨hP1, hK1, hD1⟩ := hB
                          rw [ht] at hP1
                          try dsimp only at w235_65
                          obtain ⟨w235_65, w235_65b⟩ := w235_65
                          obtain ⟨hP, hD⟩ := va_join (wr := [(sa, .inr (3, [.ref h, .ref g, .ref la, .int (-1), .int (-1)])), (g, .inr (0, [.ref ra])), (ra, .inl (cI, 31, .inl row)), (la, .inl (cI, 64, .inl lo)), (vV, .inr (4, [.ref wV, .int decV, .int belV, .long ahV, .long bhV])), (fi, .inr (1, [.int mi, .int pl, .int ze, .int sh, .int bl, .int sw, .int sp, .int wi, .int pr, .int le, .int so, .int nx]))]) (w1 := [(h, .inr (2, [.ref a, .int n_65])), (a, .inl (cC, 160, .inl f_64)), (wV, .inr (2, [.ref waV, .int nV])), (waV, .inl (cC, 60, .inl fV))]) hP hD [4, 5, 7, 8] [0, 1, 2, 3, 6, 9] rfl rfl (by decide) (by decide) hk1 hFc hP1 hD1
                          generalize H1 = H at hP hS ⊢
                          have hP : va_P (dC, dI) CL [(sa, .inr (3, [.ref h, .ref g, .ref la, .int (-1), .int (-1)])), (g, .inr (0, [.ref ra])), (ra, .inl (cI, 31, .inl row)), (la, .inl (cI, 64, .inl lo)), (vV, .inr (4, [.ref wV, .int decV, .int belV, .long ahV, .long bhV])), (fi, .inr (1, [.int mi, .int pl, .int ze, .int sh, .int bl, .int sw, .int sp, .int wi, .int pr, .int le, .int so, .int nx])), (h, .inr (2, [.ref a, .int n_65])), (a, .inl (cC, 160, .inl f_64)), (wV, .inr (2, [.ref waV, .int nV])), (waV, .inl (cC, 60, .inl fV))] H := hP
                          have hD : va_D A [(sa, .inr (3, [.ref h, .ref g, .ref la, .int (-1), .int (-1)])), (g, .inr (0, [.ref ra])), (ra, .inl (cI, 31, .inl row)), (la, .inl (cI, 64, .inl lo)), (vV, .inr (4, [.ref wV, .int decV, .int belV, .long ahV, .long bhV])), (fi, .inr (1, [.int mi, .int pl, .int ze, .int sh, .int bl, .int sw, .int sp, .int wi, .int pr, .int le, .int so, .int nx])), (h, .inr (2, [.ref a, .int n_65])), (a, .inl (cC, 160, .inl f_64)), (wV, .inr (2, [.ref waV, .int nV])), (waV, .inl (cC, 60, .inl fV))] := hD
                          rw [w232_63] at w235_65
                          have hP9 := hP.sub (ws' := [(sa, .inr (3, [.ref h, .ref g, .ref la, .int (-1), .int (-1)])), (h, .inr (2, [.ref a, .int n_65])), (a, .inl (cC, 160, .inl f_64)), (g, .inr (0, [.ref ra])), (ra, .inl (cI, 31, .inl row)), (la, .inl (cI, 64, .inl lo)), (vV, .inr (4, [.ref wV, .int decV, .int belV, .long ahV, .long bhV])), (wV, .inr (2, [.ref waV, .int nV])), (waV, .inl (cC, 60, .inl fV)), (fi, .inr (1, [.int mi, .int pl, .int ze, .int sh, .int bl, .int sw, .int sp, .int wi, .int pr, .int le, .int so, .int nx]))]) [0, 6, 7, 1, 2, 3, 4, 8, 9, 5] rfl
                          have hD9 := hD.sub (ws' := [(sa, .inr (3, [.ref h, .ref g, .ref la, .int (-1), .int (-1)])), (h, .inr (2, [.ref a, .int n_65])), (a, .inl (cC, 160, .inl f_64)), (g, .inr (0, [.ref ra])), (ra, .inl (cI, 31, .inl row)), (la, .inl (cI, 64, .inl lo)), (vV, .inr (4, [.ref wV, .int decV, .int belV, .long ahV, .long bhV])), (wV, .inr (2, [.ref waV, .int nV])), (waV, .inl (cC, 60, .inl fV)), (fi, .inr (1, [.int mi, .int pl, .int ze, .int sh, .int bl, .int sw, .int sp, .int wi, .int pr, .int le, .int so, .int nx]))]) [0, 6, 7, 1, 2, 3, 4, 8, 9, 5] (by decide) rfl
                          have hK9 := hK.sub (tys' := [(cC, .char), (cI, .int)]) [0, 1] rfl
                          have hq9 : (-1 : Int32) = foSign le belV ahV pl bl ∧ (-1 : Int32) = foBase le sh ∧ (f_64, n_65) = foLine le decV belV ahV bhV fV nV pr sh row lo f ∧ lnOK 160 n_65 := by
                            refine ⟨?_, ?_, ?_, w235_65b⟩
                            · rw [foSign, foPick, if_neg k21_1, if_neg k21_6, if_neg k21_11, if_neg k21_17, if_neg k21_23, if_neg k21_27, if_neg k21_33, if_neg k21_38, if_neg k21_43, if_neg k21_48, if_neg k21_54, if_neg k21_57]
                            · rw [foBase, foPick, if_neg k21_1, if_neg k21_6, if_neg k21_11, if_neg k21_17, if_neg k21_23, if_neg k21_27, if_neg k21_33, if_neg k21_38, if_neg k21_43, if_neg k21_48, if_neg k21_54, if_neg k21_57]
                            · rw [foLine, foPick, if_neg k21_1, if_neg k21_6, if_neg k21_11, if_neg k21_17, if_neg k21_23, if_neg k21_27, if_neg k21_33, if_neg k21_38, if_neg k21_43, if_neg k21_48, if_neg k21_54, if_neg k21_57]; exact w235_65
                          exact W.vret hx hb hr (fun t ht hW => ⟨⟨((-1), (-1), row, lo, f_64, n_65), rfl, hq9, by rw [ht]; exact hP9, va_K.moved hW.alike hK9, hD9⟩, hS.F ht⟩) hS.2.2 d_Sh_form_238
