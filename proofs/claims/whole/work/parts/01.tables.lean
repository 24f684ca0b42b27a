-- ===== PART A: goes FIRST, ahead of the names: the tables' words, and 'selects' of the private methods out of them =====
/-- a private method of a class that the tables say can be made, by its rows of tables_1 -/
def lw_okq (q : MethodName × Nat) : Prop := (q.1.cls ≠ "java/lang/invoke/MethodHandle" ∧ q.1.cls ≠ "java/lang/invoke/VarHandle") ∧ Cond.instantiable q.1.cls q.2 ∈ tables_1 ∧ Cond.privateMethod q.1 ∈ tables_1 ∧ Cond.instanceMethod q.1 ∈ tables_1
theorem lw_p0 : lw_okq (⟨"FormatDesk$Value", "writePlain", "(LFormatDesk$Line;III)V"⟩, 5) := ⟨⟨by decide +kernel, by decide +kernel⟩, List.mem_of_getElem? (i := 42) (by decide +kernel), List.mem_of_getElem? (i := 288) (by decide +kernel), List.mem_of_getElem? (i := 289) (by decide +kernel)⟩
theorem lw_p1 : lw_okq (⟨"java/lang/Throwable", "fillInStackTrace", "(I)Ljava/lang/Throwable;"⟩, 6) := ⟨⟨by decide +kernel, by decide +kernel⟩, List.mem_of_getElem? (i := 335) (by decide +kernel), List.mem_of_getElem? (i := 333) (by decide +kernel), List.mem_of_getElem? (i := 334) (by decide +kernel)⟩
theorem lw_p2 : lw_okq (⟨"FormatDesk", "firstNoField", "()I"⟩, 12) := ⟨⟨by decide +kernel, by decide +kernel⟩, List.mem_of_getElem? (i := 16) (by decide +kernel), List.mem_of_getElem? (i := 388) (by decide +kernel), List.mem_of_getElem? (i := 389) (by decide +kernel)⟩
theorem lw_p3 : lw_okq (⟨"FormatDesk", "startsField", "(I)Z"⟩, 12) := ⟨⟨by decide +kernel, by decide +kernel⟩, List.mem_of_getElem? (i := 16) (by decide +kernel), List.mem_of_getElem? (i := 392) (by decide +kernel), List.mem_of_getElem? (i := 393) (by decide +kernel)⟩
theorem lw_p4 : lw_okq (⟨"FormatDesk", "behindMark", "(I)I"⟩, 12) := ⟨⟨by decide +kernel, by decide +kernel⟩, List.mem_of_getElem? (i := 16) (by decide +kernel), List.mem_of_getElem? (i := 397) (by decide +kernel), List.mem_of_getElem? (i := 398) (by decide +kernel)⟩
theorem lw_p5 : lw_okq (⟨"FormatDesk$Field", "readFlags", "(LFormatDesk$Line;)V"⟩, 12) := ⟨⟨by decide +kernel, by decide +kernel⟩, List.mem_of_getElem? (i := 72) (by decide +kernel), List.mem_of_getElem? (i := 405) (by decide +kernel), List.mem_of_getElem? (i := 406) (by decide +kernel)⟩
theorem lw_p6 : lw_okq (⟨"FormatDesk$Field", "setFlag", "(I)Z"⟩, 12) := ⟨⟨by decide +kernel, by decide +kernel⟩, List.mem_of_getElem? (i := 72) (by decide +kernel), List.mem_of_getElem? (i := 411) (by decide +kernel), List.mem_of_getElem? (i := 412) (by decide +kernel)⟩
theorem lw_p7 : lw_okq (⟨"FormatDesk$Field", "readWidth", "(LFormatDesk$Line;)V"⟩, 12) := ⟨⟨by decide +kernel, by decide +kernel⟩, List.mem_of_getElem? (i := 72) (by decide +kernel), List.mem_of_getElem? (i := 415) (by decide +kernel), List.mem_of_getElem? (i := 416) (by decide +kernel)⟩
theorem lw_p8 : lw_okq (⟨"FormatDesk$Field", "readNumber", "(LFormatDesk$Line;)I"⟩, 12) := ⟨⟨by decide +kernel, by decide +kernel⟩, List.mem_of_getElem? (i := 72) (by decide +kernel), List.mem_of_getElem? (i := 419) (by decide +kernel), List.mem_of_getElem? (i := 420) (by decide +kernel)⟩
theorem lw_p9 : lw_okq (⟨"FormatDesk$Field", "readPrecision", "(LFormatDesk$Line;)V"⟩, 12) := ⟨⟨by decide +kernel, by decide +kernel⟩, List.mem_of_getElem? (i := 72) (by decide +kernel), List.mem_of_getElem? (i := 428) (by decide +kernel), List.mem_of_getElem? (i := 429) (by decide +kernel)⟩
theorem lw_p10 : lw_okq (⟨"FormatDesk", "noteFault", "(II)V"⟩, 12) := ⟨⟨by decide +kernel, by decide +kernel⟩, List.mem_of_getElem? (i := 16) (by decide +kernel), List.mem_of_getElem? (i := 435) (by decide +kernel), List.mem_of_getElem? (i := 436) (by decide +kernel)⟩
theorem lw_p11 : lw_okq (⟨"FormatDesk", "fillPattern", "()V"⟩, 12) := ⟨⟨by decide +kernel, by decide +kernel⟩, List.mem_of_getElem? (i := 16) (by decide +kernel), List.mem_of_getElem? (i := 439) (by decide +kernel), List.mem_of_getElem? (i := 440) (by decide +kernel)⟩
theorem lw_p12 : lw_okq (⟨"FormatDesk", "fillField", "()I"⟩, 12) := ⟨⟨by decide +kernel, by decide +kernel⟩, List.mem_of_getElem? (i := 16) (by decide +kernel), List.mem_of_getElem? (i := 443) (by decide +kernel), List.mem_of_getElem? (i := 444) (by decide +kernel)⟩
theorem lw_p13 : lw_okq (⟨"FormatDesk", "takeStar", "(Z)I"⟩, 12) := ⟨⟨by decide +kernel, by decide +kernel⟩, List.mem_of_getElem? (i := 16) (by decide +kernel), List.mem_of_getElem? (i := 447) (by decide +kernel), List.mem_of_getElem? (i := 448) (by decide +kernel)⟩
theorem lw_p14 : lw_okq (⟨"FormatDesk", "takeNext", "()LFormatDesk$Value;"⟩, 12) := ⟨⟨by decide +kernel, by decide +kernel⟩, List.mem_of_getElem? (i := 16) (by decide +kernel), List.mem_of_getElem? (i := 451) (by decide +kernel), List.mem_of_getElem? (i := 452) (by decide +kernel)⟩
theorem lw_p15 : lw_okq (⟨"FormatDesk$Shape", "formWhole", "(LFormatDesk$Value;LFormatDesk$Field;I)V"⟩, 5) := ⟨⟨by decide +kernel, by decide +kernel⟩, List.mem_of_getElem? (i := 123) (by decide +kernel), List.mem_of_getElem? (i := 491) (by decide +kernel), List.mem_of_getElem? (i := 492) (by decide +kernel)⟩
def lw_privs_1 : List (MethodName × Nat) := [(⟨"FormatDesk$Value", "writePlain", "(LFormatDesk$Line;III)V"⟩, 5), (⟨"java/lang/Throwable", "fillInStackTrace", "(I)Ljava/lang/Throwable;"⟩, 6), (⟨"FormatDesk", "firstNoField", "()I"⟩, 12), (⟨"FormatDesk", "startsField", "(I)Z"⟩, 12), (⟨"FormatDesk", "behindMark", "(I)I"⟩, 12), (⟨"FormatDesk$Field", "readFlags", "(LFormatDesk$Line;)V"⟩, 12), (⟨"FormatDesk$Field", "setFlag", "(I)Z"⟩, 12), (⟨"FormatDesk$Field", "readWidth", "(LFormatDesk$Line;)V"⟩, 12), (⟨"FormatDesk$Field", "readNumber", "(LFormatDesk$Line;)I"⟩, 12), (⟨"FormatDesk$Field", "readPrecision", "(LFormatDesk$Line;)V"⟩, 12), (⟨"FormatDesk", "noteFault", "(II)V"⟩, 12), (⟨"FormatDesk", "fillPattern", "()V"⟩, 12), (⟨"FormatDesk", "fillField", "()I"⟩, 12), (⟨"FormatDesk", "takeStar", "(Z)I"⟩, 12), (⟨"FormatDesk", "takeNext", "()LFormatDesk$Value;"⟩, 12), (⟨"FormatDesk$Shape", "formWhole", "(LFormatDesk$Value;LFormatDesk$Field;I)V"⟩, 5)]
theorem lw_r1 : ∀ q ∈ lw_privs_1, lw_okq q := List.forall_mem_cons.mpr ⟨lw_p0, List.forall_mem_cons.mpr ⟨lw_p1, List.forall_mem_cons.mpr ⟨lw_p2, List.forall_mem_cons.mpr ⟨lw_p3, List.forall_mem_cons.mpr ⟨lw_p4, List.forall_mem_cons.mpr ⟨lw_p5, List.forall_mem_cons.mpr ⟨lw_p6, List.forall_mem_cons.mpr ⟨lw_p7, List.forall_mem_cons.mpr ⟨lw_p8, List.forall_mem_cons.mpr ⟨lw_p9, List.forall_mem_cons.mpr ⟨lw_p10, List.forall_mem_cons.mpr ⟨lw_p11, List.forall_mem_cons.mpr ⟨lw_p12, List.forall_mem_cons.mpr ⟨lw_p13, List.forall_mem_cons.mpr ⟨lw_p14, List.forall_mem_cons.mpr ⟨lw_p15, fun _ h => absurd h List.not_mem_nil⟩⟩⟩⟩⟩⟩⟩⟩⟩⟩⟩⟩⟩⟩⟩⟩
theorem lw_p16 : lw_okq (⟨"FormatDesk$Shape", "splitWhole", "(JI)I"⟩, 5) := ⟨⟨by decide +kernel, by decide +kernel⟩, List.mem_of_getElem? (i := 123) (by decide +kernel), List.mem_of_getElem? (i := 500) (by decide +kernel), List.mem_of_getElem? (i := 501) (by decide +kernel)⟩
theorem lw_p17 : lw_okq (⟨"FormatDesk$Shape", "formPlaces", "(LFormatDesk$Value;LFormatDesk$Field;)V"⟩, 5) := ⟨⟨by decide +kernel, by decide +kernel⟩, List.mem_of_getElem? (i := 123) (by decide +kernel), List.mem_of_getElem? (i := 509) (by decide +kernel), List.mem_of_getElem? (i := 510) (by decide +kernel)⟩
theorem lw_p18 : lw_okq (⟨"FormatDesk$Digits", "goesUp", "(I)Z"⟩, 1) := ⟨⟨by decide +kernel, by decide +kernel⟩, List.mem_of_getElem? (i := 131) (by decide +kernel), List.mem_of_getElem? (i := 526) (by decide +kernel), List.mem_of_getElem? (i := 527) (by decide +kernel)⟩
theorem lw_p19 : lw_okq (⟨"FormatDesk$Digits", "digitAt", "(I)I"⟩, 1) := ⟨⟨by decide +kernel, by decide +kernel⟩, List.mem_of_getElem? (i := 131) (by decide +kernel), List.mem_of_getElem? (i := 539) (by decide +kernel), List.mem_of_getElem? (i := 540) (by decide +kernel)⟩
theorem lw_p20 : lw_okq (⟨"FormatDesk$Shape", "formExponent", "(LFormatDesk$Value;LFormatDesk$Field;)V"⟩, 5) := ⟨⟨by decide +kernel, by decide +kernel⟩, List.mem_of_getElem? (i := 123) (by decide +kernel), List.mem_of_getElem? (i := 544) (by decide +kernel), List.mem_of_getElem? (i := 545) (by decide +kernel)⟩
theorem lw_p21 : lw_okq (⟨"FormatDesk$Shape", "putExponent", "(II)V"⟩, 5) := ⟨⟨by decide +kernel, by decide +kernel⟩, List.mem_of_getElem? (i := 123) (by decide +kernel), List.mem_of_getElem? (i := 553) (by decide +kernel), List.mem_of_getElem? (i := 554) (by decide +kernel)⟩
theorem lw_p22 : lw_okq (⟨"FormatDesk$Shape", "formShorter", "(LFormatDesk$Value;LFormatDesk$Field;)V"⟩, 5) := ⟨⟨by decide +kernel, by decide +kernel⟩, List.mem_of_getElem? (i := 123) (by decide +kernel), List.mem_of_getElem? (i := 558) (by decide +kernel), List.mem_of_getElem? (i := 559) (by decide +kernel)⟩
theorem lw_p23 : lw_okq (⟨"FormatDesk$Shape", "formQuoted", "(LFormatDesk$Value;LFormatDesk$Field;)V"⟩, 5) := ⟨⟨by decide +kernel, by decide +kernel⟩, List.mem_of_getElem? (i := 123) (by decide +kernel), List.mem_of_getElem? (i := 564) (by decide +kernel), List.mem_of_getElem? (i := 565) (by decide +kernel)⟩
theorem lw_p24 : lw_okq (⟨"FormatDesk", "fillMark", "(I)I"⟩, 12) := ⟨⟨by decide +kernel, by decide +kernel⟩, List.mem_of_getElem? (i := 16) (by decide +kernel), List.mem_of_getElem? (i := 588) (by decide +kernel), List.mem_of_getElem? (i := 589) (by decide +kernel)⟩
theorem lw_p25 : lw_okq (⟨"FormatDeskModel", "isDecimal", "(I)Z"⟩, 41) := ⟨⟨by decide +kernel, by decide +kernel⟩, List.mem_of_getElem? (i := 617) (by decide +kernel), List.mem_of_getElem? (i := 765) (by decide +kernel), List.mem_of_getElem? (i := 766) (by decide +kernel)⟩
theorem lw_p26 : lw_okq (⟨"FormatDeskModel", "isSome", "()Z"⟩, 41) := ⟨⟨by decide +kernel, by decide +kernel⟩, List.mem_of_getElem? (i := 617) (by decide +kernel), List.mem_of_getElem? (i := 772) (by decide +kernel), List.mem_of_getElem? (i := 773) (by decide +kernel)⟩
theorem lw_p27 : lw_okq (⟨"FormatDeskModel", "raise", "(I)I"⟩, 41) := ⟨⟨by decide +kernel, by decide +kernel⟩, List.mem_of_getElem? (i := 617) (by decide +kernel), List.mem_of_getElem? (i := 776) (by decide +kernel), List.mem_of_getElem? (i := 777) (by decide +kernel)⟩
theorem lw_p28 : lw_okq (⟨"FormatDeskModel", "isPattern", "()Z"⟩, 41) := ⟨⟨by decide +kernel, by decide +kernel⟩, List.mem_of_getElem? (i := 617) (by decide +kernel), List.mem_of_getElem? (i := 788) (by decide +kernel), List.mem_of_getElem? (i := 789) (by decide +kernel)⟩
theorem lw_p29 : lw_okq (⟨"FormatDeskModel", "see", "(I)I"⟩, 41) := ⟨⟨by decide +kernel, by decide +kernel⟩, List.mem_of_getElem? (i := 617) (by decide +kernel), List.mem_of_getElem? (i := 792) (by decide +kernel), List.mem_of_getElem? (i := 793) (by decide +kernel)⟩
theorem lw_p30 : lw_okq (⟨"FormatDeskModel", "readField", "()Z"⟩, 41) := ⟨⟨by decide +kernel, by decide +kernel⟩, List.mem_of_getElem? (i := 617) (by decide +kernel), List.mem_of_getElem? (i := 796) (by decide +kernel), List.mem_of_getElem? (i := 797) (by decide +kernel)⟩
theorem lw_p31 : lw_okq (⟨"FormatDeskModel", "wrong", "(II)Z"⟩, 41) := ⟨⟨by decide +kernel, by decide +kernel⟩, List.mem_of_getElem? (i := 617) (by decide +kernel), List.mem_of_getElem? (i := 803) (by decide +kernel), List.mem_of_getElem? (i := 804) (by decide +kernel)⟩
def lw_privs_2 : List (MethodName × Nat) := [(⟨"FormatDesk$Shape", "splitWhole", "(JI)I"⟩, 5), (⟨"FormatDesk$Shape", "formPlaces", "(LFormatDesk$Value;LFormatDesk$Field;)V"⟩, 5), (⟨"FormatDesk$Digits", "goesUp", "(I)Z"⟩, 1), (⟨"FormatDesk$Digits", "digitAt", "(I)I"⟩, 1), (⟨"FormatDesk$Shape", "formExponent", "(LFormatDesk$Value;LFormatDesk$Field;)V"⟩, 5), (⟨"FormatDesk$Shape", "putExponent", "(II)V"⟩, 5), (⟨"FormatDesk$Shape", "formShorter", "(LFormatDesk$Value;LFormatDesk$Field;)V"⟩, 5), (⟨"FormatDesk$Shape", "formQuoted", "(LFormatDesk$Value;LFormatDesk$Field;)V"⟩, 5), (⟨"FormatDesk", "fillMark", "(I)I"⟩, 12), (⟨"FormatDeskModel", "isDecimal", "(I)Z"⟩, 41), (⟨"FormatDeskModel", "isSome", "()Z"⟩, 41), (⟨"FormatDeskModel", "raise", "(I)I"⟩, 41), (⟨"FormatDeskModel", "isPattern", "()Z"⟩, 41), (⟨"FormatDeskModel", "see", "(I)I"⟩, 41), (⟨"FormatDeskModel", "readField", "()Z"⟩, 41), (⟨"FormatDeskModel", "wrong", "(II)Z"⟩, 41)]
theorem lw_r2 : ∀ q ∈ lw_privs_2, lw_okq q := List.forall_mem_cons.mpr ⟨lw_p16, List.forall_mem_cons.mpr ⟨lw_p17, List.forall_mem_cons.mpr ⟨lw_p18, List.forall_mem_cons.mpr ⟨lw_p19, List.forall_mem_cons.mpr ⟨lw_p20, List.forall_mem_cons.mpr ⟨lw_p21, List.forall_mem_cons.mpr ⟨lw_p22, List.forall_mem_cons.mpr ⟨lw_p23, List.forall_mem_cons.mpr ⟨lw_p24, List.forall_mem_cons.mpr ⟨lw_p25, List.forall_mem_cons.mpr ⟨lw_p26, List.forall_mem_cons.mpr ⟨lw_p27, List.forall_mem_cons.mpr ⟨lw_p28, List.forall_mem_cons.mpr ⟨lw_p29, List.forall_mem_cons.mpr ⟨lw_p30, List.forall_mem_cons.mpr ⟨lw_p31, fun _ h => absurd h List.not_mem_nil⟩⟩⟩⟩⟩⟩⟩⟩⟩⟩⟩⟩⟩⟩⟩⟩
theorem lw_p32 : lw_okq (⟨"FormatDeskModel", "put", "(II)Z"⟩, 41) := ⟨⟨by decide +kernel, by decide +kernel⟩, List.mem_of_getElem? (i := 617) (by decide +kernel), List.mem_of_getElem? (i := 807) (by decide +kernel), List.mem_of_getElem? (i := 808) (by decide +kernel)⟩
theorem lw_p33 : lw_okq (⟨"FormatDeskModel", "fillField", "()Z"⟩, 41) := ⟨⟨by decide +kernel, by decide +kernel⟩, List.mem_of_getElem? (i := 617) (by decide +kernel), List.mem_of_getElem? (i := 811) (by decide +kernel), List.mem_of_getElem? (i := 812) (by decide +kernel)⟩
theorem lw_p34 : lw_okq (⟨"FormatDeskModel", "takeStar", "()Z"⟩, 41) := ⟨⟨by decide +kernel, by decide +kernel⟩, List.mem_of_getElem? (i := 617) (by decide +kernel), List.mem_of_getElem? (i := 815) (by decide +kernel), List.mem_of_getElem? (i := 816) (by decide +kernel)⟩
theorem lw_p35 : lw_okq (⟨"FormatDeskModel", "wholeOf", "(I)J"⟩, 41) := ⟨⟨by decide +kernel, by decide +kernel⟩, List.mem_of_getElem? (i := 617) (by decide +kernel), List.mem_of_getElem? (i := 819) (by decide +kernel), List.mem_of_getElem? (i := 820) (by decide +kernel)⟩
theorem lw_p36 : lw_okq (⟨"FormatDeskModel", "putWords", "(I)V"⟩, 41) := ⟨⟨by decide +kernel, by decide +kernel⟩, List.mem_of_getElem? (i := 617) (by decide +kernel), List.mem_of_getElem? (i := 828) (by decide +kernel), List.mem_of_getElem? (i := 829) (by decide +kernel)⟩
theorem lw_p37 : lw_okq (⟨"FormatDeskModel", "makePlain", "(I)V"⟩, 41) := ⟨⟨by decide +kernel, by decide +kernel⟩, List.mem_of_getElem? (i := 617) (by decide +kernel), List.mem_of_getElem? (i := 832) (by decide +kernel), List.mem_of_getElem? (i := 833) (by decide +kernel)⟩
theorem lw_p38 : lw_okq (⟨"FormatDeskModel", "say", "(I)V"⟩, 41) := ⟨⟨by decide +kernel, by decide +kernel⟩, List.mem_of_getElem? (i := 617) (by decide +kernel), List.mem_of_getElem? (i := 836) (by decide +kernel), List.mem_of_getElem? (i := 837) (by decide +kernel)⟩
theorem lw_p39 : lw_okq (⟨"FormatDeskModel", "lay", "(I)V"⟩, 41) := ⟨⟨by decide +kernel, by decide +kernel⟩, List.mem_of_getElem? (i := 617) (by decide +kernel), List.mem_of_getElem? (i := 840) (by decide +kernel), List.mem_of_getElem? (i := 841) (by decide +kernel)⟩
theorem lw_p40 : lw_okq (⟨"FormatDeskModel", "putNumber", "(I)V"⟩, 41) := ⟨⟨by decide +kernel, by decide +kernel⟩, List.mem_of_getElem? (i := 617) (by decide +kernel), List.mem_of_getElem? (i := 844) (by decide +kernel), List.mem_of_getElem? (i := 845) (by decide +kernel)⟩
theorem lw_p41 : lw_okq (⟨"FormatDeskModel", "sign", "(Z)V"⟩, 41) := ⟨⟨by decide +kernel, by decide +kernel⟩, List.mem_of_getElem? (i := 617) (by decide +kernel), List.mem_of_getElem? (i := 848) (by decide +kernel), List.mem_of_getElem? (i := 849) (by decide +kernel)⟩
theorem lw_p42 : lw_okq (⟨"FormatDeskModel", "fixed", "(IIZ)V"⟩, 41) := ⟨⟨by decide +kernel, by decide +kernel⟩, List.mem_of_getElem? (i := 617) (by decide +kernel), List.mem_of_getElem? (i := 852) (by decide +kernel), List.mem_of_getElem? (i := 853) (by decide +kernel)⟩
theorem lw_p43 : lw_okq (⟨"FormatDeskModel", "lift", "(II)V"⟩, 41) := ⟨⟨by decide +kernel, by decide +kernel⟩, List.mem_of_getElem? (i := 617) (by decide +kernel), List.mem_of_getElem? (i := 856) (by decide +kernel), List.mem_of_getElem? (i := 857) (by decide +kernel)⟩
theorem lw_p44 : lw_okq (⟨"FormatDeskModel", "round", "(I)V"⟩, 41) := ⟨⟨by decide +kernel, by decide +kernel⟩, List.mem_of_getElem? (i := 617) (by decide +kernel), List.mem_of_getElem? (i := 860) (by decide +kernel), List.mem_of_getElem? (i := 861) (by decide +kernel)⟩
theorem lw_p45 : lw_okq (⟨"FormatDeskModel", "exponential", "(IIZZ)V"⟩, 41) := ⟨⟨by decide +kernel, by decide +kernel⟩, List.mem_of_getElem? (i := 617) (by decide +kernel), List.mem_of_getElem? (i := 864) (by decide +kernel), List.mem_of_getElem? (i := 865) (by decide +kernel)⟩
theorem lw_p46 : lw_okq (⟨"FormatDeskModel", "exponentOf", "(II)I"⟩, 41) := ⟨⟨by decide +kernel, by decide +kernel⟩, List.mem_of_getElem? (i := 617) (by decide +kernel), List.mem_of_getElem? (i := 868) (by decide +kernel), List.mem_of_getElem? (i := 869) (by decide +kernel)⟩
theorem lw_p47 : lw_okq (⟨"FormatDeskModel", "cut", "(I)V"⟩, 41) := ⟨⟨by decide +kernel, by decide +kernel⟩, List.mem_of_getElem? (i := 617) (by decide +kernel), List.mem_of_getElem? (i := 872) (by decide +kernel), List.mem_of_getElem? (i := 873) (by decide +kernel)⟩
def lw_privs_3 : List (MethodName × Nat) := [(⟨"FormatDeskModel", "put", "(II)Z"⟩, 41), (⟨"FormatDeskModel", "fillField", "()Z"⟩, 41), (⟨"FormatDeskModel", "takeStar", "()Z"⟩, 41), (⟨"FormatDeskModel", "wholeOf", "(I)J"⟩, 41), (⟨"FormatDeskModel", "putWords", "(I)V"⟩, 41), (⟨"FormatDeskModel", "makePlain", "(I)V"⟩, 41), (⟨"FormatDeskModel", "say", "(I)V"⟩, 41), (⟨"FormatDeskModel", "lay", "(I)V"⟩, 41), (⟨"FormatDeskModel", "putNumber", "(I)V"⟩, 41), (⟨"FormatDeskModel", "sign", "(Z)V"⟩, 41), (⟨"FormatDeskModel", "fixed", "(IIZ)V"⟩, 41), (⟨"FormatDeskModel", "lift", "(II)V"⟩, 41), (⟨"FormatDeskModel", "round", "(I)V"⟩, 41), (⟨"FormatDeskModel", "exponential", "(IIZZ)V"⟩, 41), (⟨"FormatDeskModel", "exponentOf", "(II)I"⟩, 41), (⟨"FormatDeskModel", "cut", "(I)V"⟩, 41)]
theorem lw_r3 : ∀ q ∈ lw_privs_3, lw_okq q := List.forall_mem_cons.mpr ⟨lw_p32, List.forall_mem_cons.mpr ⟨lw_p33, List.forall_mem_cons.mpr ⟨lw_p34, List.forall_mem_cons.mpr ⟨lw_p35, List.forall_mem_cons.mpr ⟨lw_p36, List.forall_mem_cons.mpr ⟨lw_p37, List.forall_mem_cons.mpr ⟨lw_p38, List.forall_mem_cons.mpr ⟨lw_p39, List.forall_mem_cons.mpr ⟨lw_p40, List.forall_mem_cons.mpr ⟨lw_p41, List.forall_mem_cons.mpr ⟨lw_p42, List.forall_mem_cons.mpr ⟨lw_p43, List.forall_mem_cons.mpr ⟨lw_p44, List.forall_mem_cons.mpr ⟨lw_p45, List.forall_mem_cons.mpr ⟨lw_p46, List.forall_mem_cons.mpr ⟨lw_p47, fun _ h => absurd h List.not_mem_nil⟩⟩⟩⟩⟩⟩⟩⟩⟩⟩⟩⟩⟩⟩⟩⟩
theorem lw_p48 : lw_okq (⟨"FormatDeskModel", "putWhole", "(I)V"⟩, 41) := ⟨⟨by decide +kernel, by decide +kernel⟩, List.mem_of_getElem? (i := 617) (by decide +kernel), List.mem_of_getElem? (i := 876) (by decide +kernel), List.mem_of_getElem? (i := 877) (by decide +kernel)⟩
theorem lw_p49 : lw_okq (⟨"FormatDeskModel", "putPadded", "(Z)Z"⟩, 41) := ⟨⟨by decide +kernel, by decide +kernel⟩, List.mem_of_getElem? (i := 617) (by decide +kernel), List.mem_of_getElem? (i := 880) (by decide +kernel), List.mem_of_getElem? (i := 881) (by decide +kernel)⟩
def lw_privs_4 : List (MethodName × Nat) := [(⟨"FormatDeskModel", "putWhole", "(I)V"⟩, 41), (⟨"FormatDeskModel", "putPadded", "(Z)Z"⟩, 41)]
theorem lw_r4 : ∀ q ∈ lw_privs_4, lw_okq q := List.forall_mem_cons.mpr ⟨lw_p48, List.forall_mem_cons.mpr ⟨lw_p49, fun _ h => absurd h List.not_mem_nil⟩⟩
def lw_privs : List (MethodName × Nat) := lw_privs_1 ++ (lw_privs_2 ++ (lw_privs_3 ++ (lw_privs_4)))
def lw_tbl : List Cond := k2_sels lw_privs ++ tables_1
theorem lw_privs_ok : ∀ q ∈ lw_privs, lw_okq q := by
  show ∀ q ∈ lw_privs_1 ++ (lw_privs_2 ++ (lw_privs_3 ++ (lw_privs_4))), lw_okq q
  exact List.forall_mem_append.mpr ⟨lw_r1, List.forall_mem_append.mpr ⟨lw_r2, List.forall_mem_append.mpr ⟨lw_r3, lw_r4⟩⟩⟩

/-! The words that a method may rest on: those of the tables that stay good. One list for all methods. -/
def TB : List Cond := k2_sels lw_privs ++ tables_1.filter goodWord
theorem TB_good : ∀ w ∈ TB, goodWord w = true := by
  intro w h
  rcases List.mem_append.mp h with h | h
  · obtain ⟨q, -, rfl⟩ := List.mem_map.mp h
    rfl
  · exact (List.mem_filter.mp h).2
theorem TB_in : ∀ w ∈ TB, w ∈ lw_tbl := by
  intro w h
  rcases List.mem_append.mp h with h | h
  · exact List.mem_append_left _ h
  · exact List.mem_append_right _ (List.mem_filter.mp h).1
theorem tb_of {w : Cond} (k : Nat) (h : tables_1[k]? = some w) (hg : goodWord w = true) : w ∈ TB := List.mem_append_right _ (List.mem_filter.mpr ⟨List.mem_of_getElem? h, hg⟩)
theorem tb_sel {y : MethodName} {n : Nat} (k : Nat) (h : lw_privs[k]? = some (y, n)) : Cond.selects y.cls y y ∈ TB := List.mem_append_left _ (List.mem_map.mpr ⟨(y, n), List.mem_of_getElem? h, rfl⟩)
theorem TB_Good : GoodIn TB TB := fun w h => ⟨h, good_of_word (TB_good w h)⟩
theorem TB_cons {w : Cond} (h : w ∈ TB) : GoodIn TB (w :: TB) := fun v hv => by
  rcases List.mem_cons.mp hv with rfl | hv
  · exact TB_Good _ h
  · exact TB_Good _ hv
theorem TB_V {own C : String} {idx : Nat} {y : MethodName} {w : Cond} (h1 : Cond.methodLink own idx y ∈ TB) (h2 : Cond.instanceMethod y ∈ TB) (h3 : Cond.selects C y y ∈ TB) (h4 : Cond.initialized C ∈ TB) (hc : w ∈ TB) : GoodIn TB (wsV own idx C y (w :: TB)) := by
  intro v hv
  rcases List.mem_append.mp hv with hv | hv
  · have : v ∈ TB := by
      simp only [List.mem_cons, List.not_mem_nil, or_false] at hv
      rcases hv with rfl | rfl | rfl | rfl <;> assumption
    exact TB_Good _ this
  · exact TB_cons hc _ hv
theorem TB_S {own : String} {idx : Nat} {y : MethodName} {w : Cond} (h1 : Cond.methodLink own idx y ∈ TB) (h2 : Cond.static y ∈ TB) (h4 : Cond.initialized own ∈ TB) (hc : w ∈ TB) : GoodIn TB (wsS own idx y (w :: TB)) := by
  intro v hv
  rcases List.mem_append.mp hv with hv | hv
  · have : v ∈ TB := by
      simp only [List.mem_cons, List.not_mem_nil, or_false] at hv
      rcases hv with rfl | rfl | rfl <;> assumption
    exact TB_Good _ this
  · exact TB_cons hc _ hv
def R_Dg : String := "FormatDesk$Digits"
def R_Fi : String := "FormatDesk$Field"
def R_Ln : String := "FormatDesk$Line"
def R_Sh : String := "FormatDesk$Shape"
def R_Va : String := "FormatDesk$Value"
def R_De : String := "FormatDesk"
def R_Mo : String := "FormatDeskModel"
def R_La : String := "FormatDeskLaw"
def F_Dg : u_T := fun k => match k with
  | _ => ("FormatDesk$Digits", "row", "[I", true)
def t_Dg : Nat → FieldType := fun k => match k with
  | _ => .array .int
theorem n_Dg : ∀ a, a < 1 → ∀ b, b < 1 → a ≠ b → (F_Dg a).2.1 ≠ (F_Dg b).2.1 := by decide +kernel
theorem t_Dg_ok : ∀ k, k < 1 → parseFieldDescriptor (F_Dg k).2.2.1 = some (t_Dg k) := by decide +kernel
theorem in_Dg : ∀ w ∈ u_ws R_Dg F_Dg 1, w ∈ TB := by
  intro w h
  obtain ⟨j, hj, rfl⟩ := List.mem_map.mp h
  have hj := List.mem_range.mp hj
  match j, hj with
  | 0, _ => exact tb_of 137 (by decide +kernel) (by decide +kernel)
  | j + 1, hj => exact absurd hj (by omega)
def F_Fi : u_T := fun k => match k with
  | 0 => ("FormatDesk$Field", "minus", "Z", false)
  | 1 => ("FormatDesk$Field", "plus", "Z", false)
  | 2 => ("FormatDesk$Field", "zero", "Z", false)
  | 3 => ("FormatDesk$Field", "sharp", "Z", false)
  | 4 => ("FormatDesk$Field", "blank", "Z", false)
  | 5 => ("FormatDesk$Field", "starWidth", "Z", false)
  | 6 => ("FormatDesk$Field", "starPrecision", "Z", false)
  | 7 => ("FormatDesk$Field", "width", "I", false)
  | 8 => ("FormatDesk$Field", "precision", "I", false)
  | 9 => ("FormatDesk$Field", "letter", "I", false)
  | 10 => ("FormatDesk$Field", "sort", "I", false)
  | _ => ("FormatDesk$Field", "next", "I", false)
def t_Fi : Nat → FieldType := fun k => match k with
  | 0 => .boolean
  | 1 => .boolean
  | 2 => .boolean
  | 3 => .boolean
  | 4 => .boolean
  | 5 => .boolean
  | 6 => .boolean
  | 7 => .int
  | 8 => .int
  | 9 => .int
  | 10 => .int
  | _ => .int
theorem n_Fi : ∀ a, a < 12 → ∀ b, b < 12 → a ≠ b → (F_Fi a).2.1 ≠ (F_Fi b).2.1 := by decide +kernel
theorem t_Fi_ok : ∀ k, k < 12 → parseFieldDescriptor (F_Fi k).2.2.1 = some (t_Fi k) := by decide +kernel
theorem in_Fi : ∀ w ∈ u_ws R_Fi F_Fi 12, w ∈ TB := by
  intro w h
  obtain ⟨j, hj, rfl⟩ := List.mem_map.mp h
  have hj := List.mem_range.mp hj
  match j, hj with
  | 0, _ => exact tb_of 97 (by decide +kernel) (by decide +kernel)
  | 1, _ => exact tb_of 99 (by decide +kernel) (by decide +kernel)
  | 2, _ => exact tb_of 101 (by decide +kernel) (by decide +kernel)
  | 3, _ => exact tb_of 103 (by decide +kernel) (by decide +kernel)
  | 4, _ => exact tb_of 105 (by decide +kernel) (by decide +kernel)
  | 5, _ => exact tb_of 107 (by decide +kernel) (by decide +kernel)
  | 6, _ => exact tb_of 109 (by decide +kernel) (by decide +kernel)
  | 7, _ => exact tb_of 111 (by decide +kernel) (by decide +kernel)
  | 8, _ => exact tb_of 113 (by decide +kernel) (by decide +kernel)
  | 9, _ => exact tb_of 115 (by decide +kernel) (by decide +kernel)
  | 10, _ => exact tb_of 117 (by decide +kernel) (by decide +kernel)
  | 11, _ => exact tb_of 119 (by decide +kernel) (by decide +kernel)
  | j + 12, hj => exact absurd hj (by omega)
def F_Ln : u_T := fun k => match k with
  | 0 => ("FormatDesk$Line", "marks", "[C", true)
  | _ => ("FormatDesk$Line", "length", "I", false)
def t_Ln : Nat → FieldType := fun k => match k with
  | 0 => .array .char
  | _ => .int
theorem n_Ln : ∀ a, a < 2 → ∀ b, b < 2 → a ≠ b → (F_Ln a).2.1 ≠ (F_Ln b).2.1 := by decide +kernel
theorem t_Ln_ok : ∀ k, k < 2 → parseFieldDescriptor (F_Ln k).2.2.1 = some (t_Ln k) := by decide +kernel
theorem in_Ln : ∀ w ∈ u_ws R_Ln F_Ln 2, w ∈ TB := by
  intro w h
  obtain ⟨j, hj, rfl⟩ := List.mem_map.mp h
  have hj := List.mem_range.mp hj
  match j, hj with
  | 0, _ => exact tb_of 34 (by decide +kernel) (by decide +kernel)
  | 1, _ => exact tb_of 36 (by decide +kernel) (by decide +kernel)
  | j + 2, hj => exact absurd hj (by omega)
def F_Sh : u_T := fun k => match k with
  | 0 => ("FormatDesk$Shape", "body", "LFormatDesk$Line;", true)
  | 1 => ("FormatDesk$Shape", "digits", "LFormatDesk$Digits;", true)
  | 2 => ("FormatDesk$Shape", "lowestFirst", "[I", true)
  | 3 => ("FormatDesk$Shape", "sign", "I", false)
  | _ => ("FormatDesk$Shape", "base", "I", false)
def t_Sh : Nat → FieldType := fun k => match k with
  | 0 => .object "FormatDesk$Line"
  | 1 => .object "FormatDesk$Digits"
  | 2 => .array .int
  | 3 => .int
  | _ => .int
theorem n_Sh : ∀ a, a < 5 → ∀ b, b < 5 → a ≠ b → (F_Sh a).2.1 ≠ (F_Sh b).2.1 := by decide +kernel
theorem t_Sh_ok : ∀ k, k < 5 → parseFieldDescriptor (F_Sh k).2.2.1 = some (t_Sh k) := by decide +kernel
theorem in_Sh : ∀ w ∈ u_ws R_Sh F_Sh 5, w ∈ TB := by
  intro w h
  obtain ⟨j, hj, rfl⟩ := List.mem_map.mp h
  have hj := List.mem_range.mp hj
  match j, hj with
  | 0, _ => exact tb_of 146 (by decide +kernel) (by decide +kernel)
  | 1, _ => exact tb_of 148 (by decide +kernel) (by decide +kernel)
  | 2, _ => exact tb_of 150 (by decide +kernel) (by decide +kernel)
  | 3, _ => exact tb_of 152 (by decide +kernel) (by decide +kernel)
  | 4, _ => exact tb_of 154 (by decide +kernel) (by decide +kernel)
  | j + 5, hj => exact absurd hj (by omega)
def F_Va : u_T := fun k => match k with
  | 0 => ("FormatDesk$Value", "words", "LFormatDesk$Line;", true)
  | 1 => ("FormatDesk$Value", "isDecimal", "Z", false)
  | 2 => ("FormatDesk$Value", "below", "Z", false)
  | 3 => ("FormatDesk$Value", "ahead", "J", false)
  | _ => ("FormatDesk$Value", "behind", "J", false)
def t_Va : Nat → FieldType := fun k => match k with
  | 0 => .object "FormatDesk$Line"
  | 1 => .boolean
  | 2 => .boolean
  | 3 => .long
  | _ => .long
theorem n_Va : ∀ a, a < 5 → ∀ b, b < 5 → a ≠ b → (F_Va a).2.1 ≠ (F_Va b).2.1 := by decide +kernel
theorem t_Va_ok : ∀ k, k < 5 → parseFieldDescriptor (F_Va k).2.2.1 = some (t_Va k) := by decide +kernel
theorem in_Va : ∀ w ∈ u_ws R_Va F_Va 5, w ∈ TB := by
  intro w h
  obtain ⟨j, hj, rfl⟩ := List.mem_map.mp h
  have hj := List.mem_range.mp hj
  match j, hj with
  | 0, _ => exact tb_of 60 (by decide +kernel) (by decide +kernel)
  | 1, _ => exact tb_of 62 (by decide +kernel) (by decide +kernel)
  | 2, _ => exact tb_of 64 (by decide +kernel) (by decide +kernel)
  | 3, _ => exact tb_of 66 (by decide +kernel) (by decide +kernel)
  | 4, _ => exact tb_of 68 (by decide +kernel) (by decide +kernel)
  | j + 5, hj => exact absurd hj (by omega)
def F_De : u_T := fun k => match k with
  | 0 => ("FormatDesk", "tape", "LFormatDesk$Line;", true)
  | 1 => ("FormatDesk", "values", "[LFormatDesk$Value;", true)
  | 2 => ("FormatDesk", "spare", "LFormatDesk$Value;", true)
  | 3 => ("FormatDesk", "field", "LFormatDesk$Field;", true)
  | 4 => ("FormatDesk", "shape", "LFormatDesk$Shape;", true)
  | 5 => ("FormatDesk", "filled", "LFormatDesk$Line;", false)
  | 6 => ("FormatDesk", "draft", "LFormatDesk$Line;", false)
  | 7 => ("FormatDesk", "everFilled", "Z", false)
  | 8 => ("FormatDesk", "count", "I", false)
  | 9 => ("FormatDesk", "taken", "I", false)
  | 10 => ("FormatDesk", "faultKind", "I", false)
  | _ => ("FormatDesk", "faultPlace", "I", false)
def t_De : Nat → FieldType := fun k => match k with
  | 0 => .object "FormatDesk$Line"
  | 1 => .array (.object "FormatDesk$Value")
  | 2 => .object "FormatDesk$Value"
  | 3 => .object "FormatDesk$Field"
  | 4 => .object "FormatDesk$Shape"
  | 5 => .object "FormatDesk$Line"
  | 6 => .object "FormatDesk$Line"
  | 7 => .boolean
  | 8 => .int
  | 9 => .int
  | 10 => .int
  | _ => .int
theorem n_De : ∀ a, a < 12 → ∀ b, b < 12 → a ≠ b → (F_De a).2.1 ≠ (F_De b).2.1 := by decide +kernel
theorem t_De_ok : ∀ k, k < 12 → parseFieldDescriptor (F_De k).2.2.1 = some (t_De k) := by decide +kernel
theorem in_De : ∀ w ∈ u_ws R_De F_De 12, w ∈ TB := by
  intro w h
  obtain ⟨j, hj, rfl⟩ := List.mem_map.mp h
  have hj := List.mem_range.mp hj
  match j, hj with
  | 0, _ => exact tb_of 169 (by decide +kernel) (by decide +kernel)
  | 1, _ => exact tb_of 171 (by decide +kernel) (by decide +kernel)
  | 2, _ => exact tb_of 173 (by decide +kernel) (by decide +kernel)
  | 3, _ => exact tb_of 175 (by decide +kernel) (by decide +kernel)
  | 4, _ => exact tb_of 177 (by decide +kernel) (by decide +kernel)
  | 5, _ => exact tb_of 179 (by decide +kernel) (by decide +kernel)
  | 6, _ => exact tb_of 181 (by decide +kernel) (by decide +kernel)
  | 7, _ => exact tb_of 183 (by decide +kernel) (by decide +kernel)
  | 8, _ => exact tb_of 185 (by decide +kernel) (by decide +kernel)
  | 9, _ => exact tb_of 187 (by decide +kernel) (by decide +kernel)
  | 10, _ => exact tb_of 189 (by decide +kernel) (by decide +kernel)
  | 11, _ => exact tb_of 191 (by decide +kernel) (by decide +kernel)
  | j + 12, hj => exact absurd hj (by omega)
def F_Mo : u_T := fun k => match k with
  | 0 => ("FormatDeskModel", "thrown", "I", false)
  | 1 => ("FormatDeskModel", "tape", "[I", true)
  | 2 => ("FormatDeskModel", "taped", "I", false)
  | 3 => ("FormatDeskModel", "values", "I", false)
  | 4 => ("FormatDeskModel", "isText", "[Z", true)
  | 5 => ("FormatDeskModel", "textLong", "[I", true)
  | 6 => ("FormatDeskModel", "text", "[I", true)
  | 7 => ("FormatDeskModel", "digit", "[I", true)
  | 8 => ("FormatDeskModel", "ahead", "[I", true)
  | 9 => ("FormatDeskModel", "behind", "[I", true)
  | 10 => ("FormatDeskModel", "minus", "[Z", true)
  | 11 => ("FormatDeskModel", "isFilled", "Z", false)
  | 12 => ("FormatDeskModel", "filled", "[I", true)
  | 13 => ("FormatDeskModel", "filledLong", "I", false)
  | 14 => ("FormatDeskModel", "fault", "I", false)
  | 15 => ("FormatDeskModel", "faultPlace", "I", false)
  | 16 => ("FormatDeskModel", "next", "[I", true)
  | 17 => ("FormatDeskModel", "nextLong", "I", false)
  | 18 => ("FormatDeskModel", "taken", "I", false)
  | 19 => ("FormatDeskModel", "at", "I", false)
  | 20 => ("FormatDeskModel", "begin", "I", false)
  | 21 => ("FormatDeskModel", "left", "Z", false)
  | 22 => ("FormatDeskModel", "plus", "Z", false)
  | 23 => ("FormatDeskModel", "zero", "Z", false)
  | 24 => ("FormatDeskModel", "sharp", "Z", false)
  | 25 => ("FormatDeskModel", "blank", "Z", false)
  | 26 => ("FormatDeskModel", "width", "I", false)
  | 27 => ("FormatDeskModel", "precision", "I", false)
  | 28 => ("FormatDeskModel", "letter", "I", false)
  | 29 => ("FormatDeskModel", "head", "[I", true)
  | 30 => ("FormatDeskModel", "headLong", "I", false)
  | 31 => ("FormatDeskModel", "body", "[I", true)
  | 32 => ("FormatDeskModel", "bodyLong", "I", false)
  | 33 => ("FormatDeskModel", "star", "I", false)
  | 34 => ("FormatDeskModel", "plain", "[I", true)
  | 35 => ("FormatDeskModel", "plainLong", "I", false)
  | 36 => ("FormatDeskModel", "reversed", "[I", true)
  | 37 => ("FormatDeskModel", "row", "[I", true)
  | 38 => ("FormatDeskModel", "rowLong", "I", false)
  | 39 => ("FormatDeskModel", "rowAhead", "I", false)
  | _ => ("FormatDeskModel", "first", "I", false)
def t_Mo : Nat → FieldType := fun k => match k with
  | 0 => .int
  | 1 => .array .int
  | 2 => .int
  | 3 => .int
  | 4 => .array .boolean
  | 5 => .array .int
  | 6 => .array .int
  | 7 => .array .int
  | 8 => .array .int
  | 9 => .array .int
  | 10 => .array .boolean
  | 11 => .boolean
  | 12 => .array .int
  | 13 => .int
  | 14 => .int
  | 15 => .int
  | 16 => .array .int
  | 17 => .int
  | 18 => .int
  | 19 => .int
  | 20 => .int
  | 21 => .boolean
  | 22 => .boolean
  | 23 => .boolean
  | 24 => .boolean
  | 25 => .boolean
  | 26 => .int
  | 27 => .int
  | 28 => .int
  | 29 => .array .int
  | 30 => .int
  | 31 => .array .int
  | 32 => .int
  | 33 => .int
  | 34 => .array .int
  | 35 => .int
  | 36 => .array .int
  | 37 => .array .int
  | 38 => .int
  | 39 => .int
  | _ => .int
theorem n_Mo : ∀ a, a < 41 → ∀ b, b < 41 → a ≠ b → (F_Mo a).2.1 ≠ (F_Mo b).2.1 := by decide +kernel
theorem t_Mo_ok : ∀ k, k < 41 → parseFieldDescriptor (F_Mo k).2.2.1 = some (t_Mo k) := by decide +kernel
theorem in_Mo : ∀ w ∈ u_ws R_Mo F_Mo 41, w ∈ TB := by
  intro w h
  obtain ⟨j, hj, rfl⟩ := List.mem_map.mp h
  have hj := List.mem_range.mp hj
  match j, hj with
  | 0, _ => exact tb_of 663 (by decide +kernel) (by decide +kernel)
  | 1, _ => exact tb_of 665 (by decide +kernel) (by decide +kernel)
  | 2, _ => exact tb_of 667 (by decide +kernel) (by decide +kernel)
  | 3, _ => exact tb_of 669 (by decide +kernel) (by decide +kernel)
  | 4, _ => exact tb_of 671 (by decide +kernel) (by decide +kernel)
  | 5, _ => exact tb_of 673 (by decide +kernel) (by decide +kernel)
  | 6, _ => exact tb_of 675 (by decide +kernel) (by decide +kernel)
  | 7, _ => exact tb_of 677 (by decide +kernel) (by decide +kernel)
  | 8, _ => exact tb_of 679 (by decide +kernel) (by decide +kernel)
  | 9, _ => exact tb_of 681 (by decide +kernel) (by decide +kernel)
  | 10, _ => exact tb_of 683 (by decide +kernel) (by decide +kernel)
  | 11, _ => exact tb_of 685 (by decide +kernel) (by decide +kernel)
  | 12, _ => exact tb_of 687 (by decide +kernel) (by decide +kernel)
  | 13, _ => exact tb_of 689 (by decide +kernel) (by decide +kernel)
  | 14, _ => exact tb_of 691 (by decide +kernel) (by decide +kernel)
  | 15, _ => exact tb_of 693 (by decide +kernel) (by decide +kernel)
  | 16, _ => exact tb_of 695 (by decide +kernel) (by decide +kernel)
  | 17, _ => exact tb_of 697 (by decide +kernel) (by decide +kernel)
  | 18, _ => exact tb_of 699 (by decide +kernel) (by decide +kernel)
  | 19, _ => exact tb_of 701 (by decide +kernel) (by decide +kernel)
  | 20, _ => exact tb_of 703 (by decide +kernel) (by decide +kernel)
  | 21, _ => exact tb_of 705 (by decide +kernel) (by decide +kernel)
  | 22, _ => exact tb_of 707 (by decide +kernel) (by decide +kernel)
  | 23, _ => exact tb_of 709 (by decide +kernel) (by decide +kernel)
  | 24, _ => exact tb_of 711 (by decide +kernel) (by decide +kernel)
  | 25, _ => exact tb_of 713 (by decide +kernel) (by decide +kernel)
  | 26, _ => exact tb_of 715 (by decide +kernel) (by decide +kernel)
  | 27, _ => exact tb_of 717 (by decide +kernel) (by decide +kernel)
  | 28, _ => exact tb_of 719 (by decide +kernel) (by decide +kernel)
  | 29, _ => exact tb_of 721 (by decide +kernel) (by decide +kernel)
  | 30, _ => exact tb_of 723 (by decide +kernel) (by decide +kernel)
  | 31, _ => exact tb_of 725 (by decide +kernel) (by decide +kernel)
  | 32, _ => exact tb_of 727 (by decide +kernel) (by decide +kernel)
  | 33, _ => exact tb_of 729 (by decide +kernel) (by decide +kernel)
  | 34, _ => exact tb_of 731 (by decide +kernel) (by decide +kernel)
  | 35, _ => exact tb_of 733 (by decide +kernel) (by decide +kernel)
  | 36, _ => exact tb_of 735 (by decide +kernel) (by decide +kernel)
  | 37, _ => exact tb_of 737 (by decide +kernel) (by decide +kernel)
  | 38, _ => exact tb_of 739 (by decide +kernel) (by decide +kernel)
  | 39, _ => exact tb_of 741 (by decide +kernel) (by decide +kernel)
  | 40, _ => exact tb_of 743 (by decide +kernel) (by decide +kernel)
  | j + 41, hj => exact absurd hj (by omega)
abbrev CL : List vw_C := [(R_Dg, F_Dg, 1), (R_Fi, F_Fi, 12), (R_Ln, F_Ln, 2), (R_Sh, F_Sh, 5), (R_Va, F_Va, 5), (R_De, F_De, 12), (R_Mo, F_Mo, 41)]
abbrev b_De_init : ByteArray := prog_1_method_1_code
def y_De_init : MethodName := ⟨R_De, "<init>", "()V"⟩
def w_De_init : List Cond := .code y_De_init b_De_init 2 none :: TB
abbrev b_Ln_init : ByteArray := prog_4_method_1_code
def y_Ln_init : MethodName := ⟨R_Ln, "<init>", "(I)V"⟩
def w_Ln_init : List Cond := .code y_Ln_init b_Ln_init 2 none :: TB
abbrev b_Va_init : ByteArray := prog_6_method_1_code
def y_Va_init : MethodName := ⟨R_Va, "<init>", "()V"⟩
def w_Va_init : List Cond := .code y_Va_init b_Va_init 1 none :: TB
abbrev b_Fi_init : ByteArray := prog_3_method_1_code
def y_Fi_init : MethodName := ⟨R_Fi, "<init>", "()V"⟩
def w_Fi_init : List Cond := .code y_Fi_init b_Fi_init 1 none :: TB
abbrev b_Sh_init : ByteArray := prog_5_method_1_code
def y_Sh_init : MethodName := ⟨R_Sh, "<init>", "()V"⟩
def w_Sh_init : List Cond := .code y_Sh_init b_Sh_init 1 none :: TB
abbrev b_Dg_init : ByteArray := prog_2_method_1_code
def y_Dg_init : MethodName := ⟨R_Dg, "<init>", "()V"⟩
def w_Dg_init : List Cond := .code y_Dg_init b_Dg_init 1 none :: TB
abbrev b_De_type : ByteArray := prog_1_method_2_code
def y_De_type : MethodName := ⟨R_De, "type", "(JI)Z"⟩
def w_De_type : List Cond := .code y_De_type b_De_type 6 (some .boolean) :: TB
abbrev b_Ln_hasRoom : ByteArray := prog_4_method_3_code
def y_Ln_hasRoom : MethodName := ⟨R_Ln, "hasRoom", "(I)Z"⟩
def w_Ln_hasRoom : List Cond := .code y_Ln_hasRoom b_Ln_hasRoom 2 (some .boolean) :: TB
abbrev b_De_byteOf : ByteArray := prog_1_method_11_code
def y_De_byteOf : MethodName := ⟨R_De, "byteOf", "(JI)I"⟩
def w_De_byteOf : List Cond := .code y_De_byteOf b_De_byteOf 3 (some .int) :: TB
abbrev b_Ln_add : ByteArray := prog_4_method_6_code
def y_Ln_add : MethodName := ⟨R_Ln, "add", "(I)V"⟩
def w_Ln_add : List Cond := .code y_Ln_add b_Ln_add 2 none :: TB
abbrev b_De_text : ByteArray := prog_1_method_3_code
def y_De_text : MethodName := ⟨R_De, "text", "()I"⟩
def w_De_text : List Cond := .code y_De_text b_De_text 1 (some .int) :: TB
abbrev b_Ln_size : ByteArray := prog_4_method_2_code
def y_Ln_size : MethodName := ⟨R_Ln, "size", "()I"⟩
def w_Ln_size : List Cond := .code y_Ln_size b_Ln_size 1 (some .int) :: TB
abbrev b_Va_readWords : ByteArray := prog_6_method_2_code
def y_Va_readWords : MethodName := ⟨R_Va, "readWords", "(LFormatDesk$Line;)V"⟩
def w_Va_readWords : List Cond := .code y_Va_readWords b_Va_readWords 2 none :: TB
abbrev b_Ln_empty : ByteArray := prog_4_method_5_code
def y_Ln_empty : MethodName := ⟨R_Ln, "empty", "()V"⟩
def w_Ln_empty : List Cond := .code y_Ln_empty b_Ln_empty 1 none :: TB
abbrev b_Ln_addPart : ByteArray := prog_4_method_8_code
def y_Ln_addPart : MethodName := ⟨R_Ln, "addPart", "(LFormatDesk$Line;II)V"⟩
def w_Ln_addPart : List Cond := .code y_Ln_addPart b_Ln_addPart 5 none :: TB
abbrev b_Ln_at : ByteArray := prog_4_method_4_code
def y_Ln_at : MethodName := ⟨R_Ln, "at", "(I)I"⟩
def w_Ln_at : List Cond := .code y_Ln_at b_Ln_at 2 (some .int) :: TB
abbrev b_De_clear : ByteArray := prog_1_method_5_code
def y_De_clear : MethodName := ⟨R_De, "clear", "()I"⟩
def w_De_clear : List Cond := .code y_De_clear b_De_clear 2 (some .int) :: TB
abbrev b_De_fault : ByteArray := prog_1_method_7_code
def y_De_fault : MethodName := ⟨R_De, "fault", "(I)I"⟩
def w_De_fault : List Cond := .code y_De_fault b_De_fault 2 (some .int) :: TB
abbrev b_De_letters : ByteArray := prog_1_method_9_code
def y_De_letters : MethodName := ⟨R_De, "letters", "()I"⟩
def w_De_letters : List Cond := .code y_De_letters b_De_letters 1 (some .int) :: TB
abbrev b_De_alike : ByteArray := prog_1_method_10_code
def y_De_alike : MethodName := ⟨R_De, "alike", "(II)Z"⟩
def w_De_alike : List Cond := .code y_De_alike b_De_alike 3 (some .boolean) :: TB
abbrev b_Va_matches : ByteArray := prog_6_method_9_code
def y_Va_matches : MethodName := ⟨R_Va, "matches", "(LFormatDesk$Value;)Z"⟩
def w_Va_matches : List Cond := .code y_Va_matches b_Va_matches 2 (some .boolean) :: TB
abbrev b_Ln_matches : ByteArray := prog_4_method_13_code
def y_Ln_matches : MethodName := ⟨R_Ln, "matches", "(LFormatDesk$Line;)Z"⟩
def w_Ln_matches : List Cond := .code y_Ln_matches b_Ln_matches 3 (some .boolean) :: TB
abbrev b_La_decimal : ByteArray := method_3_code
def y_La_decimal : MethodName := ⟨R_La, "decimal", "(LFormatDesk;[J)I"⟩
abbrev b_De_decimal : ByteArray := prog_1_method_4_code
def y_De_decimal : MethodName := ⟨R_De, "decimal", "()I"⟩
def w_De_decimal : List Cond := .code y_De_decimal b_De_decimal 3 (some .int) :: TB
abbrev b_Va_readDecimal : ByteArray := prog_6_method_3_code
def y_Va_readDecimal : MethodName := ⟨R_Va, "readDecimal", "(LFormatDesk$Line;)Z"⟩
def w_Va_readDecimal : List Cond := .code y_Va_readDecimal b_Va_readDecimal 8 (some .boolean) :: TB
abbrev b_Ln_digitsFrom : ByteArray := prog_4_method_10_code
def y_Ln_digitsFrom : MethodName := ⟨R_Ln, "digitsFrom", "(I)I"⟩
def w_Ln_digitsFrom : List Cond := .code y_Ln_digitsFrom b_Ln_digitsFrom 4 (some .int) :: TB
abbrev b_Ln_isDigit : ByteArray := prog_4_method_9_code
def y_Ln_isDigit : MethodName := ⟨R_Ln, "isDigit", "(I)Z"⟩
def w_Ln_isDigit : List Cond := .code y_Ln_isDigit b_Ln_isDigit 1 (some .boolean) :: TB
abbrev b_Ln_numberAt : ByteArray := prog_4_method_11_code
def y_Ln_numberAt : MethodName := ⟨R_Ln, "numberAt", "(II)J"⟩
def w_Ln_numberAt : List Cond := .code y_Ln_numberAt b_Ln_numberAt 6 (some .long) :: TB
abbrev b_Va_writePlain : ByteArray := prog_6_method_4_code
def y_Va_writePlain : MethodName := ⟨R_Va, "writePlain", "(LFormatDesk$Line;III)V"⟩
def w_Va_writePlain : List Cond := .code y_Va_writePlain b_Va_writePlain 6 none :: TB
abbrev b_Ln_dropZeros : ByteArray := prog_4_method_12_code
def y_Ln_dropZeros : MethodName := ⟨R_Ln, "dropZeros", "(I)V"⟩
def w_Ln_dropZeros : List Cond := .code y_Ln_dropZeros b_Ln_dropZeros 3 none :: TB
abbrev b_La_fill : ByteArray := method_4_code
def y_La_fill : MethodName := ⟨R_La, "fill", "(LFormatDesk;[J)I"⟩
abbrev b_De_fill : ByteArray := prog_1_method_6_code
def y_De_fill : MethodName := ⟨R_De, "fill", "()I"⟩
def w_De_fill : List Cond := .code y_De_fill b_De_fill 3 (some .int) :: TB
abbrev b_De_firstNoField : ByteArray := prog_1_method_15_code
def y_De_firstNoField : MethodName := ⟨R_De, "firstNoField", "()I"⟩
def w_De_firstNoField : List Cond := .code y_De_firstNoField b_De_firstNoField 3 (some .int) :: TB
abbrev b_De_startsField : ByteArray := prog_1_method_13_code
def y_De_startsField : MethodName := ⟨R_De, "startsField", "(I)Z"⟩
def w_De_startsField : List Cond := .code y_De_startsField b_De_startsField 2 (some .boolean) :: TB
abbrev b_De_behindMark : ByteArray := prog_1_method_14_code
def y_De_behindMark : MethodName := ⟨R_De, "behindMark", "(I)I"⟩
def w_De_behindMark : List Cond := .code y_De_behindMark b_De_behindMark 2 (some .int) :: TB
abbrev b_Fi_read : ByteArray := prog_3_method_2_code
def y_Fi_read : MethodName := ⟨R_Fi, "read", "(LFormatDesk$Line;I)Z"⟩
def w_Fi_read : List Cond := .code y_Fi_read b_Fi_read 3 (some .boolean) :: TB
abbrev b_Fi_readFlags : ByteArray := prog_3_method_3_code
def y_Fi_readFlags : MethodName := ⟨R_Fi, "readFlags", "(LFormatDesk$Line;)V"⟩
def w_Fi_readFlags : List Cond := .code y_Fi_readFlags b_Fi_readFlags 2 none :: TB
abbrev b_Fi_setFlag : ByteArray := prog_3_method_4_code
def y_Fi_setFlag : MethodName := ⟨R_Fi, "setFlag", "(I)Z"⟩
def w_Fi_setFlag : List Cond := .code y_Fi_setFlag b_Fi_setFlag 2 (some .boolean) :: TB
abbrev b_Fi_readWidth : ByteArray := prog_3_method_5_code
def y_Fi_readWidth : MethodName := ⟨R_Fi, "readWidth", "(LFormatDesk$Line;)V"⟩
def w_Fi_readWidth : List Cond := .code y_Fi_readWidth b_Fi_readWidth 2 none :: TB
abbrev b_Fi_readNumber : ByteArray := prog_3_method_7_code
def y_Fi_readNumber : MethodName := ⟨R_Fi, "readNumber", "(LFormatDesk$Line;)I"⟩
def w_Fi_readNumber : List Cond := .code y_Fi_readNumber b_Fi_readNumber 4 (some .int) :: TB
abbrev b_Fi_readPrecision : ByteArray := prog_3_method_6_code
def y_Fi_readPrecision : MethodName := ⟨R_Fi, "readPrecision", "(LFormatDesk$Line;)V"⟩
def w_Fi_readPrecision : List Cond := .code y_Fi_readPrecision b_Fi_readPrecision 2 none :: TB
abbrev b_Fi_sortOf : ByteArray := prog_3_method_8_code
def y_Fi_sortOf : MethodName := ⟨R_Fi, "sortOf", "(I)I"⟩
def w_Fi_sortOf : List Cond := .code y_Fi_sortOf b_Fi_sortOf 1 (some .int) :: TB
abbrev b_De_noteFault : ByteArray := prog_1_method_12_code
def y_De_noteFault : MethodName := ⟨R_De, "noteFault", "(II)V"⟩
def w_De_noteFault : List Cond := .code y_De_noteFault b_De_noteFault 3 none :: TB
abbrev b_De_fillPattern : ByteArray := prog_1_method_16_code
def y_De_fillPattern : MethodName := ⟨R_De, "fillPattern", "()V"⟩
def w_De_fillPattern : List Cond := .code y_De_fillPattern b_De_fillPattern 5 none :: TB
abbrev b_De_fillField : ByteArray := prog_1_method_18_code
def y_De_fillField : MethodName := ⟨R_De, "fillField", "()I"⟩
def w_De_fillField : List Cond := .code y_De_fillField b_De_fillField 3 (some .int) :: TB
abbrev b_De_takeStar : ByteArray := prog_1_method_19_code
def y_De_takeStar : MethodName := ⟨R_De, "takeStar", "(Z)I"⟩
def w_De_takeStar : List Cond := .code y_De_takeStar b_De_takeStar 4 (some .int) :: TB
abbrev b_De_takeNext : ByteArray := prog_1_method_20_code
def y_De_takeNext : MethodName := ⟨R_De, "takeNext", "()LFormatDesk$Value;"⟩
def w_De_takeNext : List Cond := .code y_De_takeNext b_De_takeNext 2 (some (.object "FormatDesk$Value")) :: TB
abbrev b_Va_isStar : ByteArray := prog_6_method_6_code
def y_Va_isStar : MethodName := ⟨R_Va, "isStar", "()Z"⟩
def w_Va_isStar : List Cond := .code y_Va_isStar b_Va_isStar 1 (some .boolean) :: TB
abbrev b_Va_wholePart : ByteArray := prog_6_method_5_code
def y_Va_wholePart : MethodName := ⟨R_Va, "wholePart", "()J"⟩
def w_Va_wholePart : List Cond := .code y_Va_wholePart b_Va_wholePart 1 (some .long) :: TB
abbrev b_Fi_giveWidth : ByteArray := prog_3_method_9_code
def y_Fi_giveWidth : MethodName := ⟨R_Fi, "giveWidth", "(I)V"⟩
def w_Fi_giveWidth : List Cond := .code y_Fi_giveWidth b_Fi_giveWidth 2 none :: TB
abbrev b_Fi_givePrecision : ByteArray := prog_3_method_10_code
def y_Fi_givePrecision : MethodName := ⟨R_Fi, "givePrecision", "(I)V"⟩
def w_Fi_givePrecision : List Cond := .code y_Fi_givePrecision b_Fi_givePrecision 2 none :: TB
abbrev b_Fi_takes : ByteArray := prog_3_method_12_code
def y_Fi_takes : MethodName := ⟨R_Fi, "takes", "(LFormatDesk$Value;)Z"⟩
def w_Fi_takes : List Cond := .code y_Fi_takes b_Fi_takes 2 (some .boolean) :: TB
abbrev b_Va_isMark : ByteArray := prog_6_method_7_code
def y_Va_isMark : MethodName := ⟨R_Va, "isMark", "()Z"⟩
def w_Va_isMark : List Cond := .code y_Va_isMark b_Va_isMark 1 (some .boolean) :: TB
abbrev b_Sh_form : ByteArray := prog_5_method_2_code
def y_Sh_form : MethodName := ⟨R_Sh, "form", "(LFormatDesk$Value;LFormatDesk$Field;)V"⟩
def w_Sh_form : List Cond := .code y_Sh_form b_Sh_form 3 none :: TB
abbrev b_Sh_formWhole : ByteArray := prog_5_method_3_code
def y_Sh_formWhole : MethodName := ⟨R_Sh, "formWhole", "(LFormatDesk$Value;LFormatDesk$Field;I)V"⟩
def w_Sh_formWhole : List Cond := .code y_Sh_formWhole b_Sh_formWhole 8 none :: TB
abbrev b_Fi_signFor : ByteArray := prog_3_method_13_code
def y_Fi_signFor : MethodName := ⟨R_Fi, "signFor", "(Z)I"⟩
def w_Fi_signFor : List Cond := .code y_Fi_signFor b_Fi_signFor 2 (some .int) :: TB
abbrev b_Sh_splitWhole : ByteArray := prog_5_method_4_code
def y_Sh_splitWhole : MethodName := ⟨R_Sh, "splitWhole", "(JI)I"⟩
def w_Sh_splitWhole : List Cond := .code y_Sh_splitWhole b_Sh_splitWhole 7 (some .int) :: TB
abbrev b_Ln_repeat : ByteArray := prog_4_method_7_code
def y_Ln_repeat : MethodName := ⟨R_Ln, "repeat", "(II)V"⟩
def w_Ln_repeat : List Cond := .code y_Ln_repeat b_Ln_repeat 4 none :: TB
abbrev b_Sh_formPlaces : ByteArray := prog_5_method_5_code
def y_Sh_formPlaces : MethodName := ⟨R_Sh, "formPlaces", "(LFormatDesk$Value;LFormatDesk$Field;)V"⟩
def w_Sh_formPlaces : List Cond := .code y_Sh_formPlaces b_Sh_formPlaces 4 none :: TB
abbrev b_Fi_precisionOr : ByteArray := prog_3_method_11_code
def y_Fi_precisionOr : MethodName := ⟨R_Fi, "precisionOr", "(I)I"⟩
def w_Fi_precisionOr : List Cond := .code y_Fi_precisionOr b_Fi_precisionOr 2 (some .int) :: TB
abbrev b_Dg_load : ByteArray := prog_2_method_2_code
def y_Dg_load : MethodName := ⟨R_Dg, "load", "(LFormatDesk$Value;)V"⟩
def w_Dg_load : List Cond := .code y_Dg_load b_Dg_load 5 none :: TB
abbrev b_Dg_round : ByteArray := prog_2_method_5_code
def y_Dg_round : MethodName := ⟨R_Dg, "round", "(I)V"⟩
def w_Dg_round : List Cond := .code y_Dg_round b_Dg_round 4 none :: TB
abbrev b_Dg_goesUp : ByteArray := prog_2_method_6_code
def y_Dg_goesUp : MethodName := ⟨R_Dg, "goesUp", "(I)Z"⟩
def w_Dg_goesUp : List Cond := .code y_Dg_goesUp b_Dg_goesUp 3 (some .boolean) :: TB
abbrev b_Dg_put : ByteArray := prog_2_method_7_code
def y_Dg_put : MethodName := ⟨R_Dg, "put", "(LFormatDesk$Line;IIZ)V"⟩
def w_Dg_put : List Cond := .code y_Dg_put b_Dg_put 6 none :: TB
abbrev b_Dg_first : ByteArray := prog_2_method_3_code
def y_Dg_first : MethodName := ⟨R_Dg, "first", "()I"⟩
def w_Dg_first : List Cond := .code y_Dg_first b_Dg_first 2 (some .int) :: TB
abbrev b_Dg_digitAt : ByteArray := prog_2_method_8_code
def y_Dg_digitAt : MethodName := ⟨R_Dg, "digitAt", "(I)I"⟩
def w_Dg_digitAt : List Cond := .code y_Dg_digitAt b_Dg_digitAt 2 (some .int) :: TB
abbrev b_Sh_formExponent : ByteArray := prog_5_method_6_code
def y_Sh_formExponent : MethodName := ⟨R_Sh, "formExponent", "(LFormatDesk$Value;LFormatDesk$Field;)V"⟩
def w_Sh_formExponent : List Cond := .code y_Sh_formExponent b_Sh_formExponent 4 none :: TB
abbrev b_Dg_exponent : ByteArray := prog_2_method_4_code
def y_Dg_exponent : MethodName := ⟨R_Dg, "exponent", "()I"⟩
def w_Dg_exponent : List Cond := .code y_Dg_exponent b_Dg_exponent 1 (some .int) :: TB
abbrev b_Sh_putExponent : ByteArray := prog_5_method_7_code
def y_Sh_putExponent : MethodName := ⟨R_Sh, "putExponent", "(II)V"⟩
def w_Sh_putExponent : List Cond := .code y_Sh_putExponent b_Sh_putExponent 4 none :: TB
abbrev b_Sh_formShorter : ByteArray := prog_5_method_8_code
def y_Sh_formShorter : MethodName := ⟨R_Sh, "formShorter", "(LFormatDesk$Value;LFormatDesk$Field;)V"⟩
def w_Sh_formShorter : List Cond := .code y_Sh_formShorter b_Sh_formShorter 8 none :: TB
abbrev b_Sh_formQuoted : ByteArray := prog_5_method_10_code
def y_Sh_formQuoted : MethodName := ⟨R_Sh, "formQuoted", "(LFormatDesk$Value;LFormatDesk$Field;)V"⟩
def w_Sh_formQuoted : List Cond := .code y_Sh_formQuoted b_Sh_formQuoted 6 none :: TB
abbrev b_Sh_cutLength : ByteArray := prog_5_method_9_code
def y_Sh_cutLength : MethodName := ⟨R_Sh, "cutLength", "(LFormatDesk$Value;LFormatDesk$Field;)I"⟩
def w_Sh_cutLength : List Cond := .code y_Sh_cutLength b_Sh_cutLength 2 (some .int) :: TB
abbrev b_Va_mark : ByteArray := prog_6_method_8_code
def y_Va_mark : MethodName := ⟨R_Va, "mark", "()I"⟩
def w_Va_mark : List Cond := .code y_Va_mark b_Va_mark 1 (some .int) :: TB
abbrev b_Sh_putInto : ByteArray := prog_5_method_11_code
def y_Sh_putInto : MethodName := ⟨R_Sh, "putInto", "(LFormatDesk$Line;LFormatDesk$Field;)Z"⟩
def w_Sh_putInto : List Cond := .code y_Sh_putInto b_Sh_putInto 6 (some .boolean) :: TB
abbrev b_Fi_padsWithZeros : ByteArray := prog_3_method_14_code
def y_Fi_padsWithZeros : MethodName := ⟨R_Fi, "padsWithZeros", "()Z"⟩
def w_Fi_padsWithZeros : List Cond := .code y_Fi_padsWithZeros b_Fi_padsWithZeros 1 (some .boolean) :: TB
abbrev b_De_fillMark : ByteArray := prog_1_method_17_code
def y_De_fillMark : MethodName := ⟨R_De, "fillMark", "(I)I"⟩
def w_De_fillMark : List Cond := .code y_De_fillMark b_De_fillMark 2 (some .int) :: TB
abbrev b_La_letter : ByteArray := method_5_code
def y_La_letter : MethodName := ⟨R_La, "letter", "(LFormatDesk;I[J)I"⟩
abbrev b_De_letter : ByteArray := prog_1_method_8_code
def y_De_letter : MethodName := ⟨R_De, "letter", "(I)I"⟩
def w_De_letter : List Cond := .code y_De_letter b_De_letter 2 (some .int) :: TB
abbrev b_Mo_init : ByteArray := prog_8_method_1_code
def y_Mo_init : MethodName := ⟨R_Mo, "<init>", "()V"⟩
def w_Mo_init : List Cond := .code y_Mo_init b_Mo_init 1 none :: TB
abbrev b_Mo_thrown : ByteArray := prog_8_method_2_code
def y_Mo_thrown : MethodName := ⟨R_Mo, "thrown", "()I"⟩
def w_Mo_thrown : List Cond := .code y_Mo_thrown b_Mo_thrown 1 (some .int) :: TB
abbrev b_Mo_type : ByteArray := prog_8_method_5_code
def y_Mo_type : MethodName := ⟨R_Mo, "type", "(JI)Z"⟩
def w_Mo_type : List Cond := .code y_Mo_type b_Mo_type 6 (some .boolean) :: TB
abbrev b_Mo_text : ByteArray := prog_8_method_6_code
def y_Mo_text : MethodName := ⟨R_Mo, "text", "()I"⟩
def w_Mo_text : List Cond := .code y_Mo_text b_Mo_text 2 (some .int) :: TB
abbrev b_Mo_decimal : ByteArray := prog_8_method_8_code
def y_Mo_decimal : MethodName := ⟨R_Mo, "decimal", "()I"⟩
def w_Mo_decimal : List Cond := .code y_Mo_decimal b_Mo_decimal 4 (some .int) :: TB
abbrev b_Mo_isDecimal : ByteArray := prog_8_method_7_code
def y_Mo_isDecimal : MethodName := ⟨R_Mo, "isDecimal", "(I)Z"⟩
def w_Mo_isDecimal : List Cond := .code y_Mo_isDecimal b_Mo_isDecimal 10 (some .boolean) :: TB
abbrev b_Mo_isDigit : ByteArray := prog_8_method_4_code
def y_Mo_isDigit : MethodName := ⟨R_Mo, "isDigit", "(I)Z"⟩
def w_Mo_isDigit : List Cond := .code y_Mo_isDigit b_Mo_isDigit 1 (some .boolean) :: TB
abbrev b_Mo_isSome : ByteArray := prog_8_method_9_code
def y_Mo_isSome : MethodName := ⟨R_Mo, "isSome", "()Z"⟩
def w_Mo_isSome : List Cond := .code y_Mo_isSome b_Mo_isSome 5 (some .boolean) :: TB
abbrev b_Mo_raise : ByteArray := prog_8_method_3_code
def y_Mo_raise : MethodName := ⟨R_Mo, "raise", "(I)I"⟩
def w_Mo_raise : List Cond := .code y_Mo_raise b_Mo_raise 2 (some .int) :: TB
abbrev b_Mo_clear : ByteArray := prog_8_method_10_code
def y_Mo_clear : MethodName := ⟨R_Mo, "clear", "()I"⟩
def w_Mo_clear : List Cond := .code y_Mo_clear b_Mo_clear 2 (some .int) :: TB
abbrev b_Mo_fill : ByteArray := prog_8_method_34_code
def y_Mo_fill : MethodName := ⟨R_Mo, "fill", "()I"⟩
def w_Mo_fill : List Cond := .code y_Mo_fill b_Mo_fill 3 (some .int) :: TB
abbrev b_Mo_isPattern : ByteArray := prog_8_method_15_code
def y_Mo_isPattern : MethodName := ⟨R_Mo, "isPattern", "()Z"⟩
def w_Mo_isPattern : List Cond := .code y_Mo_isPattern b_Mo_isPattern 1 (some .boolean) :: TB
abbrev b_Mo_see : ByteArray := prog_8_method_11_code
def y_Mo_see : MethodName := ⟨R_Mo, "see", "(I)I"⟩
def w_Mo_see : List Cond := .code y_Mo_see b_Mo_see 2 (some .int) :: TB
abbrev b_Mo_readField : ByteArray := prog_8_method_13_code
def y_Mo_readField : MethodName := ⟨R_Mo, "readField", "()Z"⟩
def w_Mo_readField : List Cond := .code y_Mo_readField b_Mo_readField 2 (some .boolean) :: TB
abbrev b_Mo_isLetter : ByteArray := prog_8_method_12_code
def y_Mo_isLetter : MethodName := ⟨R_Mo, "isLetter", "(I)Z"⟩
def w_Mo_isLetter : List Cond := .code y_Mo_isLetter b_Mo_isLetter 1 (some .boolean) :: TB
abbrev b_Mo_wrong : ByteArray := prog_8_method_14_code
def y_Mo_wrong : MethodName := ⟨R_Mo, "wrong", "(II)Z"⟩
def w_Mo_wrong : List Cond := .code y_Mo_wrong b_Mo_wrong 3 (some .boolean) :: TB
abbrev b_Mo_put : ByteArray := prog_8_method_16_code
def y_Mo_put : MethodName := ⟨R_Mo, "put", "(II)Z"⟩
def w_Mo_put : List Cond := .code y_Mo_put b_Mo_put 3 (some .boolean) :: TB
abbrev b_Mo_fillField : ByteArray := prog_8_method_19_code
def y_Mo_fillField : MethodName := ⟨R_Mo, "fillField", "()Z"⟩
def w_Mo_fillField : List Cond := .code y_Mo_fillField b_Mo_fillField 4 (some .boolean) :: TB
abbrev b_Mo_takeStar : ByteArray := prog_8_method_18_code
def y_Mo_takeStar : MethodName := ⟨R_Mo, "takeStar", "()Z"⟩
def w_Mo_takeStar : List Cond := .code y_Mo_takeStar b_Mo_takeStar 2 (some .boolean) :: TB
abbrev b_Mo_wholeOf : ByteArray := prog_8_method_17_code
def y_Mo_wholeOf : MethodName := ⟨R_Mo, "wholeOf", "(I)J"⟩
def w_Mo_wholeOf : List Cond := .code y_Mo_wholeOf b_Mo_wholeOf 5 (some .long) :: TB
abbrev b_Mo_putWords : ByteArray := prog_8_method_25_code
def y_Mo_putWords : MethodName := ⟨R_Mo, "putWords", "(I)V"⟩
def w_Mo_putWords : List Cond := .code y_Mo_putWords b_Mo_putWords 4 none :: TB
abbrev b_Mo_makePlain : ByteArray := prog_8_method_24_code
def y_Mo_makePlain : MethodName := ⟨R_Mo, "makePlain", "(I)V"⟩
def w_Mo_makePlain : List Cond := .code y_Mo_makePlain b_Mo_makePlain 4 none :: TB
abbrev b_Mo_say : ByteArray := prog_8_method_23_code
def y_Mo_say : MethodName := ⟨R_Mo, "say", "(I)V"⟩
def w_Mo_say : List Cond := .code y_Mo_say b_Mo_say 2 none :: TB
abbrev b_Mo_lay : ByteArray := prog_8_method_21_code
def y_Mo_lay : MethodName := ⟨R_Mo, "lay", "(I)V"⟩
def w_Mo_lay : List Cond := .code y_Mo_lay b_Mo_lay 2 none :: TB
abbrev b_Mo_putNumber : ByteArray := prog_8_method_29_code
def y_Mo_putNumber : MethodName := ⟨R_Mo, "putNumber", "(I)V"⟩
def w_Mo_putNumber : List Cond := .code y_Mo_putNumber b_Mo_putNumber 4 none :: TB
abbrev b_Mo_sign : ByteArray := prog_8_method_22_code
def y_Mo_sign : MethodName := ⟨R_Mo, "sign", "(Z)V"⟩
def w_Mo_sign : List Cond := .code y_Mo_sign b_Mo_sign 2 none :: TB
abbrev b_Mo_fixed : ByteArray := prog_8_method_30_code
def y_Mo_fixed : MethodName := ⟨R_Mo, "fixed", "(IIZ)V"⟩
def w_Mo_fixed : List Cond := .code y_Mo_fixed b_Mo_fixed 5 none :: TB
abbrev b_Mo_lift : ByteArray := prog_8_method_27_code
def y_Mo_lift : MethodName := ⟨R_Mo, "lift", "(II)V"⟩
def w_Mo_lift : List Cond := .code y_Mo_lift b_Mo_lift 4 none :: TB
abbrev b_Mo_round : ByteArray := prog_8_method_28_code
def y_Mo_round : MethodName := ⟨R_Mo, "round", "(I)V"⟩
def w_Mo_round : List Cond := .code y_Mo_round b_Mo_round 6 none :: TB
abbrev b_Mo_exponential : ByteArray := prog_8_method_33_code
def y_Mo_exponential : MethodName := ⟨R_Mo, "exponential", "(IIZZ)V"⟩
def w_Mo_exponential : List Cond := .code y_Mo_exponential b_Mo_exponential 7 none :: TB
abbrev b_Mo_exponentOf : ByteArray := prog_8_method_32_code
def y_Mo_exponentOf : MethodName := ⟨R_Mo, "exponentOf", "(II)I"⟩
def w_Mo_exponentOf : List Cond := .code y_Mo_exponentOf b_Mo_exponentOf 4 (some .int) :: TB
abbrev b_Mo_cut : ByteArray := prog_8_method_31_code
def y_Mo_cut : MethodName := ⟨R_Mo, "cut", "(I)V"⟩
def w_Mo_cut : List Cond := .code y_Mo_cut b_Mo_cut 2 none :: TB
abbrev b_Mo_putWhole : ByteArray := prog_8_method_26_code
def y_Mo_putWhole : MethodName := ⟨R_Mo, "putWhole", "(I)V"⟩
def w_Mo_putWhole : List Cond := .code y_Mo_putWhole b_Mo_putWhole 9 none :: TB
abbrev b_Mo_putPadded : ByteArray := prog_8_method_20_code
def y_Mo_putPadded : MethodName := ⟨R_Mo, "putPadded", "(Z)Z"⟩
def w_Mo_putPadded : List Cond := .code y_Mo_putPadded b_Mo_putPadded 6 (some .boolean) :: TB
abbrev b_Mo_fault : ByteArray := prog_8_method_35_code
def y_Mo_fault : MethodName := ⟨R_Mo, "fault", "(I)I"⟩
def w_Mo_fault : List Cond := .code y_Mo_fault b_Mo_fault 2 (some .int) :: TB
abbrev b_Mo_letter : ByteArray := prog_8_method_36_code
def y_Mo_letter : MethodName := ⟨R_Mo, "letter", "(I)I"⟩
def w_Mo_letter : List Cond := .code y_Mo_letter b_Mo_letter 2 (some .int) :: TB
abbrev b_Mo_letters : ByteArray := prog_8_method_37_code
def y_Mo_letters : MethodName := ⟨R_Mo, "letters", "()I"⟩
def w_Mo_letters : List Cond := .code y_Mo_letters b_Mo_letters 1 (some .int) :: TB
abbrev b_Mo_alike : ByteArray := prog_8_method_38_code
def y_Mo_alike : MethodName := ⟨R_Mo, "alike", "(II)Z"⟩
def w_Mo_alike : List Cond := .code y_Mo_alike b_Mo_alike 6 (some .boolean) :: TB
