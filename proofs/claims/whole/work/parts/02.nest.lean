/-! what a class of the nest may reach of another: words of the tables that go from state to state by va_Nw -/
def nestW : List Cond := [.methodLinkNest R_De 24 y_Va_init R_De, .fieldLinkNest R_Sh 72 R_Va "words" "LFormatDesk$Line;" R_De, .fieldLinkNest R_Fi 96 R_Va "isDecimal" "Z" R_De, .fieldLinkNest R_Sh 114 R_Va "below" "Z" R_De, .fieldLinkNest R_Dg 21 R_Va "ahead" "J" R_De, .fieldLinkNest R_Sh 95 R_Va "ahead" "J" R_De, .fieldLinkNest R_Dg 13 R_Va "behind" "J" R_De, .methodLinkNest R_De 31 y_Fi_init R_De, .fieldLinkNest R_Sh 169 R_Fi "minus" "Z" R_De, .fieldLinkNest R_Sh 91 R_Fi "sharp" "Z" R_De, .fieldLinkNest R_De 148 R_Fi "starWidth" "Z" R_De, .fieldLinkNest R_De 155 R_Fi "starPrecision" "Z" R_De, .fieldLinkNest R_Sh 158 R_Fi "width" "I" R_De, .fieldLinkNest R_Sh 103 R_Fi "precision" "I" R_De, .fieldLinkNest R_Sh 41 R_Fi "letter" "I" R_De, .fieldLinkNest R_De 136 R_Fi "next" "I" R_De, .methodLinkNest R_De 38 y_Sh_init R_De, .methodLinkNest R_Sh 22 y_Dg_init R_De]
def kN (U : State) : Prop := ∀ w ∈ nestW, va_Nw w U
theorem kN_43 {U : State} (h : kN U) : va_Nw (.methodLinkNest R_De 24 y_Va_init R_De) U := h _ (List.mem_of_getElem? (i := 0) rfl)
theorem kN_50 {U : State} (h : kN U) : va_Nw (.fieldLinkNest R_Sh 72 R_Va "words" "LFormatDesk$Line;" R_De) U := h _ (List.mem_of_getElem? (i := 1) rfl)
theorem kN_52 {U : State} (h : kN U) : va_Nw (.fieldLinkNest R_Fi 96 R_Va "isDecimal" "Z" R_De) U := h _ (List.mem_of_getElem? (i := 2) rfl)
theorem kN_54 {U : State} (h : kN U) : va_Nw (.fieldLinkNest R_Sh 114 R_Va "below" "Z" R_De) U := h _ (List.mem_of_getElem? (i := 3) rfl)
theorem kN_55 {U : State} (h : kN U) : va_Nw (.fieldLinkNest R_Dg 21 R_Va "ahead" "J" R_De) U := h _ (List.mem_of_getElem? (i := 4) rfl)
theorem kN_56 {U : State} (h : kN U) : va_Nw (.fieldLinkNest R_Sh 95 R_Va "ahead" "J" R_De) U := h _ (List.mem_of_getElem? (i := 5) rfl)
theorem kN_58 {U : State} (h : kN U) : va_Nw (.fieldLinkNest R_Dg 13 R_Va "behind" "J" R_De) U := h _ (List.mem_of_getElem? (i := 6) rfl)
theorem kN_73 {U : State} (h : kN U) : va_Nw (.methodLinkNest R_De 31 y_Fi_init R_De) U := h _ (List.mem_of_getElem? (i := 7) rfl)
theorem kN_78 {U : State} (h : kN U) : va_Nw (.fieldLinkNest R_Sh 169 R_Fi "minus" "Z" R_De) U := h _ (List.mem_of_getElem? (i := 8) rfl)
theorem kN_82 {U : State} (h : kN U) : va_Nw (.fieldLinkNest R_Sh 91 R_Fi "sharp" "Z" R_De) U := h _ (List.mem_of_getElem? (i := 9) rfl)
theorem kN_85 {U : State} (h : kN U) : va_Nw (.fieldLinkNest R_De 148 R_Fi "starWidth" "Z" R_De) U := h _ (List.mem_of_getElem? (i := 10) rfl)
theorem kN_87 {U : State} (h : kN U) : va_Nw (.fieldLinkNest R_De 155 R_Fi "starPrecision" "Z" R_De) U := h _ (List.mem_of_getElem? (i := 11) rfl)
theorem kN_89 {U : State} (h : kN U) : va_Nw (.fieldLinkNest R_Sh 158 R_Fi "width" "I" R_De) U := h _ (List.mem_of_getElem? (i := 12) rfl)
theorem kN_90 {U : State} (h : kN U) : va_Nw (.fieldLinkNest R_Sh 103 R_Fi "precision" "I" R_De) U := h _ (List.mem_of_getElem? (i := 13) rfl)
theorem kN_92 {U : State} (h : kN U) : va_Nw (.fieldLinkNest R_Sh 41 R_Fi "letter" "I" R_De) U := h _ (List.mem_of_getElem? (i := 14) rfl)
theorem kN_96 {U : State} (h : kN U) : va_Nw (.fieldLinkNest R_De 136 R_Fi "next" "I" R_De) U := h _ (List.mem_of_getElem? (i := 15) rfl)
theorem kN_124 {U : State} (h : kN U) : va_Nw (.methodLinkNest R_De 38 y_Sh_init R_De) U := h _ (List.mem_of_getElem? (i := 16) rfl)
theorem kN_132 {U : State} (h : kN U) : va_Nw (.methodLinkNest R_Sh 22 y_Dg_init R_De) U := h _ (List.mem_of_getElem? (i := 17) rfl)
theorem kN.warm {s U : State} (hW : s.WarmedH U.vm) (h : kN s) : kN U := by
  intro w hw
  have h1 := h w hw
  simp only [nestW, List.mem_cons, List.not_mem_nil, or_false] at hw
  rcases hw with rfl | rfl | rfl | rfl | rfl | rfl | rfl | rfl | rfl | rfl | rfl | rfl | rfl | rfl | rfl | rfl | rfl | rfl
  · exact va_Nw.warmM hW h1
  · exact va_Nw.warmF hW h1
  · exact va_Nw.warmF hW h1
  · exact va_Nw.warmF hW h1
  · exact va_Nw.warmF hW h1
  · exact va_Nw.warmF hW h1
  · exact va_Nw.warmF hW h1
  · exact va_Nw.warmM hW h1
  · exact va_Nw.warmF hW h1
  · exact va_Nw.warmF hW h1
  · exact va_Nw.warmF hW h1
  · exact va_Nw.warmF hW h1
  · exact va_Nw.warmF hW h1
  · exact va_Nw.warmF hW h1
  · exact va_Nw.warmF hW h1
  · exact va_Nw.warmF hW h1
  · exact va_Nw.warmM hW h1
  · exact va_Nw.warmM hW h1
theorem kN.calling {U : State} {g : JFrame} {mk : MethodId} {a : Array Value} (h : kN U) : kN (U.calling g mk a) := by
  intro w hw
  have h1 := h w hw
  simp only [nestW, List.mem_cons, List.not_mem_nil, or_false] at hw
  rcases hw with rfl | rfl | rfl | rfl | rfl | rfl | rfl | rfl | rfl | rfl | rfl | rfl | rfl | rfl | rfl | rfl | rfl | rfl
  · exact va_Nw.same rfl rfl h1
  · exact va_Nw.same rfl rfl h1
  · exact va_Nw.same rfl rfl h1
  · exact va_Nw.same rfl rfl h1
  · exact va_Nw.same rfl rfl h1
  · exact va_Nw.same rfl rfl h1
  · exact va_Nw.same rfl rfl h1
  · exact va_Nw.same rfl rfl h1
  · exact va_Nw.same rfl rfl h1
  · exact va_Nw.same rfl rfl h1
  · exact va_Nw.same rfl rfl h1
  · exact va_Nw.same rfl rfl h1
  · exact va_Nw.same rfl rfl h1
  · exact va_Nw.same rfl rfl h1
  · exact va_Nw.same rfl rfl h1
  · exact va_Nw.same rfl rfl h1
  · exact va_Nw.same rfl rfl h1
  · exact va_Nw.same rfl rfl h1
theorem kN.of {s : State} {args : Array Value} (h : ∀ w ∈ lw_tbl, w.before args s = true) : kN s := by
  intro w hw
  simp only [nestW, List.mem_cons, List.not_mem_nil, or_false] at hw
  rcases hw with rfl | rfl | rfl | rfl | rfl | rfl | rfl | rfl | rfl | rfl | rfl | rfl | rfl | rfl | rfl | rfl | rfl | rfl
  · exact va_Nw.of rfl (h _ (List.mem_append_right _ (List.mem_of_getElem? (i := 43) (by decide +kernel))))
  · exact va_Nw.of rfl (h _ (List.mem_append_right _ (List.mem_of_getElem? (i := 50) (by decide +kernel))))
  · exact va_Nw.of rfl (h _ (List.mem_append_right _ (List.mem_of_getElem? (i := 52) (by decide +kernel))))
  · exact va_Nw.of rfl (h _ (List.mem_append_right _ (List.mem_of_getElem? (i := 54) (by decide +kernel))))
  · exact va_Nw.of rfl (h _ (List.mem_append_right _ (List.mem_of_getElem? (i := 55) (by decide +kernel))))
  · exact va_Nw.of rfl (h _ (List.mem_append_right _ (List.mem_of_getElem? (i := 56) (by decide +kernel))))
  · exact va_Nw.of rfl (h _ (List.mem_append_right _ (List.mem_of_getElem? (i := 58) (by decide +kernel))))
  · exact va_Nw.of rfl (h _ (List.mem_append_right _ (List.mem_of_getElem? (i := 73) (by decide +kernel))))
  · exact va_Nw.of rfl (h _ (List.mem_append_right _ (List.mem_of_getElem? (i := 78) (by decide +kernel))))
  · exact va_Nw.of rfl (h _ (List.mem_append_right _ (List.mem_of_getElem? (i := 82) (by decide +kernel))))
  · exact va_Nw.of rfl (h _ (List.mem_append_right _ (List.mem_of_getElem? (i := 85) (by decide +kernel))))
  · exact va_Nw.of rfl (h _ (List.mem_append_right _ (List.mem_of_getElem? (i := 87) (by decide +kernel))))
  · exact va_Nw.of rfl (h _ (List.mem_append_right _ (List.mem_of_getElem? (i := 89) (by decide +kernel))))
  · exact va_Nw.of rfl (h _ (List.mem_append_right _ (List.mem_of_getElem? (i := 90) (by decide +kernel))))
  · exact va_Nw.of rfl (h _ (List.mem_append_right _ (List.mem_of_getElem? (i := 92) (by decide +kernel))))
  · exact va_Nw.of rfl (h _ (List.mem_append_right _ (List.mem_of_getElem? (i := 96) (by decide +kernel))))
  · exact va_Nw.of rfl (h _ (List.mem_append_right _ (List.mem_of_getElem? (i := 124) (by decide +kernel))))
  · exact va_Nw.of rfl (h _ (List.mem_append_right _ (List.mem_of_getElem? (i := 132) (by decide +kernel))))
