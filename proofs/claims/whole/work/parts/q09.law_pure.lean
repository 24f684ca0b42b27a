/-! small words of the law's walk -/
theorem lw_fit {kc ks mc ms : Nat} (h1 : kc ≤ 2000) (h2 : ks ≤ 20000) (hm : mc ≤ 500) (hs : ms ≤ 10000) : kc + mc ≤ room_1.cells ∧ ks + ms ≤ room_1.slots := by
  show kc + mc ≤ 601024 ∧ ks + ms ≤ 7293034
  omega
abbrev lwI (i : Int32) (L : Nat) : Prop := 0 ≤ i.toInt ∧ i.toInt + 3 < (L : Int) ∧ L ≤ 2048
theorem lw_in0 {i : Int32} {L : Nat} (h : lwI i L) : vp_in i L := vp_in_iff.mpr ⟨h.1, by omega⟩
theorem lw_t1 {i : Int32} {L : Nat} (h : lwI i L) : (i + 1).toInt = i.toInt + 1 := by
  rw [k_add] <;> rw [show (1 : Int32).toInt = 1 from by decide] <;> omega
theorem lw_in1 {i : Int32} {L : Nat} (h : lwI i L) : vp_in (i + 1) L := vp_in_iff.mpr (by rw [lw_t1 h]; omega)
theorem lw_t2 {i : Int32} {L : Nat} (h : lwI i L) : (i + 2).toInt = i.toInt + 2 := by
  rw [k_add] <;> rw [show (2 : Int32).toInt = 2 from by decide] <;> omega
theorem lw_t3 {i : Int32} {L : Nat} (h : lwI i L) : (i + 3).toInt = i.toInt + 3 := by
  rw [k_add] <;> rw [show (3 : Int32).toInt = 3 from by decide] <;> omega
theorem lw_in2 {i : Int32} {L : Nat} (h : lwI i L) : vp_in (i + 2) L := vp_in_iff.mpr (by rw [lw_t2 h]; omega)
theorem lw_in3 {i : Int32} {L : Nat} (h : lwI i L) : vp_in (i + 3) L := vp_in_iff.mpr (by rw [lw_t3 h]; omega)
