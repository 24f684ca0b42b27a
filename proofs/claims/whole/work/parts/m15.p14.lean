/-! What the class adds to a line are characters (chr16 leaves them). -/
def stab (L : LnS) : Prop := ∀ k, k < L.2.toNatClampNeg → chr16 (L.1 k) = L.1 k
theorem chr_idem (x : Int32) : chr16 (chr16 x) = chr16 x := by
  have e : (x.toUInt32 % 65536) % 65536 = x.toUInt32 % 65536 := by
    apply UInt32.toNat_inj.mp
    rw [UInt32.toNat_mod, UInt32.toNat_mod, show (65536 : UInt32).toNat = 65536 from rfl]
    omega
  exact congrArg UInt32.toInt32 e
theorem stab.list {L : LnS} (h : stab L) : ∀ x ∈ lnL L, chr16 x = x := by
  intro x hx
  unfold lnL at hx
  obtain ⟨k, hk, rfl⟩ := List.mem_map.mp hx
  exact h k (List.mem_range.mp hk)
theorem stab_0 (f : Nat → Int32) : stab (f, 0) := fun k hk => absurd hk (Nat.not_lt_zero _)
theorem clamp_1 (n : Int32) : (n + 1).toNatClampNeg ≤ n.toNatClampNeg + 1 := by
  show (n + 1).toInt.toNat ≤ n.toInt.toNat + 1
  have h1 := Int32.toInt_lt n
  have h2 := Int32.le_toInt n
  by_cases e : n.toInt + 1 < 2147483648
  · rw [k_add (by rw [l_1]; omega) (by rw [l_1]; omega), l_1]; omega
  · rw [Int32.toInt_add, l_1, show n.toInt + 1 = 2147483648 by omega]; exact Nat.le_trans (by decide : (Int.bmod 2147483648 (2 ^ 32)).toNat ≤ 0) (Nat.zero_le _)
theorem lnAdd_st {room : Nat} {L : LnS} {c : Int32} (h : stab L) : stab (lnAdd room L c) := by
  unfold lnAdd
  split
  · exact h
  · intro k hk
    have := clamp_1 L.2
    have hk : k < (L.2 + 1).toNatClampNeg := hk
    show chr16 (upd L.1 L.2.toNatClampNeg (chr16 c) k) = upd L.1 L.2.toNatClampNeg (chr16 c) k
    by_cases e : k = L.2.toNatClampNeg
    · subst e; rw [pk_us, chr_idem]
    · rw [pk_un e]; exact h k (by omega)
theorem gaGo_st {room : Nat} {ch : Int32 → Int32} {e : Int32} : ∀ (k : Nat) (i : Int32) (L : LnS), stab L → stab (gaGo room ch e k i L) := by
  intro k
  induction k with
  | zero => intro i L h; exact h
  | succ k ih => intro i L h; rw [gaGo]; split; exact h; exact ih _ _ (lnAdd_st h)
theorem gaDn_st {room : Nat} {ch : Int32 → Int32} : ∀ (k : Nat) (i : Int32) (L : LnS), stab L → stab (gaDn room ch k i L) := by
  intro k
  induction k with
  | zero => intro i L h; exact h
  | succ k ih => intro i L h; rw [gaDn]; split; exact h; exact ih _ _ (lnAdd_st h)
theorem lnRp_st {room : Nat} {mark times : Int32} {L : LnS} (h : stab L) : stab (lnRp room mark times L) := by unfold lnRp; rw [lnRep_g]; exact gaGo_st _ _ _ h
theorem lnPt_st {room : Nat} {g : Nat → Int32} {gn b e : Int32} {L : LnS} (h : stab L) : stab (lnPt room g gn b e L) := by unfold lnPt; rw [lnPart_g]; exact gaGo_st _ _ _ h
theorem dgPut_st {row : Nat → Int32} {room : Nat} {point places must : Int32} {L : LnS} (h : stab L) : stab (dgPut row room point places must L) := by
  have ha : stab (dgPa row room point L) := by unfold dgPa; rw [dgP1_g]; exact gaGo_st _ _ _ h
  have hb : stab (dgPb row room point places must L) := by
    unfold dgPb
    split
    · exact lnAdd_st ha
    · split
      · exact ha
      · exact lnAdd_st ha
  unfold dgPut
  rw [dgP2_g]
  exact gaGo_st _ _ _ hb
theorem exPut_st {row : Nat → Int32} {mark : Int32} {L : LnS} (h : stab L) : stab (exPut row mark L) := lnAdd_st (lnAdd_st (lnAdd_st (lnAdd_st h)))
theorem whLine_st {num : Int64} {radix le pr : Int32} {lo : Nat → Int32} {L : LnS} (h : stab L) : stab (whLine num radix le pr lo L) := by
  unfold whLine
  rw [whGo_g]
  exact gaDn_st _ _ _ (lnRp_st h)
theorem qtGo_st {g : Nat → Int32} {gn e : Int32} : ∀ (k : Nat) (i : Int32) (L : LnS), stab L → stab (qtGo g gn e k i L) := by
  intro k
  induction k with
  | zero => intro i L h; exact h
  | succ k ih =>
    intro i L h
    rw [qtGo]
    split
    · exact h
    · refine ih _ _ ?_
      unfold qtOne
      refine lnAdd_st ?_
      split
      · exact lnAdd_st h
      · split
        · exact lnAdd_st h
        · exact h
theorem qtLine_st {g : Nat → Int32} {gn pr : Int32} {L : LnS} (h : stab L) : stab (qtLine g gn pr L) := lnAdd_st (qtGo_st _ _ _ (lnAdd_st h))
theorem lnZeros_le {f : Nat → Int32} {places : Int32} : ∀ (k : Nat) (i n : Int32), (lnZeros f places k i n).toInt ≤ n.toInt := by
  intro k
  induction k with
  | zero => intro i n; exact Int.le_refl _
  | succ k ih =>
    intro i n
    rw [lnZeros]
    split
    · exact Int.le_refl _
    · split
      · rename_i h
        refine Int.le_trans (ih _ _) ?_
        by_cases e : 0 < n.toInt
        · rw [k_dec e]; omega
        · have hneg : lnAt f n (n - 1) = -1 := by
            by_cases g : n.toInt = -2147483648
            · have : n = -2147483648 := Int32.toInt_inj.mp (by rw [g]; decide)
              subst this
              unfold lnAt
              rw [if_neg (by decide), if_pos (by decide)]
            · refine lnAt_neg ?_
              have := Int32.le_toInt n
              rw [k_lt, l_0, k_sb (by rw [l_1]; omega) (by rw [l_1]; omega), l_1]
              omega
          rw [hneg] at h
          exact absurd h (by decide)
      · exact Int.le_refl _
theorem lnDp_le {f : Nat → Int32} {places n : Int32} : (lnDp f places n).toInt ≤ n.toInt := by
  unfold lnDp lnDrop
  have h := lnZeros_le (f := f) (places := places) (places.toInt.toNat + 1) 0 n
  generalize lnZeros f places (places.toInt.toNat + 1) 0 n = m at h ⊢
  split
  · rename_i g
    refine Int.le_trans ?_ h
    by_cases e : 0 < m.toInt
    · rw [k_dec e]; omega
    · have hneg : lnAt f m (m - 1) = -1 := by
        by_cases q : m.toInt = -2147483648
        · have : m = -2147483648 := Int32.toInt_inj.mp (by rw [q]; decide)
          subst this
          unfold lnAt
          rw [if_neg (by decide), if_pos (by decide)]
        · refine lnAt_neg ?_
          have := Int32.le_toInt m
          rw [k_lt, l_0, k_sb (by rw [l_1]; omega) (by rw [l_1]; omega), l_1]
          omega
      rw [hneg] at g
      exact absurd g (by decide)
  · exact h
theorem dp_st {L : LnS} {places : Int32} (h : stab L) : stab (L.1, lnDp L.1 places L.2) := by
  intro k hk
  have := lnDp_le (f := L.1) (places := places) (n := L.2)
  have hk : k < (lnDp L.1 places L.2).toInt.toNat := hk
  refine h k ?_
  show k < L.2.toInt.toNat
  omega
theorem gL3_st {row : Nat → Int32} {pr sh le : Int32} {L : LnS} (h : stab L) : stab (gL3 row pr sh le L) := by
  have h1 : stab (gL1 row pr sh L) := dgPut_st h
  have h2 : stab (gL2 row pr sh L) := by
    unfold gL2
    split
    · exact dp_st h1
    · exact h1
  unfold gL3
  split
  · exact exPut_st h2
  · exact h2
theorem ite_all {P : LnS → Prop} {p : Prop} [Decidable p] {a b : LnS} (ha : P a) (hb : P b) : P (if p then a else b) := by
  by_cases h : p
  · rw [if_pos h]; exact ha
  · rw [if_neg h]; exact hb
theorem foPick_all {P : LnS → Prop} (le : Int32) {e g x b c d f o q s g2 x2 e2 : LnS} (h1 : P e) (h2 : P g) (h3 : P x) (h4 : P b) (h5 : P c) (h6 : P d) (h7 : P f) (h8 : P o) (h9 : P q) (h10 : P s) (h11 : P g2) (h12 : P x2) (h13 : P e2) : P (foPick le e g x b c d f o q s g2 x2 e2) :=
  ite_all h1 (ite_all h2 (ite_all h3 (ite_all h4 (ite_all h5 (ite_all h6 (ite_all h13 (ite_all h7 (ite_all h11 (ite_all h8 (ite_all h9 (ite_all h12 h10)))))))))))
theorem ffBd_st (c : VS) (le pr sh : Int32) (row lo f : Nat → Int32) : stab (ffBd c le pr sh row lo f) := by
  have h := stab_0 f
  unfold ffBd foLine
  refine foPick_all le ?_ ?_ ?_ ?_ ?_ ?_ ?_ ?_ ?_ ?_ ?_ ?_ ?_
  · exact exPut_st (dgPut_st h)
  · exact gL3_st h
  · exact whLine_st h
  · exact whLine_st h
  · exact lnAdd_st h
  · exact whLine_st h
  · exact dgPut_st h
  · exact whLine_st h
  · exact qtLine_st h
  · exact lnPt_st h
  · exact gL3_st h
  · exact whLine_st h
  · exact exPut_st (dgPut_st h)
