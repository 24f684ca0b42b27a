/-! LISTS: what a line holds, and the loops that build one. -/
def lnL (L : LnS) : List Int32 := (List.range L.2.toNatClampNeg).map L.1
theorem j_nat {n : Nat} (h : n < 2147483648) : (nI n).toNatClampNeg = n := by
  have h1 := nI_toInt (n := n) (by omega)
  show (nI n).toInt.toNat = n
  omega
theorem j_add (a b : Nat) : nI a + nI b = nI (a + b) := by unfold nI; exact (Int32.ofNat_add a b).symm
theorem j_mul (a b : Nat) : nI a * nI b = nI (a * b) := by unfold nI; exact (Int32.ofNat_mul a b).symm
theorem j_one (a : Nat) : nI a + 1 = nI (a + 1) := j_add a 1
theorem j_m1 {a : Nat} (h0 : 0 < a) (h : a < 2147483648) : nI a + (-1) = nI (a - 1) := by
  refine Int32.toInt_inj.mp ?_
  have h1 := nI_toInt (n := a) (by omega)
  have h2 := nI_toInt (n := a - 1) (by omega)
  rw [k_decm (by omega), h1, h2]
  omega
theorem j_s1 {a : Nat} (h0 : 0 < a) (h : a < 2147483648) : nI a - 1 = nI (a - 1) := by
  refine Int32.toInt_inj.mp ?_
  have h1 := nI_toInt (n := a) (by omega)
  have h2 := nI_toInt (n := a - 1) (by omega)
  rw [k_dec (by omega), h1, h2]
  omega
theorem j_of {x : Int32} (h : 0 ≤ x.toInt) : x = nI x.toInt.toNat := k_ofNat h
theorem j_le {a b : Nat} (ha : a < 2147483648) (hb : b < 2147483648) : nI a ≤ nI b ↔ a ≤ b := by
  rw [k_le, nI_toInt (by omega), nI_toInt (by omega)]; omega
theorem j_lt {a b : Nat} (ha : a < 2147483648) (hb : b < 2147483648) : nI a < nI b ↔ a < b := by
  rw [k_lt, nI_toInt (by omega), nI_toInt (by omega)]; omega
theorem j_inj {a b : Nat} (ha : a < 2147483648) (hb : b < 2147483648) : nI a = nI b ↔ a = b := by
  constructor
  · intro h
    have := congrArg Int32.toInt h
    rw [nI_toInt (by omega), nI_toInt (by omega)] at this
    omega
  · intro h; rw [h]
theorem j_sub {a b : Nat} (h : b ≤ a) (ha : a < 2147483648) : nI a - nI b = nI (a - b) := by
  refine Int32.toInt_inj.mp ?_
  have h1 := nI_toInt (n := a) (by omega)
  have h2 := nI_toInt (n := b) (by omega)
  have h3 := nI_toInt (n := a - b) (by omega)
  rw [k_sb (by omega) (by omega), h1, h2, h3]
  omega
theorem lnL_length (L : LnS) : (lnL L).length = L.2.toNatClampNeg := by simp [lnL]
theorem lnL_get {L : LnS} {k : Nat} (h : k < (lnL L).length) : (lnL L)[k] = L.1 k := by simp [lnL]
theorem lnL_eq {L M : LnS} (h : L.2 = M.2) (h1 : ∀ k, k < M.2.toNatClampNeg → L.1 k = M.1 k) : lnL L = lnL M := by
  unfold lnL
  rw [h]
  exact List.map_congr_left fun k hk => h1 k (List.mem_range.mp hk)
theorem lnL_zero (f : Nat → Int32) : lnL (f, 0) = [] := rfl
theorem ly_ls {L : LnS} {c : Int32} (h0 : 0 ≤ L.2.toInt) (h1 : L.2.toInt < 2147483647) : lnL (lyAdd L c) = lnL L ++ [c] ∧ (lyAdd L c).2.toInt = L.2.toInt + 1 := by
  have e : (L.2 + 1).toInt = L.2.toInt + 1 := by rw [k_add] <;> rw [l_1] <;> omega
  have e2 : (L.2 + 1).toNatClampNeg = L.2.toNatClampNeg + 1 := by
    show (L.2 + 1).toInt.toNat = L.2.toInt.toNat + 1
    omega
  refine ⟨?_, e⟩
  unfold lnL lyAdd
  dsimp only
  rw [e2, List.range_succ, List.map_append, List.map_cons, List.map_nil, pk_us]
  congr 1
  exact List.map_congr_left fun k hk => pk_un (by have := List.mem_range.mp hk; omega)
theorem ln_ls {room : Nat} {L : LnS} {c : Int32} (h : lnOK room L.2) : lnL (lnAdd room L c) = (lnL L ++ [chr16 c]).take room ∧ lnOK room (lnAdd room L c).2 := by
  refine ⟨?_, lnAdd_ok h⟩
  obtain ⟨a, b, d⟩ := h
  have hl := lnL_length L
  have hl' : L.2.toNatClampNeg = L.2.toInt.toNat := rfl
  unfold lnAdd
  split
  · rename_i h1
    rw [k_le, nI_toInt (by omega)] at h1
    rw [List.take_append_of_le_length (by omega), List.take_of_length_le (by omega)]
  · rename_i h1
    rw [k_le, nI_toInt (by omega)] at h1
    rw [List.take_of_length_le (by simp only [List.length_append, List.length_singleton]; omega)]
    exact (ly_ls (L := L) (c := chr16 c) a (by omega)).1
theorem take_app {α : Type} (n : Nat) (xs ys : List α) : (xs.take n ++ ys).take n = (xs ++ ys).take n := by
  rw [List.take_append, List.take_append, List.take_take, Nat.min_self, List.length_take]
  congr 2
  omega
/-- counting up -/
def gaGo (room : Nat) (ch : Int32 → Int32) (e : Int32) : Nat → Int32 → LnS → LnS
  | 0, _, L => L
  | k + 1, i, L => if e ≤ i then L else gaGo room ch e k (i + 1) (lnAdd room L (ch i))
def gyGo (ch : Int32 → Int32) (e : Int32) : Nat → Int32 → LnS → LnS
  | 0, _, L => L
  | k + 1, i, L => if e ≤ i then L else gyGo ch e k (i + 1) (lyAdd L (ch i))
theorem ga_ls (room : Nat) (ch : Int32 → Int32) (e : Int32) : ∀ (k i : Nat) (L : LnS), (e.toInt - i).toNat < k → i < 2147483648 → lnOK room L.2 →
    lnL (gaGo room ch e k (nI i) L) = (lnL L ++ (List.range' i (e.toInt - i).toNat).map (fun j => chr16 (ch (nI j)))).take room ∧ lnOK room (gaGo room ch e k (nI i) L).2 := by
  intro k
  induction k with
  | zero => intro i L h; omega
  | succ k ih =>
    intro i L h hi hL
    have hl := lnL_length L
    have hl' : L.2.toNatClampNeg = L.2.toInt.toNat := rfl
    have he := Int32.toInt_lt e
    rw [gaGo]
    split
    · rename_i h1
      rw [k_le, nI_toInt (by omega)] at h1
      rw [show (e.toInt - i).toNat = 0 by omega]
      refine ⟨?_, hL⟩
      simp only [List.range'_zero, List.map_nil, List.append_nil]
      rw [List.take_of_length_le]
      obtain ⟨a, b, d⟩ := hL
      omega
    · rename_i h1
      rw [k_le, nI_toInt (by omega)] at h1
      obtain ⟨a, b⟩ := ln_ls (c := ch (nI i)) hL
      rw [j_one]
      obtain ⟨c, d⟩ := ih (i + 1) (lnAdd room L (ch (nI i))) (by omega) (by omega) b
      refine ⟨?_, d⟩
      rw [c, a, take_app, show (e.toInt - i).toNat = (e.toInt - (i + 1 : Nat)).toNat + 1 by omega, List.range'_succ, List.map_cons, List.append_assoc]
      rfl
theorem gy_ls (ch : Int32 → Int32) (e : Int32) : ∀ (k i : Nat) (L : LnS), (e.toInt - i).toNat < k → i < 2147483648 → 0 ≤ L.2.toInt → L.2.toInt + (e.toInt - i).toNat < 2147483648 →
    lnL (gyGo ch e k (nI i) L) = lnL L ++ (List.range' i (e.toInt - i).toNat).map (fun j => ch (nI j)) ∧ (gyGo ch e k (nI i) L).2.toInt = L.2.toInt + (e.toInt - i).toNat := by
  intro k
  induction k with
  | zero => intro i L h; omega
  | succ k ih =>
    intro i L h hi h0 hL
    have he := Int32.toInt_lt e
    rw [gyGo]
    split
    · rename_i h1
      rw [k_le, nI_toInt (by omega)] at h1
      rw [show (e.toInt - i).toNat = 0 by omega]
      exact ⟨by simp, by omega⟩
    · rename_i h1
      rw [k_le, nI_toInt (by omega)] at h1
      obtain ⟨a, b⟩ := ly_ls (L := L) (c := ch (nI i)) h0 (by omega)
      rw [j_one]
      obtain ⟨c, d⟩ := ih (i + 1) (lyAdd L (ch (nI i))) (by omega) (by omega) (by omega) (by omega)
      refine ⟨?_, by omega⟩
      rw [c, a, show (e.toInt - i).toNat = (e.toInt - (i + 1 : Nat)).toNat + 1 by omega, List.range'_succ, List.map_cons, List.append_assoc]
      rfl
/-- counting down -/
def gaDn (room : Nat) (ch : Int32 → Int32) : Nat → Int32 → LnS → LnS
  | 0, _, L => L
  | k + 1, i, L => if i < 0 then L else gaDn room ch k (i + (-1)) (lnAdd room L (ch i))
def gyDn (ch : Int32 → Int32) : Nat → Int32 → LnS → LnS
  | 0, _, L => L
  | k + 1, i, L => if i < 0 then L else gyDn ch k (i + (-1)) (lyAdd L (ch i))
theorem j_m0 (a : Nat) : nI (a + 1) + (-1) = nI a := by
  rw [← j_one, Int32.add_assoc, show (1 : Int32) + (-1) = 0 from by decide, Int32.add_zero]
theorem gaDn_ls (room : Nat) (ch : Int32 → Int32) : ∀ (k i : Nat) (L : LnS), i < k → i < 2147483648 → lnOK room L.2 →
    lnL (gaDn room ch k (nI i + (-1)) L) = (lnL L ++ (List.range i).reverse.map (fun j => chr16 (ch (nI j)))).take room ∧ lnOK room (gaDn room ch k (nI i + (-1)) L).2 := by
  intro k
  induction k with
  | zero => intro i L h; omega
  | succ k ih =>
    intro i L h hi hL
    have hl := lnL_length L
    have hl' : L.2.toNatClampNeg = L.2.toInt.toNat := rfl
    cases i with
    | zero =>
      rw [show nI 0 + (-1) = -1 from by decide, gaDn, if_pos (by decide)]
      refine ⟨?_, hL⟩
      simp only [List.range_zero, List.reverse_nil, List.map_nil, List.append_nil]
      rw [List.take_of_length_le]
      obtain ⟨a, b, d⟩ := hL
      omega
    | succ i =>
      rw [j_m0, gaDn, if_neg (by rw [k_lt, nI_toInt (by omega), l_0]; omega)]
      obtain ⟨a, b⟩ := ln_ls (c := ch (nI i)) hL
      obtain ⟨c, d⟩ := ih i (lnAdd room L (ch (nI i))) (by omega) (by omega) b
      refine ⟨?_, d⟩
      rw [c, a, take_app, List.range_succ, List.reverse_append, List.reverse_singleton, List.map_append, List.append_assoc]
      rfl
theorem gyDn_ls (ch : Int32 → Int32) : ∀ (k i : Nat) (L : LnS), i < k → i < 2147483648 → 0 ≤ L.2.toInt → L.2.toInt + i < 2147483648 →
    lnL (gyDn ch k (nI i + (-1)) L) = lnL L ++ (List.range i).reverse.map (fun j => ch (nI j)) ∧ (gyDn ch k (nI i + (-1)) L).2.toInt = L.2.toInt + i := by
  intro k
  induction k with
  | zero => intro i L h; omega
  | succ k ih =>
    intro i L h hi h0 hL
    cases i with
    | zero =>
      rw [show nI 0 + (-1) = -1 from by decide, gyDn, if_pos (by decide)]
      exact ⟨by simp, by omega⟩
    | succ i =>
      rw [j_m0, gyDn, if_neg (by rw [k_lt, nI_toInt (by omega), l_0]; omega)]
      obtain ⟨a, b⟩ := ly_ls (L := L) (c := ch (nI i)) h0 (by omega)
      obtain ⟨c, d⟩ := ih i (lyAdd L (ch (nI i))) (by omega) (by omega) (by omega) (by omega)
      refine ⟨?_, by omega⟩
      rw [c, a, List.range_succ, List.reverse_append, List.reverse_singleton, List.map_append, List.append_assoc]
      rfl
/-! the loops of the class -/
theorem lnRep_g (room : Nat) (mark times : Int32) : ∀ (k : Nat) (i : Int32) (L : LnS), lnRep room mark times k i L = gaGo room (fun _ => mark) times k i L := by
  intro k
  induction k with
  | zero => intro i L; rfl
  | succ k ih => intro i L; rw [lnRep, gaGo, ih]
theorem lnPart_g (room : Nat) (g : Nat → Int32) (gn e : Int32) : ∀ (k : Nat) (i : Int32) (L : LnS), lnPart room g gn e k i L = gaGo room (lnAt g gn) e k i L := by
  intro k
  induction k with
  | zero => intro i L; rfl
  | succ k ih => intro i L; rw [lnPart, gaGo, ih]
theorem dgP1_g (row : Nat → Int32) (room : Nat) (e : Int32) : ∀ (k : Nat) (i : Int32) (L : LnS), dgP1 row room e k i L = gaGo room (dgAt row) e k i L := by
  intro k
  induction k with
  | zero => intro i L; rfl
  | succ k ih => intro i L; rw [dgP1, gaGo, ih]
theorem dgP2_g (row : Nat → Int32) (room : Nat) (point e : Int32) : ∀ (k : Nat) (i : Int32) (L : LnS), dgP2 row room point e k i L = gaGo room (fun i => dgAt row (point + i)) e k i L := by
  intro k
  induction k with
  | zero => intro i L; rfl
  | succ k ih => intro i L; rw [dgP2, gaGo, ih]
theorem whGo_g (ten : Int32) (lo : Nat → Int32) : ∀ (k : Nat) (i : Int32) (L : LnS), whGo ten lo k i L = gaDn 160 (fun i => whCh ten (lo i.toNatClampNeg)) k i L := by
  intro k
  induction k with
  | zero => intro i L; rfl
  | succ k ih => intro i L; rw [whGo, gaDn, ih]
theorem tyAdd_g (word : Int64) : ∀ (k : Nat) (i : Int32) (L : LnS), tyAdd word k i L = gaDn 200 (deByte word) k i L := by
  intro k
  induction k with
  | zero => intro i L; rfl
  | succ k ih => intro i L; rw [tyAdd, gaDn, ih]
/-! the loops of the reference -/
theorem liGo_g (dg : Nat → Int32) (e v : Int32) : ∀ (k : Nat) (i : Int32) (L : LnS), liGo dg e v k i L = gyGo (fun i => dg (30 * v + i).toNatClampNeg) e k i L := by
  intro k
  induction k with
  | zero => intro i L; rfl
  | succ k ih => intro i L; rw [liGo, gyGo, ih]
theorem fxGo_g (row : Nat → Int32) (e : Int32) : ∀ (k : Nat) (i : Int32) (L : LnS), fxGo row e k i L = gyGo (fun i => 48 + row i.toNatClampNeg) e k i L := by
  intro k
  induction k with
  | zero => intro i L; rfl
  | succ k ih => intro i L; rw [fxGo, gyGo, ih]
theorem mpTx_g (tx : Nat → Int32) (v e : Int32) : ∀ (k : Nat) (i : Int32) (L : LnS), mpTx tx v e k i L = gyGo (fun i => tx (60 * v + i).toNatClampNeg) e k i L := by
  intro k
  induction k with
  | zero => intro i L; rfl
  | succ k ih => intro i L; rw [mpTx, gyGo, ih]
theorem mpDg_g (dg : Nat → Int32) (v e : Int32) : ∀ (k : Nat) (i : Int32) (L : LnS), mpDg dg v e k i L = gyGo (fun i => 48 + dg (30 * v + i).toNatClampNeg) e k i L := by
  intro k
  induction k with
  | zero => intro i L; rfl
  | succ k ih => intro i L; rw [mpDg, gyGo, ih]
theorem pwZr_g (e : Int32) : ∀ (k : Nat) (i : Int32) (L : LnS), pwZr e k i L = gyGo (fun _ => 48) e k i L := by
  intro k
  induction k with
  | zero => intro i L; rfl
  | succ k ih => intro i L; rw [pwZr, gyGo, ih]
theorem pwD_g (rv : Nat → Int32) : ∀ (k : Nat) (i : Int32) (L : LnS), pwD rv k i L = gyDn (fun i => rv i.toNatClampNeg) k i L := by
  intro k
  induction k with
  | zero => intro i L; rfl
  | succ k ih => intro i L; rw [pwD, gyDn, ih]
theorem moAdd_g (word : Int64) : ∀ (k : Nat) (i : Int32) (L : LnS), moAdd word k i L = gyDn (moByte word) k i L := by
  intro k
  induction k with
  | zero => intro i L; rfl
  | succ k ih => intro i L; rw [moAdd, gyDn, ih]
