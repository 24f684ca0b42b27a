/-- the words that a throw of an exception with a text rests on: the first constructor's link anywhere in its pool, then the chain over RuntimeException and Exception -/
def th_at (own : String) (ic : Nat) (X : String) (ix : Nat) (rx : ByteArray) : List Cond :=
  Bundle.throwableAtoms ++ Bundle.throwableSAtoms ++ Bundle.passSAtoms X "java/lang/RuntimeException" ix rx ++ Bundle.chainSAtoms "java/lang/RuntimeException" ["java/lang/Exception"] ++
  [.methodLink own ic (Bundle.initS X), .instantiable X 6, .castable X X, .selects X Bundle.tFill0 Bundle.tFill0, .selects X Bundle.tFill Bundle.tFill,
   .lays X Bundle.tN "cause" "Ljava/lang/Throwable;", .lays X Bundle.tN "stackTrace" Bundle.steD, .lays X Bundle.tN "suppressedExceptions" Bundle.listD, .lays X Bundle.tN "detailMessage" "Ljava/lang/String;",
   .isRef (.static Bundle.tN "UNASSIGNED_STACK" Bundle.steD), .isRef (.static Bundle.tN "SUPPRESSED_SENTINEL" Bundle.listD),
   .fieldLink Bundle.tN 198 Bundle.tN "backtrace" "Ljava/lang/Object;", .lays Bundle.tN Bundle.tN "backtrace" "Ljava/lang/Object;", .lays X Bundle.tN "backtrace" "Ljava/lang/Object;"]
set_option maxHeartbeats 1000000 in
/-- a fresh object of an exception's class, its constructor with a text run, thrown: no stack traces, the first constructor's link anywhere in its pool -/
theorem th_ctor {p : Program} {l : Launch} {e : Env} {R : Room} {s : State} {m : MethodId} {args : Array Value} {below : List Frame} {meth : Method} {c : Code} {V : State} {locs : List Loc} {cells slots : Nat}
    (X : Stand p l e R s m args below meth c V locs cells slots) (hx : p.tables.exec = Jvm.exec) (htr : e.platform.stackTraces = false) {own E : String} {ic ix : Nat} {rx : ByteArray}
    (x0 : decode rx 0 = .ok (.aload_n 0, 1)) (x1 : decode rx 1 = .ok (.aload_n 1, 1)) (x2 : decode rx 2 = .ok (.invokespecial ix, 3)) (x5 : decode rx 5 = .ok (.return_, 1))
    (hown : s.vm.findClass own = some m.cls) (hE : Bundle.fit E = true) (h : ∀ a ∈ th_at own ic E ix rx, a.before args s = true)
    (hlocs : ∀ x ∈ locs, ∀ cell, s.heap[x.base]? = some cell → cell.vm.isStatics = false)
    {a : Addr} {cX : ClassId} {kX : Class} (hfX : s.vm.findClass E = some cX) (hkX : s.vm.classes[cX]? = some kX) (hcell : V.heap[a]? = some (freshCell cX kX)) (hnew : s.heap.size ≤ a) {msg : Value} (hmsg : msg.isRef = true)
    {g : JFrame} (hg : g.method = m) (hsize : g.locals.size = c.maxLocals) (hlocked : g.locked = none) (hentered : g.entered = []) (hstack : g.stack = [msg, .ref a, .ref a])
    (d6 : decode c.code g.pc = .ok (.invokespecial ic, 3)) (d9 : decode c.code (g.pc + 3) = .ok (.athrow, 1)) (hout : ∀ x ∈ c.exceptionTable.toList, covers x (g.pc + 3) = false)
    (hRf : 5 < R.frames) (hRl : 2 * g.monitorRoom + 1 + 81 ≤ R.locals) (hlocks : meth.locks = false) :
    ∃ U : State, Steps p.tables e below (V.setTop g) U ∧ U.status = .running ∧ Ended U below (.threw a) ∧ s.WarmedH U.vm ∧ s.sameButNew ({ U with vm := s.vm } : State) locs cells slots ∧
      ∃ ce, U.heap[a]? = some ce ∧ ce.vm = .none ∧ s.vm.findClass E = some ce.cls := by
  have hpl : e.platform.magicAccessors = ({} : Platform).magicAccessors := by rw [X.admits.platform]
  have w : ∀ x, x ∈ th_at own ic E ix rx → x.holds args s none s [] = true := fun x hx => h x hx
  obtain ⟨T, Z0, L, -, Y⟩ := ThrowableC.of_atoms (args := args) (by rw [X.admits.platform]) (by rw [X.admits.platform]) hpl (fun x hx => h x (by simp [th_at, hx]))
  obtain ⟨Z, M, LZ, LM, hnZ⟩ := Init0T.ofS_atoms (args := args) hpl L Y (fun x hx => h x (by simp [th_at, hx]))
  obtain ⟨P1, L1, hP1m, hsup⟩ := PassC.ofS_atoms (args := args) (s := s) hpl (X := E) (Y := "java/lang/RuntimeException") (Bundle.fit_spec hE).1 (by decide) x0 x1 x2 x5 (fun x hx => h x (by simp [th_at, hx]))
  obtain ⟨P2, Ps0, hlen0, L2, hL0, hP2m, hk3, hk4⟩ := Bundle.chainS (args := args) hpl hnZ ["java/lang/Exception"] "java/lang/RuntimeException" (by decide) (by decide) (fun x hx => h x (by simp [th_at, hx]))
  obtain ⟨Ps, hPs⟩ : ∃ Ps, Ps = P2 :: Ps0 := ⟨_, rfl⟩
  have hlen : Ps.length = 2 := by rw [hPs, List.length_cons, hlen0]; rfl
  have hL : ∀ P, P ∈ Ps → P.LinksS e.platform s := fun P hP => by
    rw [hPs] at hP
    rcases List.mem_cons.mp hP with rfl | hP
    · exact L2
    · exact hL0 P hP
  have hk1 : P1.sup = firstOf (Z.m T.toThrowableT) (Ps.map (·.toPassT)) := by
    rw [hPs]
    exact Option.some.inj (hsup.symm.trans hP2m)
  have hk2 : PassesOn (Z.m T.toThrowableT) (Ps.map (·.toPassT)) := by
    rw [hPs]
    exact ⟨hk3, hk4⟩
  have hfE : s.vm.findClass E = some P1.m.cls := findClass_of_methodNamed hP1m
  obtain rfl : cX = P1.m.cls := Option.some.inj (hfX.symm.trans hfE)
  obtain ⟨c1, k1, hc1, hk, hord, -, -, hn6⟩ := Cond.instantiable_spec (w (.instantiable E 6) (by simp [th_at]))
  obtain rfl : P1.m.cls = c1 := Option.some.inj (hfE.symm.trans hc1)
  obtain rfl : kX = k1 := Option.some.inj (hkX.symm.trans hk)
  have sel : ∀ (y : MethodName) (my : MethodId), s.methodNamed? y = some my → (y.cls ≠ "java/lang/invoke/MethodHandle" ∧ y.cls ≠ "java/lang/invoke/VarHandle") → (Cond.selects E y y).holds args s none s [] = true → selectMethod e.platform s.vm P1.m.cls my = .method my := by
    intro y my hn hne hw
    obtain ⟨c2, r2, m2, q1, q2, q3, q4, -⟩ := Cond.selects_spec hw
    cases q1.symm.trans hfE
    cases q2.symm.trans (State.methodFound?_of_named hn hne)
    cases q3.symm.trans hn
    rw [Launch.admits_selectMethod X.admits]; exact q4
  have hsel0 := sel _ _ Y.fill0 (by decide) (w (.selects E Bundle.tFill0 Bundle.tFill0) (by simp [th_at]))
  have hselF := sel _ _ Y.fill (by decide) (w (.selects E Bundle.tFill Bundle.tFill) (by simp [th_at]))
  obtain ⟨cS, hcS, hiss⟩ := Y.statics
  obtain ⟨u0, hu0⟩ := Cond.staticRefV Y.unassigned L.unassignedStatic L.statics hcS hiss (w (.isRef (.static Bundle.tN "UNASSIGNED_STACK" Bundle.steD)) (by simp [th_at]))
  obtain ⟨sen, hsen⟩ := Cond.staticRefV Y.sentinel L.sentinelStatic L.statics hcS hiss (w (.isRef (.static Bundle.tN "SUPPRESSED_SENTINEL" Bundle.listD)) (by simp [th_at]))
  obtain ⟨ci, i8, fB, hk8, hg8, ha8, hsB, -, hnB, htB, hfB⟩ := Cond.ownField (t := .object "java/lang/Object") Y.found L.cls (by decide +kernel) (w (.fieldLink Bundle.tN 198 Bundle.tN "backtrace" "Ljava/lang/Object;") (by simp [th_at])) (w (.lays Bundle.tN Bundle.tN "backtrace" "Ljava/lang/Object;") (by simp [th_at])) e.platform hpl
  obtain ⟨cS', hcS', heS, -, hkS⟩ := X.same.2.2.2.2.2 T.aS cS hcS
  have hcS2 : V.heap[T.aS]? = some cS' := hcS'
  have hnl : ∀ i, (⟨T.aS, i⟩ : Loc) ∉ locs := fun i hm => by
    have := hlocs _ hm cS hcS
    rw [hiss] at this; cases this
  have hkn : cS'.vm ≠ .unknown := by
    rw [heS]; intro hu
    rw [show cS.vm = .unknown from hu] at hiss
    cases hiss
  have hne : T.aS ≠ a := Nat.ne_of_lt (Nat.lt_of_lt_of_le (Array.getElem?_eq_some_iff.mp hcS).1 hnew)
  obtain ⟨iM, hfM⟩ := Y.msg
  obtain ⟨tyC, dC, hdC, hdnC⟩ := Cond.laysAt hfE hk Y.cause (w (.lays E Bundle.tN "cause" "Ljava/lang/Throwable;") (by simp [th_at]))
  obtain ⟨tyS, dS, hdS, hdnS⟩ := Cond.laysAt hfE hk Y.stack (w (.lays E Bundle.tN "stackTrace" Bundle.steD) (by simp [th_at]))
  obtain ⟨tyP, dP, hdP, hdnP⟩ := Cond.laysAt hfE hk Y.supp (w (.lays E Bundle.tN "suppressedExceptions" Bundle.listD) (by simp [th_at]))
  obtain ⟨tyM, dM, hdM, hdnM⟩ := Cond.laysAt hfE hk hfM (w (.lays E Bundle.tN "detailMessage" "Ljava/lang/String;") (by simp [th_at]))
  obtain ⟨tyB, dB, hdB, hdnB⟩ := Cond.laysAt hfE hk hfB (w (.lays E Bundle.tN "backtrace" "Ljava/lang/Object;") (by simp [th_at]))
  have bC := Cond.laysApart hdB hdC hdnB hdnC (by rw [hnB, Y.causeName]; decide)
  have bS := Cond.laysApart hdB hdS hdnB hdnS (by rw [hnB, Y.stackName]; decide)
  have bP := Cond.laysApart hdB hdP hdnB hdnP (by rw [hnB, Y.suppName]; decide)
  have hskip : SkipFacts T e.platform s (fun u => u) u0 ((preparedCellV T.toThrowableT (freshCell P1.m.cls kX) a u0 sen).withEntry V.cur) :=
    ⟨{ ci198 := ci, i198 := i8, fBack := fB }, ⟨hk8, hg8, ha8, hsB⟩, by
      have := fresh_default (c := P1.m.cls) tyB
      rw [htB] at this
      simpa [preparedCellV, Cell.setSlot, Cell.withEntry, Array.getElem?_setIfInBounds, bC, bS, bP, bC.symm, bS.symm, bP.symm, defaultValue] using this, fun _ _ => rfl⟩
  have hwI : (Cond.instanceMethod (Bundle.initS E)).before args s = true := h _ (by simp [th_at, Bundle.passSAtoms])
  have hwC : (Cond.code (Bundle.initS E) rx 2 none).before args s = true := h _ (by simp [th_at, Bundle.passSAtoms])
  obtain ⟨tm, mC, cdC, kC, vm₁, hnC, -, -, -, -, -, -, -, hW₁, st1⟩ := Steps.initColdS (tb := p.tables) (e := e) (below := below) (s := s) (U := V) X.here hx X.warmed hpl hown (t := Bundle.initS E) rfl rfl (Bundle.fit_spec hE).2
    (w (.methodLink own ic (Bundle.initS E)) (by simp [th_at])) hwI (bytes := rx) (maxL := 2) hwC (f := g) hg (a := a) (msg := msg) (rest := [.ref a]) hstack d6
  obtain rfl : tm = P1.m := Option.some.inj (hnC.symm.trans hP1m)
  obtain ⟨vm₂, X₂, st2⟩ := (X.noted hW₁).ctorMessageOffV hx (g := { g with stack := [.ref a] }) hg hsize T L Z LZ M LM (P1 :: Ps)
    (fun P hP => by rcases List.mem_cons.mp hP with rfl | hP; exact L1; exact hL P hP) ⟨hk1, hk2⟩ (u0 := u0) (sen := sen) (self := a) hmsg (cell := freshCell P1.m.cls kX) (cellS := cS')
    hcell (fun _ => by simp) (by simp) rfl rfl hsel0 hselF hcS2 hne hkn (by rw [hkS _ (hnl _)]; exact hu0) (by rw [hkS _ (hnl _)]; exact hsen)
    (Takes.of_laid hk hord tyC (by rw [Y.causeType]; rfl)) (Takes.of_laid hk hord tyS (by rw [Y.stackType]; exact fits_refV_array _ u0)) (Takes.of_laid hk hord tyP (by rw [Y.suppType]; exact fits_refV_object _ sen))
    (Takes.of_laid hk hord tyM (by rw [Y.msgType]; exact fits_refV_object _ ⟨msg, hmsg⟩)) Y.objLocals hskip htr [] d6
    (by simp only [List.length_cons, hlen]; omega) (by simp only [List.length_cons, hlen, List.map_cons, List.map_nil, List.sum_cons, List.sum_nil, Value.category]; exact hRl)
  obtain ⟨hgo, hrun, hend, hWU, hsame⟩ := X₂.athrowLeaves hx (g := { g with stack := [.ref a], pc := g.pc + 3 }) hg hlocked hentered hout (a := a) (rest := []) rfl d9 hlocks
  have hlt : a < ((V.setVm vm₁).setVm vm₂).heap.size := (Array.getElem?_eq_some_iff.mp hcell).1
  have hU := heapAt_setCell_self (s := (V.setVm vm₁).setVm vm₂) (plainBareV T.toThrowableT (freshCell P1.m.cls kX) a u0 sen msg) hlt
  refine ⟨_, st1 _ (fun acts => ?_), hrun, hend, hWU, hsame.weaken (fun y hy hl => ?_) (Nat.le_refl _) (Nat.le_refl _), _, hU, rfl, hfE⟩
  · rw [doInvoke_state]
    exact st2 _ hgo
  · rcases List.mem_append.mp hy with h1 | h1
    · exact h1
    · exfalso
      have hb : y.base = a := by
        simp only [List.mem_cons, List.not_mem_nil, or_false] at h1
        rcases h1 with rfl | rfl | rfl | rfl | rfl <;> rfl
      rw [hb] at hl
      exact Nat.not_lt.mpr hnew hl
/-! THROWS: a method that is sure to throw, and its call under a handler. -/
/-- the frame of a method that has thrown -/
def th_FE (first t : State) (L : List Loc) (k n : Nat) : Prop := first.WarmedH t.vm ∧ first.sameButNew ({ t with vm := first.vm } : State) L k n
def th_MQ (below : List Frame) (Qt : Array Value → State → Addr → State → Prop) (a : Array Value) (s : State) (mc ms : Nat) (free : Addr → Prop) : State → Prop := fun t =>
  ∃ q, t.status = .running ∧ Ended t below (.threw q) ∧ Qt a s q t ∧ ∃ L, th_FE s t L mc ms ∧ ∀ z ∈ L, free z.base
def th_Met (l : Launch) (y : MethodName) (ws : List Cond) (rm : Room) (Pc : Array Value → State → Prop) (Qt : Array Value → State → Addr → State → Prop) (mc ms : Nat) (free : Addr → Prop) : Prop :=
  MetFree l y (headSpec ws rm) Pc (fun _ _ _ _ _ => True) (fun a st o t => ∃ q, o = .threw q ∧ Qt a st q t ∧ ∃ L, th_FE st t L mc ms ∧ ∀ z ∈ L, free z.base)
def th_Q {S : Type} (E : String) (post : S → Prop) (B : S → State → Prop) (A : Nat → Prop) : Array Value → State → Addr → State → Prop := fun _ st q t =>
  (∃ (u : S) (ce : Cell), t.heap[q]? = some ce ∧ ce.vm = .none ∧ st.vm.findClass E = some ce.cls ∧ post u ∧ B u t) ∧ va_F A st t
theorem th_ofW {l : Launch} {y : MethodName} {ws ws' : List Cond} {rm : Room} {Pc : Array Value → State → Prop} {Qt : Array Value → State → Addr → State → Prop} {mc ms : Nat} {free : Addr → Prop} {cc : ByteArray} {maxL : Nat} {ret : Option FieldType}
    (hy : plainName y.cls = true) (hw : ws = Cond.code y cc maxL ret :: ws')
    (body : ∀ p e s m args below meth c s₁, BodyLoose p l y (headSpec ws rm) cc maxL ret e s m args below meth c s₁ → c.maxLocals = maxL → Pc args s →
      W p l e (headSpec ws rm).room s m args below meth c s.heap [] 0 0 (th_MQ below Qt args s mc ms free) (entryFrame m args maxL)) : th_Met l y ws rm Pc Qt mc ms free := by
  refine MetFree.of_bodyS (code := cc) (maxLocals := maxL) (ret := ret) hy ?_ ?_
  · intro args s m h hn
    obtain ⟨meth, c, h1, h2, h3, h4, h5, h6, -, -⟩ := Cond.code_spec hn (atoms_spec (ws := ws) h _ (by rw [hw]; exact List.mem_cons_self))
    exact ⟨meth, c, h1, h2, h3, h4, h5, h6⟩
  · intro p e s m args below meth c s₁ B hml hP _
    have hh0 : s₁.heap = s.heap := by rw [B.state]; rfl
    obtain ⟨t, a1, q, b1, b2, b3, b4⟩ := body p e s m args below meth c s₁ B hml hP s₁ hh0 (Stand.of_body B)
    exact ⟨t, .threw q, a1, b1, b2, q, rfl, b3, b4⟩
/-- the invocation, as if it had begun with the heap that it has now -/
theorem th_base {p : Program} {l : Launch} {e : Env} {R : Room} {s : State} {m : MethodId} {args : Array Value} {below : List Frame} {meth : Method} {c : Code} {T : State} {locs : List Loc} {cells slots : Nat}
    (X : Stand p l e R s m args below meth c T locs cells slots) {n k : Nat} (hc : cells + n ≤ R.cells) (hs : slots + k ≤ R.slots) :
    Stand p l e { frames := R.frames, cells := n, slots := k, locals := R.locals } { s with heap := T.heap, slotsUsed := T.slotsUsed } m args below meth c T [] 0 0 := by
  refine ⟨X.admits, X.cas, X.clock, X.frames, ?_, X.hears, X.method, X.code, X.here, X.tail, X.warmed, X.limits, X.bytes, ?_⟩
  · have h := X.room
    have h1 := X.heapSize
    have h2 := X.used
    have h3 := X.book
    simp only [State.hasRoom, Bool.and_eq_true, decide_eq_true_eq] at h ⊢
    refine ⟨⟨⟨⟨h.1.1.1.1, h.1.1.1.2⟩, ?_⟩, ?_⟩, h3⟩
    · show T.heap.size + n ≤ _
      have := h.1.1.2; omega
    · show T.slotsUsed + k ≤ _
      have := h.1.2; omega
  · have h0 := X.same.1
    refine ⟨?_, Nat.le_refl _, Nat.le_refl _, ?_, ?_, fun a cell h => ⟨cell, h, rfl, rfl, fun _ _ => rfl⟩⟩
    · exact h0
    · show T.slotsUsed = T.slotsUsed + ((T.heap.toList.drop T.heap.size).map (·.slots.size)).sum
      rw [List.drop_eq_nil_of_le (by simp)]; rfl
    · show ((T.heap.toList.drop T.heap.size).map (·.slots.size)).sum ≤ 0
      rw [List.drop_eq_nil_of_le (by simp)]; exact Nat.le_refl _
theorem th_same {s T U : State} {locs : List Loc} {cells slots n k : Nat} (h : s.sameButNew (T.setVm s.vm) locs cells slots)
    (g : ({ s with heap := T.heap, slotsUsed := T.slotsUsed } : State).sameButNew ({ U with vm := s.vm } : State) [] n k) :
    s.sameButNew ({ U with vm := s.vm } : State) locs (cells + n) (slots + k) ∧ T.heap.size ≤ U.heap.size ∧ ∀ q : Nat, q < T.heap.size → U.heap[q]? = T.heap[q]? := by
  obtain ⟨g1, g2, g3, g4, g5, g6⟩ := g
  have h2 : (T.setVm s.vm).sameButNew ({ U with vm := s.vm } : State) [] n k := by
    refine ⟨?_, g2, g3, g4, g5, g6⟩
    obtain ⟨G, hG⟩ : ∃ G, T.setVm s.vm = ({ s with heap := T.heap, slotsUsed := T.slotsUsed } : State).setFrames G := ⟨_, h.1⟩
    rw [hG, State.setFrames_setFrames]
    exact g1
  have h3 := h.trans h2
  rw [List.append_nil] at h3
  refine ⟨h3, g2, fun q hq => ?_⟩
  obtain ⟨c', e1, e2, e3, e4⟩ := g6 q _ (Array.getElem?_eq_getElem hq)
  have : c'.slots = (T.heap[q]).slots := Array.ext_getElem? fun i => e4 i (by simp)
  show U.heap[q]? = _
  have e1' : U.heap[q]? = some c' := e1
  rw [e1', Array.getElem?_eq_getElem hq, e2, this]
theorem th_P {D : va_G} {cl : List vw_C} {ws : va_W} {H H1 : Heap} (h : va_P D cl ws H) (hk : ∀ q : Nat, q < H.size → H1[q]? = H[q]?) : va_P D cl ws H1 := fun k q hq => (h k q hq).kept (hk q.1 (h k q hq).lt)
/-- 'throw new E("text")': new; dup; ldc; invokespecial; athrow -/
theorem th_throw {p : Program} {l : Launch} {e : Env} {R : Room} {s : State} {m : MethodId} {args : Array Value} {below : List Frame} {meth : Method} {c : Code} {H : Heap} {locs : List Loc} {cells slots : Nat} {cc : ByteArray} {pc mc ms : Nat} {ls : Array Slot}
    (htl : l.stackTraces = false) (hx : p.tables.exec = Jvm.exec) (hb : c.code = cc) (hnh : c.exceptionTable.isEmpty = true) (hsize : ls.size = c.maxLocals) (hlocks : meth.locks = false)
    {own E text : String} {i1 i2 i3 ix : Nat} {rx : ByteArray} (x0 : decode rx 0 = .ok (.aload_n 0, 1)) (x1 : decode rx 1 = .ok (.aload_n 1, 1)) (x2 : decode rx 2 = .ok (.invokespecial ix, 3)) (x5 : decode rx 5 = .ok (.return_, 1)) (hown : s.vm.findClass own = some m.cls) (hE : Bundle.fit E = true)
    (hat : ∀ U : State, U.vm = s.vm → U.heap = H → ∀ a ∈ th_at own i3 E ix rx, a.before args U = true)
    (hcl : (Cond.classLink own i1 E).before args s = true) (hini : (Cond.initialized E).before args s = true) (hstr : (Cond.stringRef own i2 text).before args s = true)
    {S : Type} {post : S → Prop} {B : S → State → Prop} {A : Nat → Prop} {free : Addr → Prop} (u : S) (hpost : post u)
    (hq : ∀ t : State, s.WarmedH t.vm → (∀ q : Nat, q < H.size → t.heap[q]? = H[q]?) → B u t) (hS : va_S A s.heap H locs) (hfree : ∀ q ∈ locs, free q.base)
    (d0 : decode cc pc = .ok (.new i1, 3)) (d3 : decode cc (pc + 3) = .ok (.dup, 1)) (d4 : decode cc (pc + 4) = .ok (.ldc i2, 2)) (d6 : decode cc (pc + 6) = .ok (.invokespecial i3, 3)) (d9 : decode cc (pc + 9) = .ok (.athrow, 1))
    (hRf : 5 < R.frames) (hRl : 82 ≤ R.locals) (hRc : cells + 1 ≤ R.cells) (hRs : slots + 6 ≤ R.slots) (hmc : cells + 1 = mc) (hms : slots + 6 = ms) :
    W p l e R s m args below meth c H locs cells slots (th_MQ below (th_Q E post B A) args s mc ms free) (F0 m pc ls []) := by
  intro T hT X
  have htr : e.platform.stackTraces = false := by rw [X.admits.platform]; exact htl
  have Y := th_base X hRc hRs
  subst hb
  have hvm : ({ s with heap := T.heap, slotsUsed := T.slotsUsed } : State).vm = s.vm := rfl
  have hcl' : (Cond.classLink own i1 E).before args ({ s with heap := T.heap, slotsUsed := T.slotsUsed } : State) = true := hcl
  have hini' : (Cond.initialized E).before args ({ s with heap := T.heap, slotsUsed := T.slotsUsed } : State) = true := hini
  have hstr' : (Cond.stringRef own i2 text).before args ({ s with heap := T.heap, slotsUsed := T.slotsUsed } : State) = true := hstr
  have hat' := hat ({ s with heap := T.heap, slotsUsed := T.slotsUsed } : State) rfl hT
  generalize hZ : ({ s with heap := T.heap, slotsUsed := T.slotsUsed } : State) = Z at Y hvm hcl' hini' hstr' hat'
  have hZh : Z.heap = T.heap := by rw [← hZ]
  have hownZ : Z.vm.findClass own = some m.cls := by rw [hvm]; exact hown
  obtain ⟨vm₁, cX, kX, hfX, hkX, -, -, X₁, st1⟩ := Y.newCold hx (own := own) (C := E) (index := i1) (n := 6) hownZ hcl' (hat' _ (by simp [th_at])) hini' (g := F0 m pc ls []) rfl d0 (Nat.le_refl _) (Nat.le_refl _)
  generalize hT1 : (T.setVm vm₁).pushCell { cls := cX, slots := kX.instanceTypes.map defaultValue, vm := .none } = T1 at X₁ st1
  have hcell : T1.heap[T.heap.size]? = some (freshCell cX kX) := by rw [← hT1]; exact State.heap_pushCell_size _ _
  obtain ⟨-, -, -, sa, -, -, -, -, -, hev⟩ := Cond.stringRef_spec hownZ hstr'
  obtain ⟨U, hsteps, hrun, hend, hW, hsame, ce, hce, hcv, hcc⟩ := th_ctor X₁ hx htr x0 x1 x2 x5 hownZ hE hat' (fun x hx => by cases hx) hfX hkX hcell (by rw [hZh]; exact Nat.le_refl _) (msg := .ref sa) rfl
    (g := { method := m, pc := pc + 6, locals := ls, stack := [.ref sa, .ref T.heap.size, .ref T.heap.size], locked := none }) rfl hsize rfl rfl rfl d6 d9 (covers_of_empty hnh _) hRf
    (by simp only [JFrame.monitorRoom]; simp; omega) hlocks
  rw [← hZ] at hsame hW hcc
  obtain ⟨a1, a2, a3⟩ := th_same X.same hsame
  have hWs : s.WarmedH U.vm := hW
  subst hT
  refine ⟨U, ?_, T.heap.size, hrun, hend, ⟨⟨u, ce, hce, hcv, hcc, hpost, hq U hWs a3⟩, Nat.le_trans hS.1 a2, fun q h1 h2 => (a3 q (Nat.lt_of_lt_of_le h1 hS.1)).trans (hS.2.1 q h1 h2)⟩, locs, ⟨hWs, by rw [← hmc, ← hms]; exact a1⟩, hfree⟩
  refine st1 _ ?_
  show Steps p.tables e below (T1.setTop { method := m, pc := pc + 3, locals := ls, stack := [.ref T.heap.size], locked := none }) _
  jvm_step X₁.here [X₁.here.top, hx, d3, Value.category]
  exact X₁.ldcString hx (own := own) (text := text) (index := i2) (a := sa) hownZ hstr' hev (g := { method := m, pc := pc + 4, locals := ls, stack := [.ref T.heap.size, .ref T.heap.size], locked := none }) rfl d4 _ hsteps
/-! What the class's throws need beside the good words of the tables. -/
def xIAE : String := "java/lang/IllegalArgumentException"
def xISE : String := "java/lang/IllegalStateException"
def xNSE : String := "java/util/NoSuchElementException"
abbrev rxN : ByteArray := prog_16_method_4_code
theorem rxN_0 : decode rxN 0 = .ok (.aload_n 0, 1) := by decide +kernel
theorem rxN_1 : decode rxN 1 = .ok (.aload_n 1, 1) := by decide +kernel
theorem rxN_2 : decode rxN 2 = .ok (.invokespecial 13, 3) := by decide +kernel
theorem rxN_5 : decode rxN 5 = .ok (.return_, 1) := by decide +kernel
def thF : List Cond := [.declares (Bundle.initS "java/lang/RuntimeException"), .declares (Bundle.initS "java/lang/Exception"), .declares (Bundle.initS "java/lang/Throwable"), .castable xIAE xIAE, .castable xISE xISE, .castable xNSE xNSE]
def thG : List (Nat × String) := [(81, "the tape is no decimal"), (88, "there are 12 values"), (107, "the pattern has a fault"), (115, "no such character was filled")]
def thS : List Cond := [.isRef (.static Bundle.tN "UNASSIGNED_STACK" Bundle.steD), .isRef (.static Bundle.tN "SUPPRESSED_SENTINEL" Bundle.listD), .laysStatic Bundle.tN "UNASSIGNED_STACK" Bundle.steD, .laysStatic Bundle.tN "SUPPRESSED_SENTINEL" Bundle.listD]
def kT (U : State) : Prop := (∀ (args : Array Value), ∀ w ∈ thF, w.before args U = true) ∧ (∀ (args : Array Value), ∀ q ∈ thG, (Cond.stringRef R_De q.1 q.2).before args U = true) ∧ (∀ (args : Array Value), ∀ w ∈ thS, w.before args U = true) ∧ va_Nc xISE xIAE U
theorem th_laysS {s U : State} {args args' : Array Value} {C f d : String} (h : (Cond.laysStatic C f d).before args s = true) (hv : U.vm = s.vm) (hk : ∀ (q : Nat) (c : Cell), s.heap[q]? = some c → c.vm.isStatics = true → U.heap[q]? = some c) :
    (Cond.laysStatic C f d).before args' U = true := by
  have hf : U.fieldFound? C f d = s.fieldFound? C f d := by simp only [State.fieldFound?, hv]
  simp only [Cond.before, Cond.holds, Cond.value, hf, hv] at h ⊢
  cases h0 : s.vm.findClass C with
  | none => simp [h0] at h
  | some c0 =>
    cases h1 : s.fieldFound? C f d with
    | none => simp [h0, h1] at h
    | some z =>
      obtain ⟨c, k, i, fd⟩ := z
      simp only [h0, h1] at h ⊢
      cases h2 : k.statics with
      | none => simp [h2] at h
      | some a =>
        cases h3 : s.heap[a]? with
        | none => simp [h2, h3] at h
        | some ce =>
          by_cases h4 : ce.vm.isStatics = true
          · have h5 := hk a ce h3 h4
            simp [h2, h3, h4] at h
            simp [h2, h5, h4, h]
          · simp [h2, h3, h4] at h
theorem th_isRef {s U : State} {args args' : Array Value} {C f d : String} (h : (Cond.isRef (.static C f d)).before args s = true) (hv : U.vm = s.vm) (hk : ∀ (q : Nat) (c : Cell), s.heap[q]? = some c → c.vm.isStatics = true → U.heap[q]? = some c) :
    (Cond.isRef (.static C f d)).before args' U = true := by
  have hf : U.fieldNamed? C f d true = s.fieldNamed? C f d true := by simp only [State.fieldNamed?, State.fieldFound?, hv]
  simp only [Cond.before, Cond.holds, Cond.value, Term.eval, hf] at h ⊢
  cases h1 : s.fieldNamed? C f d true with
  | none => simp [h1] at h
  | some z =>
    obtain ⟨c, k, sl⟩ := z
    simp only [h1] at h ⊢
    cases h2 : k.statics with
    | none => simp [h2] at h
    | some a =>
      cases h3 : s.heap[a]? with
      | none => simp [h2, h3] at h
      | some ce =>
        by_cases h4 : ce.vm.isStatics = true
        · have h5 := hk a ce h3 h4
          simp [h2, h3, h4] at h
          simp [h2, h5, h4, h]
        · simp [h2, h3, h4] at h
theorem thF_face : ∀ w ∈ thF, w.keepsFace = true := by decide
theorem kT.move {s U : State} (hW : s.WarmedH U.vm) (hk : ∀ (q : Nat) (c : Cell), s.heap[q]? = some c → c.vm.isStatics = true → U.heap[q]? = some c) (h : kT s) : kT U := by
  refine ⟨fun args w hw => ?_, fun args q hq => ?_, fun args w hw => ?_, va_Nc.moved hW.alike h.2.2.2⟩
  · have h1 : w.before args (s.setVm U.vm) = true := Cond.before_shiftedFace (State.Shifted.of_warmed hW) w (thF_face w hw) (h.1 args w hw)
    simp only [thF, List.mem_cons, List.not_mem_nil, or_false] at hw
    rcases hw with rfl | rfl | rfl | rfl | rfl | rfl <;> exact h1
  · have h1 : (Cond.stringRef R_De q.1 q.2).before args (s.setVm U.vm) = true := Cond.stringRef_warmed hW (h.2.1 args q hq)
    exact h1
  · have h0 := h.2.2.1 args w hw
    simp only [thS, List.mem_cons, List.not_mem_nil, or_false] at hw
    rcases hw with rfl | rfl | rfl | rfl
    · have h1 := Cond.before_shiftedFace (State.Shifted.of_warmed hW) _ rfl h0
      exact th_isRef h1 rfl hk
    · have h1 := Cond.before_shiftedFace (State.Shifted.of_warmed hW) _ rfl h0
      exact th_isRef h1 rfl hk
    · have h1 := Cond.before_shiftedFace (State.Shifted.of_warmed hW) _ rfl h0
      exact th_laysS h1 rfl hk
    · have h1 := Cond.before_shiftedFace (State.Shifted.of_warmed hW) _ rfl h0
      exact th_laysS h1 rfl hk
theorem kT.calling {U : State} {g : JFrame} {mk : MethodId} {a : Array Value} (h : kT U) : kT (U.calling g mk a) := h.move (U := U.calling g mk a) (State.WarmedH.refl U) (fun _ _ h _ => h)
theorem th_own {own : String} {ic ix : Nat} {E : String} {rx : ByteArray} (hin : (th_at own ic E ix rx).all (fun a => (decide (a ∈ tables_1) && goodWord a) || decide (a ∈ thF) || decide (a ∈ thS)) = true)
    {s : State} {args : Array Value} (hT : ∀ w ∈ TB, w.before args s = true) (hk : kT s) {H : Heap} (hH : ∀ (q : Nat) (c : Cell), s.heap[q]? = some c → c.vm.isStatics = true → H[q]? = some c) :
    ∀ U : State, U.vm = s.vm → U.heap = H → ∀ a ∈ th_at own ic E ix rx, a.before args U = true := by
  intro U hv hh a ha
  have h1 := List.all_eq_true.mp hin a ha
  simp only [Bool.or_eq_true, Bool.and_eq_true, decide_eq_true_eq] at h1
  have hW : s.WarmedH U.vm := by rw [hv]; exact State.WarmedH.refl s
  have hk2 : kT U := hk.move hW (by rw [hh]; exact hH)
  rcases h1 with (⟨h1, h2⟩ | h1) | h1
  · exact word_at hW (good_of_word h2) (hT a (List.mem_append_right _ (List.mem_filter.mpr ⟨h1, h2⟩)))
  · exact hk2.1 args a h1
  · exact hk2.2.2.1 args a h1
theorem th_IAE_83 : (th_at R_De 83 xIAE 7 Bundle.six).all (fun a => (decide (a ∈ tables_1) && goodWord a) || decide (a ∈ thF) || decide (a ∈ thS)) = true := by decide +kernel
theorem th_ISE_90 : (th_at R_De 90 xISE 7 Bundle.six).all (fun a => (decide (a ∈ tables_1) && goodWord a) || decide (a ∈ thF) || decide (a ∈ thS)) = true := by decide +kernel
theorem th_NSE_117 : (th_at R_De 117 xNSE 13 rxN).all (fun a => (decide (a ∈ tables_1) && goodWord a) || decide (a ∈ thF) || decide (a ∈ thS)) = true := by decide +kernel
theorem th_notA {D : va_G} {cl : List vw_C} {ws : va_W} {H : Heap} {q : Nat} {c : Cell} (hP : va_P D cl ws H) (h : H[q]? = some c) (hs : c.vm.isStatics = true) : ¬ va_A ws H.size q := by
  rintro (⟨k, e, hk⟩ | hk)
  · have h1 := hP k _ hk
    cases e with
    | inl x =>
      have h2 : H[q]? = some (vp_cell x.1 x.2) := h1
      rw [h] at h2
      have h3 : (vp_cell x.1 x.2).vm = .none := by
        unfold vp_cell
        split <;> rfl
      rw [Option.some.inj h2, h3] at hs
      cases hs
    | inr o =>
      obtain ⟨r, -, ce, h2, -, h3, -⟩ := h1
      have h2 : H[q]? = some ce := h2
      rw [h] at h2
      rw [Option.some.inj h2, h3] at hs
      cases hs
  · have := (Array.getElem?_eq_some_iff.mp h).1
    omega
/-! A call of a method that is sure to throw, caught by the caller. -/
/-- one entry of the table that covers: its type is linked, and takes the object or not -/
theorem th_go {Q : Handler → Pre} {E : CtlPost} {e : Env} {d : Bool} {acts : List Action} {s : State} {f : JFrame} {a : Addr} {x : ExceptionTableEntry} {t : List ExceptionTableEntry} {c : ClassId} {cell : Cell} (hx : covers x f.pc = true) (h0 : x.catchType ≠ 0)
    (hl : s.vm.ClassLinks e.platform f.method.cls x.catchType c) (hcell : s.heap[a]? = some cell) (hobj : ∀ k, cell.vm ≠ .statics k) (hk : ∃ k, s.vm.classes[cell.cls]? = some k) (hc : ∃ k, s.vm.classes[c]? = some k) {z : Bool} (hz : s.vm.assignable cell.cls c = z) :
    wp (findHandler.go f a (x :: t)) Q E e d acts s ↔ (if z = true then Q (.found x.handlerPc) d acts (s.setVm (s.vm.noted f.method.cls x.catchType (.cls c))) else wp (findHandler.go f a t) Q E e d acts (s.setVm (s.vm.noted f.method.cls x.catchType (.cls c)))) := by
  simp only [covers] at hx
  have hal : s.vm.Alike (s.vm.noted f.method.cls x.catchType (.cls c)) := (Vm.Alike.refl s.vm).noted _ _ _
  obtain ⟨k1, hk1⟩ := hk
  obtain ⟨k2, hk2⟩ := hc
  obtain ⟨j1, hj1, -⟩ := hal.2.2 _ _ hk1
  obtain ⟨j2, hj2, -⟩ := hal.2.2 _ _ hk2
  have hz' : (s.vm.noted f.method.cls x.catchType (.cls c)).assignable cell.cls c = z := by rw [hal.assignable]; exact hz
  obtain ⟨ha, ht⟩ := (resolveClass_links e.toSetting hl).op (op := VmOp.resolveClass f.method.cls x.catchType) rfl
  cases z <;> simp [findHandler.go, hx, h0, ha, ht, hcell, hobj, hj1, hj2, hz', VmOp.dirties, VmOp.acts]
/-- the search passes the entries ahead, and ends at x -/
theorem th_find {e : Env} {s : State} {f : JFrame} {a : Addr} {cell : Cell} (hobj : ∀ k, cell.vm ≠ .statics k) (hk : ∃ k, s.vm.classes[cell.cls]? = some k) (x : ExceptionTableEntry) (rest : List ExceptionTableEntry) (hx : covers x f.pc = true) (h0 : x.catchType ≠ 0) {cT : ClassId} (hlT : s.vm.ClassLinks e.platform f.method.cls x.catchType cT) (hfit : s.vm.assignable cell.cls cT = true) :
    ∀ (pre : List ExceptionTableEntry) (S : State), s.WarmedH S.vm → S.heap[a]? = some cell → (∀ y ∈ pre, covers y f.pc = false ∨ (y.catchType ≠ 0 ∧ ∃ c, s.vm.ClassLinks e.platform f.method.cls y.catchType c ∧ s.vm.assignable cell.cls c = false)) →
      ∃ vm', s.WarmedH vm' ∧ ∀ (Q : Handler → Pre) (E : CtlPost) (d : Bool) (acts : List Action), wp (findHandler.go f a (pre ++ x :: rest)) Q E e d acts S ↔ Q (.found x.handlerPc) d acts (S.setVm vm') := by
  have one : ∀ {y : ExceptionTableEntry} {c : ClassId} {S : State}, s.WarmedH S.vm → s.vm.ClassLinks e.platform f.method.cls y.catchType c → s.WarmedH (S.vm.noted f.method.cls y.catchType (.cls c)) ∧ ∃ k, S.vm.classes[c]? = some k := by
    intro y c S hW hl
    obtain ⟨dk, _, _, kt, hd, _, _, _, _, hkt, _, hopen⟩ := hl.here
    obtain ⟨k', hk', -⟩ := hW.alike.2.2 _ _ hkt
    exact ⟨hW.noted hd hopen (State.rightAt_cls hl), k', hk'⟩
  have here : ∀ {S : State}, s.WarmedH S.vm → ∃ k, S.vm.classes[cell.cls]? = some k := by
    intro S hW
    obtain ⟨k, hk⟩ := hk
    obtain ⟨k', hk', -⟩ := hW.alike.2.2 _ _ hk
    exact ⟨k', hk'⟩
  intro pre
  induction pre with
  | nil =>
    intro S hW hc _
    obtain ⟨w1, w2⟩ := one (y := x) hW hlT
    refine ⟨_, w1, fun Q E d acts => ?_⟩
    rw [List.nil_append, th_go hx h0 (hW.classLinks hlT) hc hobj (here hW) w2 (z := true) (by rw [hW.alike.assignable]; exact hfit), if_pos rfl]
  | cons y ys ih =>
    intro S hW hc hp
    by_cases hy : covers y f.pc = true
    · rcases hp y List.mem_cons_self with h | ⟨y0, c, hl, hno⟩
      · rw [h] at hy; cases hy
      · obtain ⟨w1, w2⟩ := one (y := y) hW hl
        obtain ⟨vm', w3, w4⟩ := ih (S.setVm (S.vm.noted f.method.cls y.catchType (.cls c))) w1 hc (fun z hz => hp z (List.mem_cons_of_mem _ hz))
        refine ⟨vm', w3, fun Q E d acts => ?_⟩
        rw [List.cons_append, th_go hy y0 (hW.classLinks hl) hc hobj (here hW) w2 (z := false) (by rw [hW.alike.assignable]; exact hno), if_neg (by decide)]
        exact w4 Q E d acts
    · obtain ⟨vm', w3, w4⟩ := ih S hW hc (fun z hz => hp z (List.mem_cons_of_mem _ hz))
      refine ⟨vm', w3, fun Q E d acts => ?_⟩
      rw [List.cons_append, W.findHandler_go_skip (by simpa using hy)]
      exact w4 Q E d acts
/-- from the note that an object is being thrown to the handler -/
theorem th_catch {p : Program} {l : Launch} {e : Env} {R : Room} {s : State} {m : MethodId} {args : Array Value} {below : List Frame} {meth : Method} {c : Code} {T : State} {locs : List Loc} {cells slots : Nat}
    (X : Stand p l e R s m args below meth c T locs cells slots) (a : Addr) {g : JFrame} (hg : g.method = m) {cell : Cell} (hcell : T.heap[a]? = some cell) (hcv : cell.vm = .none) (hk : ∃ k, s.vm.classes[cell.cls]? = some k)
    (pre : List ExceptionTableEntry) (x : ExceptionTableEntry) (rest : List ExceptionTableEntry) (hsplit : c.exceptionTable.toList = pre ++ x :: rest) (hx : covers x g.pc = true) (h0 : x.catchType ≠ 0) {cT : ClassId} (hlT : s.vm.ClassLinks e.platform m.cls x.catchType cT) (hfit : s.vm.assignable cell.cls cT = true)
    (hpass : ∀ y ∈ pre, covers y g.pc = false ∨ (y.catchType ≠ 0 ∧ ∃ c, s.vm.ClassLinks e.platform m.cls y.catchType c ∧ s.vm.assignable cell.cls c = false)) :
    ∃ vm', Stand p l e R s m args below meth c (T.setVm vm') locs cells slots ∧ ∀ target, Steps p.tables e below ((T.setVm vm').setTop { g with pc := x.handlerPc, stack := [.ref a] }) target → Steps p.tables e below ((T.setTop g).pushFrame (.throwing a)) target := by
  subst hg
  have hTv : ((T.setTop g).pushFrame (.throwing a)).vm = T.vm := Stand.throwing_vm T g a
  have hTh : ((T.setTop g).pushFrame (.throwing a)).heap = T.heap := Stand.throwing_heap T g a
  obtain ⟨vm', hW', hq⟩ := th_find (e := e) (f := g) (a := a) (cell := cell) (fun k hk => by rw [hcv] at hk; cases hk) hk x rest hx h0 hlT hfit pre ((T.setTop g).pushFrame (.throwing a)) (by rw [hTv]; exact X.warmed) (by rw [hTh]; exact hcell) hpass
  have hfind : ∀ (Q : Handler → Pre) (E : CtlPost) (d : Bool) (acts : List Action), wp (findHandler g a) Q E e d acts ((T.setTop g).pushFrame (.throwing a)) ↔ Q (.found x.handlerPc) d acts (((T.setTop g).pushFrame (.throwing a)).setVm vm') := by
    intro Q E d acts
    rw [W.findHandler_eq (meth := meth) (code := c) (by rw [hTv]; exact X.method') X.code, hsplit]
    exact hq Q E d acts
  have hstep : ∀ r, (stepThrowing e ((T.setTop g).pushFrame (.throwing a)) a (.java g :: r)).Is ((((T.setTop g).pushFrame (.throwing a)).setVm vm').setFrames (.java { g with pc := x.handlerPc, stack := [.ref a] } :: r)) [] := by
    intro r
    simp only [stepThrowing, searchFrame, vmDo]
    generalize hr : Sem.go _ e false [] ((T.setTop g).pushFrame (.throwing a)) = res
    obtain ⟨as, rfl, ha⟩ := Sem.eq_ok_of hr (a := Handler.found x.handlerPc) (s' := ((T.setTop g).pushFrame (.throwing a)).setVm vm') (acts' := []) (by simp [hfind _ _ _ _])
    exact ⟨rfl, ha⟩
  refine ⟨vm', X.noted hW', fun target hrest => ?_⟩
  obtain ⟨hgo, hw⟩ := X.here.throwing a
  refine Steps.head hgo hw ?_
  rw [stepThread_throwing (frames_entered X.here.top _), (hstep _).1]
  obtain ⟨g₀, hg⟩ := Option.isSome_iff_exists.mp X.here.top
  obtain ⟨r, hr⟩ := State.topJava?_eq_some.mp hg
  have hr' : (T.setVm vm').frames = .java g₀ :: r := hr
  rw [State.setTop_of_frames _ hr'] at hrest
  have key : ∀ (F G : List Frame), ((T.setFrames F).setVm vm').setFrames G = (T.setVm vm').setFrames G := fun F G => by
    have h1 : (T.setFrames F).setVm vm' = (T.setVm vm').setFrames F := rfl
    rw [h1, State.setFrames_setFrames]
  rw [hr, List.tail_cons, State.setTop_of_frames _ hr, State.pushFrame, State.setFrames_setFrames, key]
  exact hrest
/-- the call: from the invocation to the note -/
theorem th_into {p : Program} {l : Launch} {e : Env} {R : Room} {s : State} {m : MethodId} {args : Array Value} {below : List Frame} {meth : Method} {c : Code} {T : State} {locs : List Loc} {cells slots : Nat} {own : String} {index n maxL mc ms : Nat} {y : MethodName} {bytes : ByteArray} {ret : Option FieldType} {ws : List Cond} {rm : Room} {Pc : Array Value → State → Prop} {Qt : Array Value → State → Addr → State → Prop} {free : Addr → Prop}
    (X : Stand p l e R s m args below meth c T locs cells slots) (cb : CallB R s args own index y bytes maxL ret ws rm mc ms n) (hM : th_Met l y ws rm Pc Qt mc ms free) (hbl : FrameBlind Pc) {g : JFrame} (hg : g.method = m) (hsize : g.locals.size = c.maxLocals) {ig : Instr} {len : Nat} (hdg : decode c.code g.pc = .ok (ig, len))
    (hW : 2 * g.monitorRoom + (g.stack.map fun v => v.category).sum ≤ 8) {mk : MethodId} (hn : T.methodNamed? y = some mk) {a : Array Value} (h4 : cells + mc ≤ R.cells) (h5 : slots + ms ≤ R.slots) (hPc : Pc a T) :
    ∃ (q : Addr) (t T' : State) (L : List Loc), Stand p l e R s m args below meth c T' (locs ++ L) (cells + mc) (slots + ms) ∧ T'.heap = t.heap ∧ T'.vm = t.vm ∧ Qt a (T.calling g mk a) q t ∧ (∀ z ∈ L, free z.base) ∧ Steps p.tables e below (doInvoke e (T.setTop g) [] mk a).1 ((T'.setTop g).pushFrame (.throwing q)) := by
  obtain ⟨hrc, hrs, hfr, hlo, hws, hcw, -, hini, -⟩ := cb
  have hc : (Cond.code y bytes maxL ret).before a T = true := hws _ hcw _ _ X.warmed
  obtain ⟨mY, cY, hmY, hcY, -, hlY, -, -, -, -⟩ := Cond.code_spec hn hc
  obtain ⟨kY, hkY, -⟩ := className_of_methodNamed hn
  have hi : kY.init = .initialized := Cond.initialized_spec (findClass_of_methodNamed hn) hkY (word_at (a' := a) X.warmed (Or.inl (by first | rfl | simp [Cond.onTables, Cond.keeps, Cond.steady])) hini)
  have hA : At T g.method c below := by rw [hg]; exact X.here
  have happ : (headSpec ws rm).appliesLoose y e.platform (T.calling g mk a) = true :=
    Spec.appliesLoose_calling (g := g) hA hdg hn hkY hi (X.room_calling (g := g) (R' := (headSpec ws rm).room) hsize hmY hcY hfr (by rw [hlY]; show _ + _ + rm.locals ≤ _; omega) (by show cells + rm.cells ≤ _; rw [hrc]; exact h4) (by show slots + rm.slots ≤ _; rw [hrs]; exact h5)) (atoms_intro fun w hw => hws w hw _ _ X.warmed)
  obtain ⟨mid, hmid⟩ := hA.above
  have hf : (T.setTop g).frames = (.java g :: mid) ++ below := by rw [State.frames_setTop' g hA.top, hmid]; rfl
  obtain ⟨o, t, hsteps, -, hend, q, ho, hq, L, hF, hL⟩ := Steps.callFree hM p X.admits X.cas X.clock (acts := []) hf happ (hbl _ _ _ _ hPc) trivial
  subst ho
  rw [State.frames_setTop' g hA.top, X.tail] at hend
  obtain ⟨T', X', -, -, ht⟩ := X.outOfThrown hg (mk := mk) (a := a) hend hF.1 hF.2
  have e1 : T'.heap = t.heap := by rw [ht]; exact (Stand.throwing_heap T' g q).symm
  have e2 : T'.vm = t.vm := by rw [ht]; exact (Stand.throwing_vm T' g q).symm
  exact ⟨q, t, T', L, X', e1, e2, hq, hL, by rw [← ht]; exact hsteps⟩
set_option maxHeartbeats 1000000 in
/-- the call throws, an entry of the caller's own table catches: on at the handler, the thrown object on the stack -/
theorem th_callV {p : Program} {l : Launch} {e : Env} {R : Room} {s : State} {m : MethodId} {args : Array Value} {below : List Frame} {meth : Method} {c : Code} {H : Heap} {locs : List Loc} {cells slots : Nat} {Q : State → Prop} {cc : ByteArray} {nL : Nat} {Ts : List Cond} {own C E : String} {index n maxL mc ms : Nat} {y : MethodName} {bytes : ByteArray} {ret : Option FieldType} {ws : List Cond} {rm : Room} {Pc : Array Value → State → Prop} {free : Addr → Prop}
    {S : Type} {post : S → Prop} {B : S → State → Prop} {A0 A1 : Nat → Prop} {H0 : Heap} {b : Addr} {As rest : List Value} {pc : Nat} {ls : Array Slot} {st0 : List Value}
    (Z : CallFix p m c cc nL s args Ts own) (hM : th_Met l y ws rm Pc (th_Q E post B A1) mc ms free) (cw : CallW R s args own C index y bytes maxL ret ws rm mc ms n) (hp : PreV s H C b Pc As)
    (hn : As.length = n) (hsize : ls.size = nL) (hstack : st0 = As.reverse ++ .ref b :: rest) (hW : (rest.map fun v => v.category).sum ≤ 8) (hdg : decode cc pc = .ok (.invokevirtual index, 3)) (hf : cells + mc ≤ R.cells ∧ slots + ms ≤ R.slots)
    (hS : va_S A0 H0 H locs) (hA : ∀ q, q < H.size → A1 q → A0 q) (hfr : ∀ q, free q → A0 q)
    (pre : List ExceptionTableEntry) (x : ExceptionTableEntry) (tail : List ExceptionTableEntry) (hsplit : c.exceptionTable.toList = pre ++ x :: tail)
    (hpass : ∀ z ∈ pre, z.catchType ≠ 0 ∧ ∃ nm : String, (Cond.classLink own z.catchType nm).before args s = true ∧ va_Nc E nm s) (hx : covers x pc = true) (h0 : x.catchType ≠ 0)
    {name : String} (hlink : (Cond.classLink own x.catchType name).before args s = true) (hcast : (Cond.castable E name).before args s = true)
    (kk : ∀ (q : Addr) (u : S) (t : State) (H1 : Heap) (locs1 : List Loc), t.heap = H1 → s.vm.Alike t.vm → post u → B u t → H.size ≤ H1.size → (∀ q : Nat, q < H.size → ¬ A1 q → H1[q]? = H[q]?) → va_S A0 H0 H1 locs1 → W p l e R s m args below meth c H1 locs1 (cells + mc) (slots + ms) Q (F0 m x.handlerPc ls [.ref q])) :
    W p l e R s m args below meth c H locs cells slots Q (F0 m pc ls st0) := by
  have hcb := cw.1
  have hbl := hp.1
  obtain ⟨⟨-, -, -, -, -, -, hcode, -, hy, hlen, hl⟩, hin, hse⟩ := cw
  obtain ⟨hex, hb, hml, ho, -⟩ := Z
  obtain ⟨-, ⟨cB, hcB, hoB, hclB⟩, hPc⟩ := hp
  intro T hT X
  subst hb
  obtain ⟨mk, mM, hnamed, hmM, hsM, habM⟩ := Cond.instanceMethod_spec hin
  obtain ⟨mM', cM, hmM', -, -, -, -, -, -, hsig⟩ := Cond.code_spec hnamed hcode
  cases hmM.symm.trans hmM'
  obtain ⟨c2, r2, m2, q1, q2, q3, q4, kP, hkP, hkPi⟩ := Cond.selects_spec hse
  cases hclB.symm.trans q1
  cases (State.methodFound?_of_named hnamed hy).symm.trans q2
  cases hnamed.symm.trans q3
  have hsel : selectMethod e.platform s.vm cB.cls mk = .method mk := by rw [Launch.admits_selectMethod X.admits]; exact q4
  obtain ⟨vm₁, X₁, st1⟩ := X.invokevirtual hex ho hl hnamed hmM hsM hkP hkPi hy (a := b) (cell := cB) (by rw [hT]; exact hcB)
    (fun z h => by rw [h] at hoB; cases hoB) hsel hmM habM hkP hkPi (g := F0 m pc ls st0) rfl (argsL := As) (rest := rest) (hn.trans (hlen _ hsig)) hstack hdg
  obtain ⟨q, t, U, L, X', e1, e2, ⟨⟨u, ce, hce, hcv, hcc, hpo, hB⟩, hz, hk⟩, hL, st2⟩ := th_into X₁ hcb hM hbl (g := { F0 m pc ls st0 with stack := rest }) rfl (hsize.trans hml.symm) hdg
    (by show 2 * 0 + (rest.map fun v => v.category).sum ≤ 8; omega) (X₁.named hnamed) (a := (Value.ref b :: As).toArray) hf.1 hf.2 (hPc (T.setVm vm₁) hT X₁.warmed)
  have hpl : e.platform.magicAccessors = ({} : Platform).magicAccessors := by rw [X.admits.platform]
  have hccs : s.vm.findClass E = some ce.cls := by
    have h1 : (T.setVm vm₁).vm.findClass E = some ce.cls := hcc
    rw [X₁.warmed.alike.findClass] at h1
    exact h1
  obtain ⟨c3, cT, hc3, hcT, hasg⟩ := Cond.castable_spec hcast
  cases hccs.symm.trans hc3
  obtain ⟨cL, hcL, hlT⟩ := Cond.classLink_spec ho hlink e.platform hpl
  cases hcT.symm.trans hcL
  obtain ⟨_, _, _, kt, _, _, _, _, _, hkt, _, _⟩ := hlT.here
  obtain ⟨vm₂, X₃, st3⟩ := th_catch X' q (g := { F0 m pc ls st0 with stack := rest }) rfl (cell := ce) (by rw [e1]; exact hce) hcv (Vm.classAt_of_assignable hasg ⟨kt, hkt⟩) pre x tail hsplit hx h0 hlT hasg
    (fun z hz => by
      obtain ⟨z0, nm, w1, ⟨c5, t5, w2, w3, w4⟩⟩ := hpass z hz
      obtain ⟨c6, hc6, hcl6⟩ := Cond.classLink_spec ho w1 e.platform hpl
      cases hccs.symm.trans w2
      cases w3.symm.trans hc6
      exact Or.inr ⟨z0, _, hcl6, w4⟩)
  have hT1 : (T.setVm vm₁).heap = H := hT
  have hzz : H.size ≤ t.heap.size := by rw [← hT1]; exact hz
  have hkk : ∀ q : Nat, q < H.size → ¬ A1 q → t.heap[q]? = H[q]? := fun q h1 h2 => by rw [hk q (by show q < (T.setVm vm₁).heap.size; rw [hT1]; exact h1) h2]; show (T.setVm vm₁).heap[q]? = _; rw [hT1]
  obtain ⟨t2, a1, b1⟩ := kk q u t t.heap (locs ++ L) rfl (by rw [← e2]; exact X'.warmed.alike) hpo hB hzz hkk
    ⟨Nat.le_trans hS.1 hzz, fun q h1 h2 => (hkk q (Nat.lt_of_lt_of_le h1 hS.1) (fun w => h2 (hA q (Nat.lt_of_lt_of_le h1 hS.1) w))).trans (hS.2.1 q h1 h2), fun z hz => by
      rcases List.mem_append.mp hz with h | h
      · exact hS.2.2 z h
      · exact hfr _ (hL z h)⟩ (U.setVm vm₂) e1 X₃
  refine ⟨t2, st1 _ fun acts => ?_, b1⟩
  rw [doInvoke_state]
  exact st2.trans (st3 _ a1)
/-- a method's own table of handlers -/
theorem th_table {p : Program} {l : Launch} {y : MethodName} {S : Spec} {cc : ByteArray} {maxL : Nat} {ret : Option FieldType} {e : Env} {s : State} {m : MethodId} {args : Array Value} {below : List Frame} {meth : Method} {c : Code} {s₁ : State}
    (B : BodyLoose p l y S cc maxL ret e s m args below meth c s₁) {bytes : ByteArray} {n : Nat} {r : Option FieldType} {hh : List (Nat × Nat × Nat × Nat)} (h : (Cond.codeWith y bytes n r hh).before args s = true) :
    c.exceptionTable.toList.map (fun h => (h.startPc, h.endPc, h.handlerPc, h.catchType)) = hh := by
  obtain ⟨m9, meth9, c9, n1, n2, n3, -, -, n6, -⟩ := Cond.codeWith_spec h
  cases n1.symm.trans B.named
  cases n2.symm.trans B.method
  have h1 := B.here.code
  rw [State.code?_eq, B.state] at h1
  have h2 : (s.vm.method? m).bind (·.code) = some c := h1
  rw [B.method] at h2
  have h3 : meth.code = some c := h2
  rw [n3] at h3
  cases h3
  exact n6
theorem th_none {p : Program} {l : Launch} {y : MethodName} {S : Spec} {cc : ByteArray} {maxL : Nat} {ret : Option FieldType} {e : Env} {s : State} {m : MethodId} {args : Array Value} {below : List Frame} {meth : Method} {c : Code} {s₁ : State}
    (B : BodyLoose p l y S cc maxL ret e s m args below meth c s₁) {bytes : ByteArray} {n : Nat} {r : Option FieldType} (h : (Cond.code y bytes n r).before args s = true) : c.exceptionTable.isEmpty = true := by
  have h9 : (Cond.codeWith y bytes n r []).before args s = true := by
    have := h
    simp only [Cond.before, Cond.holds] at this ⊢
    rw [← Cond.code_iff_codeWith_nil]; exact this
  have h1 := th_table B h9
  have h2 : c.exceptionTable.toList = [] := List.map_eq_nil_iff.mp h1
  have h3 : c.exceptionTable = #[] := Array.toList_inj.mp h2
  rw [h3]; rfl
theorem th_row {L : List ExceptionTableEntry} {a b c d : Nat} {hh : List (Nat × Nat × Nat × Nat)} (h : L.map (fun h => (h.startPc, h.endPc, h.handlerPc, h.catchType)) = (a, b, c, d) :: hh) :
    ∃ (x : ExceptionTableEntry) (t : List ExceptionTableEntry), L = x :: t ∧ x.startPc = a ∧ x.endPc = b ∧ x.handlerPc = c ∧ x.catchType = d ∧ t.map (fun h => (h.startPc, h.endPc, h.handlerPc, h.catchType)) = hh := by
  cases L with
  | nil => cases h
  | cons x t =>
    simp only [List.map_cons, List.cons.injEq, Prod.mk.injEq] at h
    exact ⟨x, t, rfl, h.1.1, h.1.2.1, h.1.2.2.1, h.1.2.2.2, h.2⟩
theorem th_cov {x : ExceptionTableEntry} {a b pc : Nat} (h1 : x.startPc = a) (h2 : x.endPc = b) (h : (decide (a ≤ pc) && decide (pc < b)) = true) : covers x pc = true := by
  unfold covers
  rw [h1, h2]
  simpa using h
theorem th_runSW {p : Program} {l : Launch} {e : Env} {R : Room} {s : State} {m : MethodId} {args : Array Value} {below : List Frame} {meth : Method} {c : Code} {H : Heap} {locs : List Loc} {cells slots : Nat} {cc : ByteArray} {nL : Nat} {Ts : List Cond} {own : String} {index n maxL mc ms : Nat} {y : MethodName} {bytes : ByteArray} {ret : Option FieldType} {hh : List (Nat × Nat × Nat × Nat)} {ws : List Cond} {rm : Room} {Pc : Array Value → State → Prop} {Qc : Array Value → State → Outcome → State → Prop} {free : Addr → Prop} {As rest : List Value} {g : JFrame}
    (S : CallFix p m c cc nL s args Ts own) (hM : Met l y ws rm Pc Qc mc ms free) (hrc : rm.cells = mc) (hrs : rm.slots = ms) (hR : rm.frames + 1 ≤ R.frames ∧ 8 + (maxL + 11) + rm.locals ≤ R.locals) (hT : ∀ w ∈ TB, w.before args s = true) (hw : ws = Cond.codeWith y bytes maxL ret hh :: TB) (hc : Cond.codeWith y bytes maxL ret hh ∈ TB)
    (hlk : Cond.methodLink own index y ∈ TB) (hstt : Cond.static y ∈ TB) (hini : Cond.initialized y.cls ∈ TB) (hd : y.cls ≠ "java/lang/invoke/MethodHandle" ∧ y.cls ≠ "java/lang/invoke/VarHandle" ∧ (parseMethodDescriptor y.desc).map (fun d => d.parameters.length) = some n) (hp : PreS s H Pc As)
    (hg : g.method = m) (hn : As.length = n) (hsize : g.locals.size = nL) (hstack : g.stack = As.reverse ++ rest) (hW : 2 * g.monitorRoom + (rest.map fun v => v.category).sum ≤ 8) (hdg : decode cc g.pc = .ok (.invokestatic index, 3)) (hf : cells + mc ≤ R.cells ∧ slots + ms ≤ R.slots) :
    va_Run p l e R s m args below meth c H locs cells slots mc ms g rest (Qc As.toArray) free := by
  have hgd : ∀ w ∈ ws, ∀ (a' : Array Value) (U : State), s.WarmedH U.vm → w.before a' U = true := by
    intro w hw' a' U hWm
    have h1 : w ∈ TB := by
      rw [hw] at hw'
      rcases List.mem_cons.mp hw' with rfl | h
      · exact hc
      · exact h
    exact word_at hWm (good_of_word (TB_good w h1)) (hT w h1)
  have hK : Back l R p e below s args y 3 8 (PreOf R mc ms Pc) (PostOf Qc mc ms free) := va_backW (bytes := bytes) (maxL := maxL) (ret := ret) (hh := hh) hM hp.1 hrc hrs hR.1 hR.2 hgd (by rw [hw]; exact List.mem_cons_self) (fun a' U hWm => word_at hWm (good_of_word (TB_good _ hini)) (hT _ hini))
  obtain ⟨hx, hb, hml, ho, -⟩ := S
  intro T hTh X
  subst hb
  obtain ⟨mk, mM, cM, hnamed, hmM, -, -, -, -, -, -, hsig⟩ := Cond.codeWith_spec (hT _ hc)
  have hst : mM.isStatic = true := Cond.static_spec hnamed hmM (hT _ hstt)
  obtain ⟨kP, hkP, -⟩ := className_of_methodNamed hnamed
  have hinit : kP.init = .initialized := Cond.initialized_spec (findClass_of_methodNamed hnamed) hkP (hT _ hini)
  have hlen : As.length = mM.sig.parameters.length := by
    have h1 := hd.2.2
    rw [hsig] at h1
    simp only [Option.map_some, Option.some.injEq] at h1
    omega
  obtain ⟨vm₁, X₁, st1⟩ := X.invokestatic hx ho (hT _ hlk) hnamed hmM hst hkP hinit ⟨hd.1, hd.2.1⟩ (g := g) hg (argsL := As) (rest := rest) hlen hstack hdg
  obtain ⟨v, B, X', ⟨g', mk', t, L, e1, e2, hq, e3, hL, e4, e5⟩, st2⟩ := hK m meth c ⟨T.setVm vm₁, locs, cells, slots⟩ { g with stack := rest } (.invokestatic index) mk As.toArray X₁ hg (hsize.trans hml.symm) hdg hW (X₁.named hnamed) ⟨hf.1, hf.2, hp.2 (T.setVm vm₁) hTh X₁.warmed⟩
  obtain ⟨U, l2, c2, s2⟩ := B
  dsimp only [Pt.U, Pt.locs, Pt.cells, Pt.slots] at X' e1 e2 e3 e4 e5 st2 hq
  subst e3; subst e4; subst e5
  exact ⟨v, (T.setVm vm₁).calling g' mk' As.toArray, t, U, L, hTh, X', hL, e1, e2, hq, fun target h => st1 _ fun acts => by rw [doInvoke_state]; exact st2.trans h⟩
