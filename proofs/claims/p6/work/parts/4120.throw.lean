/-! What is thrown: an object made and thrown by the method itself; the caller catches it -/
theorem th_old {s t : State} {k n : Nat} (h : s.sameButNew t [] k n) {q : Nat} (hq : q < s.heap.size) : t.heap[q]? = s.heap[q]? := by
  obtain ⟨-, -, -, -, -, h6⟩ := h
  have h1 : s.heap[q]? = some s.heap[q] := Array.getElem?_eq_getElem hq
  obtain ⟨c', a1, a2, a3, a4⟩ := h6 q _ h1
  have e1 : c'.slots = s.heap[q].slots := by
    apply Array.ext_getElem?
    intro i
    exact a4 i (by simp)
  rw [a1, h1, a2, e1]
/-- the words that the making of an exception asks -/
def th_at (own : String) (ic : Nat) (C Y : String) (ix : Nat) (bytes : ByteArray) (names : List String) : List Cond :=
  Bundle.throwableAtoms ++ Bundle.throwableSAtoms ++ Bundle.passSAtoms C Y ix bytes ++ Bundle.chainSAtoms Y names ++
  [.methodLink own ic (Bundle.initS C), .instantiable C 6, .selects C Bundle.tFill0 Bundle.tFill0, .selects C Bundle.tFill Bundle.tFill,
   .lays C Bundle.tN "cause" "Ljava/lang/Throwable;", .lays C Bundle.tN "stackTrace" Bundle.steD, .lays C Bundle.tN "suppressedExceptions" Bundle.listD, .lays C Bundle.tN "detailMessage" "Ljava/lang/String;",
   .fieldLink Bundle.tN 198 Bundle.tN "backtrace" "Ljava/lang/Object;", .lays Bundle.tN Bundle.tN "backtrace" "Ljava/lang/Object;", .lays C Bundle.tN "backtrace" "Ljava/lang/Object;"]
/-- the two statics of Throwable are references -/
def th_St (s : State) : Prop := (Cond.isRef (.static Bundle.tN "UNASSIGNED_STACK" Bundle.steD)).before #[] s = true ∧ (Cond.isRef (.static Bundle.tN "SUPPRESSED_SENTINEL" Bundle.listD)).before #[] s = true
section THR
variable {p : Program} {l : Launch} {e : Env} {R : Room} {s : State} {m : MethodId} {args : Array Value} {below : List Frame} {meth : Method} {c : Code} {T : State} {locs : List Loc} {cells slots : Nat}
set_option maxHeartbeats 1000000 in
theorem th_ctor (X : Stand p l e R s m args below meth c T [] cells slots) (hexec : p.tables.exec = Jvm.exec) (htr : e.platform.stackTraces = false) {own C Y : String} {names : List String} {ic ix : Nat} {bytes : ByteArray}
    (hown : s.vm.findClass own = some m.cls) (hC : Bundle.fit C = true) (hYf : Bundle.fit Y = true) (hnames : ∀ n ∈ names, Bundle.fit n = true)
    (d0 : decode bytes 0 = .ok (.aload_n 0, 1)) (d1 : decode bytes 1 = .ok (.aload_n 1, 1)) (d2 : decode bytes 2 = .ok (.invokespecial ix, 3)) (d5 : decode bytes 5 = .ok (.return_, 1))
    (h : ∀ a ∈ th_at own ic C Y ix bytes names, a.before args s = true) (hst : th_St s)
    {a : Addr} {cX : ClassId} {kX : Class} (hfX : s.vm.findClass C = some cX) (hkX : s.vm.classes[cX]? = some kX) (hcell : T.heap[a]? = some (freshCell cX kX)) (hnew : s.heap.size ≤ a)
    {msg : Value} (hmsg : msg.isRef = true) {g : JFrame} (hg : g.method = m) (hsize : g.locals.size = c.maxLocals) (hlocked : g.locked = none) (hentered : g.entered = []) {rest : List Value} (hstack : g.stack = msg :: .ref a :: .ref a :: rest)
    (hd6 : decode c.code g.pc = .ok (.invokespecial ic, 3)) (hd9 : decode c.code (g.pc + 3) = .ok (.athrow, 1)) (hout : ∀ x ∈ c.exceptionTable.toList, covers x (g.pc + 3) = false)
    (hRf : names.length + 4 < R.frames) (hRl : 2 * g.monitorRoom + ((Value.ref a :: rest).map fun v => v.category).sum + (13 * (names.length + 2) + 42) ≤ R.locals) (hlocks : meth.locks = false) :
    ∃ U : State, Steps p.tables e below (T.setTop g) U ∧ U.status = .running ∧ Ended U below (.threw a) ∧ s.WarmedH U.vm ∧ s.sameButNew ({ U with vm := s.vm } : State) [] cells slots ∧
      ∃ ce, U.heap[a]? = some ce ∧ s.vm.findClass C = some ce.cls ∧ ce.vm = .none := by
  have pl1 : e.platform.frameOwnsMonitors = true := by rw [X.admits.platform]
  have pl2 : e.platform.finalization = false := by rw [X.admits.platform]
  have pl3 : e.platform.magicAccessors = ({} : Platform).magicAccessors := by rw [X.admits.platform]
  obtain ⟨TC, Z0, L, -, Y0⟩ := ThrowableC.of_atoms (args := args) pl1 pl2 pl3 (fun x hx => h x (by simp [th_at, hx]))
  obtain ⟨Z, M, LZ, LM, hnZ⟩ := Init0T.ofS_atoms (args := args) pl3 L Y0 (fun x hx => h x (by simp [th_at, hx]))
  obtain ⟨P0, L0, hP0m, hP0s⟩ := PassC.ofS_atoms (args := args) pl3 (Bundle.fit_spec hC).1 (Bundle.fit_spec hYf).2 d0 d1 d2 d5 (fun x hx => h x (by simp [th_at, hx]))
  obtain ⟨P1, Ps, hlen, L1, hL, hP1m, hlink1, hlink⟩ := Bundle.chainS (args := args) pl3 hnZ names Y hYf hnames (fun x hx => h x (by simp [th_at, hx]))
  have hsup : P0.sup = P1.m := Option.some.inj (hP0s.symm.trans hP1m)
  have hP0c : s.vm.findClass C = some P0.m.cls := findClass_of_methodNamed hP0m
  obtain rfl : cX = P0.m.cls := Option.some.inj (hfX.symm.trans hP0c)
  obtain ⟨c1, kY, hc1, hkY, hord, -, -, -⟩ := Cond.instantiable_spec (h (.instantiable C 6) (by simp [th_at]))
  obtain rfl : c1 = P0.m.cls := Option.some.inj (hc1.symm.trans hP0c)
  obtain rfl : kX = kY := Option.some.inj (hkX.symm.trans hkY)
  have sel0 : selectMethod e.platform s.vm P0.m.cls TC.fill0 = .method TC.fill0 := by
    obtain ⟨c2, r2, m2, q1, q2, q3, q4, -⟩ := Cond.selects_spec (h (.selects C Bundle.tFill0 Bundle.tFill0) (by simp [th_at]))
    obtain rfl : c2 = P0.m.cls := Option.some.inj (q1.symm.trans hP0c)
    obtain rfl : r2 = TC.fill0 := Option.some.inj (q2.symm.trans (State.methodFound?_of_named Y0.fill0 (by decide)))
    obtain rfl : m2 = TC.fill0 := Option.some.inj (q3.symm.trans Y0.fill0)
    rw [Launch.admits_selectMethod X.admits]; exact q4
  have selF : selectMethod e.platform s.vm P0.m.cls TC.fill = .method TC.fill := by
    obtain ⟨c2, r2, m2, q1, q2, q3, q4, -⟩ := Cond.selects_spec (h (.selects C Bundle.tFill Bundle.tFill) (by simp [th_at]))
    obtain rfl : c2 = P0.m.cls := Option.some.inj (q1.symm.trans hP0c)
    obtain rfl : r2 = TC.fill := Option.some.inj (q2.symm.trans (State.methodFound?_of_named Y0.fill (by decide)))
    obtain rfl : m2 = TC.fill := Option.some.inj (q3.symm.trans Y0.fill)
    rw [Launch.admits_selectMethod X.admits]; exact q4
  obtain ⟨cS, hcS, hiS⟩ := Y0.statics
  obtain ⟨u0, hu0⟩ := Cond.staticRefV Y0.unassigned L.unassignedStatic L.statics hcS hiS hst.1
  obtain ⟨sen, hsen⟩ := Cond.staticRefV Y0.sentinel L.sentinelStatic L.statics hcS hiS hst.2
  have hcS2 : T.heap[TC.aS]? = some cS := by
    have h1 := th_old X.same (Array.getElem?_eq_some_iff.mp hcS).1
    exact (show T.heap[TC.aS]? = s.heap[TC.aS]? from h1).trans hcS
  have hkS : cS.vm ≠ .unknown := fun q => by rw [q] at hiS; cases hiS
  have hne : TC.aS ≠ a := Nat.ne_of_lt (Nat.lt_of_lt_of_le (Array.getElem?_eq_some_iff.mp hcS).1 hnew)
  obtain ⟨ci198, i198, fB, b1, b2, b3, b4, -, b6, b7, b8⟩ := Cond.ownField (t := .object "java/lang/Object") Y0.found L.cls (by decide +kernel) (h (.fieldLink Bundle.tN 198 Bundle.tN "backtrace" "Ljava/lang/Object;") (by simp [th_at])) (h (.lays Bundle.tN Bundle.tN "backtrace" "Ljava/lang/Object;") (by simp [th_at])) e.platform pl3
  obtain ⟨iM, hfM⟩ := Y0.msg
  obtain ⟨tC, dC, q1, q2⟩ := Cond.laysAt hP0c hkX Y0.cause (h (.lays C Bundle.tN "cause" "Ljava/lang/Throwable;") (by simp [th_at]))
  obtain ⟨tS, dS, q3, q4⟩ := Cond.laysAt hP0c hkX Y0.stack (h (.lays C Bundle.tN "stackTrace" Bundle.steD) (by simp [th_at]))
  obtain ⟨tP, dP, q5, q6⟩ := Cond.laysAt hP0c hkX Y0.supp (h (.lays C Bundle.tN "suppressedExceptions" Bundle.listD) (by simp [th_at]))
  obtain ⟨tM, dM, q7, q8⟩ := Cond.laysAt hP0c hkX hfM (h (.lays C Bundle.tN "detailMessage" "Ljava/lang/String;") (by simp [th_at]))
  obtain ⟨tB, dB, q9, q10⟩ := Cond.laysAt hP0c hkX b8 (h (.lays C Bundle.tN "backtrace" "Ljava/lang/Object;") (by simp [th_at]))
  have n1 := Cond.laysApart q9 q1 q10 q2 (by rw [b6, Y0.causeName]; decide)
  have n2 := Cond.laysApart q9 q3 q10 q4 (by rw [b6, Y0.stackName]; decide)
  have n3 := Cond.laysApart q9 q5 q10 q6 (by rw [b6, Y0.suppName]; decide)
  have hsk : SkipFacts TC e.platform s (fun u => u) u0 ((preparedCellV TC.toThrowableT (freshCell P0.m.cls kX) a u0 sen).withEntry T.cur) :=
    ⟨{ ci198 := ci198, i198 := i198, fBack := fB }, ⟨b1, b2, b3, b4⟩, by
      have h9 := fresh_default (c := P0.m.cls) tB
      rw [b7] at h9
      simpa [preparedCellV, Cell.setSlot, Cell.withEntry, Array.getElem?_setIfInBounds, n1, n2, n3, n1.symm, n2.symm, n3.symm, defaultValue] using h9, fun _ _ => rfl⟩
  obtain ⟨tm, -, -, -, vm1, hn1, -, -, -, -, -, -, -, hW1, st1⟩ := Steps.initColdS (tb := p.tables) (e := e) (below := below) (s := s) (U := T) X.here hexec X.warmed pl3 hown (t := Bundle.initS C) rfl rfl (Bundle.fit_spec hC).2
    (h (.methodLink own ic (Bundle.initS C)) (by simp [th_at])) (h (.instanceMethod (Bundle.initS C)) (by simp [th_at, Bundle.passSAtoms])) (bytes := bytes) (maxL := 2) (h (.code (Bundle.initS C) bytes 2 none) (by simp [th_at, Bundle.passSAtoms]))
    (f := g) hg (a := a) (msg := msg) (rest := .ref a :: rest) hstack hd6
  obtain rfl : tm = P0.m := Option.some.inj (hn1.symm.trans hP0m)
  obtain ⟨vm2, X2, st2⟩ := (X.noted hW1).ctorMessageOffV hexec (g := { g with stack := .ref a :: rest }) hg hsize TC L Z LZ M LM (P0 :: P1 :: Ps)
    (fun P hP => by
      rcases List.mem_cons.mp hP with rfl | hP
      · exact L0
      · rcases List.mem_cons.mp hP with rfl | hP
        · exact L1
        · exact hL P hP) ⟨hsup, hlink1, hlink⟩ (u0 := u0) (sen := sen) (self := a) hmsg (cell := freshCell P0.m.cls kX) (cellS := cS)
    hcell (fun _ => by simp) (by simp) rfl rfl sel0 selF hcS2 hne hkS hu0 hsen
    (Takes.of_laid hkX hord tC (by rw [Y0.causeType]; rfl)) (Takes.of_laid hkX hord tS (by rw [Y0.stackType]; exact fits_refV_array _ u0)) (Takes.of_laid hkX hord tP (by rw [Y0.suppType]; exact fits_refV_object _ sen))
    (Takes.of_laid hkX hord tM (by rw [Y0.msgType]; exact fits_refV_object _ ⟨msg, hmsg⟩)) Y0.objLocals hsk htr [] hd6
    (by simp only [List.length_cons, hlen]; omega) (by simp only [List.length_cons, hlen]; exact hRl)
  obtain ⟨w1, w2, w3, w4, w5⟩ := X2.athrowLeaves hexec (g := { g with stack := .ref a :: rest, pc := g.pc + 3 }) hg hlocked hentered hout (a := a) (rest := rest) rfl hd9 hlocks
  have hlt : a < ((T.setVm vm1).setVm vm2).heap.size := (Array.getElem?_eq_some_iff.mp hcell).1
  have hU := heapAt_setCell_self (s := (T.setVm vm1).setVm vm2) (plainBareV TC.toThrowableT (freshCell P0.m.cls kX) a u0 sen msg) hlt
  refine ⟨_, st1 _ (fun acts => ?_), w2, w3, w4, w5.weaken (fun y hy hl => ?_) (Nat.le_refl _) (Nat.le_refl _), _, hU, hP0c, rfl⟩
  · rw [doInvoke_state]
    exact st2 _ w1
  · exfalso
    have hb : y.base = a := by
      simp only [List.nil_append, List.mem_cons, List.not_mem_nil, or_false] at hy
      rcases hy with rfl | rfl | rfl | rfl | rfl <;> rfl
    rw [hb] at hl
    exact Nat.not_lt.mpr hnew hl
end THR
/-- a method that throws an object of class C, and changes nothing that was there -/
def th_Q (C : String) (st : State) (o : Outcome) (t : State) (mc ms : Nat) : Prop := ∃ (x : Addr) (ce : Cell), o = .threw x ∧ t.heap[x]? = some ce ∧ st.vm.findClass C = some ce.cls ∧ ce.vm = .none ∧ st.WarmedH t.vm ∧ st.sameButNew ({ t with vm := st.vm } : State) [] mc ms
def th_Z (below : List Frame) (C : String) (s : State) (mc ms : Nat) : State → Prop := fun t => ∃ o, t.status = .running ∧ Ended t below o ∧ th_Q C s o t mc ms
def th_Met (l : Launch) (y : MethodName) (ws : List Cond) (rm : Room) (Pc : Array Value → State → Prop) (C : String) (mc ms : Nat) : Prop := MetFree l y (headSpec ws rm) Pc (fun _ _ _ _ _ => True) (fun _ st o t => th_Q C st o t mc ms)
theorem th_ofW {l : Launch} {y : MethodName} {ws ws' : List Cond} {rm : Room} {Pc : Array Value → State → Prop} {C : String} {mc ms : Nat} {cc : ByteArray} {maxL : Nat} {ret : Option FieldType} (hy : plainName y.cls = true) (hw : ws = Cond.code y cc maxL ret :: ws')
    (body : ∀ p e s m args below meth c s₁, BodyLoose p l y (headSpec ws rm) cc maxL ret e s m args below meth c s₁ → c.maxLocals = maxL → Pc args s → W p l e rm s m args below meth c s.heap [] 0 0 (th_Z below C s mc ms) (entryFrame m args maxL)) : th_Met l y ws rm Pc C mc ms := by
  refine MetFree.of_bodyS (code := cc) (maxLocals := maxL) (ret := ret) hy (fun args s m h hn => ?_) (fun p e s m args below meth c s₁ B hml hP _ => ?_)
  · obtain ⟨meth, c, h1, h2, h3, h4, h5, h6, -, -⟩ := Cond.code_spec hn (atoms_spec (ws := ws) h _ (by rw [hw]; exact List.mem_cons_self))
    exact ⟨meth, c, h1, h2, h3, h4, h5, h6⟩
  · have hh0 : s₁.heap = s.heap := by rw [B.state]; rfl
    obtain ⟨t, a1, o, b1, b2, b3⟩ := body p e s m args below meth c s₁ B hml hP s₁ hh0 (Stand.of_body B)
    exact ⟨t, o, a1, b1, b2, b3⟩
section THW
variable {p : Program} {l : Launch} {e : Env} {R : Room} {s : State} {m : MethodId} {args : Array Value} {below : List Frame} {meth : Method} {c : Code} {H : Heap} {locs : List Loc} {cells slots : Nat} {Q : State → Prop}
/-- new, dup, ldc, invokespecial, athrow -/
theorem th_throw (hexec : p.tables.exec = Jvm.exec) {cc : ByteArray} (hb : c.code = cc) (hno : c.exceptionTable.isEmpty = true) (hlk : meth.locks = false) (hfl : l.flags = pinnedFlags ++ [noTraceFlag]) {own C Y tx : String} {names : List String} {inx isx ic ix q : Nat} {bytes : ByteArray}
    (hown : s.vm.findClass own = some m.cls) (hC : Bundle.fit C = true) (hYf : Bundle.fit Y = true) (hnames : ∀ n ∈ names, Bundle.fit n = true)
    (d0 : decode bytes 0 = .ok (.aload_n 0, 1)) (d1 : decode bytes 1 = .ok (.aload_n 1, 1)) (d2 : decode bytes 2 = .ok (.invokespecial ix, 3)) (d5 : decode bytes 5 = .ok (.return_, 1))
    (h : ∀ a ∈ th_at own ic C Y ix bytes names, a.before args s = true) (hst : th_St s) (hcl : (Cond.classLink own inx C).before args s = true) (hini : (Cond.initialized C).before args s = true) (hstr : vk_R own isx tx q s)
    {pc : Nat} {ls : Array Slot} (hls : ls.size = c.maxLocals) (e0 : decode cc pc = .ok (.new inx, 3)) (e1 : decode cc (pc + 3) = .ok (.dup, 1)) (e2 : decode cc (pc + 4) = .ok (.ldc isx, 2)) (e3 : decode cc (pc + 6) = .ok (.invokespecial ic, 3)) (e4 : decode cc (pc + 9) = .ok (.athrow, 1))
    (hRc : 1 ≤ R.cells) (hRs : 6 ≤ R.slots) (hRf : names.length + 4 < R.frames) (hRl : 1 + (13 * (names.length + 2) + 42) ≤ R.locals) :
    W p l e R s m args below meth c s.heap [] 0 0 (th_Z below C s 1 6) (F0 m pc ls []) := by
  obtain ⟨cX, -, hfX, -, -, -, -, -⟩ := Cond.instantiable_spec (h (.instantiable C 6) (by simp [th_at]))
  refine W.newcK (h := s.heap.size) (n := 6) hexec hb hown hcl (h (.instantiable C 6) (by simp [th_at])) hini rfl e0 (by omega) (by omega) hfX rfl (fun H1 kC hkC f1 z1 o1 => ?_)
  refine lv_dup hexec hb e1 rfl ?_
  refine va_ldcS hexec hb hown hstr e2 ?_
  intro T hT X
  obtain ⟨U, u1, u2, u3, u4, u5, ce, u6, u7, u8⟩ := th_ctor X hexec (Jvm.ShelfD.Launch.traces_off hfl X.admits) hown hC hYf hnames d0 d1 d2 d5 h hst hfX hkC (a := s.heap.size) (by rw [hT]; exact f1) (Nat.le_refl _) (msg := .ref q) rfl (g := F0 m (pc + 3 + 1 + 2) ls (.ref q :: .ref s.heap.size :: .ref s.heap.size :: [])) rfl hls rfl rfl rfl (by rw [hb]; exact e3) (by rw [hb]; exact e4) (fun x hx => by rw [Array.isEmpty_iff.mp hno] at hx; simp at hx) hRf (by
    have h8 : ((Value.ref s.heap.size :: ([] : List Value)).map fun v => v.category).sum = 1 := rfl
    rw [h8]
    show 2 * 0 + 1 + _ ≤ _
    omega) hlk
  exact ⟨U, u1, .threw _, u2, u3, _, ce, rfl, u6, u7, u8, u4, u5⟩
end THW
