/-! A call that throws, and is caught in the method that calls -/
theorem th_find {e : Env} {s : State} {f : JFrame} {a : Addr} {meth : Method} {code : Code} {x : ExceptionTableEntry} {k : ClassId} {cell : Cell} (hm : s.vm.method? f.method = some meth) (hc : meth.code = some code) (hx : code.exceptionTable.toList = [x]) (hcov : covers x f.pc = true) (h0 : x.catchType ≠ 0)
    (hl : s.vm.ClassLinks e.platform f.method.cls x.catchType k) (hcell : s.heap[a]? = some cell) (hobj : ∀ j, cell.vm ≠ .statics j) (k1 : ∃ j, s.vm.classes[cell.cls]? = some j) (k2 : ∃ j, s.vm.classes[k]? = some j) (hfit : s.vm.assignable cell.cls k = true)
    (Q : Handler → Pre) (E : CtlPost) (d : Bool) (acts : List Action) : wp (findHandler f a) Q E e d acts s ↔ Q (.found x.handlerPc) d acts (s.setVm (s.vm.noted f.method.cls x.catchType (.cls k))) := by
  have al : s.vm.Alike (s.vm.noted f.method.cls x.catchType (.cls k)) := (Vm.Alike.refl s.vm).noted _ _ _
  obtain ⟨o1, o2⟩ := (resolveClass_links e.toSetting hl).op (op := VmOp.resolveClass f.method.cls x.catchType) rfl
  obtain ⟨j1, g1⟩ := k1
  obtain ⟨j2, g2⟩ := k2
  obtain ⟨i1, r1, -⟩ := al.2.2 _ _ g1
  obtain ⟨i2, r2, -⟩ := al.2.2 _ _ g2
  have hf : (s.vm.noted f.method.cls x.catchType (.cls k)).assignable cell.cls k = true := by rw [al.assignable]; exact hfit
  simp only [covers] at hcov
  rw [Jvm.W.findHandler_eq hm hc, hx]
  simp [findHandler.go, hcov, h0, o1, o2, hcell, hobj, r1, r2, hf, VmOp.dirties, VmOp.acts]
section THC
variable {p : Program} {l : Launch} {e : Env} {R : Room} {s : State} {m : MethodId} {args : Array Value} {below : List Frame} {meth : Method} {c : Code} {T : State} {H : Heap} {locs : List Loc} {cells slots : Nat} {Q : State → Prop}
theorem th_caught (X : Stand p l e R s m args below meth c T locs cells slots) {a : Addr} {g : JFrame} (hg : g.method = m) {own name : String} (hown : s.vm.findClass own = some m.cls) {x : ExceptionTableEntry} (hx : c.exceptionTable.toList = [x]) (hcov : covers x g.pc = true) (h0 : x.catchType ≠ 0)
    (hlink : (Cond.classLink own x.catchType name).before args s = true) {cell : Cell} (hcell : T.heap[a]? = some cell) (hcls : s.vm.findClass name = some cell.cls) (hvm : cell.vm = .none) :
    ∃ vm', Stand p l e R s m args below meth c (T.setVm vm') locs cells slots ∧ ∀ target, Steps p.tables e below ((T.setVm vm').setTop { g with pc := x.handlerPc, stack := [.ref a] }) target → Steps p.tables e below ((T.setTop g).pushFrame (.throwing a)) target := by
  have pl3 : e.platform.magicAccessors = ({} : Platform).magicAccessors := by rw [X.admits.platform]
  obtain ⟨k, hk, hcl⟩ := Cond.classLink_spec hown hlink e.platform pl3
  obtain rfl : k = cell.cls := Option.some.inj (hk.symm.trans hcls)
  obtain ⟨dk, _, _, kt, hd, _, _, _, _, hkt, _, hopen⟩ := hcl.here
  have hl2 := X.warmed.classLinks hcl
  obtain ⟨k1, hk1, -⟩ := X.warmed.alike.2.2 _ _ hkt
  refine ⟨_, X.noted (X.warmed.noted hd hopen (State.rightAt_cls hcl)), fun target hrest => ?_⟩
  subst hg
  have hfind := th_find (e := e) (s := (T.setTop g).pushFrame (.throwing a)) (f := g) (a := a) (meth := meth) (code := c) (x := x) (k := cell.cls) (cell := cell) X.method' X.code hx hcov h0 hl2 hcell (fun j h => by rw [hvm] at h; cases h) ⟨k1, hk1⟩ ⟨k1, hk1⟩ (va_asg _ _)
  obtain ⟨hgo, hw⟩ := X.here.throwing (g := g) a
  refine Steps.head hgo hw ?_
  rw [stepThread_throwing (frames_entered X.here.top _)]
  have hst : (stepThrowing e ((T.setTop g).pushFrame (.throwing a)) a (.java g :: T.frames.tail)).1 = (((T.setTop g).pushFrame (.throwing a)).setVm (T.vm.noted g.method.cls x.catchType (.cls cell.cls))).setFrames (.java { g with pc := x.handlerPc, stack := [.ref a] } :: T.frames.tail) := by
    simp only [stepThrowing, searchFrame, vmDo]
    generalize hr : Sem.go _ e false [] ((T.setTop g).pushFrame (.throwing a)) = res
    obtain ⟨as, rfl, -⟩ := Sem.eq_ok_of hr (a := Handler.found x.handlerPc) (s' := ((T.setTop g).pushFrame (.throwing a)).setVm (T.vm.noted g.method.cls x.catchType (.cls cell.cls))) (acts' := []) (by
      simp [hfind _ _ _ _, Stand.throwing_vm])
    rfl
  rw [hst]
  obtain ⟨g0, hfr⟩ := X.frames_eq
  have hfr2 : (T.setVm (T.vm.noted g.method.cls x.catchType (.cls cell.cls))).frames = .java g0 :: below := hfr
  rw [State.setTop_of_frames _ hfr2] at hrest
  rw [hfr, List.tail_cons, State.pushFrame, State.setTop_of_frames _ hfr]
  have e2 : ∀ (u : State) (v : Vm) (F G K : List Frame), ((((u.setFrames F).setFrames G).setVm v).setFrames K) = (u.setVm v).setFrames K := fun u v F G K => by
    rw [State.setFrames_setFrames]
    show ((u.setVm v).setFrames G).setFrames K = _
    rw [State.setFrames_setFrames]
  rw [e2]
  exact hrest
/-- a method of an object is called, throws, and the one handler takes it -/
theorem th_call {y : MethodName} {ws : List Cond} {rm : Room} {Pc : Array Value → State → Prop} {C own : String} {mc ms maxL idx : Nat} {bytes cc : ByteArray} {ret : Option FieldType} (hM : th_Met l y ws rm Pc C mc ms) (hblind : FrameBlind Pc) (hexec : p.tables.exec = Jvm.exec) (hb : c.code = cc)
    (hown : s.vm.findClass own = some m.cls) (hlink : (Cond.methodLink own idx y).before args s = true) (hins : (Cond.instanceMethod y).before args s = true) (hsel : (Cond.selects y.cls y y).before args s = true) (hini : (Cond.initialized y.cls).before args s = true) (hy : y.cls ≠ "java/lang/invoke/MethodHandle" ∧ y.cls ≠ "java/lang/invoke/VarHandle")
    (hws : ∀ w ∈ ws, ∀ a' U, s.WarmedH U.vm → w.before a' U = true) (hcode : Cond.code y bytes maxL ret ∈ ws) (hrc : rm.cells = mc) (hrs : rm.slots = ms) (hRf : rm.frames + 1 ≤ R.frames) (hRl : 8 + (maxL + 11) + rm.locals ≤ R.locals) (hf : cells + mc ≤ R.cells ∧ slots + ms ≤ R.slots)
    {b : Addr} (hrec : ∃ cell : Cell, H[b]? = some cell ∧ cell.vm.isStatics = false ∧ s.vm.findClass y.cls = some cell.cls) {As rest : List Value} (hlen : ∀ sig, parseMethodDescriptor y.desc = some sig → As.length = sig.parameters.length) (hPc : ∀ U : State, U.heap = H → s.WarmedH U.vm → Pc (Value.ref b :: As).toArray U)
    {pc : Nat} {ls : Array Slot} (hls : ls.size = c.maxLocals) (hcs : (rest.map fun v => v.category).sum ≤ 8) (hd : decode cc pc = .ok (.invokevirtual idx, 3))
    {x : ExceptionTableEntry} (hx : c.exceptionTable.toList = [x]) (hcov : covers x pc = true) (h0 : x.catchType ≠ 0) (hcatch : (Cond.classLink own x.catchType C).before args s = true)
    (kk : ∀ (q : Nat) (H1 : Heap), H.size ≤ H1.size → (∀ j : Nat, j < H.size → H1[j]? = H[j]?) → W p l e R s m args below meth c H1 locs (cells + mc) (slots + ms) Q (F0 m x.handlerPc ls [.ref q])) :
    W p l e R s m args below meth c H locs cells slots Q (F0 m pc ls (As.reverse ++ .ref b :: rest)) := by
  intro T hT X
  obtain ⟨cellB, r1, r2, r3⟩ := hrec
  obtain ⟨mk, methM, hn, hmM, hstM, habM⟩ := Cond.instanceMethod_spec hins
  obtain ⟨methM', cM, hmM', hcM, -, hlM, -, -, -, hsigM⟩ := Cond.code_spec hn (by
    have h9 := hws _ hcode args s (State.WarmedH.refl s)
    exact h9)
  cases hmM.symm.trans hmM'
  obtain ⟨c2, r2', m2, q1, q2, q3, q4, kP, hkP, hkPi⟩ := Cond.selects_spec hsel
  cases r3.symm.trans q1
  cases (State.methodFound?_of_named hn hy).symm.trans q2
  cases hn.symm.trans q3
  have hselP : selectMethod e.platform s.vm cellB.cls mk = .method mk := by rw [Launch.admits_selectMethod X.admits]; exact q4
  obtain ⟨vm1, X1, st1⟩ := X.invokevirtual hexec hown hlink hn hmM hstM hkP hkPi hy (a := b) (cell := cellB) (by rw [hT]; exact r1) (fun z h => by rw [h] at r2; cases r2) hselP hmM habM hkP hkPi (g := F0 m pc ls (As.reverse ++ .ref b :: rest)) rfl (argsL := As) (rest := rest) (hlen _ hsigM) rfl (by rw [hb]; exact hd)
  have hkI : kP.init = .initialized := Cond.initialized_spec (findClass_of_methodNamed hn) hkP hini
  have hn1 : (T.setVm vm1).methodNamed? y = some mk := X1.named hn
  have hW1 := X1.warmed
  obtain ⟨kQ, hkQ, hkQ2⟩ := hW1.alike.2.2 _ _ hkP
  have hdg : decode c.code (F0 m pc ls rest).pc = .ok (.invokevirtual idx, 3) := by rw [hb]; exact hd
  have hmM1 : (T.setVm vm1).vm.method? mk = some methM := by rw [hW1.alike.method?]; exact hmM
  have happ : (headSpec ws rm).appliesLoose y e.platform ((T.setVm vm1).calling (F0 m pc ls rest) mk (Value.ref b :: As).toArray) = true :=
    Spec.appliesLoose_calling (g := F0 m pc ls rest) X1.here hdg hn1 hkQ (by
        have h9 := hkQ2
        rw [h9]
        exact hkI)
      (X1.room_calling (g := F0 m pc ls rest) (R' := rm) hls hmM1 hcM hRf (by
        have h8 : 2 * (F0 m pc ls rest).monitorRoom + ((F0 m pc ls rest).stack.map fun v => v.category).sum ≤ 8 := lv_room (rest := rest) hcs
        rw [hlM]
        omega) (by rw [hrc]; exact hf.1) (by rw [hrs]; exact hf.2)) (atoms_intro fun w hw => hws w hw _ _ hW1)
  obtain ⟨mid, hmid⟩ := X1.here.above
  have hfr : ((T.setVm vm1).setTop (F0 m pc ls rest)).frames = (.java (F0 m pc ls rest) :: mid) ++ below := by rw [State.frames_setTop' _ X1.here.top, hmid]; rfl
  obtain ⟨o, s2, st2, -, hend, hq⟩ := Steps.callFree hM p X.admits X.cas X.clock (acts := []) hfr happ (hblind _ _ _ _ (hPc (T.setVm vm1) hT hW1)) trivial
  obtain ⟨z, ce, rfl, v1, v2, v3, v4, v5⟩ := hq
  rw [State.frames_setTop' _ X1.here.top, X1.tail] at hend
  obtain ⟨T2, X2, w1, w2, w3⟩ := X1.outOfThrown (g := F0 m pc ls rest) rfl hend v4 v5
  have hh2 : T2.heap = s2.heap := by rw [w3, Stand.throwing_heap]
  have hold : ∀ j : Nat, j < H.size → T2.heap[j]? = H[j]? := fun j hj => by
    have h9 := th_old w2 (q := j) (by show j < T.heap.size; rw [hT]; exact hj)
    have h9 : T2.heap[j]? = T.heap[j]? := h9
    rw [h9, hT]
  have hce : T2.heap[z]? = some ce := by rw [hh2]; exact v1
  have hcls : s.vm.findClass C = some ce.cls := by
    have h9 : (T.setVm vm1).vm.findClass C = some ce.cls := v2
    rw [hW1.alike.findClass] at h9
    exact h9
  rw [List.append_nil] at X2
  obtain ⟨vm2, X3, st3⟩ := th_caught X2 (a := z) (g := F0 m pc ls rest) rfl hown hx hcov h0 hcatch hce hcls v3
  obtain ⟨t, t1, t2⟩ := kk z T2.heap (by
    have h9 := w2.2.1
    have h9 : T.heap.size ≤ T2.heap.size := h9
    rw [hT] at h9
    exact h9) hold (T2.setVm vm2) rfl X3
  refine ⟨t, st1 _ (fun acts => ?_), t2⟩
  rw [doInvoke_state]
  refine st2.trans ?_
  rw [w3]
  exact st3 t t1
end THC
