/-! The law's helpers where the class throws: they answer 1, and nothing that was there changes. Written by a program (wip/tools/gen83.py). -/
/-- how a helper begins -/
def th_Ph (as : List Value) (b : Nat) (isx : Nat) (tx : String) (q : Nat) : Array Value → State → Prop := fun a U => a = as.toArray ∧ (∃ cell : Cell, U.heap[b]? = some cell ∧ cell.vm.isStatics = false ∧ U.vm.findClass "TrustedMachine" = some cell.cls) ∧ vk_R "TrustedMachine" isx tx q U ∧ th_Zs U U.heap
theorem th_Ph_blind {as : List Value} {b isx : Nat} {tx : String} {q : Nat} : FrameBlind (th_Ph as b isx tx q) := fun a U g mk h => ⟨h.1, h.2.1, vk_R.same (U := U.calling g mk a) rfl h.2.2.1, th_Zs.moved (u := U) (U := U.calling g mk a) (Vm.Alike.refl U.vm) h.2.2.2⟩
/-- how it ends -/
def th_Qh : Array Value → State → Outcome → State → Prop := fun _ st o t => o = .returned (some (.int 1)) ∧ st.heap.size ≤ t.heap.size ∧ ∀ j : Nat, j < st.heap.size → t.heap[j]? = st.heap[j]?
def th_rh : Room := { frames := 7, cells := 1, slots := 6, locals := 200 }
theorem th_one {c : Code} {a b d k : Nat} (h : c.exceptionTable.toList.map (fun h => (h.startPc, h.endPc, h.handlerPc, h.catchType)) = [(a, b, d, k)]) : ∃ x : ExceptionTableEntry, c.exceptionTable.toList = [x] ∧ x.startPc = a ∧ x.endPc = b ∧ x.handlerPc = d ∧ x.catchType = k := by
  match hl : c.exceptionTable.toList, h with
  | [x], h =>
    have h1 := (List.cons.inj h).1
    exact ⟨x, rfl, congrArg (fun q => q.1) h1, congrArg (fun q => q.2.1) h1, congrArg (fun q => q.2.2.1) h1, congrArg (fun q => q.2.2.2) h1⟩
  | [], h => cases h
  | _ :: _ :: _, h => cases h
def th_hw_result : List Cond := [Cond.methodLink "TrustedMachineLaw" 7 ⟨"TrustedMachine", "result", "(I)I"⟩, Cond.instanceMethod ⟨"TrustedMachine", "result", "(I)I"⟩, Cond.selects "TrustedMachine" ⟨"TrustedMachine", "result", "(I)I"⟩ ⟨"TrustedMachine", "result", "(I)I"⟩, Cond.initialized "TrustedMachine", Cond.classLink "TrustedMachineLaw" 13 "java/lang/IndexOutOfBoundsException", Cond.code ⟨"TrustedMachine", "result", "(I)I"⟩ prog_1_method_11_code 2 (some .int)] ++ th_ws1
theorem th_h_result {l : Launch} (hfl : l.flags = pinnedFlags ++ [noTraceFlag]) {b q ao : Nat} {i : Int32} (hi : i < 0 ∨ nI 3 < i) : Met l ⟨"TrustedMachineLaw", "result", "(LTrustedMachine;I[J)I"⟩ (Cond.codeWith ⟨"TrustedMachineLaw", "result", "(LTrustedMachine;I[J)I"⟩ method_3_code 4 (some .int) [(0, 9, 12, 13)] :: th_hw_result) th_rh (th_Ph [Value.ref b, Value.int i, Value.ref ao] b 158 "results are 0 to 3" q) th_Qh 1 6 (fun _ => False) := by
  refine va_MetW (hh := [(0, 9, 12, 13)]) (by decide) rfl ?_
  intro p e s m args below meth c s₁ B hml hv
  obtain ⟨rfl, hrec, hstr, hz⟩ := hv
  have hts := atoms_spec (ws := _ :: th_hw_result) B.pre
  have hw0 : ∀ w ∈ th_hw_result, w.before [Value.ref b, Value.int i, Value.ref ao].toArray s = true := fun w hw => hts w (List.mem_cons_of_mem _ hw)
  have hown : s.vm.findClass "TrustedMachineLaw" = some m.cls := findClass_of_methodNamed B.named
  obtain ⟨x, hx, x1, x2, x3, x4⟩ : ∃ x : ExceptionTableEntry, c.exceptionTable.toList = [x] ∧ x.startPc = 0 ∧ x.endPc = 9 ∧ x.handlerPc = 12 ∧ x.catchType = 13 := by
    obtain ⟨m9, meth9, c9, g1, g2, g3, g4, g5, g6, -⟩ := Cond.codeWith_spec (hts _ List.mem_cons_self)
    cases B.named.symm.trans g1
    cases B.method.symm.trans g2
    cases (Stand.of_body B).code.symm.trans g3
    exact th_one g6
  have hl := lv_entry [Value.ref b, Value.int i, Value.ref ao] (n := 4) (Nat.le_of_ble_eq_true rfl)
  rw [lg_entry_eq]
  generalize (lg_sl [Value.ref b, Value.int i, Value.ref ao] ++ List.replicate (4 - (lg_sl [Value.ref b, Value.int i, Value.ref ao]).length) Slot.unset).toArray = ls at hl ⊢
  refine lv_aload_n (k := 2) B.exec B.bytes (by decide +kernel) rfl (lv_at hl 2 rfl) ?_
  refine lv_iconst (n := 0) (v := 0) B.exec B.bytes (by decide +kernel) (by decide +kernel) ?_
  refine lv_aload_n (k := 0) B.exec B.bytes (by decide +kernel) rfl (lv_at hl 0 rfl) ?_
  refine lv_iload_n (k := 1) B.exec B.bytes (by decide +kernel) rfl (lv_at hl 1 rfl) ?_
  refine th_call (As := [Value.int i]) (rest := [Value.int 0, Value.ref ao]) (y := ⟨"TrustedMachine", "result", "(I)I"⟩) (own := "TrustedMachineLaw") (C := "java/lang/IndexOutOfBoundsException") (idx := 7) (x := x) (th_result hfl (b := b) (q := q) hi) th_P_blind B.exec B.bytes hown (hw0 _ (List.mem_of_getElem? (i := 0) rfl)) (hw0 _ (List.mem_of_getElem? (i := 1) rfl)) (hw0 _ (List.mem_of_getElem? (i := 2) rfl)) (hw0 _ (List.mem_of_getElem? (i := 3) rfl)) ⟨by decide, by decide⟩ (fun w hw a' U hW => ?_) List.mem_cons_self rfl rfl (by decide) (by decide) ⟨by decide, by decide⟩ hrec (fun sig h => ?_) (fun U hU hW => ⟨rfl, vk_R.warm hW hstr, ?_⟩) (hl.1.trans hml.symm) (Nat.le_of_ble_eq_true rfl) (by decide +kernel) hx ?_ (by rw [x4]; decide) (by rw [x4]; exact hw0 _ (List.mem_of_getElem? (i := 4) rfl)) (fun z H1 hsz hold => ?_)
  · rcases List.mem_cons.mp hw with rfl | hw
    · exact word_at hW (Or.inl rfl) (hw0 _ (List.mem_of_getElem? (i := 5) rfl))
    · exact word_at hW (th_good1 w hw) (hw0 w (List.mem_append_right _ hw))
  · have h9 : parseMethodDescriptor "(I)I" = some sig := h
    have h8 : (parseMethodDescriptor "(I)I").map (fun d => d.parameters.length) = some 1 := by decide +kernel
    rw [h9] at h8
    exact (Option.some.inj h8).symm
  · have h9 := th_Zs.moved hW.alike hz
    rw [hU]
    exact h9
  · unfold covers
    rw [x1, x2]
    decide
  rw [x3]
  refine lv_astore_n (k := 3) (lv' := [(3, Value.ref z), (0, Value.ref b)]) B.exec B.bytes (by decide +kernel) rfl (lv_sub hl [0] rfl) (by decide) rfl (fun ls1 hl1 => ?_)
  refine lv_iconst (n := 1) (v := 1) B.exec B.bytes (by decide +kernel) (by decide +kernel) ?_
  exact W.iret B.exec B.bytes B.returns (fun t ht _ => ⟨rfl, by rw [ht]; exact hsz, fun j hj => by rw [ht]; exact hold j hj⟩) (fun q hq => by cases hq) (by decide +kernel) B.notSynchronized
def th_hw_register : List Cond := [Cond.methodLink "TrustedMachineLaw" 15 ⟨"TrustedMachine", "register", "(I)I"⟩, Cond.instanceMethod ⟨"TrustedMachine", "register", "(I)I"⟩, Cond.selects "TrustedMachine" ⟨"TrustedMachine", "register", "(I)I"⟩ ⟨"TrustedMachine", "register", "(I)I"⟩, Cond.initialized "TrustedMachine", Cond.classLink "TrustedMachineLaw" 13 "java/lang/IndexOutOfBoundsException", Cond.code ⟨"TrustedMachine", "register", "(I)I"⟩ prog_1_method_16_code 2 (some .int)] ++ th_ws1
theorem th_h_register {l : Launch} (hfl : l.flags = pinnedFlags ++ [noTraceFlag]) {b q ao : Nat} {i : Int32} (hi : i < 0 ∨ nI 17 < i) : Met l ⟨"TrustedMachineLaw", "register", "(LTrustedMachine;I[J)I"⟩ (Cond.codeWith ⟨"TrustedMachineLaw", "register", "(LTrustedMachine;I[J)I"⟩ method_4_code 4 (some .int) [(0, 9, 12, 13)] :: th_hw_register) th_rh (th_Ph [Value.ref b, Value.int i, Value.ref ao] b 179 "registers are 0 to 17" q) th_Qh 1 6 (fun _ => False) := by
  refine va_MetW (hh := [(0, 9, 12, 13)]) (by decide) rfl ?_
  intro p e s m args below meth c s₁ B hml hv
  obtain ⟨rfl, hrec, hstr, hz⟩ := hv
  have hts := atoms_spec (ws := _ :: th_hw_register) B.pre
  have hw0 : ∀ w ∈ th_hw_register, w.before [Value.ref b, Value.int i, Value.ref ao].toArray s = true := fun w hw => hts w (List.mem_cons_of_mem _ hw)
  have hown : s.vm.findClass "TrustedMachineLaw" = some m.cls := findClass_of_methodNamed B.named
  obtain ⟨x, hx, x1, x2, x3, x4⟩ : ∃ x : ExceptionTableEntry, c.exceptionTable.toList = [x] ∧ x.startPc = 0 ∧ x.endPc = 9 ∧ x.handlerPc = 12 ∧ x.catchType = 13 := by
    obtain ⟨m9, meth9, c9, g1, g2, g3, g4, g5, g6, -⟩ := Cond.codeWith_spec (hts _ List.mem_cons_self)
    cases B.named.symm.trans g1
    cases B.method.symm.trans g2
    cases (Stand.of_body B).code.symm.trans g3
    exact th_one g6
  have hl := lv_entry [Value.ref b, Value.int i, Value.ref ao] (n := 4) (Nat.le_of_ble_eq_true rfl)
  rw [lg_entry_eq]
  generalize (lg_sl [Value.ref b, Value.int i, Value.ref ao] ++ List.replicate (4 - (lg_sl [Value.ref b, Value.int i, Value.ref ao]).length) Slot.unset).toArray = ls at hl ⊢
  refine lv_aload_n (k := 2) B.exec B.bytes (by decide +kernel) rfl (lv_at hl 2 rfl) ?_
  refine lv_iconst (n := 0) (v := 0) B.exec B.bytes (by decide +kernel) (by decide +kernel) ?_
  refine lv_aload_n (k := 0) B.exec B.bytes (by decide +kernel) rfl (lv_at hl 0 rfl) ?_
  refine lv_iload_n (k := 1) B.exec B.bytes (by decide +kernel) rfl (lv_at hl 1 rfl) ?_
  refine th_call (As := [Value.int i]) (rest := [Value.int 0, Value.ref ao]) (y := ⟨"TrustedMachine", "register", "(I)I"⟩) (own := "TrustedMachineLaw") (C := "java/lang/IndexOutOfBoundsException") (idx := 15) (x := x) (th_register hfl (b := b) (q := q) hi) th_P_blind B.exec B.bytes hown (hw0 _ (List.mem_of_getElem? (i := 0) rfl)) (hw0 _ (List.mem_of_getElem? (i := 1) rfl)) (hw0 _ (List.mem_of_getElem? (i := 2) rfl)) (hw0 _ (List.mem_of_getElem? (i := 3) rfl)) ⟨by decide, by decide⟩ (fun w hw a' U hW => ?_) List.mem_cons_self rfl rfl (by decide) (by decide) ⟨by decide, by decide⟩ hrec (fun sig h => ?_) (fun U hU hW => ⟨rfl, vk_R.warm hW hstr, ?_⟩) (hl.1.trans hml.symm) (Nat.le_of_ble_eq_true rfl) (by decide +kernel) hx ?_ (by rw [x4]; decide) (by rw [x4]; exact hw0 _ (List.mem_of_getElem? (i := 4) rfl)) (fun z H1 hsz hold => ?_)
  · rcases List.mem_cons.mp hw with rfl | hw
    · exact word_at hW (Or.inl rfl) (hw0 _ (List.mem_of_getElem? (i := 5) rfl))
    · exact word_at hW (th_good1 w hw) (hw0 w (List.mem_append_right _ hw))
  · have h9 : parseMethodDescriptor "(I)I" = some sig := h
    have h8 : (parseMethodDescriptor "(I)I").map (fun d => d.parameters.length) = some 1 := by decide +kernel
    rw [h9] at h8
    exact (Option.some.inj h8).symm
  · have h9 := th_Zs.moved hW.alike hz
    rw [hU]
    exact h9
  · unfold covers
    rw [x1, x2]
    decide
  rw [x3]
  refine lv_astore_n (k := 3) (lv' := [(3, Value.ref z), (0, Value.ref b)]) B.exec B.bytes (by decide +kernel) rfl (lv_sub hl [0] rfl) (by decide) rfl (fun ls1 hl1 => ?_)
  refine lv_iconst (n := 1) (v := 1) B.exec B.bytes (by decide +kernel) (by decide +kernel) ?_
  exact W.iret B.exec B.bytes B.returns (fun t ht _ => ⟨rfl, by rw [ht]; exact hsz, fun j hj => by rw [ht]; exact hold j hj⟩) (fun q hq => by cases hq) (by decide +kernel) B.notSynchronized
def th_hw_disk : List Cond := [Cond.methodLink "TrustedMachineLaw" 18 ⟨"TrustedMachine", "disk", "(III)I"⟩, Cond.instanceMethod ⟨"TrustedMachine", "disk", "(III)I"⟩, Cond.selects "TrustedMachine" ⟨"TrustedMachine", "disk", "(III)I"⟩ ⟨"TrustedMachine", "disk", "(III)I"⟩, Cond.initialized "TrustedMachine", Cond.classLink "TrustedMachineLaw" 22 "java/util/NoSuchElementException", Cond.code ⟨"TrustedMachine", "disk", "(III)I"⟩ prog_1_method_17_code 4 (some .int)] ++ th_ws2
theorem th_h_disk {l : Launch} (hfl : l.flags = pinnedFlags ++ [noTraceFlag]) {b q ao : Nat} {i j k : Int32} (hi : i < 0 ∨ nI 64 ≤ i ∨ j < 0 ∨ nI 255 < j) : Met l ⟨"TrustedMachineLaw", "disk", "(LTrustedMachine;III[J)I"⟩ (Cond.codeWith ⟨"TrustedMachineLaw", "disk", "(LTrustedMachine;III[J)I"⟩ method_5_code 6 (some .int) [(0, 12, 15, 22)] :: th_hw_disk) th_rh (th_Ph [Value.ref b, Value.int i, Value.int j, Value.int k, Value.ref ao] b 183 "no such byte of the disk" q) th_Qh 1 6 (fun _ => False) := by
  refine va_MetW (hh := [(0, 12, 15, 22)]) (by decide) rfl ?_
  intro p e s m args below meth c s₁ B hml hv
  obtain ⟨rfl, hrec, hstr, hz⟩ := hv
  have hts := atoms_spec (ws := _ :: th_hw_disk) B.pre
  have hw0 : ∀ w ∈ th_hw_disk, w.before [Value.ref b, Value.int i, Value.int j, Value.int k, Value.ref ao].toArray s = true := fun w hw => hts w (List.mem_cons_of_mem _ hw)
  have hown : s.vm.findClass "TrustedMachineLaw" = some m.cls := findClass_of_methodNamed B.named
  obtain ⟨x, hx, x1, x2, x3, x4⟩ : ∃ x : ExceptionTableEntry, c.exceptionTable.toList = [x] ∧ x.startPc = 0 ∧ x.endPc = 12 ∧ x.handlerPc = 15 ∧ x.catchType = 22 := by
    obtain ⟨m9, meth9, c9, g1, g2, g3, g4, g5, g6, -⟩ := Cond.codeWith_spec (hts _ List.mem_cons_self)
    cases B.named.symm.trans g1
    cases B.method.symm.trans g2
    cases (Stand.of_body B).code.symm.trans g3
    exact th_one g6
  have hl := lv_entry [Value.ref b, Value.int i, Value.int j, Value.int k, Value.ref ao] (n := 6) (Nat.le_of_ble_eq_true rfl)
  rw [lg_entry_eq]
  generalize (lg_sl [Value.ref b, Value.int i, Value.int j, Value.int k, Value.ref ao] ++ List.replicate (6 - (lg_sl [Value.ref b, Value.int i, Value.int j, Value.int k, Value.ref ao]).length) Slot.unset).toArray = ls at hl ⊢
  refine lv_aload (i := 4) B.exec B.bytes (by decide +kernel) (lv_at hl 4 rfl) ?_
  refine lv_iconst (n := 0) (v := 0) B.exec B.bytes (by decide +kernel) (by decide +kernel) ?_
  refine lv_aload_n (k := 0) B.exec B.bytes (by decide +kernel) rfl (lv_at hl 0 rfl) ?_
  refine lv_iload_n (k := 1) B.exec B.bytes (by decide +kernel) rfl (lv_at hl 1 rfl) ?_
  refine lv_iload_n (k := 2) B.exec B.bytes (by decide +kernel) rfl (lv_at hl 2 rfl) ?_
  refine lv_iload_n (k := 3) B.exec B.bytes (by decide +kernel) rfl (lv_at hl 3 rfl) ?_
  refine th_call (As := [Value.int i, Value.int j, Value.int k]) (rest := [Value.int 0, Value.ref ao]) (y := ⟨"TrustedMachine", "disk", "(III)I"⟩) (own := "TrustedMachineLaw") (C := "java/util/NoSuchElementException") (idx := 18) (x := x) (th_disk hfl (b := b) (q := q) hi) th_P_blind B.exec B.bytes hown (hw0 _ (List.mem_of_getElem? (i := 0) rfl)) (hw0 _ (List.mem_of_getElem? (i := 1) rfl)) (hw0 _ (List.mem_of_getElem? (i := 2) rfl)) (hw0 _ (List.mem_of_getElem? (i := 3) rfl)) ⟨by decide, by decide⟩ (fun w hw a' U hW => ?_) List.mem_cons_self rfl rfl (by decide) (by decide) ⟨by decide, by decide⟩ hrec (fun sig h => ?_) (fun U hU hW => ⟨rfl, vk_R.warm hW hstr, ?_⟩) (hl.1.trans hml.symm) (Nat.le_of_ble_eq_true rfl) (by decide +kernel) hx ?_ (by rw [x4]; decide) (by rw [x4]; exact hw0 _ (List.mem_of_getElem? (i := 4) rfl)) (fun z H1 hsz hold => ?_)
  · rcases List.mem_cons.mp hw with rfl | hw
    · exact word_at hW (Or.inl rfl) (hw0 _ (List.mem_of_getElem? (i := 5) rfl))
    · exact word_at hW (th_good2 w hw) (hw0 w (List.mem_append_right _ hw))
  · have h9 : parseMethodDescriptor "(III)I" = some sig := h
    have h8 : (parseMethodDescriptor "(III)I").map (fun d => d.parameters.length) = some 3 := by decide +kernel
    rw [h9] at h8
    exact (Option.some.inj h8).symm
  · have h9 := th_Zs.moved hW.alike hz
    rw [hU]
    exact h9
  · unfold covers
    rw [x1, x2]
    decide
  rw [x3]
  refine lv_astore (i := 5) (lv' := [(5, Value.ref z), (0, Value.ref b)]) B.exec B.bytes (by decide +kernel) (lv_sub hl [0] rfl) (by decide) rfl (fun ls1 hl1 => ?_)
  refine lv_iconst (n := 1) (v := 1) B.exec B.bytes (by decide +kernel) (by decide +kernel) ?_
  exact W.iret B.exec B.bytes B.returns (fun t ht _ => ⟨rfl, by rw [ht]; exact hsz, fun j hj => by rw [ht]; exact hold j hj⟩) (fun q hq => by cases hq) (by decide +kernel) B.notSynchronized
