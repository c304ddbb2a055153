/-! The words of a throw; the three methods that throw; the law's helpers where they do. Written by a program (wip/tools/gen82.py). -/
def th_wa1 : List Cond := th_at "TrustedMachine" 160 "java/lang/IndexOutOfBoundsException" "java/lang/RuntimeException" 7 Bundle.six ["java/lang/Exception"] ++ [.classLink "TrustedMachine" 156 "java/lang/IndexOutOfBoundsException", .initialized "java/lang/IndexOutOfBoundsException"]
theorem th_ina1 : ∀ w ∈ th_wa1, w ∈ lw_tbl := List.forall_mem_cons.mpr ⟨ev_wd_in (h := 16) rfl, List.forall_mem_cons.mpr ⟨ev_wd_in (h := 7116) rfl, List.forall_mem_cons.mpr ⟨ev_wd_in (h := 4029) rfl, List.forall_mem_cons.mpr ⟨ev_wd_in (h := 4034) rfl, List.forall_mem_cons.mpr ⟨ev_wd_in (h := 4037) rfl, List.forall_mem_cons.mpr ⟨ev_wd_in (h := 4039) rfl, List.forall_mem_cons.mpr ⟨ev_wd_in (h := 7117) rfl, List.forall_mem_cons.mpr ⟨ev_wd_in (h := 7118) rfl, List.forall_mem_cons.mpr ⟨ev_wd_in (h := 37) rfl, List.forall_mem_cons.mpr ⟨ev_wd_in (h := 38) rfl, List.forall_mem_cons.mpr ⟨ev_wd_in (h := 4023) rfl, List.forall_mem_cons.mpr ⟨ev_wd_in (h := 4028) rfl, List.forall_mem_cons.mpr ⟨ev_wd_in (h := 4035) rfl, List.forall_mem_cons.mpr ⟨ev_wd_in (h := 4042) rfl, List.forall_mem_cons.mpr ⟨ev_wd_in (h := 7106) rfl, List.forall_mem_cons.mpr ⟨ev_wd_in (h := 4043) rfl, List.forall_mem_cons.mpr ⟨ev_wd_in (h := 7108) rfl, List.forall_mem_cons.mpr ⟨ev_wd_in (h := 4044) rfl, List.forall_mem_cons.mpr ⟨ev_wd_in (h := 7110) rfl, List.forall_mem_cons.mpr ⟨ev_wd_in (h := 4024) rfl, List.forall_mem_cons.mpr ⟨ev_wd_in (h := 4025) rfl, List.forall_mem_cons.mpr ⟨ev_wd_in (h := 4026) rfl, List.forall_mem_cons.mpr ⟨ev_wd_in (h := 4027) rfl, List.forall_mem_cons.mpr ⟨ev_wd_in (h := 7112) rfl, List.forall_mem_cons.mpr ⟨ev_wd_in (h := 4021) rfl, List.forall_mem_cons.mpr ⟨ev_wd_in (h := 4022) rfl, List.forall_mem_cons.mpr ⟨ev_wd_in (h := 4041) rfl, List.forall_mem_cons.mpr ⟨ev_wd_in (h := 7112) rfl, List.forall_mem_cons.mpr ⟨ev_wd_in (h := 4012) rfl, List.forall_mem_cons.mpr ⟨ev_wd_in (h := 4013) rfl, List.forall_mem_cons.mpr ⟨ev_wd_in (h := 4014) rfl, List.forall_mem_cons.mpr ⟨ev_wd_in (h := 4015) rfl, List.forall_mem_cons.mpr ⟨ev_wd_in (h := 7099) rfl, List.forall_mem_cons.mpr ⟨ev_wd_in (h := 4015) rfl, List.forall_mem_cons.mpr ⟨ev_wd_in (h := 4016) rfl, List.forall_mem_cons.mpr ⟨ev_wd_in (h := 4017) rfl, List.forall_mem_cons.mpr ⟨ev_wd_in (h := 4018) rfl, List.forall_mem_cons.mpr ⟨ev_wd_in (h := 7101) rfl, List.forall_mem_cons.mpr ⟨ev_wd_in (h := 4018) rfl, List.forall_mem_cons.mpr ⟨ev_wd_in (h := 4019) rfl, List.forall_mem_cons.mpr ⟨ev_wd_in (h := 4020) rfl, List.forall_mem_cons.mpr ⟨ev_wd_in (h := 4021) rfl, List.forall_mem_cons.mpr ⟨ev_wd_in (h := 7103) rfl, List.forall_mem_cons.mpr ⟨ev_wd_in (h := 7120) rfl, List.forall_mem_cons.mpr ⟨ev_wd_in (h := 7096) rfl, List.forall_mem_cons.mpr ⟨ev_wd_in (h := 7104) rfl, List.forall_mem_cons.mpr ⟨ev_wd_in (h := 4032) rfl, List.forall_mem_cons.mpr ⟨ev_wd_in (h := 7105) rfl, List.forall_mem_cons.mpr ⟨ev_wd_in (h := 7107) rfl, List.forall_mem_cons.mpr ⟨ev_wd_in (h := 7109) rfl, List.forall_mem_cons.mpr ⟨ev_wd_in (h := 7111) rfl, List.forall_mem_cons.mpr ⟨ev_wd_in (h := 4040) rfl, List.forall_mem_cons.mpr ⟨ev_wd_in (h := 7114) rfl, List.forall_mem_cons.mpr ⟨ev_wd_in (h := 7113) rfl, List.forall_mem_cons.mpr ⟨ev_wd_in (h := 7095) rfl, List.forall_mem_cons.mpr ⟨ev_wd_in (h := 19) rfl, fun _ h => absurd h List.not_mem_nil⟩⟩⟩⟩⟩⟩⟩⟩⟩⟩⟩⟩⟩⟩⟩⟩⟩⟩⟩⟩⟩⟩⟩⟩⟩⟩⟩⟩⟩⟩⟩⟩⟩⟩⟩⟩⟩⟩⟩⟩⟩⟩⟩⟩⟩⟩⟩⟩⟩⟩⟩⟩⟩⟩⟩⟩
def th_ws1 : List Cond := th_wa1.filter goodWord
theorem th_in1 : ∀ w ∈ th_ws1, w ∈ lw_tbl := fun w hw => th_ina1 w (List.mem_filter.mp hw).1
theorem th_good1 : ∀ w ∈ th_ws1, (w.onTables && w.keeps) = true ∨ ∃ ty, w = .arrayClass ty := fun w hw => good_of_word (List.mem_filter.mp hw).2
def th_wa2 : List Cond := th_at "TrustedMachine" 185 "java/util/NoSuchElementException" "java/lang/RuntimeException" 13 prog_30_method_4_code ["java/lang/Exception"] ++ [.classLink "TrustedMachine" 181 "java/util/NoSuchElementException", .initialized "java/util/NoSuchElementException"]
theorem th_ina2 : ∀ w ∈ th_wa2, w ∈ lw_tbl := List.forall_mem_cons.mpr ⟨ev_wd_in (h := 16) rfl, List.forall_mem_cons.mpr ⟨ev_wd_in (h := 7116) rfl, List.forall_mem_cons.mpr ⟨ev_wd_in (h := 4029) rfl, List.forall_mem_cons.mpr ⟨ev_wd_in (h := 4034) rfl, List.forall_mem_cons.mpr ⟨ev_wd_in (h := 4037) rfl, List.forall_mem_cons.mpr ⟨ev_wd_in (h := 4039) rfl, List.forall_mem_cons.mpr ⟨ev_wd_in (h := 7117) rfl, List.forall_mem_cons.mpr ⟨ev_wd_in (h := 7118) rfl, List.forall_mem_cons.mpr ⟨ev_wd_in (h := 37) rfl, List.forall_mem_cons.mpr ⟨ev_wd_in (h := 38) rfl, List.forall_mem_cons.mpr ⟨ev_wd_in (h := 4023) rfl, List.forall_mem_cons.mpr ⟨ev_wd_in (h := 4028) rfl, List.forall_mem_cons.mpr ⟨ev_wd_in (h := 4035) rfl, List.forall_mem_cons.mpr ⟨ev_wd_in (h := 4042) rfl, List.forall_mem_cons.mpr ⟨ev_wd_in (h := 7106) rfl, List.forall_mem_cons.mpr ⟨ev_wd_in (h := 4043) rfl, List.forall_mem_cons.mpr ⟨ev_wd_in (h := 7108) rfl, List.forall_mem_cons.mpr ⟨ev_wd_in (h := 4044) rfl, List.forall_mem_cons.mpr ⟨ev_wd_in (h := 7110) rfl, List.forall_mem_cons.mpr ⟨ev_wd_in (h := 4024) rfl, List.forall_mem_cons.mpr ⟨ev_wd_in (h := 4025) rfl, List.forall_mem_cons.mpr ⟨ev_wd_in (h := 4026) rfl, List.forall_mem_cons.mpr ⟨ev_wd_in (h := 4027) rfl, List.forall_mem_cons.mpr ⟨ev_wd_in (h := 7112) rfl, List.forall_mem_cons.mpr ⟨ev_wd_in (h := 4021) rfl, List.forall_mem_cons.mpr ⟨ev_wd_in (h := 4022) rfl, List.forall_mem_cons.mpr ⟨ev_wd_in (h := 4041) rfl, List.forall_mem_cons.mpr ⟨ev_wd_in (h := 7112) rfl, List.forall_mem_cons.mpr ⟨ev_wd_in (h := 7150) rfl, List.forall_mem_cons.mpr ⟨ev_wd_in (h := 7151) rfl, List.forall_mem_cons.mpr ⟨ev_wd_in (h := 7152) rfl, List.forall_mem_cons.mpr ⟨ev_wd_in (h := 4015) rfl, List.forall_mem_cons.mpr ⟨ev_wd_in (h := 7099) rfl, List.forall_mem_cons.mpr ⟨ev_wd_in (h := 4015) rfl, List.forall_mem_cons.mpr ⟨ev_wd_in (h := 4016) rfl, List.forall_mem_cons.mpr ⟨ev_wd_in (h := 4017) rfl, List.forall_mem_cons.mpr ⟨ev_wd_in (h := 4018) rfl, List.forall_mem_cons.mpr ⟨ev_wd_in (h := 7101) rfl, List.forall_mem_cons.mpr ⟨ev_wd_in (h := 4018) rfl, List.forall_mem_cons.mpr ⟨ev_wd_in (h := 4019) rfl, List.forall_mem_cons.mpr ⟨ev_wd_in (h := 4020) rfl, List.forall_mem_cons.mpr ⟨ev_wd_in (h := 4021) rfl, List.forall_mem_cons.mpr ⟨ev_wd_in (h := 7103) rfl, List.forall_mem_cons.mpr ⟨ev_wd_in (h := 7149) rfl, List.forall_mem_cons.mpr ⟨ev_wd_in (h := 7140) rfl, List.forall_mem_cons.mpr ⟨ev_wd_in (h := 7142) rfl, List.forall_mem_cons.mpr ⟨ev_wd_in (h := 4033) rfl, List.forall_mem_cons.mpr ⟨ev_wd_in (h := 7143) rfl, List.forall_mem_cons.mpr ⟨ev_wd_in (h := 7144) rfl, List.forall_mem_cons.mpr ⟨ev_wd_in (h := 7145) rfl, List.forall_mem_cons.mpr ⟨ev_wd_in (h := 7146) rfl, List.forall_mem_cons.mpr ⟨ev_wd_in (h := 4040) rfl, List.forall_mem_cons.mpr ⟨ev_wd_in (h := 7114) rfl, List.forall_mem_cons.mpr ⟨ev_wd_in (h := 7147) rfl, List.forall_mem_cons.mpr ⟨ev_wd_in (h := 7139) rfl, List.forall_mem_cons.mpr ⟨ev_wd_in (h := 30) rfl, fun _ h => absurd h List.not_mem_nil⟩⟩⟩⟩⟩⟩⟩⟩⟩⟩⟩⟩⟩⟩⟩⟩⟩⟩⟩⟩⟩⟩⟩⟩⟩⟩⟩⟩⟩⟩⟩⟩⟩⟩⟩⟩⟩⟩⟩⟩⟩⟩⟩⟩⟩⟩⟩⟩⟩⟩⟩⟩⟩⟩⟩⟩
def th_ws2 : List Cond := th_wa2.filter goodWord
theorem th_in2 : ∀ w ∈ th_ws2, w ∈ lw_tbl := fun w hw => th_ina2 w (List.mem_filter.mp hw).1
theorem th_good2 : ∀ w ∈ th_ws2, (w.onTables && w.keeps) = true ∨ ∃ ty, w = .arrayClass ty := fun w hw => good_of_word (List.mem_filter.mp hw).2
theorem th_decl {args : Array Value} {s : State} {y : MethodName} {by9 : ByteArray} {n : Nat} {r : Option FieldType} (h1 : (Cond.instanceMethod y).before args s = true) (h2 : (Cond.code y by9 n r).before args s = true) : (Cond.declares y).before args s = true := by
  obtain ⟨mk, meth, hn, hm, hst, -⟩ := Cond.instanceMethod_spec h1
  obtain ⟨meth', c', hm', -, -, -, -, -, -, hsig⟩ := Cond.code_spec hn h2
  cases hm.symm.trans hm'
  simp [Cond.before, Cond.holds, Cond.value, hn, hm, hst, hsig]
/-- a static is laid: of the tables, and of one cell -/
def th_L (C n d : String) (U : State) (H : Heap) : Prop := (Cond.laysStatic C n d).before #[] ({ U with heap := H } : State) = true
theorem th_L.to {C n d : String} {u U : State} {H H1 : Heap} (al : u.vm.Alike U.vm) (hold : ∀ q : Nat, q < H.size → H1[q]? = H[q]?) (h : th_L C n d u H) : th_L C n d U H1 := by
  obtain ⟨c, k, i, f, a, cell, hc, hi, hst, ha, hcell, hs, hcls, hlt, hty⟩ := Cond.laysStatic_spec h
  obtain ⟨k', hi', he⟩ := State.fieldFound?_setVm (s := ({ u with heap := H } : State)) (vm' := U.vm) al hi
  have hc2 : ({ U with heap := H1 } : State).vm.findClass C = some c := by
    have h9 : u.vm.findClass C = some c := hc
    show U.vm.findClass C = some c
    rw [al.findClass]
    exact h9
  have hi2 : ({ U with heap := H1 } : State).fieldFound? C n d = some (c, k', i, f) := hi'
  have hcell0 : H[a]? = some cell := hcell
  have hcell2 : ({ U with heap := H1 } : State).heap[a]? = some cell := by
    show H1[a]? = some cell
    rw [hold a (Array.getElem?_eq_some_iff.mp hcell0).1]
    exact hcell0
  have ha2 : k'.statics = some a := by rw [he]; exact ha
  have hty2 : k'.staticTypes[f.slot]? = some f.type := by rw [he]; exact hty
  unfold th_L
  simp [Cond.before, Cond.holds, Cond.value, hc2, hi2, ha2, hcell2, hst, hs, hcls, hlt, hty2]
def th_Zs (U : State) (H : Heap) : Prop := (va_Zq Bundle.tN "UNASSIGNED_STACK" Bundle.steD (fun _ => False) U H ∧ va_Zq Bundle.tN "SUPPRESSED_SENTINEL" Bundle.listD (fun _ => False) U H) ∧ th_L Bundle.tN "UNASSIGNED_STACK" Bundle.steD U H ∧ th_L Bundle.tN "SUPPRESSED_SENTINEL" Bundle.listD U H
theorem th_isRef {C n d : String} {A : Nat → Prop} {s : State} (h : va_Zq C n d A s s.heap) : (Cond.isRef (.static C n d)).before #[] s = true := by
  rcases h with h | ⟨t, h⟩
  all_goals
    obtain ⟨cf, kf, fi, f, a, cell, h1, h2, h3, h4, h5, h6, h7, -⟩ := h
    simp [Cond.before, Cond.holds, Cond.value, Term.eval, State.fieldNamed?, h1, h2, h4, h5, h6, h7]
theorem th_Zs.st {s : State} (h : th_Zs s s.heap) : th_St s := ⟨th_isRef h.1.1, th_isRef h.1.2⟩
theorem th_Zs.moved {u U : State} {H : Heap} (hvm : u.vm.Alike U.vm) (h : th_Zs u H) : th_Zs U H := ⟨⟨va_Zq.moved hvm h.1.1, va_Zq.moved hvm h.1.2⟩, h.2.1.to hvm (fun _ _ => rfl), h.2.2.to hvm (fun _ _ => rfl)⟩
theorem th_Zs.kept {U : State} {H H1 : Heap} (h : th_Zs U H) (hq : ∀ a : Nat, a < H.size → H1[a]? = H[a]?) : th_Zs U H1 := ⟨⟨va_Zq.kept h.1.1 (fun a ha _ => hq a ha), va_Zq.kept h.1.2 (fun a ha _ => hq a ha)⟩, h.2.1.to (Vm.Alike.refl _) hq, h.2.2.to (Vm.Alike.refl _) hq⟩
/-- how a method that throws begins: its arguments, the text, the statics -/
def th_P (as : List Value) (isx : Nat) (tx : String) (q : Nat) : Array Value → State → Prop := fun a U => a = as.toArray ∧ vk_R "TrustedMachine" isx tx q U ∧ th_Zs U U.heap
theorem th_P_blind {as : List Value} {isx : Nat} {tx : String} {q : Nat} : FrameBlind (th_P as isx tx q) := fun a U g mk h => ⟨h.1, vk_R.same (U := U.calling g mk a) rfl h.2.1, th_Zs.moved (u := U) (U := U.calling g mk a) (Vm.Alike.refl U.vm) h.2.2⟩
def th_rm : Room := { frames := 6, cells := 1, slots := 6, locals := 90 }
theorem th_bad1 : th_wa1.filter (fun w => !goodWord w) = [Cond.laysStatic "java/lang/Throwable" "UNASSIGNED_STACK" "[Ljava/lang/StackTraceElement;", Cond.laysStatic "java/lang/Throwable" "SUPPRESSED_SENTINEL" "Ljava/util/List;", Cond.declares ⟨"java/lang/RuntimeException", "<init>", "(Ljava/lang/String;)V"⟩, Cond.declares ⟨"java/lang/Exception", "<init>", "(Ljava/lang/String;)V"⟩, Cond.declares ⟨"java/lang/Throwable", "<init>", "(Ljava/lang/String;)V"⟩] := rfl
theorem th_full1 {args : Array Value} {s : State} (h : ∀ w ∈ th_ws1, w.before args s = true) (hz : th_Zs s s.heap) : ∀ w ∈ th_wa1, w.before args s = true := by
  intro w hw
  cases hg : goodWord w with
  | true => exact h w (List.mem_filter.mpr ⟨hw, hg⟩)
  | false =>
    have hb : w ∈ th_wa1.filter (fun w => !goodWord w) := List.mem_filter.mpr ⟨hw, by rw [hg]; rfl⟩
    rw [th_bad1] at hb
    simp only [List.mem_cons, List.not_mem_nil, or_false] at hb
    rcases hb with rfl | rfl | rfl | rfl | rfl
    · exact hz.2.1
    · exact hz.2.2
    · exact th_decl (h _ (List.mem_filter.mpr ⟨List.mem_of_getElem? (i := 33) rfl, rfl⟩)) (h _ (List.mem_filter.mpr ⟨List.mem_of_getElem? (i := 34) rfl, rfl⟩))
    · exact th_decl (h _ (List.mem_filter.mpr ⟨List.mem_of_getElem? (i := 38) rfl, rfl⟩)) (h _ (List.mem_filter.mpr ⟨List.mem_of_getElem? (i := 39) rfl, rfl⟩))
    · exact th_decl (h _ (List.mem_filter.mpr ⟨List.mem_of_getElem? (i := 24) rfl, rfl⟩)) (h _ (List.mem_filter.mpr ⟨List.mem_of_getElem? (i := 25) rfl, rfl⟩))
theorem th_bad2 : th_wa2.filter (fun w => !goodWord w) = [Cond.laysStatic "java/lang/Throwable" "UNASSIGNED_STACK" "[Ljava/lang/StackTraceElement;", Cond.laysStatic "java/lang/Throwable" "SUPPRESSED_SENTINEL" "Ljava/util/List;", Cond.declares ⟨"java/lang/RuntimeException", "<init>", "(Ljava/lang/String;)V"⟩, Cond.declares ⟨"java/lang/Exception", "<init>", "(Ljava/lang/String;)V"⟩, Cond.declares ⟨"java/lang/Throwable", "<init>", "(Ljava/lang/String;)V"⟩] := rfl
theorem th_full2 {args : Array Value} {s : State} (h : ∀ w ∈ th_ws2, w.before args s = true) (hz : th_Zs s s.heap) : ∀ w ∈ th_wa2, w.before args s = true := by
  intro w hw
  cases hg : goodWord w with
  | true => exact h w (List.mem_filter.mpr ⟨hw, hg⟩)
  | false =>
    have hb : w ∈ th_wa2.filter (fun w => !goodWord w) := List.mem_filter.mpr ⟨hw, by rw [hg]; rfl⟩
    rw [th_bad2] at hb
    simp only [List.mem_cons, List.not_mem_nil, or_false] at hb
    rcases hb with rfl | rfl | rfl | rfl | rfl
    · exact hz.2.1
    · exact hz.2.2
    · exact th_decl (h _ (List.mem_filter.mpr ⟨List.mem_of_getElem? (i := 33) rfl, rfl⟩)) (h _ (List.mem_filter.mpr ⟨List.mem_of_getElem? (i := 34) rfl, rfl⟩))
    · exact th_decl (h _ (List.mem_filter.mpr ⟨List.mem_of_getElem? (i := 38) rfl, rfl⟩)) (h _ (List.mem_filter.mpr ⟨List.mem_of_getElem? (i := 39) rfl, rfl⟩))
    · exact th_decl (h _ (List.mem_filter.mpr ⟨List.mem_of_getElem? (i := 24) rfl, rfl⟩)) (h _ (List.mem_filter.mpr ⟨List.mem_of_getElem? (i := 25) rfl, rfl⟩))
theorem th_result {l : Launch} (hfl : l.flags = pinnedFlags ++ [noTraceFlag]) {b q : Nat} {i : Int32} (hi : i < 0 ∨ nI 3 < i) : th_Met l ⟨"TrustedMachine", "result", "(I)I"⟩ (Cond.code ⟨"TrustedMachine", "result", "(I)I"⟩ prog_1_method_11_code 2 (some .int) :: th_ws1) th_rm (th_P [Value.ref b, Value.int i] 158 "results are 0 to 3" q) "java/lang/IndexOutOfBoundsException" 1 6 := by
  refine th_ofW (by decide) rfl ?_
  intro p e s m args below meth c s₁ B hml hv
  obtain ⟨rfl, hstr, hz⟩ := hv
  have hts := atoms_spec (ws := _ :: th_ws1) B.pre
  have hfull := th_full1 (fun w hw => hts w (List.mem_cons_of_mem _ hw)) hz
  have hown : s.vm.findClass "TrustedMachine" = some m.cls := findClass_of_methodNamed B.named
  have hno := B.noHandlers (hts _ List.mem_cons_self)
  have hl := lv_entry [Value.ref b, Value.int i] (n := 2) (Nat.le_of_ble_eq_true rfl)
  rw [lg_entry_eq]
  generalize (lg_sl [Value.ref b, Value.int i] ++ List.replicate (2 - (lg_sl [Value.ref b, Value.int i]).length) Slot.unset).toArray = ls at hl ⊢
  have ht : W p l e th_rm s m [Value.ref b, Value.int i].toArray below meth c s.heap [] 0 0 (th_Z below "java/lang/IndexOutOfBoundsException" s 1 6) (F0 m 9 ls []) := th_throw (tx := _) (names := ["java/lang/Exception"]) (Y := "java/lang/RuntimeException") (bytes := Bundle.six) B.exec B.bytes hno B.notSynchronized hfl hown (by decide +kernel) (by decide +kernel) (by decide +kernel) (by decide +kernel) (by decide +kernel) (by decide +kernel) (by decide +kernel) (fun w hw => hfull w (List.mem_append_left _ hw)) hz.st (hfull (.classLink "TrustedMachine" 156 "java/lang/IndexOutOfBoundsException") (List.mem_append_right _ List.mem_cons_self)) (hfull (.initialized "java/lang/IndexOutOfBoundsException") (List.mem_append_right _ (List.mem_cons_of_mem _ List.mem_cons_self))) hstr (hl.1.trans hml.symm) (by decide +kernel) (by decide +kernel) (by decide +kernel) (by decide +kernel) (by decide +kernel) (by decide) (by decide) (by decide) (by decide)
  refine lv_iload_n (k := 1) B.exec B.bytes (by decide +kernel) rfl (lv_at hl 1 rfl) ?_
  refine lv_if_lt (off := 8) (tgt := 9) B.exec B.bytes (by decide +kernel) (by decide) (fun _ => ht) (fun h => ?_)
  refine lv_iload_n (k := 1) B.exec B.bytes (by decide +kernel) rfl (lv_at hl 1 rfl) ?_
  refine lv_iconst (n := 3) (v := nI 3) B.exec B.bytes (by decide +kernel) (by decide +kernel) ?_
  refine lv_icmp_le (off := 13) (tgt := 19) B.exec B.bytes (by decide +kernel) (by decide) (fun h2 => ?_) (fun _ => ht)
  rcases hi with hi | hi
  · exact absurd hi h
  · exact absurd h2 (Int32.not_le.mpr hi)
theorem th_register {l : Launch} (hfl : l.flags = pinnedFlags ++ [noTraceFlag]) {b q : Nat} {i : Int32} (hi : i < 0 ∨ nI 17 < i) : th_Met l ⟨"TrustedMachine", "register", "(I)I"⟩ (Cond.code ⟨"TrustedMachine", "register", "(I)I"⟩ prog_1_method_16_code 2 (some .int) :: th_ws1) th_rm (th_P [Value.ref b, Value.int i] 179 "registers are 0 to 17" q) "java/lang/IndexOutOfBoundsException" 1 6 := by
  refine th_ofW (by decide) rfl ?_
  intro p e s m args below meth c s₁ B hml hv
  obtain ⟨rfl, hstr, hz⟩ := hv
  have hts := atoms_spec (ws := _ :: th_ws1) B.pre
  have hfull := th_full1 (fun w hw => hts w (List.mem_cons_of_mem _ hw)) hz
  have hown : s.vm.findClass "TrustedMachine" = some m.cls := findClass_of_methodNamed B.named
  have hno := B.noHandlers (hts _ List.mem_cons_self)
  have hl := lv_entry [Value.ref b, Value.int i] (n := 2) (Nat.le_of_ble_eq_true rfl)
  rw [lg_entry_eq]
  generalize (lg_sl [Value.ref b, Value.int i] ++ List.replicate (2 - (lg_sl [Value.ref b, Value.int i]).length) Slot.unset).toArray = ls at hl ⊢
  have ht : W p l e th_rm s m [Value.ref b, Value.int i].toArray below meth c s.heap [] 0 0 (th_Z below "java/lang/IndexOutOfBoundsException" s 1 6) (F0 m 10 ls []) := th_throw (tx := _) (names := ["java/lang/Exception"]) (Y := "java/lang/RuntimeException") (bytes := Bundle.six) B.exec B.bytes hno B.notSynchronized hfl hown (by decide +kernel) (by decide +kernel) (by decide +kernel) (by decide +kernel) (by decide +kernel) (by decide +kernel) (by decide +kernel) (fun w hw => hfull w (List.mem_append_left _ hw)) hz.st (hfull (.classLink "TrustedMachine" 156 "java/lang/IndexOutOfBoundsException") (List.mem_append_right _ List.mem_cons_self)) (hfull (.initialized "java/lang/IndexOutOfBoundsException") (List.mem_append_right _ (List.mem_cons_of_mem _ List.mem_cons_self))) hstr (hl.1.trans hml.symm) (by decide +kernel) (by decide +kernel) (by decide +kernel) (by decide +kernel) (by decide +kernel) (by decide) (by decide) (by decide) (by decide)
  refine lv_iload_n (k := 1) B.exec B.bytes (by decide +kernel) rfl (lv_at hl 1 rfl) ?_
  refine lv_if_lt (off := 9) (tgt := 10) B.exec B.bytes (by decide +kernel) (by decide) (fun _ => ht) (fun h => ?_)
  refine lv_iload_n (k := 1) B.exec B.bytes (by decide +kernel) rfl (lv_at hl 1 rfl) ?_
  refine lv_bipush (n := 17) (v := nI 17) B.exec B.bytes (by decide +kernel) (by decide +kernel) ?_
  refine lv_icmp_le (off := 13) (tgt := 20) B.exec B.bytes (by decide +kernel) (by decide) (fun h2 => ?_) (fun _ => ht)
  rcases hi with hi | hi
  · exact absurd hi h
  · exact absurd h2 (Int32.not_le.mpr hi)
theorem th_disk {l : Launch} (hfl : l.flags = pinnedFlags ++ [noTraceFlag]) {b q : Nat} {i j k : Int32} (hi : i < 0 ∨ nI 64 ≤ i ∨ j < 0 ∨ nI 255 < j) : th_Met l ⟨"TrustedMachine", "disk", "(III)I"⟩ (Cond.code ⟨"TrustedMachine", "disk", "(III)I"⟩ prog_1_method_17_code 4 (some .int) :: th_ws2) th_rm (th_P [Value.ref b, Value.int i, Value.int j, Value.int k] 183 "no such byte of the disk" q) "java/util/NoSuchElementException" 1 6 := by
  refine th_ofW (by decide) rfl ?_
  intro p e s m args below meth c s₁ B hml hv
  obtain ⟨rfl, hstr, hz⟩ := hv
  have hts := atoms_spec (ws := _ :: th_ws2) B.pre
  have hfull := th_full2 (fun w hw => hts w (List.mem_cons_of_mem _ hw)) hz
  have hown : s.vm.findClass "TrustedMachine" = some m.cls := findClass_of_methodNamed B.named
  have hno := B.noHandlers (hts _ List.mem_cons_self)
  have hl := lv_entry [Value.ref b, Value.int i, Value.int j, Value.int k] (n := 4) (Nat.le_of_ble_eq_true rfl)
  rw [lg_entry_eq]
  generalize (lg_sl [Value.ref b, Value.int i, Value.int j, Value.int k] ++ List.replicate (4 - (lg_sl [Value.ref b, Value.int i, Value.int j, Value.int k]).length) Slot.unset).toArray = ls at hl ⊢
  have ht : W p l e th_rm s m [Value.ref b, Value.int i, Value.int j, Value.int k].toArray below meth c s.heap [] 0 0 (th_Z below "java/util/NoSuchElementException" s 1 6) (F0 m 21 ls []) := th_throw (tx := _) (names := ["java/lang/Exception"]) (Y := "java/lang/RuntimeException") (bytes := prog_30_method_4_code) B.exec B.bytes hno B.notSynchronized hfl hown (by decide +kernel) (by decide +kernel) (by decide +kernel) (by decide +kernel) (by decide +kernel) (by decide +kernel) (by decide +kernel) (fun w hw => hfull w (List.mem_append_left _ hw)) hz.st (hfull (.classLink "TrustedMachine" 181 "java/util/NoSuchElementException") (List.mem_append_right _ List.mem_cons_self)) (hfull (.initialized "java/util/NoSuchElementException") (List.mem_append_right _ (List.mem_cons_of_mem _ List.mem_cons_self))) hstr (hl.1.trans hml.symm) (by decide +kernel) (by decide +kernel) (by decide +kernel) (by decide +kernel) (by decide +kernel) (by decide) (by decide) (by decide) (by decide)
  refine lv_iload_n (k := 1) B.exec B.bytes (by decide +kernel) rfl (lv_at hl 1 rfl) ?_
  refine lv_if_lt (off := 20) (tgt := 21) B.exec B.bytes (by decide +kernel) (by decide) (fun _ => ht) (fun h1 => ?_)
  refine lv_iload_n (k := 1) B.exec B.bytes (by decide +kernel) rfl (lv_at hl 1 rfl) ?_
  refine lv_bipush (n := 64) (v := nI 64) B.exec B.bytes (by decide +kernel) (by decide +kernel) ?_
  refine lv_icmp_ge (off := 14) (tgt := 21) B.exec B.bytes (by decide +kernel) (by decide) (fun _ => ht) (fun h2 => ?_)
  refine lv_iload_n (k := 2) B.exec B.bytes (by decide +kernel) rfl (lv_at hl 2 rfl) ?_
  refine lv_if_lt (off := 10) (tgt := 21) B.exec B.bytes (by decide +kernel) (by decide) (fun _ => ht) (fun h3 => ?_)
  refine lv_iload_n (k := 2) B.exec B.bytes (by decide +kernel) rfl (lv_at hl 2 rfl) ?_
  refine lv_sipush (n := 255) (v := nI 255) B.exec B.bytes (by decide +kernel) (by decide +kernel) ?_
  refine lv_icmp_le (off := 13) (tgt := 31) B.exec B.bytes (by decide +kernel) (by decide) (fun h4 => ?_) (fun _ => ht)
  rcases hi with hi | hi | hi | hi
  · exact absurd hi h1
  · exact absurd hi h2
  · exact absurd hi h3
  · exact absurd h4 (Int32.not_le.mpr hi)
