/-! A static method with handlers is called, and how it ends -/
section LWX
variable {p : Program} {l : Launch} {e : Env} {R : Room} {s : State} {m : MethodId} {args : Array Value} {below : List Frame} {meth : Method} {c : Code} {Q : State → Prop}
variable {D : va_G} {cl : List vw_C} {dA : Nat → ClassId} {kt : List FieldType} {A : Nat → Prop} {Gs : List Cond} {own : String} {cc : ByteArray} {nL : Nat}
variable {w : List ev_C} {H : Heap} {locs : List Loc} {ls : Array Slot} {ws : va_W} {nc ns pc : Nat}
/-- a static method with handlers is called -/
theorem th_runS {y : MethodName} {bytes : ByteArray} {maxL mc ms index cells slots : Nat} {ret : Option FieldType} {hh : List (Nat × Nat × Nat × Nat)} {wd Ts : List Cond} {rm : Room} {Pc : Array Value → State → Prop} {Qc : Array Value → State → Outcome → State → Prop} {free : Addr → Prop} {As rest : List Value} {g : JFrame} (S : CallFix p m c cc nL s args Ts own) (hM : Met l y wd rm Pc Qc mc ms free) (hblind : FrameBlind Pc) (hrc : rm.cells = mc) (hrs : rm.slots = ms) (hRf : rm.frames + 1 ≤ R.frames) (hRl : 8 + (maxL + 11) + rm.locals ≤ R.locals)
    (hws : ∀ w ∈ wd, ∀ a' U, s.WarmedH U.vm → w.before a' U = true) (hcode : Cond.codeWith y bytes maxL ret hh ∈ wd) (hini : (Cond.initialized y.cls).before args s = true) (hlink : (Cond.methodLink own index y).before args s = true) (hstat : (Cond.static y).before args s = true) (hy : y.cls ≠ "java/lang/invoke/MethodHandle" ∧ y.cls ≠ "java/lang/invoke/VarHandle") (hlen : (parseMethodDescriptor y.desc).map (fun d => d.parameters.length) = some As.length)
    (hPc : ∀ U : State, U.heap = H → s.WarmedH U.vm → Pc As.toArray U) (hg : g.method = m) (hsize : g.locals.size = nL) (hstack : g.stack = As.reverse ++ rest) (hW : 2 * g.monitorRoom + (rest.map fun v => v.category).sum ≤ 8) (hdg : decode cc g.pc = .ok (.invokestatic index, 3)) (hf : cells + mc ≤ R.cells ∧ slots + ms ≤ R.slots) :
    va_Run p l e R s m args below meth c H locs cells slots mc ms g rest (Qc As.toArray) free := by
  have hK : Back l R p e below s args y 3 8 (PreOf R mc ms Pc) (PostOf Qc mc ms free) := va_backW hM hblind hrc hrs hRf hRl hws hcode (fun a' U hW => word_at hW (Or.inl rfl) hini)
  obtain ⟨hx, hb, hml, ho, -⟩ := S
  intro T hT X
  obtain ⟨mk, methM, cM, hn, hmM, hcM, -, -, -, -, -, hsig⟩ := Cond.codeWith_spec (hws _ hcode args s (State.WarmedH.refl s))
  have hst := Cond.static_spec hn hmM hstat
  obtain ⟨kP, hkP, -⟩ := className_of_methodNamed hn
  have hki := Cond.initialized_spec (findClass_of_methodNamed hn) hkP hini
  obtain ⟨vm1, X1, st1⟩ := X.invokestatic hx ho hlink hn hmM hst hkP hki hy (g := g) hg (argsL := As) (rest := rest) (by
    rw [hsig] at hlen
    exact (Option.some.inj hlen).symm) hstack (by rw [hb]; exact hdg)
  obtain ⟨v, ⟨U', l2, c2, s2⟩, X', ⟨g', mk', t, L, e1, e2, hq, h1, hL, h2, h3⟩, st⟩ := hK m meth c ⟨T.setVm vm1, locs, cells, slots⟩ { g with stack := rest } (.invokestatic index) mk As.toArray X1 hg (hsize.trans hml.symm) (by rw [hb]; exact hdg) hW (X1.named hn) ⟨hf.1, hf.2, hPc (T.setVm vm1) hT X1.warmed⟩
  dsimp only [Pt.U, Pt.locs, Pt.cells, Pt.slots] at X' e1 e2 h1 h2 h3 st
  subst h1; subst h2; subst h3
  exact ⟨v, (T.setVm vm1).calling g' mk' As.toArray, t, U', L, hT, X', hL, e1, e2, hq, fun target h => st1 _ fun acts => by rw [doInvoke_state]; exact st.trans h⟩
/-- a helper has answered 1: all that was there is as it was -/
theorem th_ret1 {mc ms cells slots : Nat} {rest st0 : List Value} {a : Array Value} (hr : va_Run p l e R s m args below meth c H locs cells slots mc ms (F0 m pc ls st0) rest (th_Qh a) (fun _ => False)) (hWd : ev_Wd D cl dA A s w ws H locs)
    (kk : ∀ (H1 : Heap) (locs1 : List Loc), ev_Wd D cl dA A s w ws H1 locs1 → W p l e R s m args below meth c H1 locs1 (cells + mc) (slots + ms) Q (F0 m (pc + 3) ls (.int 1 :: rest))) : W p l e R s m args below meth c H locs cells slots Q (F0 m pc ls st0) := by
  obtain ⟨h4, h6, h7, h8⟩ := hWd
  intro T hT X
  obtain ⟨v, st0', t, T', L, h0, X', hL, e1, e2, ⟨hv, hz, hk⟩, st⟩ := hr T hT X
  cases hv
  rw [h0] at hz hk
  obtain ⟨t2, a1, c1⟩ := kk T'.heap (locs ++ L) ⟨h4, h6.kept (fun k x hx => by rw [e1]; exact hk x.1 ((h6 k x hx).lt)), h7, ⟨Nat.le_trans h8.1 (by rw [e1]; exact hz), fun q g1 g2 => by rw [e1, hk q (Nat.lt_of_lt_of_le g1 h8.1)]; exact h8.2.1 q g1 g2, fun q hq => by
      rcases List.mem_append.mp hq with h | h
      · exact h8.2.2 q h
      · exact (hL q h).elim⟩⟩ T' rfl X'
  exact ⟨t2, st t2 a1, c1⟩
/-- how a helper ends that has put a long into its array, and answered 0 -/
def th_Qi (D : va_G) (cl : List vw_C) (dA : Nat → ClassId) (ws0 : va_W) (A : Nat → Prop) (w : List ev_C) (po : Nat) (x : Int64) : Array Value → State → Outcome → State → Prop := fun _ st oc t =>
  (∃ u : va_W, oc = .returned (some (.int 0)) ∧ ev_ext (ws0.map Prod.fst) (u.map Prod.fst) ∧ ev_wr dA w u ∧ va_P D cl u t.heap ∧ va_D A u ∧ ∃ (a : Nat) (f : Nat → Int64), u[po]? = some (a, .inl (dA 2, 1, .inr (.inl f))) ∧ f 0 = x) ∧ va_F A st t
theorem th_ret0 {mc ms cells slots po : Nat} {x : Int64} {w1 : List ev_C} {rest st0 : List Value} {a : Array Value} (hr : va_Run p l e R s m args below meth c H locs cells slots mc ms (F0 m pc ls st0) rest (th_Qi D cl dA ws (va_A ws H.size) w1 po x a) (va_A ws H.size)) (hA : ∀ q, s.heap.size ≤ q → A q) (hWd : ev_Wd D cl dA A s w ws H locs)
    (kk : ∀ (u : va_W) (H1 : Heap) (locs1 : List Loc), ev_ext (ws.map Prod.fst) (u.map Prod.fst) → ev_Wd D cl dA A s w1 u H1 locs1 → (∃ (a : Nat) (f : Nat → Int64), u[po]? = some (a, .inl (dA 2, 1, .inr (.inl f))) ∧ f 0 = x) → W p l e R s m args below meth c H1 locs1 (cells + mc) (slots + ms) Q (F0 m (pc + 3) ls (.int 0 :: rest))) : W p l e R s m args below meth c H locs cells slots Q (F0 m pc ls st0) := by
  obtain ⟨h4, h6, h7, h8⟩ := hWd
  have hfr := ev_free h7 h8 hA
  intro T hT X
  obtain ⟨v, st0', t, T', L, h0, X', hL, e1, e2, ⟨⟨u, hv, b1, b2, b3, b4, b5⟩, hz, hk⟩, st⟩ := hr T hT X
  cases hv
  rw [h0] at hz hk
  obtain ⟨t2, a1, c1⟩ := kk u T'.heap (locs ++ L) b1 ⟨b2, by rw [e1]; exact b3, b4.weaken (fun _ _ _ h => hfr _ h), ⟨Nat.le_trans h8.1 (by rw [e1]; exact hz), fun q g1 g2 => by rw [e1, hk q (Nat.lt_of_lt_of_le g1 h8.1) (fun z => g2 (hfr q z))]; exact h8.2.1 q g1 g2, fun q hq => by
      rcases List.mem_append.mp hq with h | h
      · exact h8.2.2 q h
      · exact hfr _ (hL q h)⟩⟩ b5 T' rfl X'
  exact ⟨t2, st t2 a1, c1⟩
end LWX
theorem th_str {args : Array Value} {own tx : String} {k : Nat} {s : State} (h : (Cond.stringRef own k tx).before args s = true) : ∃ q : Nat, vk_R own k tx q s := by
  have h2 : ∃ a, s.resolvedAt? own k = some (.string a) := by
    have h1 := h
    simp only [Cond.before, Cond.holds, Cond.value] at h1
    cases hc : s.vm.findClass own with
    | none => simp [hc] at h1
    | some cur =>
      cases hr : s.resolvedAt? own k with
      | none => simp [hc, hr] at h1
      | some r =>
        cases r with
        | string a => exact ⟨a, rfl⟩
        | _ => simp [hc, hr] at h1
  obtain ⟨a, ha⟩ := h2
  refine ⟨a, vk_R.of (A := args) h ?_⟩
  unfold State.resolvedAt? at ha
  simp only [Term.eval]
  cases hc : s.vm.findClass own with
  | none => simp [hc] at ha
  | some cur =>
    cases hk : s.vm.classes[cur]? with
    | none => simp [hc, hk] at ha
    | some kc =>
      simp [hc, hk] at ha
      simp [hk, ha]
theorem th_neg {i : Int32} (h : ev_in (0, 0, 2147483647) i) : i < 0 := by
  obtain ⟨-, h2⟩ := h
  have h2 : ev_sx i ≤ 2147483647 := h2
  have e := ev_sx_eq i
  rw [Int32.lt_iff_toInt_lt]
  have z : (0 : Int32).toInt = 0 := by decide +kernel
  omega
theorem th_gt {i : Int32} {n : Nat} (hn : n < 2147483648) (h : ev_in (0, n + 2147483649, 4294967295) i) : nI n < i := by
  obtain ⟨h1, -⟩ := h
  have h1 : n + 2147483649 ≤ ev_sx i := h1
  have e := ev_sx_eq i
  rw [Int32.lt_iff_toInt_lt, nI_toInt hn]
  omega
