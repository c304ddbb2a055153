/-! Calls and answers of the small machine -/
def ev_rr (ad : List Nat) (r : Option (Nat × Nat × Nat)) (x : Option Value) : Prop := match r, x with
  | none, none => True
  | some v, some y => ev_vr ad v y
  | _, _ => False
/-- how a method of the small machine ends: its answer, its cells, nothing outside A changed -/
def ev_Q (D : va_G) (cl : List vw_C) (dA : Nat → ClassId) (kt : List FieldType) (ws0 : va_W) (A : Nat → Prop) (r : Option (Nat × Nat × Nat)) (w : List ev_C) : Array Value → State → Outcome → State → Prop := fun _ st oc t =>
  (∃ (rv : Option Value) (u : va_W), oc = .returned rv ∧ ev_rr (u.map Prod.fst) r rv ∧ ev_E ws0 w u ∧ ev_wr dA w u ∧ va_P D cl u t.heap ∧ ev_K D cl dA kt t ∧ va_D A u) ∧ va_F A st t
/-- how it begins -/
def ev_P (D : va_G) (cl : List vw_C) (dA : Nat → ClassId) (kt : List FieldType) (av : List Value) (ws : va_W) (sz : Nat) : Array Value → State → Prop := va_Pc av (fun U => U.heap.size = sz ∧ va_P D cl ws U.heap ∧ ev_K D cl dA kt U ∧ va_D (fun _ => True) ws ∧ ev_Tb (va_A ws sz) U U.heap)
def ev_rm (d mc ms : Nat) : Room := { frames := d, cells := mc, slots := ms, locals := 90 * d }
/-- the contract of a method by what the small machine makes of its arguments and cells -/
def ev_Met (l : Launch) (D : va_G) (cl : List vw_C) (dA : Nat → ClassId) (kt : List FieldType) (Gs : List Cond) (y : MethodName) (bytes : ByteArray) (maxL : Nat) (ret : Option FieldType) (d : Nat) (as : List (Nat × Nat × Nat)) (w : List ev_C) (r : ev_R) : Prop :=
  ∀ (av : List Value) (ws : va_W) (sz : Nat), ev_sr (ws.map Prod.fst) as av → ev_wr dA w ws → Met l y (Cond.code y bytes maxL ret :: Gs) (ev_rm d r.2.2.1 r.2.2.2) (ev_P D cl dA kt av ws sz) (ev_Q D cl dA kt ws (va_A ws sz) r.1 r.2.1) r.2.2.1 r.2.2.2 (va_A ws sz)
theorem ev_P_blind {D : va_G} {cl : List vw_C} {dA : Nat → ClassId} {kt : List FieldType} {av : List Value} {ws : va_W} {sz : Nat} : FrameBlind (ev_P D cl dA kt av ws sz) := fun a U g mk q => by
  obtain ⟨q0, q1, qP, qK, qD, qT⟩ := q
  exact ⟨q0, q1, qP, ev_K.moved (u := U) (U := U.calling g mk a) (Vm.Alike.refl U.vm) qK, qD, ev_Tb.moved (u := U) (U := U.calling g mk a) (Vm.Alike.refl U.vm) qT⟩
theorem ev_goodIn {Gs : List Cond} {w0 : Cond} (hG : ∀ w ∈ Gs, (w.onTables && w.keeps) = true ∨ ∃ ty, w = .arrayClass ty) (h : w0 ∈ Gs) : GoodIn Gs (w0 :: Gs) := fun w hw => by
  rcases List.mem_cons.mp hw with rfl | hw
  · exact ⟨h, hG _ h⟩
  · exact ⟨hw, hG _ hw⟩
section EV4
variable {p : Program} {l : Launch} {e : Env} {R : Room} {s : State} {m : MethodId} {args : Array Value} {below : List Frame} {meth : Method} {c : Code} {Q : State → Prop}
variable {D : va_G} {cl : List vw_C} {dA : Nat → ClassId} {kt : List FieldType} {A : Nat → Prop} {ws0 : va_W} {Gs : List Cond} {own : String} {cc : ByteArray} {nL : Nat} {cd : ev_Cd}
variable {ix nc ns : Nat} {L : List (Nat × (Nat × Nat × Nat))} {S : List (Nat × Nat × Nat)} {w : List ev_C}
variable {H H0 : Heap} {locs : List Loc} {pc cells slots mc ms : Nat} {ls : Array Slot} {rest st0 : List Value} {a : Array Value} {A0 A1 : Nat → Prop} {free : Addr → Prop}
theorem ev_callq {wc : va_W} {r : Option (Nat × Nat × Nat)} {w1 : List ev_C} (hr : va_Run p l e R s m args below meth c H locs cells slots mc ms (F0 m pc ls st0) rest (ev_Q D cl dA kt wc A1 r w1 a) free) (hS : va_S A0 H0 H locs) (hA : ∀ q, q < H.size → A1 q → A0 q) (hf : ∀ q, free q → A0 q)
    (kk : ∀ (rv : Option Value) (u : va_W) (t : State) (H1 : Heap) (locs1 : List Loc), ev_rr (u.map Prod.fst) r rv → ev_E wc w1 u → ev_wr dA w1 u → va_P D cl u H1 → va_D A1 u → H.size ≤ H1.size → va_S A0 H0 H1 locs1 → W p l e R s m args below meth c H1 locs1 (cells + mc) (slots + ms) Q (F0 m (pc + 3) ls (rv.toList ++ rest))) : W p l e R s m args below meth c H locs cells slots Q (F0 m pc ls st0) := by
  intro T hT X
  obtain ⟨v, st₀, t, T', L, h0, X', hL, e1, e2, ⟨⟨rv, u, hv, b1, b2, b3, b4, b5, b6⟩, hz, hk⟩, st⟩ := hr T hT X
  cases hv
  rw [h0] at hz hk
  obtain ⟨t2, a1, c1⟩ := kk v u t T'.heap (locs ++ L) b1 b2 b3 (by rw [e1]; exact b4) b6 (by rw [e1]; exact hz)
    ⟨Nat.le_trans hS.1 (by rw [e1]; exact hz), fun q g1 g2 => by rw [e1, hk q (Nat.lt_of_lt_of_le g1 hS.1) (fun z => g2 (hA q (Nat.lt_of_lt_of_le g1 hS.1) z))]; exact hS.2.1 q g1 g2, fun q hq => by
      rcases List.mem_append.mp hq with h | h
      · exact hS.2.2 q h
      · exact hf _ (hL q h)⟩ T' rfl X'
  exact ⟨t2, st t2 a1, c1⟩
theorem ev_free {ws : va_W} (h7 : va_D A ws) (h8 : va_S A s.heap H locs) (hA : ∀ q, s.heap.size ≤ q → A q) : ∀ q, va_A ws H.size q → A q := fun q h => by
  rcases h with ⟨k, E, hk⟩ | h
  · exact h7.2 k _ hk
  · exact hA q (Nat.le_trans h8.1 h)
/-- the tables are there for a callee, too -/
theorem ev_tbc (X : ev_X p s m args c D cl dA kt A Gs own cc nL) {U : State} {B : Nat → Prop} (h8 : va_S A s.heap H locs) (hvm : s.vm.Alike U.vm) (hB : ∀ q, B q → A q) : ev_Tb B U H := ((X.2.2.2.kept h8.2.1).moved hvm).narrow hB
/-- what is behind a call: the caller's own goes on over the callee's cells -/
theorem ev_back {ws u : va_W} {rv : Option Value} {r : Option (Nat × Nat × Nat)} {w1 : List ev_C} {rs : List Value} {lv : List (Nat × Value)} {H1 : Heap} {locs1 : List Loc} (k : ev_G p l e R s m args below meth c Q D cl dA A ws0 nL cd (ix, L, r.toList ++ S, w1, nc, ns)) {pc : Nat} (hn : ev_pc cd ix = pc) (h1 : lv_has ls nL lv) (h2 : ev_lr (ws.map Prod.fst) L lv) (h3 : ev_sr (ws.map Prod.fst) S rs) (h5 : ev_E ws0 w ws) (hfz : ev_fz w w1 = true) (hf : ∀ q, va_A ws H.size q → A q)
    (b1 : ev_rr (u.map Prod.fst) r rv) (b2 : ev_E ws w1 u) (b3 : ev_wr dA w1 u) (b4 : va_P D cl u H1) (b6 : va_D (va_A ws H.size) u) (b8 : va_S A s.heap H1 locs1) :
    W p l e R s m args below meth c H1 locs1 nc ns Q (F0 m pc ls (rv.toList ++ rs)) := by
  refine ev_go k hn h1 (h2.mono b2.1) ?_ b3 (h5.tr b2 hfz) b4 (b6.weaken (fun _ _ _ h => hf _ h)) b8
  cases r with
  | none =>
    cases rv with
    | none => exact h3.mono b2.1
    | some x => exact b1.elim
  | some v =>
    cases rv with
    | none => exact b1.elim
    | some x => exact ⟨b1, h3.mono b2.1⟩
theorem ev_s_invI (X : ev_X p s m args c D cl dA kt A Gs own cc nL) (hG : ∀ w ∈ Gs, (w.onTables && w.keeps) = true ∨ ∃ ty, w = .arrayClass ty) {y : MethodName} {bytes : ByteArray} {maxL idx n d o z9 mc ms : Nat} {S1 S2 : List (Nat × Nat × Nat)} {w1 : List ev_C} (hM : ev_Met l D cl dA kt Gs y bytes maxL none d ((2, o, z9) :: S1.reverse) w (none, w1, mc, ms)) (hfz : ev_fz w w1 = true) (hS1 : S1.length = n) (hcode : Cond.code y bytes maxL none ∈ Gs) (hini : Cond.initialized y.cls ∈ Gs) (hlk : Cond.methodLink own idx y ∈ Gs) (hins : Cond.instanceMethod y ∈ Gs) (hy1 : y.name = "<init>")
    (hy : y.cls ≠ "java/lang/invoke/MethodHandle" ∧ y.cls ≠ "java/lang/invoke/VarHandle" ∧ (parseMethodDescriptor y.desc).map (fun d => d.parameters.length) = some n) (hR : d + 1 ≤ R.frames ∧ 8 + (maxL + 11) + 90 * d ≤ R.locals) (hcs : ev_cs S2 ≤ 8) (hf : nc + mc ≤ R.cells ∧ ns + ms ≤ R.slots) (hd : decode cc (ev_pc cd ix) = .ok (.invokespecial idx, 3)) (hn : ev_pc cd (ix + 1) = ev_pc cd ix + 3)
    (k : ev_G p l e R s m args below meth c Q D cl dA A ws0 nL cd (ix + 1, L, S2, w1, nc + mc, ns + ms)) : ev_G p l e R s m args below meth c Q D cl dA A ws0 nL cd (ix, L, S1 ++ (2, o, z9) :: S2, w, nc, ns) := by
  intro H locs ls vs lv ws h1 h2 h3 h4 h5 h6 h7 h8
  obtain ⟨ys, zs, rfl, hl, g1, g2⟩ := ev_sr.split n h3 (by simp; omega)
  rw [List.take_left' hS1] at g1
  rw [List.drop_left' hS1] at g2
  have g2q := g2.cons
  clear g2
  obtain ⟨x, rs, rfl, hx, g2⟩ := g2q
  obtain ⟨b, hb, rfl⟩ := hx.ref rfl
  have hfr := ev_free h7 h8 X.2.2.1
  refine ev_callq (va_runI (As := ys.reverse) (rest := rs) X.1 (hM (.ref b :: ys.reverse) ws H.size ⟨hx, g1.rev⟩ h4) (cwI n X.1.2.2.2.2 (ev_goodIn hG hcode) rfl rfl rfl (X.1.2.2.2.2 _ hini) (X.1.2.2.2.2 _ hlk) (X.1.2.2.2.2 _ hins) hy1 hy hR) ⟨ev_P_blind, fun U hU hW => ⟨rfl, by rw [hU], by rw [hU]; exact h6, ev_K.moved hW.alike X.2.1, h7.weaken (fun _ _ _ _ => trivial), by rw [hU]; exact ev_tbc X h8 hW.alike hfr⟩⟩ rfl (by rw [List.length_reverse]; exact hl) h1.1 (by rw [List.reverse_reverse]) (lv_room (by rw [g2.cs]; exact hcs)) hd hf) h8 (fun q _ h => hfr q h) hfr (fun rv u t H1 locs1 b1 b2 b3 b4 b6 b7 b8 => ?_)
  exact ev_back (r := none) k hn h1 h2 g2 h5 hfz hfr b1 b2 b3 b4 b6 b8
theorem ev_s_invV (X : ev_X p s m args c D cl dA kt A Gs own cc nL) (hG : ∀ w ∈ Gs, (w.onTables && w.keeps) = true ∨ ∃ ty, w = .arrayClass ty) {y : MethodName} {bytes : ByteArray} {ret : Option FieldType} {maxL idx n d o z9 ci z mc ms : Nat} {q : vw_C} {fs : List (Nat × Nat × Nat)} {S1 S2 : List (Nat × Nat × Nat)} {w1 : List ev_C} {r : Option (Nat × Nat × Nat)} (hM : ev_Met l D cl dA kt Gs y bytes maxL ret d ((2, o, z9) :: S1.reverse) w (r, w1, mc, ms)) (hfz : ev_fz w w1 = true) (hS1 : S1.length = n) (hw : w[o]? = some (0, ci, z, fs)) (hc : cl[ci]? = some q) (hq : q.1 = y.cls) (hcode : Cond.code y bytes maxL ret ∈ Gs) (hini : Cond.initialized y.cls ∈ Gs) (hlk : Cond.methodLink own idx y ∈ Gs) (hins : Cond.instanceMethod y ∈ Gs) (hsel : Cond.selects y.cls y y ∈ Gs)
    (hy : y.cls ≠ "java/lang/invoke/MethodHandle" ∧ y.cls ≠ "java/lang/invoke/VarHandle" ∧ (parseMethodDescriptor y.desc).map (fun d => d.parameters.length) = some n) (hR : d + 1 ≤ R.frames ∧ 8 + (maxL + 11) + 90 * d ≤ R.locals) (hcs : ev_cs S2 ≤ 8) (hf : nc + mc ≤ R.cells ∧ ns + ms ≤ R.slots) (hd : decode cc (ev_pc cd ix) = .ok (.invokevirtual idx, 3)) (hn : ev_pc cd (ix + 1) = ev_pc cd ix + 3)
    (k : ev_G p l e R s m args below meth c Q D cl dA A ws0 nL cd (ix + 1, L, r.toList ++ S2, w1, nc + mc, ns + ms)) : ev_G p l e R s m args below meth c Q D cl dA A ws0 nL cd (ix, L, S1 ++ (2, o, z9) :: S2, w, nc, ns) := by
  intro H locs ls vs lv ws h1 h2 h3 h4 h5 h6 h7 h8
  obtain ⟨ys, zs, rfl, hl, g1, g2⟩ := ev_sr.split n h3 (by simp; omega)
  rw [List.take_left' hS1] at g1
  rw [List.drop_left' hS1] at g2
  have g2q := g2.cons
  clear g2
  obtain ⟨x, rs, rfl, hx, g2⟩ := g2q
  obtain ⟨b, hb, rfl⟩ := hx.ref rfl
  have hfr := ev_free h7 h8 X.2.2.1
  obtain ⟨E, hE, hr⟩ := h4.at hw hb
  rcases hr with ⟨-, gs, rfl, -⟩ | ⟨hr, -⟩ | ⟨hr, -⟩ | ⟨hr, -⟩ | hr
  · have hrec := va_recv X.2.1.1 h6 hc hE
    rw [hq] at hrec
    refine ev_callq (va_runV (As := ys.reverse) (rest := rs) X.1 (hM (.ref b :: ys.reverse) ws H.size ⟨hx, g1.rev⟩ h4) ⟨callB_of n X.1.2.2.2.2 (ev_goodIn hG hcode) rfl rfl rfl (X.1.2.2.2.2 _ hini) (X.1.2.2.2.2 _ hlk) hy hR, X.1.2.2.2.2 _ hins, X.1.2.2.2.2 _ hsel⟩ ⟨ev_P_blind, hrec, fun U hU hW => ⟨rfl, by rw [hU], by rw [hU]; exact h6, ev_K.moved hW.alike X.2.1, h7.weaken (fun _ _ _ _ => trivial), by rw [hU]; exact ev_tbc X h8 hW.alike hfr⟩⟩ rfl (by rw [List.length_reverse]; exact hl) h1.1 (by rw [List.reverse_reverse]) (lv_room (by rw [g2.cs]; exact hcs)) hd hf) h8 (fun q _ h => hfr q h) hfr (fun rv u t H1 locs1 b1 b2 b3 b4 b6 b7 b8 => ?_)
    exact ev_back k hn h1 h2 g2 h5 hfz hfr b1 b2 b3 b4 b6 b8
  all_goals exact absurd hr (by simp)
theorem ev_s_invS (X : ev_X p s m args c D cl dA kt A Gs own cc nL) (hG : ∀ w ∈ Gs, (w.onTables && w.keeps) = true ∨ ∃ ty, w = .arrayClass ty) {y : MethodName} {bytes : ByteArray} {ret : Option FieldType} {maxL idx n d mc ms : Nat} {S1 S2 : List (Nat × Nat × Nat)} {w1 : List ev_C} {r : Option (Nat × Nat × Nat)} (hM : ev_Met l D cl dA kt Gs y bytes maxL ret d S1.reverse w (r, w1, mc, ms)) (hfz : ev_fz w w1 = true) (hS1 : S1.length = n) (hcode : Cond.code y bytes maxL ret ∈ Gs) (hini : Cond.initialized y.cls ∈ Gs) (hlk : Cond.methodLink own idx y ∈ Gs) (hst : Cond.static y ∈ Gs)
    (hy : y.cls ≠ "java/lang/invoke/MethodHandle" ∧ y.cls ≠ "java/lang/invoke/VarHandle" ∧ (parseMethodDescriptor y.desc).map (fun d => d.parameters.length) = some n) (hR : d + 1 ≤ R.frames ∧ 8 + (maxL + 11) + 90 * d ≤ R.locals) (hcs : ev_cs S2 ≤ 8) (hf : nc + mc ≤ R.cells ∧ ns + ms ≤ R.slots) (hd : decode cc (ev_pc cd ix) = .ok (.invokestatic idx, 3)) (hn : ev_pc cd (ix + 1) = ev_pc cd ix + 3)
    (k : ev_G p l e R s m args below meth c Q D cl dA A ws0 nL cd (ix + 1, L, r.toList ++ S2, w1, nc + mc, ns + ms)) : ev_G p l e R s m args below meth c Q D cl dA A ws0 nL cd (ix, L, S1 ++ S2, w, nc, ns) := by
  intro H locs ls vs lv ws h1 h2 h3 h4 h5 h6 h7 h8
  obtain ⟨ys, rs, rfl, hl, g1, g2⟩ := ev_sr.split n h3 (by simp; omega)
  rw [List.take_left' hS1] at g1
  rw [List.drop_left' hS1] at g2
  have hfr := ev_free h7 h8 X.2.2.1
  refine ev_callq (va_runS (As := ys.reverse) (rest := rs) X.1 (hM ys.reverse ws H.size g1.rev h4) ⟨callB_of n X.1.2.2.2.2 (ev_goodIn hG hcode) rfl rfl rfl (X.1.2.2.2.2 _ hini) (X.1.2.2.2.2 _ hlk) hy hR, X.1.2.2.2.2 _ hst⟩ ⟨ev_P_blind, fun U hU hW => ⟨rfl, by rw [hU], by rw [hU]; exact h6, ev_K.moved hW.alike X.2.1, h7.weaken (fun _ _ _ _ => trivial), by rw [hU]; exact ev_tbc X h8 hW.alike hfr⟩⟩ rfl (by rw [List.length_reverse]; exact hl) h1.1 (by rw [List.reverse_reverse]) (lv_room (by rw [g2.cs]; exact hcs)) hd hf) h8 (fun q _ h => hfr q h) hfr (fun rv u t H1 locs1 b1 b2 b3 b4 b6 b7 b8 => ?_)
  exact ev_back k hn h1 h2 g2 h5 hfz hfr b1 b2 b3 b4 b6 b8
theorem ev_s_obj (X : ev_X p s m args c D cl dA kt A Gs own cc nL) {idx : Nat} {o z9 : Nat} (hlk : Cond.methodLink own idx objectInit ∈ Gs) (hins : Cond.instanceMethod objectInit ∈ Gs) (hcode : Cond.code objectInit ⟨#[0xb1]⟩ 1 none ∈ Gs) (hR : 1 ≤ R.frames) (hR2 : 20 ≤ R.locals) (hcs : ev_cs S ≤ 8) (hd : decode cc (ev_pc cd ix) = .ok (.invokespecial idx, 3)) (hn : ev_pc cd (ix + 1) = ev_pc cd ix + 3)
    (k : ev_G p l e R s m args below meth c Q D cl dA A ws0 nL cd (ix + 1, L, S, w, nc, ns)) : ev_G p l e R s m args below meth c Q D cl dA A ws0 nL cd (ix, L, (2, o, z9) :: S, w, nc, ns) := by
  intro H locs ls vs lv ws h1 h2 h3 h4 h5 h6 h7 h8
  have h3q := h3.cons
  clear h3
  obtain ⟨x, rs, rfl, hx, h3⟩ := h3q
  obtain ⟨b, hb, rfl⟩ := hx.ref rfl
  have hcs' := h3.cs
  refine W.objInit X.1.1 X.1.2.1 X.1.2.2.2.1 (X.1.2.2.2.2 _ hlk) (X.1.2.2.2.2 _ hins) (X.1.2.2.2.2 _ hcode) rfl (by rw [X.1.2.2.1]; exact h1.1) rfl hd hR (by show 2 * 0 + _ + 12 ≤ _; omega) ?_
  exact W.eq (g2 := F0 m (ev_pc cd ix + 3) ls rs) rfl (ev_go k hn h1 h2 h3 h4 h5 h6 h7 h8)
theorem ev_s_vret (X : ev_X p s m args c D cl dA kt A Gs own cc nL) {mc ms : Nat} (hr : meth.sig.returnType = none) (hlocks : meth.locks = false) (hd : decode cc (ev_pc cd ix) = .ok (.return_, 1)) (hnc : nc ≤ mc) (hns : ns ≤ ms) : ev_G p l e R s m args below meth c (MQ below (ev_Q D cl dA kt ws0 A none w) args s mc ms A) D cl dA A ws0 nL cd (ix, L, [], w, nc, ns) := by
  intro H locs ls vs lv ws h1 h2 h3 h4 h5 h6 h7 h8
  obtain rfl := h3.nil
  exact W.widen hnc hns (W.vret X.1.1 X.1.2.1 hr (fun t ht hW => ⟨⟨none, ws, rfl, trivial, h5, h4, by rw [ht]; exact h6, ev_K.moved hW.alike X.2.1, h7⟩, h8.F ht⟩) h8.2.2 hd hlocks)
theorem ev_s_iret (X : ev_X p s m args c D cl dA kt A Gs own cc nL) {mc ms : Nat} {ty : FieldType} {v : ev_V} (hr : meth.sig.returnType = some ty) (hv : v.1 = 0) (hfit : ev_fit ty v = true) (hlocks : meth.locks = false) (hd : decode cc (ev_pc cd ix) = .ok (.ireturn, 1)) (hnc : nc ≤ mc) (hns : ns ≤ ms) : ev_G p l e R s m args below meth c (MQ below (ev_Q D cl dA kt ws0 A (some v) w) args s mc ms A) D cl dA A ws0 nL cd (ix, L, [v], w, nc, ns) := by
  intro H locs ls vs lv ws h1 h2 h3 h4 h5 h6 h7 h8
  have h3q := h3.cons
  clear h3
  obtain ⟨x, rs, rfl, hx, h3⟩ := h3q
  obtain rfl := h3.nil
  obtain ⟨i, rfl, hi⟩ := hx.int hv
  exact W.widen hnc hns (W.zret X.1.1 X.1.2.1 hr (ev_fit_ok hfit hx).1 (fun t ht hW => ⟨⟨some (.int i), ws, rfl, hx, h5, h4, by rw [ht]; exact h6, ev_K.moved hW.alike X.2.1, h7⟩, h8.F ht⟩) h8.2.2 hd hlocks)
end EV4
