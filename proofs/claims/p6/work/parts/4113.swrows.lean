/-! Rows for the law's own walk: ints of the script, arguments, answers -/
theorem sw_i32 (i : Int32) : -2147483648 ≤ i.toInt ∧ i.toInt ≤ 2147483647 := by
  have h1 := ev_sx_eq i
  have h2 := ev_sx_lt i
  omega
theorem sw_bI : ∀ is : List Int32, sx_b (is.map (fun _ => ((-2147483648 : Int), (2147483647 : Int)))) (is.map Int32.toInt)
  | [] => trivial
  | i :: is => ⟨(sw_i32 i).1, (sw_i32 i).2, sw_bI is⟩
/-- the invariant gives what a contract asks -/
def sw_gI (G : sx_Gt) : Bool := G.1.isEmpty && G.2.all (fun q => q.2.isEmpty && sw_ids.contains q.1)
theorem sw_I.pr {hh : sx_H} (h : sw_I hh) {id : Nat} (hi : id ∈ sw_ids) : sz_pr id [] hh := by
  obtain ⟨h1, h2, h3, h4, h5, h6⟩ := h
  unfold sw_ids at hi
  simp only [List.mem_cons, List.not_mem_nil, or_false] at hi
  rcases hi with rfl | rfl | rfl | rfl | rfl | rfl
  · exact h1
  · exact h2
  · exact h3
  · exact h4
  · exact h5
  · exact h6
theorem sw_gI_ok {G : sx_Gt} (h : sw_gI G = true) {hh : sx_H} (hI : sw_I hh) {r0 : List Int} : sx_gr sz_Y r0 hh G := by
  unfold sw_gI at h
  rw [Bool.and_eq_true] at h
  refine ⟨fun g hg => ?_, fun q hq => ?_⟩
  · have := List.isEmpty_iff.mp h.1
    rw [this] at hg
    cases hg
  · have h1 := List.all_eq_true.mp h.2 q hq
    rw [Bool.and_eq_true] at h1
    have h2 := List.isEmpty_iff.mp h1.1
    rw [h2]
    exact hI.pr (List.contains_iff_mem.mp h1.2)
/-- the invariant holds behind a contract -/
def sw_iI (q : sx_C) : Bool := sw_ids.all (sw_iv q)
theorem sw_iI_ok {q : sx_C} (h : sw_iI q = true) {r0 : List Int} {kd : List (Nat × Nat)} {ad : List Nat} {hh hu : sx_H} {rv : Option Value} (hr : sx_res sz_Y r0 kd ad hu q.2.2.2.2.2.2.2.2.2 rv) (hf : sx_fr q.2.2.2.2.2.2.2.2.1 hh hu) (hI : sw_I hh) : sw_I hu := by
  have h1 : ∀ id ∈ sw_ids, sz_pr id [] hu := fun id hi => sw_iv_ok (List.all_eq_true.mp h id hi) hr hf (hI.pr hi)
  unfold sw_ids at h1
  exact ⟨h1 0 (by simp), h1 11 (by simp), h1 14 (by simp), h1 16 (by simp), h1 34 (by simp), h1 36 (by simp)⟩
/-- an answer that is an int -/
def sw_rI (q : sx_C) : Bool := q.2.2.2.2.2.2.2.2.2.all (fun o => match o.2.2.1 with
  | some v => decide (v.1 = 0)
  | none => false)
theorem sw_rI_ok {q : sx_C} (h : sw_rI q = true) {r0 : List Int} {kd : List (Nat × Nat)} {ad : List Nat} {hu : sx_H} {rv : Option Value} (hr : sx_res sz_Y r0 kd ad hu q.2.2.2.2.2.2.2.2.2 rv) : ∃ i : Int32, rv = some (.int i) := by
  obtain ⟨o, ho, x1, c1, c2, c3, c4⟩ := hr
  have h1 := List.all_eq_true.mp h o ho
  split at h1
  · next v hv =>
    rw [hv] at c3
    cases rv with
    | none => exact c3.elim
    | some x =>
      obtain ⟨i, e, -⟩ := sx_vr.int c3 (of_decide_eq_true h1)
      exact ⟨i, by rw [e]⟩
  · cases h1
def sw_rN (q : sx_C) : Bool := q.2.2.2.2.2.2.2.2.2.all (fun o => o.2.2.1.isNone)
theorem sw_rN_ok {q : sx_C} (h : sw_rN q = true) {r0 : List Int} {kd : List (Nat × Nat)} {ad : List Nat} {hu : sx_H} {rv : Option Value} (hr : sx_res sz_Y r0 kd ad hu q.2.2.2.2.2.2.2.2.2 rv) : rv = none := by
  obtain ⟨o, ho, x1, c1, c2, c3, c4⟩ := hr
  have h1 := List.all_eq_true.mp h o ho
  cases hv : o.2.2.1 with
  | some v => rw [hv] at h1; cases h1
  | none =>
    rw [hv] at c3
    cases rv with
    | none => rfl
    | some x => exact c3.elim
section SWR
variable {p : Program} {l : Launch} {e : Env} {R : Room} {s : State} {m : MethodId} {args : Array Value} {below : List Frame} {meth : Method} {c : Code} {Q : State → Prop}
variable {A : Nat → Prop} {cc : ByteArray} {nL : Nat} {H : Heap} {locs : List Loc} {ls : Array Slot} {nc ns pc : Nat}
/-- an int of the script comes: five instructions -/
theorem sw_scr (hexec : p.tables.exec = Jvm.exec) (hcc : c.code = cc) {b L i j : Nat} {xs : Nat → Int32} {lv : List (Nat × Value)} {k0 k4 : Nat} {vs : List Value} (hX : va_X b L xs s s.heap) (hbl : b < s.heap.size) (hbA : ¬ A b) (hS : va_S A s.heap H locs) (hl : lv_has ls nL lv) (h0 : lv[k0]? = some (0, .ref b)) (h4 : lv[k4]? = some (4, .int (nI i))) (hj : i + j < L) (hL : L < 2147483648) (hd1 : decode cc pc = .ok (.aload_n 0, 1)) (hd2 : decode cc (pc + 1) = .ok (.iload 4, 2)) (hd3 : decode cc (pc + 3) = .ok (.iconst (j : Int), 1)) (hd4 : decode cc (pc + 4) = .ok (.iadd, 1)) (hd5 : decode cc (pc + 5) = .ok (.iaload, 1))
    (kk : W p l e R s m args below meth c H locs nc ns Q (F0 m (pc + 6) ls (.int (xs (i + j)) :: vs))) : W p l e R s m args below meth c H locs nc ns Q (F0 m pc ls vs) := by
  refine lv_aload_n hexec hcc hd1 rfl (lv_at hl k0 h0) ?_
  refine lv_iload hexec hcc hd2 (lv_at hl k4 h4) ?_
  refine lv_iconst (v := nI j) hexec hcc hd3 rfl ?_
  refine lv_iadd hexec hcc hd4 ?_
  have e : nI i + nI j = nI (i + j) := by
    apply Int32.toInt_inj.mp
    rw [Int32.toInt_add, nI_toInt (by omega), nI_toInt (by omega), nI_toInt (by omega)]
    have h9 : ((i : Int) + (j : Int)).bmod (2 ^ 32) = (i : Int) + (j : Int) := ev_bm (by omega) (by omega)
    rw [h9]
    omega
  rw [e]
  refine va_sld hexec hcc hX hbl hbA hS (vp_in_nI hj hL) hd5 ?_
  rw [nI_clamp (by omega)]
  exact kk
end SWR
