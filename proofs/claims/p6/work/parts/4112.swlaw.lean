/-! Rows for the law's own walk, over the second machine's world -/
theorem sw_iv_ok {q : sx_C} {id : Nat} (h : sw_iv q id = true) {r0 : List Int} {kd : List (Nat × Nat)} {ad : List Nat} {hh hu : sx_H} {rv : Option Value} (hr : sx_res sz_Y r0 kd ad hu q.2.2.2.2.2.2.2.2.2 rv) (hf : sx_fr q.2.2.2.2.2.2.2.2.1 hh hu) (hp : sz_pr id [] hh) : sz_pr id [] hu := by
  unfold sw_iv at h
  rw [Bool.or_eq_true] at h
  rcases h with h | h
  · obtain ⟨o, ho, x1, c1, c2, c3, c4⟩ := hr
    have h1 := List.all_eq_true.mp h o ho
    exact c4.2 (id, []) (List.contains_iff_mem.mp h1)
  · refine sz_Y.ok id [] hh hu (fun k i f hin => hf k i f ?_) hp
    exact sx_kp_ok h hin
def sw_Wd (D : va_G) (dA : Nat → ClassId) (ad : List Nat) (A : Nat → Prop) (s : State) (ws : va_W) (hh : sx_H) (H : Heap) (locs : List Loc) : Prop := sx_wr sz_T sw_kd ad dA ws hh ∧ va_P D ct_cl ws H ∧ va_D A ws ∧ va_S A s.heap H locs
section SWL
variable {p : Program} {l : Launch} {e : Env} {R : Room} {s : State} {m : MethodId} {args : Array Value} {below : List Frame} {meth : Method} {c : Code} {Q : State → Prop}
variable {D : va_G} {cl : List vw_C} {dA : Nat → ClassId} {kt : List FieldType} {A A0 A1 : Nat → Prop} {own : String} {cc : ByteArray} {nL : Nat}
variable {T : List sx_K} {kd : List (Nat × Nat)} {ad : List Nat} {Mc : List (Nat × Nat)} {tt : List (String × String × String × Nat)} {Y : sx_Y} {r0 : List Int} {outs : List sx_Ou}
variable {H H0 : Heap} {locs : List Loc} {ls : Array Slot} {ws : va_W} {hh : sx_H} {cells slots pc : Nat} {st0 rest : List Value} {a : Array Value} {free : Addr → Prop}
theorem sw_callq {wc : sx_H} (hr : va_Run p l e R s m args below meth c H locs cells slots 0 0 (F0 m pc ls st0) rest (sx_Q D cl dA kt T Y kd ad Mc wc A1 r0 outs a) free) (hS : va_S A0 H0 H locs) (hA : ∀ q, q < H.size → A1 q → A0 q) (hf : ∀ q, free q → A0 q)
    (kk : ∀ (rv : Option Value) (u : va_W) (hu : sx_H) (H1 : Heap) (locs1 : List Loc), sx_res Y r0 kd ad hu outs rv → sx_fr Mc wc hu → sx_wr T kd ad dA u hu → va_P D cl u H1 → va_D A1 u → va_S A0 H0 H1 locs1 → W p l e R s m args below meth c H1 locs1 cells slots Q (F0 m (pc + 3) ls (rv.toList ++ rest))) : W p l e R s m args below meth c H locs cells slots Q (F0 m pc ls st0) := by
  intro T hT X
  obtain ⟨v, st₀, t, T', L, h0, X', hL, e1, e2, ⟨⟨rv, u, hu, hv, b1, b2, b3, b4, b5, b6⟩, hz, hk⟩, st⟩ := hr T hT X
  cases hv
  rw [h0] at hz hk
  obtain ⟨t2, a1, c1⟩ := kk v u hu T'.heap (locs ++ L) b1 b2 b3 (by rw [e1]; exact b4) b6
    ⟨Nat.le_trans hS.1 (by rw [e1]; exact hz), fun q g1 g2 => by rw [e1, hk q (Nat.lt_of_lt_of_le g1 hS.1) (fun z => g2 (hA q (Nat.lt_of_lt_of_le g1 hS.1) z))]; exact hS.2.1 q g1 g2, fun q hq => by
      rcases List.mem_append.mp hq with h | h
      · exact hS.2.2 q h
      · exact hf _ (hL q h)⟩ T' rfl X'
  exact ⟨t2, st t2 a1, c1⟩
/-- a method of an object is called, by a contract of the second machine -/
theorem sw_V (X : sx_X p s m args c D ct_cl dA ct_kt sz_T sy_tb sw_kd ad A sy_gs own cc nL) {q : sx_C} {y : MethodName} {bytes : ByteArray} {ret : Option FieldType} {maxL idx n : Nat} (hM : sx_Met l D ct_cl dA ct_kt sz_T sy_tb sz_Y sy_gs y bytes maxL ret q) (hcode : Cond.code y bytes maxL ret ∈ sy_gs) (hini : Cond.initialized y.cls ∈ sy_gs) (hlk : (Cond.methodLink own idx y).before args s = true) (hins : Cond.instanceMethod y ∈ sy_gs) (hsel : Cond.selects y.cls y y ∈ sy_gs)
    (hy : y.cls ≠ "java/lang/invoke/MethodHandle" ∧ y.cls ≠ "java/lang/invoke/VarHandle" ∧ (parseMethodDescriptor y.desc).map (fun d => d.parameters.length) = some n) (hR : q.2.1 + 1 ≤ R.frames ∧ 8 + (maxL + 11) + q.2.2.1 ≤ R.locals) {j9 c9 k9 ci z8 b : Nat} {ts : List sx_T} {qc : vw_C} (hkd : sw_kd[j9]? = some (k9, c9)) (had : ad[j9]? = some b) (hK : sz_T[k9]? = some (0, ci, z8, ts)) (hcl : ct_cl[ci]? = some qc) (hqc : qc.1 = y.cls) {ys rs : List Value} (a1 : sx_b q.2.2.2.2.1 r0) (a2 : sx_fs q.2.2.2.2.2.1 r0) (a3 : sx_sr r0 sw_kd ad q.2.2.2.2.2.2.1 (.ref b :: ys.reverse)) (a4 : sx_gr sz_Y r0 hh q.2.2.2.2.2.2.2.1) (hWd : sw_Wd D dA ad A s ws hh H locs) (hn : ys.length = n) (hls : ls.size = nL) (hcs : (rs.map fun v => v.category).sum ≤ 8) (hd : decode cc pc = .ok (.invokevirtual idx, 3)) (hf : cells ≤ R.cells ∧ slots ≤ R.slots)
    (kk : ∀ (rv : Option Value) (u : va_W) (hu : sx_H) (H1 : Heap) (locs1 : List Loc), sx_res sz_Y r0 sw_kd ad hu q.2.2.2.2.2.2.2.2.2 rv → sx_fr q.2.2.2.2.2.2.2.2.1 hh hu → sw_Wd D dA ad A s u hu H1 locs1 → W p l e R s m args below meth c H1 locs1 cells slots Q (F0 m (pc + 3) ls (rv.toList ++ rs))) : W p l e R s m args below meth c H locs cells slots Q (F0 m pc ls (ys ++ .ref b :: rs)) := by
  obtain ⟨h7, h9, h10, h11⟩ := hWd
  have X0 := X.1
  obtain ⟨E, hE, hr⟩ := h7.at hkd hK (by simp) had
  obtain ⟨fs, rfl, -, -⟩ := hr.obj rfl
  have hrec := va_recv X0.2.1.1 h9 hcl hE
  rw [hqc] at hrec
  have hfr := ev_free h10 h11 X0.2.2.1
  refine sw_callq (va_runV (As := ys.reverse) (rest := rs) X0.1 (hM sw_kd ad r0 (.ref b :: ys.reverse) ws hh H.size X.2.2 a1 a2 a3 a4 h7) ⟨callB_of n X0.1.2.2.2.2 (ev_goodIn sy_good hcode) rfl rfl rfl (X0.1.2.2.2.2 _ hini) hlk hy hR, X0.1.2.2.2.2 _ hins, X0.1.2.2.2.2 _ hsel⟩ ⟨sx_P_blind, hrec, fun U hU hW => ⟨rfl, by rw [hU], by rw [hU]; exact h9, ev_K.moved hW.alike X0.2.1, h10.weaken (fun _ _ _ _ => trivial), by rw [hU]; exact ev_tbc X0 h11 hW.alike hfr, by rw [hU]; exact sx_tbc X h11 hW.alike hfr⟩⟩ rfl (by rw [List.length_reverse]; exact hn) hls (by rw [List.reverse_reverse]) (lv_room hcs) hd ⟨hf.1, hf.2⟩) h11 (fun q _ h => hfr q h) hfr (fun rv u hu H1 locs1 b1 b2 b3 b4 b6 b8 => ?_)
  exact kk rv u hu H1 locs1 b1 b2 ⟨b3, b4, b6.weaken (fun _ _ _ h => hfr _ h), b8⟩
end SWL
