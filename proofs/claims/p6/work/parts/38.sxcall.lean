/-! The second machine's contracts and calls -/
abbrev sx_Ou : Type := List (Int × Int) × List (List Int) × Option (Nat × Nat × List Int) × sx_Gt
/-- a contract: method, depth, room for locals, room that it costs its caller; the numbers' bounds, sums not below 0, arguments, known fields, what may change, what comes -/
abbrev sx_C : Type := Nat × Nat × Nat × Nat × List (Int × Int) × List (List Int) × List (Nat × Nat × List Int) × sx_Gt × List (Nat × Nat) × List (List (Int × Int) × List (List Int) × Option (Nat × Nat × List Int) × sx_Gt)
def sx_rr (r : List Int) (kd : List (Nat × Nat)) (ad : List Nat) (o : Option sx_V) (rv : Option Value) : Prop := match o, rv with
  | none, none => True
  | some v, some x => sx_vr r kd ad v x
  | _, _ => False
/-- one of the ways out -/
def sx_res (Y : sx_Y) (r0 : List Int) (kd : List (Nat × Nat)) (ad : List Nat) (hu : sx_H) (outs : List sx_Ou) (rv : Option Value) : Prop := ∃ o ∈ outs, ∃ x1 : List Int, sx_b o.1 x1 ∧ sx_fs o.2.1 (r0 ++ x1) ∧ sx_rr (r0 ++ x1) kd ad o.2.2.1 rv ∧ sx_gr Y (r0 ++ x1) hu o.2.2.2
def sx_Q (D : va_G) (cl : List vw_C) (dA : Nat → ClassId) (kt : List FieldType) (T : List sx_K) (Y : sx_Y) (kd : List (Nat × Nat)) (ad : List Nat) (Md : List (Nat × Nat)) (hh0 : sx_H) (A : Nat → Prop) (r0 : List Int) (outs : List sx_Ou) : Array Value → State → Outcome → State → Prop := fun _ st oc t =>
  (∃ (rv : Option Value) (u : va_W) (hu : sx_H), oc = .returned rv ∧ sx_res Y r0 kd ad hu outs rv ∧ sx_fr Md hh0 hu ∧ sx_wr T kd ad dA u hu ∧ va_P D cl u t.heap ∧ ev_K D cl dA kt t ∧ va_D A u) ∧ va_F A st t
def sx_P (D : va_G) (cl : List vw_C) (dA : Nat → ClassId) (kt : List FieldType) (T : List sx_K) (tt : List (String × String × String × Nat)) (kd : List (Nat × Nat)) (ad : List Nat) (av : List Value) (ws : va_W) (sz : Nat) : Array Value → State → Prop := va_Pc av (fun U => U.heap.size = sz ∧ va_P D cl ws U.heap ∧ ev_K D cl dA kt U ∧ va_D (fun _ => True) ws ∧ ev_Tb (va_A ws sz) U U.heap ∧ sx_Tb T tt kd ad (va_A ws sz) U U.heap)
def sx_rm (d lc : Nat) : Room := { frames := d, cells := 0, slots := 0, locals := lc }
def sx_Met (l : Launch) (D : va_G) (cl : List vw_C) (dA : Nat → ClassId) (kt : List FieldType) (T : List sx_K) (tt : List (String × String × String × Nat)) (Y : sx_Y) (Gs : List Cond) (y : MethodName) (bytes : ByteArray) (maxL : Nat) (ret : Option FieldType) (q : sx_C) : Prop :=
  ∀ (kd : List (Nat × Nat)) (ad : List Nat) (r0 : List Int) (av : List Value) (ws : va_W) (hh : sx_H) (sz : Nat), sx_Sg kd → sx_b q.2.2.2.2.1 r0 → sx_fs q.2.2.2.2.2.1 r0 → sx_sr r0 kd ad q.2.2.2.2.2.2.1 av → sx_gr Y r0 hh q.2.2.2.2.2.2.2.1 → sx_wr T kd ad dA ws hh → Met l y (Cond.code y bytes maxL ret :: Gs) (sx_rm q.2.1 q.2.2.1) (sx_P D cl dA kt T tt kd ad av ws sz) (sx_Q D cl dA kt T Y kd ad q.2.2.2.2.2.2.2.2.1 hh (va_A ws sz) r0 q.2.2.2.2.2.2.2.2.2) 0 0 (va_A ws sz)
theorem sx_P_blind {D : va_G} {cl : List vw_C} {dA : Nat → ClassId} {kt : List FieldType} {T : List sx_K} {tt : List (String × String × String × Nat)} {kd : List (Nat × Nat)} {ad : List Nat} {av : List Value} {ws : va_W} {sz : Nat} : FrameBlind (sx_P D cl dA kt T tt kd ad av ws sz) := fun a U g mk q => by
  obtain ⟨q0, q1, qP, qK, qD, qT, qB⟩ := q
  exact ⟨q0, q1, qP, ev_K.moved (u := U) (U := U.calling g mk a) (Vm.Alike.refl U.vm) qK, qD, ev_Tb.moved (u := U) (U := U.calling g mk a) (Vm.Alike.refl U.vm) qT, sx_Tb.moved (u := U) (U := U.calling g mk a) (Vm.Alike.refl U.vm) qB⟩
/-- a value of the callee's is this one -/
def sx_m1 (ss : List (List Int)) (v u : sx_V) : Bool :=
  if v.1 = 0 ∨ v.1 = 4 then decide (u.1 = v.1) && sx_eq (sx_st v.2.2 ss) u.2.2
  else if v.1 = 1 then sx_l u
  else if v.1 = 2 then decide (u.1 = 2 ∧ u.2.1 = v.2.1) && sx_eq (sx_st v.2.2 ss) u.2.2
  else decide (v.1 = 3 ∧ u.1 = 3)
def sx_mt (ss : List (List Int)) : List sx_V → List sx_V → Bool
  | [], [] => true
  | v :: vs, u :: us => sx_m1 ss v u && sx_mt ss vs us
  | _, _ => false
section SXM
variable {r : List Int} {kd : List (Nat × Nat)} {ad : List Nat} {ss : List (List Int)}
theorem sx_m1_ok {v u : sx_V} {x : Value} (h : sx_m1 ss v u = true) (hx : sx_vr r kd ad u x) : sx_vr (ss.map (sx_ev · r)) kd ad v x := by
  unfold sx_m1 at h
  split at h
  · next hv =>
    rw [Bool.and_eq_true] at h
    have h1 := of_decide_eq_true h.1
    have h2 := sx_eq_ok r h.2
    rw [sx_st_ok] at h2
    rcases hv with hv | hv
    · obtain ⟨i, rfl, hi⟩ := hx.int (h1.trans hv)
      exact Or.inl ⟨hv, i, rfl, by rw [h2]; exact hi⟩
    · obtain ⟨i, rfl, hi⟩ := hx.longf (h1.trans hv)
      exact Or.inr (Or.inr (Or.inr (Or.inr (Or.inl ⟨hv, i, rfl, by rw [h2]; exact hi⟩))))
  · split at h
    · next hv =>
      obtain ⟨i, rfl⟩ := hx.long (by unfold sx_l at h; simpa using h)
      exact Or.inr (Or.inl ⟨hv, i, rfl⟩)
    · split at h
      · next hv =>
        rw [Bool.and_eq_true] at h
        have h0 := of_decide_eq_true h.1
        have q := hx.ref h0.1
        have h2 := sx_eq_ok r h.2
        rw [sx_st_ok] at h2
        rw [h0.2, ← h2] at q
        exact Or.inr (Or.inr (Or.inl ⟨hv, q⟩))
      · have h := of_decide_eq_true h
        exact Or.inr (Or.inr (Or.inr (Or.inl ⟨h.1, hx.null h.2⟩)))
theorem sx_mt_ok : ∀ {vs us : List sx_V} {xs : List Value}, sx_mt ss vs us = true → sx_sr r kd ad us xs → sx_sr (ss.map (sx_ev · r)) kd ad vs xs
  | [], [], xs, _, h => by obtain rfl := h.nil; trivial
  | v :: vs, u :: us, xs, hm, h => by
    obtain ⟨x, ys, rfl, h1, h2⟩ := h.cons
    simp only [sx_mt, Bool.and_eq_true] at hm
    exact ⟨sx_m1_ok hm.1 h1, sx_mt_ok hm.2 h2⟩
  | [], _ :: _, _, hm, _ => by simp [sx_mt] at hm
  | _ :: _, [], _, hm, _ => by simp [sx_mt] at hm
/-- a callee's value among the caller's numbers -/
def sx_sv (ss : List (List Int)) (v : sx_V) : sx_V := (v.1, v.2.1, sx_st v.2.2 ss)
theorem sx_sv_ok {v : sx_V} {x : Value} (h : sx_vr (ss.map (sx_ev · r)) kd ad v x) : sx_vr r kd ad (sx_sv ss v) x := by
  unfold sx_vr sx_sv
  simp only [sx_st_ok]
  exact h
def sx_sG (ss : List (List Int)) (G : sx_Gt) : sx_Gt := (G.1.map (fun g => (g.1, sx_st g.2.1 ss, sx_st g.2.2.1 ss, sx_st g.2.2.2 ss)), G.2.map (fun q => (q.1, q.2.map (sx_st · ss))))
theorem sx_sG_ok {Y : sx_Y} {G : sx_Gt} {hh : sx_H} (h : sx_gr Y (ss.map (sx_ev · r)) hh G) : sx_gr Y r hh (sx_sG ss G) := by
  constructor
  · intro g hg
    obtain ⟨q, hq, rfl⟩ := List.mem_map.mp hg
    show hh q.1 (sx_ev (sx_st q.2.1 ss) r) (sx_ev (sx_st q.2.2.1 ss) r) = sx_ev (sx_st q.2.2.2 ss) r
    rw [sx_st_ok, sx_st_ok, sx_st_ok]
    exact h.1 q hq
  · intro g hg
    obtain ⟨q, hq, rfl⟩ := List.mem_map.mp hg
    show Y.pr q.1 ((q.2.map (sx_st · ss)).map (sx_ev · r)) hh
    rw [List.map_map]
    have e : (List.map ((fun x => sx_ev x r) ∘ fun x => sx_st x ss) q.2) = q.2.map (sx_ev · (ss.map (sx_ev · r))) := List.map_congr_left (fun f _ => sx_st_ok r f ss)
    rw [e]
    exact h.2 q hq
/-- new numbers as forms -/
def sx_sys (n m : Nat) : List (List Int) := (List.range m).map (fun k => sx_sy (n + k))
theorem sx_sys_ok {n : Nat} (hn : n = r.length) (x1 : List Int) : (sx_sys n x1.length).map (sx_ev · (r ++ x1)) = x1 := by
  apply List.ext_getElem?
  intro k
  unfold sx_sys
  rw [List.map_map, List.getElem?_map]
  by_cases hk : k < x1.length
  · rw [List.getElem?_range hk, List.getElem?_eq_getElem hk]
    show some (sx_ev (sx_sy (n + k)) (r ++ x1)) = _
    rw [sx_ev_sy (v := x1[k])]
    rw [hn, List.getElem?_append_right (by omega), Nat.add_sub_cancel_left, List.getElem?_eq_getElem hk]
  · rw [List.getElem?_eq_none (by simpa using hk), List.getElem?_eq_none (by omega)]
    rfl
theorem sx_map_row {x1 : List Int} {n : Nat} (hn : n = r.length) (hw : sx_wF n ss = true) : ss.map (sx_ev · (r ++ x1)) = ss.map (sx_ev · r) := by
  apply List.map_congr_left
  intro f hf
  exact sx_ev_app (by rw [← hn]; exact of_decide_eq_true (List.all_eq_true.mp hw f hf))
end SXM
/-- what is behind a call, for one of the ways out -/
def sx_gj (G G' : sx_Gt) : sx_Gt := (G'.1 ++ G.1, G.2 ++ G'.2)
def sx_ret1 (Y : sx_Y) (st : sx_S) (S2 : List (Nat × Nat × List Int)) (ss : List (List Int)) (Mc : List (Nat × Nat)) (o : sx_Ou) : List sx_S :=
  sx_br (st.1 + 1) st.2.1 ((o.2.2.1.map (sx_sv (ss ++ sx_sys st.2.2.2.1.length o.1.length))).toList ++ S2) (st.2.2.2.1 ++ o.1) st.2.2.2.2.1 (sx_gj (sx_kept Y Mc st.2.2.2.2.2) (sx_sG (ss ++ sx_sys st.2.2.2.1.length o.1.length) o.2.2.2)) (o.2.1.map (sx_st · (ss ++ sx_sys st.2.2.2.1.length o.1.length)))
/-- a call by contract: the next hint has its number and its numbers as forms -/
def sx_cl (Y : sx_Y) (sm : List sx_C) (dd RL mi : Nat) (Md : List (Nat × Nat)) (st : sx_S) (as S2 : List (Nat × Nat × List Int)) (hs : List (List (List Int))) : Option (List sx_S × List (List (List Int))) := match hs with
  | ([ci] :: ss) :: hs1 => (match sm[ci.toNat]? with
    | some q => if q.1 = mi ∧ q.2.1 ≤ dd ∧ q.2.2.2.1 ≤ RL ∧ sx_cs S2 ≤ 8 ∧ (q.2.2.2.2.2.2.2.2.1.all (fun x => Md.contains x)) = true then (if sx_mt ss q.2.2.2.2.2.2.1 as = true ∧ sx_gm ss st.2.2.2.2.2 q.2.2.2.2.2.2.2.1 = true ∧ sx_wf st.2.2.2.1.length st.2.1 S2 st.2.2.2.2.1 st.2.2.2.2.2 = true ∧ sx_wF st.2.2.2.1.length ss = true then
          (match sx_posA st.2.2.2.1 st.2.2.2.2.1 (sx_bf q.2.2.2.2.1 ss ++ q.2.2.2.2.2.1.map (sx_st · ss)) hs1 with
          | some hs2 => some (q.2.2.2.2.2.2.2.2.2.flatMap (sx_ret1 Y st S2 ss q.2.2.2.2.2.2.2.2.1), hs2)
          | none => none) else none) else none
    | none => none)
  | _ => none
section SXQ
variable {p : Program} {l : Launch} {e : Env} {R : Room} {s : State} {m : MethodId} {args : Array Value} {below : List Frame} {meth : Method} {c : Code} {Q : State → Prop}
variable {D : va_G} {cl : List vw_C} {dA : Nat → ClassId} {kt : List FieldType} {A : Nat → Prop} {hh0 : sx_H} {Gs : List Cond} {own : String} {cc : ByteArray} {nL : Nat} {cd : ev_Cd}
variable {T : List sx_K} {kd : List (Nat × Nat)} {ad : List Nat} {Md : List (Nat × Nat)} {tt : List (String × String × String × Nat)} {Y : sx_Y} {r : List Int}
variable {ix : Nat} {L : List (Nat × (Nat × Nat × List Int))} {S S1 : List (Nat × Nat × List Int)} {B : List (Int × Int)} {F : List (List Int)} {G : sx_Gt} {hs hs' : List (List (List Int))} {out : List sx_S}
variable {H H0 : Heap} {locs : List Loc} {pc : Nat} {ls : Array Slot} {rest st0 : List Value} {a : Array Value} {A0 A1 : Nat → Prop} {free : Addr → Prop} {r0 : List Int} {outs : List sx_Ou} {Mc : List (Nat × Nat)}
theorem sx_callq {wc : sx_H} (hr : va_Run p l e R s m args below meth c H locs 0 0 0 0 (F0 m pc ls st0) rest (sx_Q D cl dA kt T Y kd ad Mc wc A1 r0 outs a) free) (hS : va_S A0 H0 H locs) (hA : ∀ q, q < H.size → A1 q → A0 q) (hf : ∀ q, free q → A0 q)
    (kk : ∀ (rv : Option Value) (u : va_W) (hu : sx_H) (t : State) (H1 : Heap) (locs1 : List Loc), sx_res Y r0 kd ad hu outs rv → sx_fr Mc wc hu → sx_wr T kd ad dA u hu → va_P D cl u H1 → va_D A1 u → H.size ≤ H1.size → va_S A0 H0 H1 locs1 → W p l e R s m args below meth c H1 locs1 (0 + 0) (0 + 0) Q (F0 m (pc + 3) ls (rv.toList ++ rest))) : W p l e R s m args below meth c H locs 0 0 Q (F0 m pc ls st0) := by
  intro T hT X
  obtain ⟨v, st₀, t, T', L, h0, X', hL, e1, e2, ⟨⟨rv, u, hu, hv, b1, b2, b3, b4, b5, b6⟩, hz, hk⟩, st⟩ := hr T hT X
  cases hv
  rw [h0] at hz hk
  obtain ⟨t2, a1, c1⟩ := kk v u hu t T'.heap (locs ++ L) b1 b2 b3 (by rw [e1]; exact b4) b6 (by rw [e1]; exact hz)
    ⟨Nat.le_trans hS.1 (by rw [e1]; exact hz), fun q g1 g2 => by rw [e1, hk q (Nat.lt_of_lt_of_le g1 hS.1) (fun z => g2 (hA q (Nat.lt_of_lt_of_le g1 hS.1) z))]; exact hS.2.1 q g1 g2, fun q hq => by
      rcases List.mem_append.mp hq with h | h
      · exact hS.2.2 q h
      · exact hf _ (hL q h)⟩ T' rfl X'
  exact ⟨t2, st t2 a1, c1⟩
/-- going on behind a call -/
theorem sx_back {S2 : List (Nat × Nat × List Int)} {ss : List (List Int)} (hw : sx_wf B.length L S2 F G = true) (hw2 : sx_wF B.length ss = true) (hM : ∀ x ∈ Mc, x ∈ Md) {vs : List Value} {lv : List (Nat × Value)} {u : va_W} {hh hu : sx_H} {rv : Option Value} (k : ∀ t ∈ outs.flatMap (sx_ret1 Y (ix, L, S, B, F, G) S2 ss Mc), ∀ x1, sx_g p l e R s m args below meth c Q D cl dA T Y kd ad A hh0 Md nL cd t (r ++ x1)) (b1 : sx_res Y (ss.map (sx_ev · r)) kd ad hu outs rv) (b2 : sx_fr Mc hh hu) (b3 : sx_wr T kd ad dA u hu) (hn : ev_pc cd (ix + 1) = pc) (h1 : sx_b B r) (h2 : sx_fs F r) (h3 : sx_gr Y r hh G) (h4 : lv_has ls nL lv) (h5 : sx_lr r kd ad L lv) (h6 : sx_sr r kd ad S2 vs) (h8 : sx_fr Md hh0 hh) (h9 : va_P D cl u H) (h10 : va_D A u) (h11 : va_S A s.heap H locs) : W p l e R s m args below meth c H locs 0 0 Q (F0 m pc ls (rv.toList ++ vs)) := by
  obtain ⟨o, ho, x1, c1, c2, c3, c4⟩ := b1
  have hl := sx_b_len h1
  unfold sx_wf at hw
  simp only [Bool.and_eq_true] at hw
  have hx : o.1.length = x1.length := sx_b_len c1
  have em : (ss ++ sx_sys B.length o.1.length).map (sx_ev · (r ++ x1)) = ss.map (sx_ev · r) ++ x1 := by
    rw [List.map_append, sx_map_row hl hw2, hx, sx_sys_ok hl]
  have kk : ∀ t ∈ sx_ret1 Y (ix, L, S, B, F, G) S2 ss Mc o, sx_g p l e R s m args below meth c Q D cl dA T Y kd ad A hh0 Md nL cd t (r ++ x1) := fun t ht => k t (List.mem_flatMap.mpr ⟨o, ho, ht⟩) x1
  unfold sx_ret1 at kk
  refine sx_br_ok kk ?_ hn (sx_b_app h1 c1) (h2.row hl hw.2.2.1) ?_ h4 (h5.row hl hw.1) ?_ b3 (h8.tr (b2.sub hM)) h9 h10 h11
  · intro f hf
    obtain ⟨f0, hf0, rfl⟩ := List.mem_map.mp hf
    show 0 ≤ sx_ev (sx_st f0 (ss ++ sx_sys B.length o.1.length)) (r ++ x1)
    rw [sx_st_ok, em]
    exact c2 f0 hf0
  · have k1 := sx_gr.kept (h3.row (x1 := x1) hl hw.2.2.2) b2
    have k2 := sx_sG_ok (ss := ss ++ sx_sys B.length o.1.length) (r := r ++ x1) (by rw [em]; exact c4)
    refine ⟨fun g hg => ?_, fun g hg => ?_⟩
    · rcases List.mem_append.mp hg with hg | hg
      · exact k2.1 g hg
      · exact k1.1 g hg
    · rcases List.mem_append.mp hg with hg | hg
      · exact k1.2 g hg
      · exact k2.2 g hg
  · have h6' := h6.row (x1 := x1) hl hw.2.1
    cases ho1 : o.2.2.1 with
    | none =>
      rw [ho1] at c3
      cases rv with
      | none => exact h6'
      | some x => exact c3.elim
    | some v =>
      rw [ho1] at c3
      cases rv with
      | none => exact c3.elim
      | some x => exact ⟨sx_sv_ok (by show sx_vr ((ss ++ sx_sys B.length o.1.length).map (sx_ev · (r ++ x1))) kd ad v x; rw [em]; exact c3), h6'⟩
/-- what a contract that was taken gives -/
theorem sx_cl_ok {sm : List sx_C} {dd RL mi : Nat} {as S2 : List (Nat × Nat × List Int)} (h : sx_cl Y sm dd RL mi Md (ix, L, S, B, F, G) as S2 hs = some (out, hs')) : ∃ q ∈ sm, q.1 = mi ∧ q.2.1 ≤ dd ∧ q.2.2.2.1 ≤ RL ∧ sx_cs S2 ≤ 8 ∧ (∀ x ∈ q.2.2.2.2.2.2.2.2.1, x ∈ Md) ∧ ∃ ss : List (List Int), sx_wf B.length L S2 F G = true ∧ sx_wF B.length ss = true ∧ out = q.2.2.2.2.2.2.2.2.2.flatMap (sx_ret1 Y (ix, L, S, B, F, G) S2 ss q.2.2.2.2.2.2.2.2.1) ∧ ∀ (hh : sx_H), sx_b B r → sx_fs F r → sx_gr Y r hh G → sx_b q.2.2.2.2.1 (ss.map (sx_ev · r)) ∧ sx_fs q.2.2.2.2.2.1 (ss.map (sx_ev · r)) ∧ sx_gr Y (ss.map (sx_ev · r)) hh q.2.2.2.2.2.2.2.1 ∧ ∀ xs, sx_sr r kd ad as xs → sx_sr (ss.map (sx_ev · r)) kd ad q.2.2.2.2.2.2.1 xs := by
  unfold sx_cl at h
  split at h
  · next ci ss hs1 =>
    split at h
    · next q hq =>
      split at h
      · next hc =>
        split at h
        · next hd =>
          split at h
          · next hs2 hp =>
            have ho := (Prod.mk.inj (Option.some.inj h)).1
            refine ⟨q, List.mem_of_getElem? hq, hc.1, hc.2.1, hc.2.2.1, hc.2.2.2.1, fun x hx => List.contains_iff_mem.mp (List.all_eq_true.mp hc.2.2.2.2 x hx), ss, hd.2.2.1, hd.2.2.2, ho.symm, fun hh h1 h2 h3 => ?_⟩
            have hP := sx_posA_ok h1 h2 _ _ _ hp
            exact ⟨sx_bf_ok (fun f hf => hP f (List.mem_append_left _ hf)), sx_fst_ok (fun f hf => hP f (List.mem_append_right _ hf)), sx_gm_ok hd.2.1 h3, fun xs hx => sx_mt_ok hd.1 hx⟩
          · cases h
        · cases h
      · cases h
    · cases h
  · cases h
end SXQ
/-- contracts of methods -/
def sx_SM (l : Launch) (D : va_G) (cl : List vw_C) (dA : Nat → ClassId) (kt : List FieldType) (T : List sx_K) (tt : List (String × String × String × Nat)) (Y : sx_Y) (Gs : List Cond) (Pg : List ev_Mt) (sm : List sx_C) : Prop := ∀ q ∈ sm, ∀ (y : MethodName) (bytes : ByteArray) (maxL : Nat) (rt : Option FieldType) (cdm : ev_Cd), Pg[q.1]? = some ((y, bytes, maxL, rt), cdm) → 19 + maxL + q.2.2.1 ≤ q.2.2.2.1 ∧ sx_Met l D cl dA kt T tt Y Gs y bytes maxL rt q
section SXR
variable {p : Program} {l : Launch} {e : Env} {R : Room} {s : State} {m : MethodId} {args : Array Value} {below : List Frame} {meth : Method} {c : Code} {Q : State → Prop}
variable {D : va_G} {cl : List vw_C} {dA : Nat → ClassId} {kt : List FieldType} {A : Nat → Prop} {hh0 : sx_H} {Gs : List Cond} {own : String} {cc : ByteArray} {nL : Nat} {cd : ev_Cd}
variable {T : List sx_K} {kd : List (Nat × Nat)} {ad : List Nat} {Md : List (Nat × Nat)} {tt : List (String × String × String × Nat)} {Y : sx_Y} {r : List Int}
variable {ix : Nat} {L : List (Nat × (Nat × Nat × List Int))} {S S1 : List (Nat × Nat × List Int)} {B : List (Int × Int)} {F : List (List Int)} {G : sx_Gt} {hs hs' : List (List (List Int))} {out : List sx_S}
variable {Gc : List (List Cond)} {Ct : List ev_Ct} {Pg : List ev_Mt} {sm0 : ev_Sm} {sm : List sx_C} {nm : String} {ret : Option FieldType} {i : ev_I} {st : sx_S} {dd RL : Nat}
theorem sx_tbc (X : sx_X p s m args c D cl dA kt T tt kd ad A Gs own cc nL) {H : Heap} {locs : List Loc} {U : State} {B : Nat → Prop} (h8 : va_S A s.heap H locs) (hvm : s.vm.Alike U.vm) (hB : ∀ q, B q → A q) : sx_Tb T tt kd ad B U H := ((X.2.1.kept h8.2.1).moved hvm).narrow hB
def sx_o56 (Y : sx_Y) (T : List sx_K) (Md : List (Nat × Nat)) (sm : List sx_C) (dd RL : Nat) (i : ev_I) (st : sx_S) (hs : List (List (List Int))) : Option (List sx_S × List (List (List Int))) := match st.2.2.1.drop i.2.2.2.1 with
  | (2, k9, z9) :: S2 => (match T[k9]? with
    | some (0, ci, _, _) => if (st.2.2.1.take i.2.2.2.1).length = i.2.2.2.1 ∧ ci = i.2.2.2.2.2.2 % 64 then sx_cl Y sm dd RL i.2.2.2.2.2.1 Md st ((2, k9, z9) :: (st.2.2.1.take i.2.2.2.1).reverse) S2 hs else none
    | _ => none)
  | _ => none
def sx_o57 (Y : sx_Y) (Md : List (Nat × Nat)) (sm : List sx_C) (dd RL : Nat) (i : ev_I) (st : sx_S) (hs : List (List (List Int))) : Option (List sx_S × List (List (List Int))) := if (st.2.2.1.take i.2.2.2.1).length = i.2.2.2.1 then sx_cl Y sm dd RL i.2.2.2.2.2.1 Md st (st.2.2.1.take i.2.2.2.1).reverse (st.2.2.1.drop i.2.2.2.1) hs else none
theorem sx_p56 (X : sx_X p s m args c D cl dA kt T tt kd ad A Gs own cc nL) (hGc : ∀ (h : Nat) (w : Cond), ev_hg Gc h = some w → w ∈ Gs) (hG : ∀ w ∈ Gs, (w.onTables && w.keeps) = true ∨ ∃ ty, w = .arrayClass ty) (hT : ev_okD Gs cl Ct Pg) (hsm : sx_SM l D cl dA kt T tt Y Gs Pg sm) (hRf : dd + 1 ≤ R.frames) (hRl : RL ≤ R.locals) (hok : ev_k56 Gc Ct kt Pg sm0 own nm cc nL ret cd st.1 i = true) (h : sx_o56 Y T Md sm dd RL i st hs = some (out, hs')) (k : ∀ t ∈ out, ∀ x1, sx_g p l e R s m args below meth c Q D cl dA T Y kd ad A hh0 Md nL cd t (r ++ x1)) : sx_g p l e R s m args below meth c Q D cl dA T Y kd ad A hh0 Md nL cd st r := by
  obtain ⟨ix, L, S, B, F, G⟩ := st
  have X0 := X.1
  unfold ev_k56 at hok
  simp only [Bool.and_eq_true, decide_eq_true_eq] at hok
  unfold sx_o56 at h
  split at h
  · next k9 z9 S2 hS =>
    have hS : S.drop i.2.2.2.1 = (2, k9, z9) :: S2 := hS
    split at h
    · next ci z8 ts hK =>
      split at h
      · next hx =>
        obtain ⟨hx1, rfl⟩ := hx
        obtain ⟨⟨hd, hn⟩, hq⟩ := hok
        obtain ⟨q, hqm, hmi, hqd, hqc, hcs, hMc, ss, hw1, hw2, rfl, hq0⟩ := sx_cl_ok (r := r) (kd := kd) (ad := ad) h
        split at hq
        · next y bytes maxL rt cdm hP =>
          simp only [Bool.and_eq_true, decide_eq_true_eq] at hq
          obtain ⟨⟨⟨⟨⟨⟨⟨q1, q2⟩, q3⟩, q4⟩, q5⟩, q6⟩, q7⟩, q8⟩ := hq
          cases hC : Ct[i.2.2.2.2.2.2 % 64]? with
          | none => rw [hC] at q6; cases q6
          | some qc =>
            rw [hC] at q6
            have q6 := of_decide_eq_true q6
            obtain ⟨hM1, hM⟩ := hsm q hqm _ _ _ _ _ (by rw [hmi]; exact hP)
            intro H locs ls vs lv ws hh h1 h2 h3 h4 h5 h6 h7 h8 h9 h10 h11
            have h6 : sx_sr r kd ad S vs := h6
            have hlen : i.2.2.2.1 ≤ S.length := by
              have := List.length_take (i := i.2.2.2.1) (l := S)
              have hx1 : (S.take i.2.2.2.1).length = i.2.2.2.1 := hx1
              omega
            obtain ⟨ys, zs, rfl, hl, w1, w2⟩ := sx_sr.split i.2.2.2.1 h6 hlen
            rw [hS] at w2
            have w2q := w2.cons
            clear w2
            obtain ⟨x, rs, rfl, hxr, w2⟩ := w2q
            obtain ⟨j9, c9, b, g1, gi, g2, rfl⟩ := hxr.ref rfl
            obtain ⟨E, hE, hr⟩ := h7.at g1 hK (by simp) g2
            obtain ⟨fs, rfl, -, -⟩ := hr.obj rfl
            have hrec := va_recv X0.2.1.1 h9 (hT.1 _ _ hC).2.1 hE
            rw [show (qc.1.1, qc.1.2.1, qc.1.2.2).1 = qc.1.1 from rfl, q6] at hrec
            have hfr := ev_free h10 h11 X0.2.2.1
            obtain ⟨a1, a2, a3, a4⟩ := hq0 hh h1 h2 h3
            refine sx_callq (va_runV (As := ys.reverse) (rest := rs) X0.1 (hM kd ad (ss.map (sx_ev · r)) (.ref b :: ys.reverse) ws hh H.size X.2.2 a1 a2 (a4 _ ⟨hxr, w1.rev⟩) a3 h7) ⟨callB_of i.2.2.2.1 X0.1.2.2.2.2 (ev_goodIn hG (hT.2 _ _ _ _ _ _ hP)) rfl rfl rfl (X0.1.2.2.2.2 _ (hGc _ _ q3)) (X0.1.2.2.2.2 _ (hGc _ _ q1)) q7 ⟨by show q.2.1 + 1 ≤ _; omega, by show 8 + (maxL + 11) + q.2.2.1 ≤ _; omega⟩, X0.1.2.2.2.2 _ (hGc _ _ q4), X0.1.2.2.2.2 _ (hGc _ _ q5)⟩ ⟨sx_P_blind, hrec, fun U hU hW => ⟨rfl, by rw [hU], by rw [hU]; exact h9, ev_K.moved hW.alike X0.2.1, h10.weaken (fun _ _ _ _ => trivial), by rw [hU]; exact ev_tbc X0 h11 hW.alike hfr, by rw [hU]; exact sx_tbc X h11 hW.alike hfr⟩⟩ rfl (by rw [List.length_reverse]; exact hl) h4.1 (by rw [List.reverse_reverse]) (lv_room (by rw [w2.cs]; exact hcs)) hd ⟨Nat.zero_le _, Nat.zero_le _⟩) h11 (fun q _ h => hfr q h) hfr (fun rv u hu t H1 locs1 b1 b2 b3 b4 b6 b7 b8 => ?_)
            exact sx_back hw1 hw2 hMc k b1 b2 b3 hn h1 h2 h3 h4 h5 w2 h8 b4 (b6.weaken (fun _ _ _ h => hfr _ h)) b8
        · cases hq
      · cases h
    · cases h
  · cases h
theorem sx_p57 (X : sx_X p s m args c D cl dA kt T tt kd ad A Gs own cc nL) (hGc : ∀ (h : Nat) (w : Cond), ev_hg Gc h = some w → w ∈ Gs) (hG : ∀ w ∈ Gs, (w.onTables && w.keeps) = true ∨ ∃ ty, w = .arrayClass ty) (hT : ev_okD Gs cl Ct Pg) (hsm : sx_SM l D cl dA kt T tt Y Gs Pg sm) (hRf : dd + 1 ≤ R.frames) (hRl : RL ≤ R.locals) (hok : ev_k57 Gc Ct kt Pg sm0 own nm cc nL ret cd st.1 i = true) (h : sx_o57 Y Md sm dd RL i st hs = some (out, hs')) (k : ∀ t ∈ out, ∀ x1, sx_g p l e R s m args below meth c Q D cl dA T Y kd ad A hh0 Md nL cd t (r ++ x1)) : sx_g p l e R s m args below meth c Q D cl dA T Y kd ad A hh0 Md nL cd st r := by
  obtain ⟨ix, L, S, B, F, G⟩ := st
  have X0 := X.1
  unfold ev_k57 at hok
  simp only [Bool.and_eq_true, decide_eq_true_eq] at hok
  unfold sx_o57 at h
  split at h
  · next hx1 =>
    obtain ⟨⟨hd, hn⟩, hq⟩ := hok
    obtain ⟨q, hqm, hmi, hqd, hqc, hcs, hMc, ss, hw1, hw2, rfl, hq0⟩ := sx_cl_ok (r := r) (kd := kd) (ad := ad) h
    split at hq
    · next y bytes maxL rt cdm hP =>
      simp only [Bool.and_eq_true, decide_eq_true_eq] at hq
      obtain ⟨⟨⟨⟨⟨q1, q2⟩, q3⟩, q4⟩, q7⟩, q8⟩ := hq
      obtain ⟨hM1, hM⟩ := hsm q hqm _ _ _ _ _ (by rw [hmi]; exact hP)
      intro H locs ls vs lv ws hh h1 h2 h3 h4 h5 h6 h7 h8 h9 h10 h11
      have h6 : sx_sr r kd ad S vs := h6
      have hlen : i.2.2.2.1 ≤ S.length := by
        have := List.length_take (i := i.2.2.2.1) (l := S)
        have hx1 : (S.take i.2.2.2.1).length = i.2.2.2.1 := hx1
        omega
      obtain ⟨ys, rs, rfl, hl, w1, w2⟩ := sx_sr.split i.2.2.2.1 h6 hlen
      have hfr := ev_free h10 h11 X0.2.2.1
      obtain ⟨a1, a2, a3, a4⟩ := hq0 hh h1 h2 h3
      refine sx_callq (va_runS (As := ys.reverse) (rest := rs) X0.1 (hM kd ad (ss.map (sx_ev · r)) ys.reverse ws hh H.size X.2.2 a1 a2 (a4 _ w1.rev) a3 h7) ⟨callB_of i.2.2.2.1 X0.1.2.2.2.2 (ev_goodIn hG (hT.2 _ _ _ _ _ _ hP)) rfl rfl rfl (X0.1.2.2.2.2 _ (hGc _ _ q3)) (X0.1.2.2.2.2 _ (hGc _ _ q1)) q7 ⟨by show q.2.1 + 1 ≤ _; omega, by show 8 + (maxL + 11) + q.2.2.1 ≤ _; omega⟩, X0.1.2.2.2.2 _ (hGc _ _ q4)⟩ ⟨sx_P_blind, fun U hU hW => ⟨rfl, by rw [hU], by rw [hU]; exact h9, ev_K.moved hW.alike X0.2.1, h10.weaken (fun _ _ _ _ => trivial), by rw [hU]; exact ev_tbc X0 h11 hW.alike hfr, by rw [hU]; exact sx_tbc X h11 hW.alike hfr⟩⟩ rfl (by rw [List.length_reverse]; exact hl) h4.1 (by rw [List.reverse_reverse]) (lv_room (by rw [w2.cs]; exact hcs)) hd ⟨Nat.zero_le _, Nat.zero_le _⟩) h11 (fun q _ h => hfr q h) hfr (fun rv u hu t H1 locs1 b1 b2 b3 b4 b6 b7 b8 => ?_)
      exact sx_back hw1 hw2 hMc k b1 b2 b3 hn h1 h2 h3 h4 h5 w2 h8 b4 (b6.weaken (fun _ _ _ h => hfr _ h)) b8
    · cases hq
  · cases h
end SXR
