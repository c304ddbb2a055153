/-! Calls over some of the cells with an answer: of an object's method, of a static one; and what is read out of the tables -/
theorem ev_rr_rn {is : List Nat} {n : Nat} {adL adG : List Nat} (h : ∀ k a : Nat, adL[k]? = some a → adG[ev_rn is n k]? = some a) {r : Option (Nat × Nat × Nat)} {rv : Option Value} (hr : ev_rr adL r rv) : ev_rr adG (r.map (ev_rnV is n)) rv := by
  cases r <;> cases rv <;> simp [ev_rr] at hr ⊢
  exact ev_rnV_r h hr
section EVK
variable {p : Program} {l : Launch} {e : Env} {R : Room} {s : State} {m : MethodId} {args : Array Value} {below : List Frame} {meth : Method} {c : Code} {Q : State → Prop}
variable {D : va_G} {cl : List vw_C} {dA : Nat → ClassId} {kt : List FieldType} {A : Nat → Prop} {ws0 : va_W} {Gs : List Cond} {own : String} {cc : ByteArray} {nL : Nat} {cd : ev_Cd}
variable {ix nc ns : Nat} {L : List (Nat × (Nat × Nat × Nat))} {S : List (Nat × Nat × Nat)} {w : List ev_C}
/-- behind a call over the places is: the caller goes on -/
theorem ev_backf {ws u : va_W} {is : List Nat} {wL w1 : List ev_C} {H H1 : Heap} {locs1 : List Loc} {ls : Array Slot} {lv : List (Nat × Value)} {rs : List Value} {r : Option (Nat × Nat × Nat)} {rv : Option Value} {pc : Nat} (k : ev_G p l e R s m args below meth c Q D cl dA A ws0 nL cd (ix, L, (r.map (ev_rnV is w.length)).toList ++ S, ev_up ev_c0 w (ev_mix w wL w1 is) is, nc, ns)) (hn : ev_pc cd ix = pc) (F : ev_F D cl dA A ws u is w w1 H H1) (hwok : ev_wok w1 = true) (hz : ev_fzz wL w1 = true) (hil : is.length = wL.length) (h1 : lv_has ls nL lv) (h2 : ev_lr (ws.map Prod.fst) L lv) (h3 : ev_sr (ws.map Prod.fst) S rs) (h5 : ev_E ws0 w ws) (b1 : ev_rr (u.map Prod.fst) r rv) (b8 : va_S A s.heap H1 locs1) : W p l e R s m args below meth c H1 locs1 nc ns Q (F0 m pc ls (rv.toList ++ rs)) := by
  have old := ev_F_old F
  have hwl : w.length = ws.length := F.2.2.1.1
  have b1' : ev_rr ((ev_up ev_d0 ws u is).map Prod.fst) (r.map (ev_rnV is w.length)) rv := by
    rw [hwl]
    exact ev_rr_rn (ev_F_new F) b1
  refine ev_go k hn h1 (h2.mono old) ?_ (ev_F_W F hwok hz hil) (ev_F_E F hz hil h5) (ev_F_P F) (ev_F_D F) b8
  cases r with
  | none =>
    cases rv with
    | none => exact h3.mono old
    | some x => exact b1.elim
  | some v =>
    cases rv with
    | none => exact b1.elim
    | some x => exact ⟨b1', h3.mono old⟩
theorem ev_s_fV (X : ev_X p s m args c D cl dA kt A Gs own cc nL) (hG : ∀ w ∈ Gs, (w.onTables && w.keeps) = true ∨ ∃ ty, w = .arrayClass ty) {y : MethodName} {bytes : ByteArray} {ret : Option FieldType} {maxL idx n d o z9 ci z mc ms : Nat} {q : vw_C} {fs S1 S2 asL : List (Nat × Nat × Nat)} {w1 wL : List ev_C} {is : List Nat} {r : Option (Nat × Nat × Nat)} (hM : ev_Met l D cl dA kt Gs y bytes maxL ret d asL wL (r, w1, mc, ms)) (hdis : ∀ a b k : Nat, is[a]? = some k → is[b]? = some k → a = b) (hcells : ev_lerW w is is wL = true) (hargs : ev_lerS is ((2, o, z9) :: S1.reverse) asL = true) (hwok : ev_wok w1 = true) (hz : ev_fzz wL w1 = true) (hS1 : S1.length = n) (hw : w[o]? = some (0, ci, z, fs)) (hc : cl[ci]? = some q) (hq : q.1 = y.cls) (hcode : Cond.code y bytes maxL ret ∈ Gs) (hini : Cond.initialized y.cls ∈ Gs) (hlk : Cond.methodLink own idx y ∈ Gs) (hins : Cond.instanceMethod y ∈ Gs) (hsel : Cond.selects y.cls y y ∈ Gs)
    (hy : y.cls ≠ "java/lang/invoke/MethodHandle" ∧ y.cls ≠ "java/lang/invoke/VarHandle" ∧ (parseMethodDescriptor y.desc).map (fun d => d.parameters.length) = some n) (hR : d + 1 ≤ R.frames ∧ 8 + (maxL + 11) + 90 * d ≤ R.locals) (hcs : ev_cs S2 ≤ 8) (hf : nc + mc ≤ R.cells ∧ ns + ms ≤ R.slots) (hd : decode cc (ev_pc cd ix) = .ok (.invokevirtual idx, 3)) (hn : ev_pc cd (ix + 1) = ev_pc cd ix + 3)
    (k : ev_G p l e R s m args below meth c Q D cl dA A ws0 nL cd (ix + 1, L, (r.map (ev_rnV is w.length)).toList ++ S2, ev_up ev_c0 w (ev_mix w wL w1 is) is, nc + mc, ns + ms)) : ev_G p l e R s m args below meth c Q D cl dA A ws0 nL cd (ix, L, S1 ++ (2, o, z9) :: S2, w, nc, ns) := by
  intro H locs ls vs lv ws h1 h2 h3 h4 h5 h6 h7 h8
  obtain ⟨ys, zs, rfl, hl, g1, g2⟩ := ev_sr.split n h3 (by simp; omega)
  rw [List.take_left' hS1] at g1
  rw [List.drop_left' hS1] at g2
  have g2q := g2.cons
  clear g2
  obtain ⟨x, rs, rfl, hx, g2⟩ := g2q
  obtain ⟨b, hb, rfl⟩ := hx.ref rfl
  obtain ⟨E, hE, hr⟩ := h4.at hw hb
  rcases hr with ⟨-, gs, rfl, -⟩ | ⟨hr, -⟩ | ⟨hr, -⟩ | ⟨hr, -⟩ | hr
  · have hrec := va_recv X.2.1.1 h6 hc hE
    rw [hq] at hrec
    obtain ⟨s1, s2, s3, s4, s5⟩ := ev_subw hdis hcells h4 h6 h7
    have hfr := ev_free s5 h8 X.2.2.1
    have hav : ev_sr ((ev_wl ws is).map Prod.fst) asL (.ref b :: ys.reverse) := ev_lerS_r s2 hargs ⟨hx, g1.rev⟩
    refine ev_callf (va_runV (As := ys.reverse) (rest := rs) X.1 (hM (.ref b :: ys.reverse) (ev_wl ws is) H.size hav s3) ⟨callB_of n X.1.2.2.2.2 (ev_goodIn hG hcode) rfl rfl rfl (X.1.2.2.2.2 _ hini) (X.1.2.2.2.2 _ hlk) hy hR, X.1.2.2.2.2 _ hins, X.1.2.2.2.2 _ hsel⟩ ⟨ev_P_blind, hrec, fun U hU hW => ⟨rfl, by rw [hU], by rw [hU]; exact s4, ev_K.moved hW.alike X.2.1, s5.weaken (fun _ _ _ _ => trivial), by rw [hU]; exact ev_tbc X h8 hW.alike hfr⟩⟩ rfl (by rw [List.length_reverse]; exact hl) h1.1 (by rw [List.reverse_reverse]) (lv_room (by rw [g2.cs]; exact hcs)) hd hf) h8 (fun q _ h => hfr q h) hfr (fun rv u H1 locs1 b1 b2 b3 b4 b6 b7 b8 => ?_)
    have F : ev_F D cl dA A ws u is w w1 H H1 := ⟨hdis, s1, h4, h6, h7, b2, b3, b4, b6, b7, hfr⟩
    exact ev_backf k hn F hwok hz (ev_lerW_at hcells).1 h1 h2 g2 h5 b1 b8
  all_goals exact absurd hr (by simp)
theorem ev_s_fS (X : ev_X p s m args c D cl dA kt A Gs own cc nL) (hG : ∀ w ∈ Gs, (w.onTables && w.keeps) = true ∨ ∃ ty, w = .arrayClass ty) {y : MethodName} {bytes : ByteArray} {ret : Option FieldType} {maxL idx n d mc ms : Nat} {S1 S2 asL : List (Nat × Nat × Nat)} {w1 wL : List ev_C} {is : List Nat} {r : Option (Nat × Nat × Nat)} (hM : ev_Met l D cl dA kt Gs y bytes maxL ret d asL wL (r, w1, mc, ms)) (hdis : ∀ a b k : Nat, is[a]? = some k → is[b]? = some k → a = b) (hcells : ev_lerW w is is wL = true) (hargs : ev_lerS is S1.reverse asL = true) (hwok : ev_wok w1 = true) (hz : ev_fzz wL w1 = true) (hS1 : S1.length = n) (hcode : Cond.code y bytes maxL ret ∈ Gs) (hini : Cond.initialized y.cls ∈ Gs) (hlk : Cond.methodLink own idx y ∈ Gs) (hst : Cond.static y ∈ Gs)
    (hy : y.cls ≠ "java/lang/invoke/MethodHandle" ∧ y.cls ≠ "java/lang/invoke/VarHandle" ∧ (parseMethodDescriptor y.desc).map (fun d => d.parameters.length) = some n) (hR : d + 1 ≤ R.frames ∧ 8 + (maxL + 11) + 90 * d ≤ R.locals) (hcs : ev_cs S2 ≤ 8) (hf : nc + mc ≤ R.cells ∧ ns + ms ≤ R.slots) (hd : decode cc (ev_pc cd ix) = .ok (.invokestatic idx, 3)) (hn : ev_pc cd (ix + 1) = ev_pc cd ix + 3)
    (k : ev_G p l e R s m args below meth c Q D cl dA A ws0 nL cd (ix + 1, L, (r.map (ev_rnV is w.length)).toList ++ S2, ev_up ev_c0 w (ev_mix w wL w1 is) is, nc + mc, ns + ms)) : ev_G p l e R s m args below meth c Q D cl dA A ws0 nL cd (ix, L, S1 ++ S2, w, nc, ns) := by
  intro H locs ls vs lv ws h1 h2 h3 h4 h5 h6 h7 h8
  obtain ⟨ys, rs, rfl, hl, g1, g2⟩ := ev_sr.split n h3 (by simp; omega)
  rw [List.take_left' hS1] at g1
  rw [List.drop_left' hS1] at g2
  obtain ⟨s1, s2, s3, s4, s5⟩ := ev_subw hdis hcells h4 h6 h7
  have hfr := ev_free s5 h8 X.2.2.1
  have hav : ev_sr ((ev_wl ws is).map Prod.fst) asL ys.reverse := ev_lerS_r s2 hargs g1.rev
  refine ev_callf (va_runS (As := ys.reverse) (rest := rs) X.1 (hM ys.reverse (ev_wl ws is) H.size hav s3) ⟨callB_of n X.1.2.2.2.2 (ev_goodIn hG hcode) rfl rfl rfl (X.1.2.2.2.2 _ hini) (X.1.2.2.2.2 _ hlk) hy hR, X.1.2.2.2.2 _ hst⟩ ⟨ev_P_blind, fun U hU hW => ⟨rfl, by rw [hU], by rw [hU]; exact s4, ev_K.moved hW.alike X.2.1, s5.weaken (fun _ _ _ _ => trivial), by rw [hU]; exact ev_tbc X h8 hW.alike hfr⟩⟩ rfl (by rw [List.length_reverse]; exact hl) h1.1 (by rw [List.reverse_reverse]) (lv_room (by rw [g2.cs]; exact hcs)) hd hf) h8 (fun q _ h => hfr q h) hfr (fun rv u H1 locs1 b1 b2 b3 b4 b6 b7 b8 => ?_)
  have F : ev_F D cl dA A ws u is w w1 H H1 := ⟨hdis, s1, h4, h6, h7, b2, b3, b4, b6, b7, hfr⟩
  exact ev_backf k hn F hwok hz (ev_lerW_at hcells).1 h1 h2 g2 h5 b1 b8
theorem ev_s_lret (X : ev_X p s m args c D cl dA kt A Gs own cc nL) {mc ms : Nat} {v : ev_V} (hr : meth.sig.returnType = some .long) (hv : v.1 = 1) (hlocks : meth.locks = false) (hd : decode cc (ev_pc cd ix) = .ok (.lreturn, 1)) (hnc : nc ≤ mc) (hns : ns ≤ ms) : ev_G p l e R s m args below meth c (MQ below (ev_Q D cl dA kt ws0 A (some v) w) args s mc ms A) D cl dA A ws0 nL cd (ix, L, [v], w, nc, ns) := by
  intro H locs ls vs lv ws h1 h2 h3 h4 h5 h6 h7 h8
  have h3q := h3.cons
  clear h3
  obtain ⟨x, rs, rfl, hx, h3⟩ := h3q
  obtain rfl := h3.nil
  obtain ⟨i, rfl⟩ := hx.long hv
  exact W.widen hnc hns (W.lret X.1.1 X.1.2.1 hr (fun t ht hW => ⟨⟨some (.long i), ws, rfl, hx, h5, h4, by rw [ht]; exact h6, ev_K.moved hW.alike X.2.1, h7⟩, h8.F ht⟩) h8.2.2 hd hlocks)
/-- three instructions: a table's element at a local's place -/
theorem ev_s_tab (X : ev_X p s m args c D cl dA kt A Gs own cc nL) {idx a N : Nat} {C nm : String} {v : ev_V} (hq : (C, nm, N) ∈ ev_tb) (hlk : Cond.fieldLink own idx C nm "[I" ∈ Gs) (hd1 : decode cc (ev_pc cd ix) = .ok (.getstatic idx, 3)) (hd2 : decode cc (ev_pc cd ix + 3) = .ok (.iload a, 2)) (hd3 : decode cc (ev_pc cd ix + 5) = .ok (.iaload, 1)) (hn : ev_pc cd (ix + 3) = ev_pc cd ix + 6) (hg : ev_get L a = some v) (hv : v.1 = 0) (h1' : 2147483648 ≤ v.2.1) (h2' : v.2.2 < 2147483648 + N)
    (k : ev_G p l e R s m args below meth c Q D cl dA A ws0 nL cd (ix + 3, L, ev_full :: S, w, nc, ns)) : ev_G p l e R s m args below meth c Q D cl dA A ws0 nL cd (ix, L, S, w, nc, ns) := by
  intro H locs ls vs lv ws h1 h2 h3 h4 h5 h6 h7 h8
  obtain ⟨t, f, hZ, hT⟩ := X.2.2.2 _ hq
  obtain ⟨j, x, hj, hx⟩ := h2.get hg
  obtain ⟨i, rfl, hi⟩ := hx.int hv
  refine va_gets X.1.1 X.1.2.1 hZ h8 X.1.2.2.2.1 (X.1.2.2.2.2 _ hlk) (fun _ h9 => h9) hd1 ?_
  refine lv_iload X.1.1 X.1.2.1 hd2 (lv_at h1 j hj) ?_
  refine va_ti X.1.1 X.1.2.1 hT h8 (ev_in_at hi h1' h2') rfl hd3 ?_
  exact ev_go k hn h1 h2 ⟨ev_vr.it rfl (ev_full_in _), h3⟩ h4 h5 h6 h7 h8
end EVK
