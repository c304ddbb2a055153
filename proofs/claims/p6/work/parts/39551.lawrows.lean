/-! Rows for the law's own walk: its locals stay as they are, calls go over some of the cells -/
def ev_Wd (D : va_G) (cl : List vw_C) (dA : Nat → ClassId) (A : Nat → Prop) (s : State) (w : List ev_C) (ws : va_W) (H : Heap) (locs : List Loc) : Prop := ev_wr dA w ws ∧ va_P D cl ws H ∧ va_D A ws ∧ va_S A s.heap H locs
def ev_cks (sm : ev_Sm) (dd : Nat) (w : List ev_C) (as : List (Nat × Nat × Nat)) (mi o ci : Nat) (r : Option (Nat × Nat × Nat)) (mc ms : Nat) : Bool := (match sm.findSome? (ev_att dd w as mi) with
  | some q => (match q.1, r with
    | none, none => true
    | some u, some v => ev_eqS [u] [v]
    | _, _ => false) && (q.2.2.1 == mc && q.2.2.2 == ms)
  | none => false) && (match w[o]? with
  | some (0, c, _, _) => c == ci
  | _ => false)
def ev_aft (sm : ev_Sm) (dd : Nat) (w : List ev_C) (as : List (Nat × Nat × Nat)) (mi : Nat) : List ev_C := match sm.findSome? (ev_att dd w as mi) with
  | some q => q.2.1
  | none => []
section LWR
variable {p : Program} {l : Launch} {e : Env} {R : Room} {s : State} {m : MethodId} {args : Array Value} {below : List Frame} {meth : Method} {c : Code} {Q : State → Prop}
variable {D : va_G} {cl : List vw_C} {dA : Nat → ClassId} {kt : List FieldType} {A : Nat → Prop} {Gs : List Cond} {own : String} {cc : ByteArray} {nL : Nat}
variable {w : List ev_C} {H : Heap} {locs : List Loc} {ls : Array Slot} {ws : va_W} {nc ns pc : Nat}
/-- a method of an object is called -/
theorem ev_w_fV (X : ev_X p s m args c D cl dA kt A Gs own cc nL) (hG : ∀ w ∈ Gs, (w.onTables && w.keeps) = true ∨ ∃ ty, w = .arrayClass ty) {y : MethodName} {bytes : ByteArray} {ret : Option FieldType} {maxL idx n d o z9 ci z mc ms b : Nat} {q : vw_C} {fs S1 asL : List (Nat × Nat × Nat)} {w1 wL : List ev_C} {is : List Nat} {r : Option (Nat × Nat × Nat)} {ys rs : List Value} (hM : ev_Met l D cl dA kt Gs y bytes maxL ret d asL wL (r, w1, mc, ms)) (hdis : ∀ a b k : Nat, is[a]? = some k → is[b]? = some k → a = b) (hcells : ev_lerW w is is wL = true) (hargs : ev_lerS is ((2, o, z9) :: S1.reverse) asL = true) (hwok : ev_wok w1 = true) (hz : ev_fzz wL w1 = true) (hS1 : S1.length = n) (hw : w[o]? = some (0, ci, z, fs)) (hc : cl[ci]? = some q) (hq : q.1 = y.cls) (hcode : Cond.code y bytes maxL ret ∈ Gs) (hini : Cond.initialized y.cls ∈ Gs) (hlk : (Cond.methodLink own idx y).before args s = true) (hins : Cond.instanceMethod y ∈ Gs) (hsel : Cond.selects y.cls y y ∈ Gs)
    (hy : y.cls ≠ "java/lang/invoke/MethodHandle" ∧ y.cls ≠ "java/lang/invoke/VarHandle" ∧ (parseMethodDescriptor y.desc).map (fun d => d.parameters.length) = some n) (hR : d + 1 ≤ R.frames ∧ 8 + (maxL + 11) + 90 * d ≤ R.locals) (hWd : ev_Wd D cl dA A s w ws H locs) (hys : ev_sr (ws.map Prod.fst) S1 ys) (hb : (ws.map Prod.fst)[o]? = some b) (hls : ls.size = nL) (hcs : (rs.map fun v => v.category).sum ≤ 8) (hf : nc + mc ≤ R.cells ∧ ns + ms ≤ R.slots) (hd : decode cc pc = .ok (.invokevirtual idx, 3))
    (kk : ∀ (rv : Option Value) (ws1 : va_W) (H1 : Heap) (locs1 : List Loc), ev_ext (ws.map Prod.fst) (ws1.map Prod.fst) → ev_rr (ws1.map Prod.fst) (r.map (ev_rnV is w.length)) rv → ev_Wd D cl dA A s (ev_up ev_c0 w (ev_mix w wL w1 is) is) ws1 H1 locs1 → W p l e R s m args below meth c H1 locs1 (nc + mc) (ns + ms) Q (F0 m (pc + 3) ls (rv.toList ++ rs))) : W p l e R s m args below meth c H locs nc ns Q (F0 m pc ls (ys ++ .ref b :: rs)) := by
  obtain ⟨h4, h6, h7, h8⟩ := hWd
  have hlen : ys.length = n := by rw [← hys.len, hS1]
  obtain ⟨E, hE, hr⟩ := h4.at hw hb
  rcases hr with ⟨-, gs, rfl, -⟩ | ⟨hr, -⟩ | ⟨hr, -⟩ | ⟨hr, -⟩ | hr
  · have hrec := va_recv X.2.1.1 h6 hc hE
    rw [hq] at hrec
    obtain ⟨s1, s2, s3, s4, s5⟩ := ev_subw hdis hcells h4 h6 h7
    have hfr := ev_free s5 h8 X.2.2.1
    have hav : ev_sr ((ev_wl ws is).map Prod.fst) asL (.ref b :: ys.reverse) := ev_lerS_r s2 hargs ⟨ev_vr.rf hb, hys.rev⟩
    refine ev_callf (va_runV (As := ys.reverse) (rest := rs) X.1 (hM (.ref b :: ys.reverse) (ev_wl ws is) H.size hav s3) ⟨callB_of n X.1.2.2.2.2 (ev_goodIn hG hcode) rfl rfl rfl (X.1.2.2.2.2 _ hini) hlk hy hR, X.1.2.2.2.2 _ hins, X.1.2.2.2.2 _ hsel⟩ ⟨ev_P_blind, hrec, fun U hU hW => ⟨rfl, by rw [hU], by rw [hU]; exact s4, ev_K.moved hW.alike X.2.1, s5.weaken (fun _ _ _ _ => trivial), by rw [hU]; exact ev_tbc X h8 hW.alike hfr⟩⟩ rfl (by rw [List.length_reverse]; exact hlen) hls (by rw [List.reverse_reverse]) (lv_room hcs) hd hf) h8 (fun q _ h => hfr q h) hfr (fun rv u H1 locs1 b1 b2 b3 b4 b6 b7 b8 => ?_)
    have F : ev_F D cl dA A ws u is w w1 H H1 := ⟨hdis, s1, h4, h6, h7, b2, b3, b4, b6, b7, hfr⟩
    refine kk rv (ev_up ev_d0 ws u is) H1 locs1 (ev_F_old F) ?_ ⟨ev_F_W F hwok hz (ev_lerW_at hcells).1, ev_F_P F, ev_F_D F, b8⟩
    rw [h4.1]
    exact ev_rr_rn (ev_F_new F) b1
  all_goals exact absurd hr (by simp)
/-- an object is made, and its constructor called -/
theorem ev_w_fI (X : ev_X p s m args c D cl dA kt A Gs own cc nL) (hG : ∀ w ∈ Gs, (w.onTables && w.keeps) = true ∨ ∃ ty, w = .arrayClass ty) {y : MethodName} {bytes : ByteArray} {maxL idx n d o z9 mc ms b : Nat} {S1 asL : List (Nat × Nat × Nat)} {w1 wL : List ev_C} {is : List Nat} {ys rs : List Value} (hM : ev_Met l D cl dA kt Gs y bytes maxL none d asL wL (none, w1, mc, ms)) (hdis : ∀ a b k : Nat, is[a]? = some k → is[b]? = some k → a = b) (hcells : ev_lerW w is is wL = true) (hargs : ev_lerS is ((2, o, z9) :: S1.reverse) asL = true) (hwok : ev_wok w1 = true) (hz : ev_fzz wL w1 = true) (hS1 : S1.length = n) (hcode : Cond.code y bytes maxL none ∈ Gs) (hini : Cond.initialized y.cls ∈ Gs) (hlk : (Cond.methodLink own idx y).before args s = true) (hins : Cond.instanceMethod y ∈ Gs) (hy1 : y.name = "<init>")
    (hy : y.cls ≠ "java/lang/invoke/MethodHandle" ∧ y.cls ≠ "java/lang/invoke/VarHandle" ∧ (parseMethodDescriptor y.desc).map (fun d => d.parameters.length) = some n) (hR : d + 1 ≤ R.frames ∧ 8 + (maxL + 11) + 90 * d ≤ R.locals) (hWd : ev_Wd D cl dA A s w ws H locs) (hys : ev_sr (ws.map Prod.fst) S1 ys) (hb : (ws.map Prod.fst)[o]? = some b) (hls : ls.size = nL) (hcs : (rs.map fun v => v.category).sum ≤ 8) (hf : nc + mc ≤ R.cells ∧ ns + ms ≤ R.slots) (hd : decode cc pc = .ok (.invokespecial idx, 3))
    (kk : ∀ (ws1 : va_W) (H1 : Heap) (locs1 : List Loc), ev_ext (ws.map Prod.fst) (ws1.map Prod.fst) → ev_Wd D cl dA A s (ev_up ev_c0 w (ev_mix w wL w1 is) is) ws1 H1 locs1 → W p l e R s m args below meth c H1 locs1 (nc + mc) (ns + ms) Q (F0 m (pc + 3) ls rs)) : W p l e R s m args below meth c H locs nc ns Q (F0 m pc ls (ys ++ .ref b :: rs)) := by
  obtain ⟨h4, h6, h7, h8⟩ := hWd
  have hlen : ys.length = n := by rw [← hys.len, hS1]
  obtain ⟨s1, s2, s3, s4, s5⟩ := ev_subw hdis hcells h4 h6 h7
  have hfr := ev_free s5 h8 X.2.2.1
  have hav : ev_sr ((ev_wl ws is).map Prod.fst) asL (.ref b :: ys.reverse) := ev_lerS_r s2 hargs ⟨ev_vr.rf hb, hys.rev⟩
  refine ev_callf (va_runI (As := ys.reverse) (rest := rs) X.1 (hM (.ref b :: ys.reverse) (ev_wl ws is) H.size hav s3) ⟨callB_of n X.1.2.2.2.2 (ev_goodIn hG hcode) rfl rfl rfl (X.1.2.2.2.2 _ hini) hlk hy hR, hy1, X.1.2.2.2.2 _ hins⟩ ⟨ev_P_blind, fun U hU hW => ⟨rfl, by rw [hU], by rw [hU]; exact s4, ev_K.moved hW.alike X.2.1, s5.weaken (fun _ _ _ _ => trivial), by rw [hU]; exact ev_tbc X h8 hW.alike hfr⟩⟩ rfl (by rw [List.length_reverse]; exact hlen) hls (by rw [List.reverse_reverse]) (lv_room hcs) hd hf) h8 (fun q _ h => hfr q h) hfr (fun rv u H1 locs1 b1 b2 b3 b4 b6 b7 b8 => ?_)
  have F : ev_F D cl dA A ws u is w w1 H H1 := ⟨hdis, s1, h4, h6, h7, b2, b3, b4, b6, b7, hfr⟩
  have k0 := kk (ev_up ev_d0 ws u is) H1 locs1 (ev_F_old F) ⟨ev_F_W F hwok hz (ev_lerW_at hcells).1, ev_F_P F, ev_F_D F, b8⟩
  cases rv with
  | some x => exact b1.elim
  | none => exact k0
/-- a call by the first contract that fits: what is asked of it -/
theorem ev_w_cV (X : ev_X p s m args c D cl dA kt A Gs own cc nL) (hG : ∀ w ∈ Gs, (w.onTables && w.keeps) = true ∨ ∃ ty, w = .arrayClass ty) {Pg : List ev_Mt} {sm : ev_Sm} (hsm : ev_SM l D cl dA kt Gs Pg sm) {y : MethodName} {bytes : ByteArray} {ret : Option FieldType} {cdm : ev_Cd} {maxL idx n dd o ci mi mc ms b : Nat} {q : vw_C} {S1 : List (Nat × Nat × Nat)} {r : Option (Nat × Nat × Nat)} {ys rs : List Value} (hP : Pg[mi]? = some ((y, bytes, maxL, ret), cdm)) (hck : ev_cks sm dd w ((2, o, 0) :: S1.reverse) mi o ci r mc ms = true) (hS1 : S1.length = n) (hc : cl[ci]? = some q) (hq : q.1 = y.cls) (hcode : Cond.code y bytes maxL ret ∈ Gs) (hini : Cond.initialized y.cls ∈ Gs) (hlk : (Cond.methodLink own idx y).before args s = true) (hins : Cond.instanceMethod y ∈ Gs) (hsel : Cond.selects y.cls y y ∈ Gs)
    (hy : y.cls ≠ "java/lang/invoke/MethodHandle" ∧ y.cls ≠ "java/lang/invoke/VarHandle" ∧ (parseMethodDescriptor y.desc).map (fun d => d.parameters.length) = some n) (hmL : maxL ≤ 71) (hR : dd + 1 ≤ R.frames ∧ 90 * (dd + 1) ≤ R.locals) (hWd : ev_Wd D cl dA A s w ws H locs) (hys : ev_sr (ws.map Prod.fst) S1 ys) (hb : (ws.map Prod.fst)[o]? = some b) (hls : ls.size = nL) (hcs : (rs.map fun v => v.category).sum ≤ 8) (hf : nc + mc ≤ R.cells ∧ ns + ms ≤ R.slots) (hd : decode cc pc = .ok (.invokevirtual idx, 3))
    (kk : ∀ (rv : Option Value) (ws1 : va_W) (H1 : Heap) (locs1 : List Loc), ev_ext (ws.map Prod.fst) (ws1.map Prod.fst) → ev_rr (ws1.map Prod.fst) r rv → ev_Wd D cl dA A s (ev_aft sm dd w ((2, o, 0) :: S1.reverse) mi) ws1 H1 locs1 → W p l e R s m args below meth c H1 locs1 (nc + mc) (ns + ms) Q (F0 m (pc + 3) ls (rv.toList ++ rs))) : W p l e R s m args below meth c H locs nc ns Q (F0 m pc ls (ys ++ .ref b :: rs)) := by
  unfold ev_cks at hck
  unfold ev_aft at kk
  rw [Bool.and_eq_true] at hck
  obtain ⟨k1, k2⟩ := hck
  cases hr : sm.findSome? (ev_att dd w ((2, o, 0) :: S1.reverse) mi) with
  | none => rw [hr] at k1; cases k1
  | some q9 =>
    rw [hr] at k1 kk
    dsimp only at k1 kk
    obtain ⟨qc, hqm, hmi, is, x1, x2, x3, x4, x5, x8, x9⟩ := ev_att_ok hr
    have hM := hsm qc hqm _ _ _ _ _ (by rw [hmi]; exact hP)
    obtain ⟨ck, cdp, cps, cas, cw, cr, cw1, cmc, cms⟩ := qc
    obtain ⟨q1, q2, q3, q4⟩ := q9
    obtain ⟨y1, y2, y3, y4⟩ : q1 = cr.map (ev_rnV is w.length) ∧ q2 = ev_up ev_c0 w (ev_mix w cw cw1 is) is ∧ q3 = cmc ∧ q4 = cms := ⟨congrArg Prod.fst x9, congrArg (fun r => r.2.1) x9, congrArg (fun r => r.2.2.1) x9, congrArg (fun r => r.2.2.2) x9⟩
    subst y1 y2 y3 y4
    simp only [Bool.and_eq_true, beq_iff_eq] at k1
    obtain ⟨k3, rfl, rfl⟩ := k1
    have hrr : cr.map (ev_rnV is w.length) = r := by
      revert k3
      cases cr.map (ev_rnV is w.length) with
      | none => cases r with
        | none => intro _; rfl
        | some v => intro h; cases h
      | some u => cases r with
        | none => intro h; cases h
        | some v => intro h; rw [(List.cons.inj (ev_eqS_r h)).1]
    split at k2
    · next c0 z0 f0 hw =>
      have hci : c0 = ci := by simpa using k2
      subst hci
      have x8 : cdp ≤ dd := x8
      refine ev_w_fV X hG hM x1 x2 x3 x4 x5 hS1 hw hc hq hcode hini hlk hins hsel hy ⟨by omega, by omega⟩ hWd hys hb hls hcs hf hd (fun rv ws1 H1 locs1 a1 a2 a3 => kk rv ws1 H1 locs1 a1 (by rw [← hrr]; exact a2) a3)
    · cases k2
/-- an int of the script comes: five instructions -/
theorem ev_w_scr (hexec : p.tables.exec = Jvm.exec) (hcc : c.code = cc) {b L j : Nat} {xs : Nat → Int32} {lv : List (Nat × Value)} {k0 k4 : Nat} {vs : List Value} (hX : va_X b L xs s s.heap) (hbl : b < s.heap.size) (hbA : ¬ A b) (hS : va_S A s.heap H locs) (hl : lv_has ls nL lv) (h0 : lv[k0]? = some (0, .ref b)) (h4 : lv[k4]? = some (4, .int 0)) (hj : j < L) (hL : L < 2147483648) (hd1 : decode cc pc = .ok (.aload_n 0, 1)) (hd2 : decode cc (pc + 1) = .ok (.iload 4, 2)) (hd3 : decode cc (pc + 3) = .ok (.iconst (j : Int), 1)) (hd4 : decode cc (pc + 4) = .ok (.iadd, 1)) (hd5 : decode cc (pc + 5) = .ok (.iaload, 1))
    (kk : W p l e R s m args below meth c H locs nc ns Q (F0 m (pc + 6) ls (.int (xs j) :: vs))) : W p l e R s m args below meth c H locs nc ns Q (F0 m pc ls vs) := by
  refine lv_aload_n hexec hcc hd1 rfl (lv_at hl k0 h0) ?_
  refine lv_iload hexec hcc hd2 (lv_at hl k4 h4) ?_
  refine lv_iconst (v := nI j) hexec hcc hd3 rfl ?_
  refine lv_iadd hexec hcc hd4 ?_
  have e : (0 : Int32) + nI j = nI j := by
    apply Int32.toInt_inj.mp
    rw [Int32.toInt_add, nI_toInt (by omega)]
    have z : (0 : Int32).toInt = 0 := by decide +kernel
    rw [z, Int.zero_add]
    exact ev_bm (by omega) (by omega)
  rw [e]
  refine va_sld hexec hcc hX hbl hbA hS (vp_in_nI hj hL) hd5 ?_
  rw [nI_clamp (by omega)]
  exact kk
end LWR
