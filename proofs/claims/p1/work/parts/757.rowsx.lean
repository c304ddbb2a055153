/-! Rows for walks by hand: calls that also tell what stays -/
theorem ev_up_old {α : Type} {d0 : α} {ws ul : List α} {is : List Nat} {k : Nat} (hk : k < ws.length) (h : ∀ j : Nat, is[j]? ≠ some k) : (ev_up d0 ws ul is)[k]? = ws[k]? := by
  rw [ev_up_at (by omega), ev_getD_some (d0 := d0) hk]
  congr 1
  unfold ev_pick
  rw [if_pos hk]
  cases hx : ev_ixo is k 0 with
  | none => rfl
  | some j =>
    obtain ⟨-, h2⟩ := ev_ixo_some hx
    exact absurd h2 (h _)
theorem ev_up_new {α : Type} {d0 x : α} {ws ul : List α} {is : List Nat} {j k : Nat} (hk : k < ws.length) (hd : ∀ a b : Nat, is[a]? = some k → is[b]? = some k → a = b) (hj : is[j]? = some k) (hx : ul[j]? = some x) : (ev_up d0 ws ul is)[k]? = some x := by
  rw [ev_up_at (by omega)]
  congr 1
  unfold ev_pick
  rw [if_pos hk, ev_ixo_at hd hj, Nat.zero_add]
  exact ev_getD hx
theorem ev_up_fast {w wL w1 : List ev_C} {is : List Nat} (hil : is.length = wL.length) (hwl : wL.length ≤ w1.length) : ev_up ev_c0 w (ev_mix w wL w1 is) is = ev_upf ev_c0 w (ev_mixf w is w.length wL is w1) is := by
  rw [ev_mixf_eq hil, ev_upf_eq (by rw [ev_mix_len, hil]; exact hwl)]
section LWX
variable {p : Program} {l : Launch} {e : Env} {R : Room} {s : State} {m : MethodId} {args : Array Value} {below : List Frame} {meth : Method} {c : Code} {Q : State → Prop}
variable {D : va_G} {cl : List vw_C} {dA : Nat → ClassId} {kt : List FieldType} {A : Nat → Prop} {Gs : List Cond} {own : String} {cc : ByteArray} {nL : Nat}
variable {w : List ev_C} {H : Heap} {locs : List Loc} {ls : Array Slot} {ws : va_W} {nc ns pc : Nat}
/-- a method of an object is called: which cells are as they were -/
theorem ev_w_fX (X : ev_X p s m args c D cl dA kt A Gs own cc nL) (hG : ∀ w ∈ Gs, (w.onTables && w.keeps) = true ∨ ∃ ty, w = .arrayClass ty) {y : MethodName} {bytes : ByteArray} {ret : Option FieldType} {maxL idx n d o z9 ci z mc ms b : Nat} {q : vw_C} {fs S1 asL : List (Nat × Nat × Nat)} {w1 wL : List ev_C} {is : List Nat} {r : Option (Nat × Nat × Nat)} {ys rs : List Value} (hM : ev_Met l D cl dA kt Gs y bytes maxL ret d asL wL (r, w1, mc, ms)) (hdis : ∀ a b k : Nat, is[a]? = some k → is[b]? = some k → a = b) (hcells : ev_lerW w is is wL = true) (hargs : ev_lerS is ((2, o, z9) :: S1.reverse) asL = true) (hwok : ev_wok w1 = true) (hz : ev_fzz wL w1 = true) (hS1 : S1.length = n) (hw : w[o]? = some (0, ci, z, fs)) (hc : cl[ci]? = some q) (hq : q.1 = y.cls) (hcode : Cond.code y bytes maxL ret ∈ Gs) (hini : Cond.initialized y.cls ∈ Gs) (hlk : (Cond.methodLink own idx y).before args s = true) (hins : Cond.instanceMethod y ∈ Gs) (hsel : Cond.selects y.cls y y ∈ Gs)
    (hy : y.cls ≠ "java/lang/invoke/MethodHandle" ∧ y.cls ≠ "java/lang/invoke/VarHandle" ∧ (parseMethodDescriptor y.desc).map (fun d => d.parameters.length) = some n) (hR : d + 1 ≤ R.frames ∧ 8 + (maxL + 11) + 90 * d ≤ R.locals) (hWd : ev_Wd D cl dA A s w ws H locs) (hys : ev_sr (ws.map Prod.fst) S1 ys) (hb : (ws.map Prod.fst)[o]? = some b) (hls : ls.size = nL) (hcs : (rs.map fun v => v.category).sum ≤ 8) (hf : nc + mc ≤ R.cells ∧ ns + ms ≤ R.slots) (hd : decode cc pc = .ok (.invokevirtual idx, 3))
    (kk : ∀ (rv : Option Value) (ws1 : va_W) (H1 : Heap) (locs1 : List Loc), ev_ext (ws.map Prod.fst) (ws1.map Prod.fst) → ev_rr (ws1.map Prod.fst) (r.map (ev_rnV is w.length)) rv → ev_Wd D cl dA A s (ev_up ev_c0 w (ev_mix w wL w1 is) is) ws1 H1 locs1 → (∀ k : Nat, k < ws.length → (∀ j : Nat, is[j]? ≠ some k) → ws1[k]? = ws[k]?) → (∀ j k : Nat, j < w1.length → is[j]? = some k → (wL.getD j ev_c0).1 = 9 → ws1[k]? = ws[k]?) → W p l e R s m args below meth c H1 locs1 (nc + mc) (ns + ms) Q (F0 m (pc + 3) ls (rv.toList ++ rs))) : W p l e R s m args below meth c H locs nc ns Q (F0 m pc ls (ys ++ .ref b :: rs)) := by
  obtain ⟨h4, h6, h7, h8⟩ := hWd
  have hlen : ys.length = n := by rw [← hys.len, hS1]
  obtain ⟨E, hE, hr⟩ := h4.at hw hb
  rcases hr with ⟨-, gs, rfl, -⟩ | ⟨hr, -⟩ | ⟨hr, -⟩ | ⟨hr, -⟩ | hr
  · have hrec := va_recv X.2.1.1 h6 hc hE
    rw [hq] at hrec
    obtain ⟨s1, s2, s3, s4, s5⟩ := ev_subw hdis hcells h4 h6 h7
    have hfr := ev_free s5 h8 X.2.2.1
    have hav : ev_sr ((ev_wl ws is).map Prod.fst) asL (.ref b :: ys.reverse) := ev_lerS_r s2 hargs ⟨ev_vr.rf hb, hys.rev⟩
    refine ev_callf (va_runV (As := ys.reverse) (rest := rs) X.1 (hM (.ref b :: ys.reverse) (ev_wl ws is) H.size hav s3) ⟨callB_of n X.1.2.2.2.2 (ev_goodIn hG hcode) rfl rfl rfl (X.1.2.2.2.2 _ hini) hlk hy hR, X.1.2.2.2.2 _ hins, X.1.2.2.2.2 _ hsel⟩ ⟨ev_P_blind, hrec, fun U hU hW => ⟨rfl, by rw [hU], by rw [hU]; exact s4, ev_K.moved hW.alike X.2.1, s5.weaken (fun _ _ _ _ => trivial), by rw [hU]; exact ev_tbc X h8 hW.alike hfr⟩⟩ rfl (by rw [List.length_reverse]; exact hlen) hls (by rw [List.reverse_reverse]) (lv_room hcs) hd hf) h8 (fun q _ h => hfr q h) hfr (fun rv u H1 locs1 b1 b2 b3 b4 b6 b7 b8 => ?_)
    have F : ev_F D cl dA A ws u is w w1 H H1 := ⟨hdis, s1, h4, h6, h7, b2, b3, b4, b6, b7, hfr⟩
    refine kk rv (ev_up ev_d0 ws u is) H1 locs1 (ev_F_old F) ?_ ⟨ev_F_W F hwok hz (ev_lerW_at hcells).1, ev_F_P F, ev_F_D F, b8⟩ (fun k hk hj => ev_up_old hk hj) (fun j k hj hk h9 => ?_)
    · rw [h4.1]
      exact ev_rr_rn (ev_F_new F) b1
    · obtain ⟨k', q', g1, g2, g3⟩ := ev_F_fz F hz (ev_lerW_at hcells).1 hj h9
      obtain rfl : k' = k := Option.some.inj (g1.symm.trans hk)
      rw [g2]
      exact ev_up_new (s1 k' (List.mem_of_getElem? hk)) (fun a b ha hb => hdis a b k' ha hb) hk g3
  all_goals exact absurd hr (by simp)
/-- the same, by a contract that is told -/
def ev_ckx (q : Nat × Nat × List (Nat × Nat) × List (Nat × Nat × Nat) × List ev_C × ev_R) (dd : Nat) (w : List ev_C) (as : List (Nat × Nat × Nat)) (o ci : Nat) (r : Option (Nat × Nat × Nat)) (mc ms : Nat) (is : List Nat) : Bool := va_nd is && (ev_lerW w is is q.2.2.2.2.1 && (ev_lerS is as q.2.2.2.1 && (ev_wok q.2.2.2.2.2.2.1 && (ev_fzz q.2.2.2.2.1 q.2.2.2.2.2.2.1 && (decide (q.2.1 ≤ dd) && ((match q.2.2.2.2.2.1.map (ev_rnV is w.length), r with
    | none, none => true
    | some u, some v => ev_eqS [u] [v]
    | _, _ => false) && ((q.2.2.2.2.2.2.2.1 == mc && q.2.2.2.2.2.2.2.2 == ms) && (match w[o]? with
  | some (0, c, _, _) => c == ci
  | _ => false))))))))
def ev_afx (q : Nat × Nat × List (Nat × Nat) × List (Nat × Nat × Nat) × List ev_C × ev_R) (w : List ev_C) (is : List Nat) : List ev_C := ev_upf ev_c0 w (ev_mixf w is w.length q.2.2.2.2.1 is q.2.2.2.2.2.2.1) is
theorem ev_w_cX (X : ev_X p s m args c D cl dA kt A Gs own cc nL) (hG : ∀ w ∈ Gs, (w.onTables && w.keeps) = true ∨ ∃ ty, w = .arrayClass ty) {Pg : List ev_Mt} {sm : ev_Sm} (hsm : ev_SM l D cl dA kt Gs Pg sm) {qc : Nat × Nat × List (Nat × Nat) × List (Nat × Nat × Nat) × List ev_C × ev_R} {kc : Nat} (hqc : sm[kc]? = some qc) {y : MethodName} {bytes : ByteArray} {ret : Option FieldType} {cdm : ev_Cd} {maxL idx n dd o ci mc ms b : Nat} {q : vw_C} {S1 : List (Nat × Nat × Nat)} {is : List Nat} {r : Option (Nat × Nat × Nat)} {ys rs : List Value} (hP : Pg[qc.1]? = some ((y, bytes, maxL, ret), cdm)) (hck : ev_ckx qc dd w ((2, o, 0) :: S1.reverse) o ci r mc ms is = true) (hS1 : S1.length = n) (hc : cl[ci]? = some q) (hq : q.1 = y.cls) (hcode : Cond.code y bytes maxL ret ∈ Gs) (hini : Cond.initialized y.cls ∈ Gs) (hlk : (Cond.methodLink own idx y).before args s = true) (hins : Cond.instanceMethod y ∈ Gs) (hsel : Cond.selects y.cls y y ∈ Gs)
    (hy : y.cls ≠ "java/lang/invoke/MethodHandle" ∧ y.cls ≠ "java/lang/invoke/VarHandle" ∧ (parseMethodDescriptor y.desc).map (fun d => d.parameters.length) = some n) (hmL : maxL ≤ 71) (hR : dd + 1 ≤ R.frames ∧ 90 * (dd + 1) ≤ R.locals) (hWd : ev_Wd D cl dA A s w ws H locs) (hys : ev_sr (ws.map Prod.fst) S1 ys) (hb : (ws.map Prod.fst)[o]? = some b) (hls : ls.size = nL) (hcs : (rs.map fun v => v.category).sum ≤ 8) (hf : nc + mc ≤ R.cells ∧ ns + ms ≤ R.slots) (hd : decode cc pc = .ok (.invokevirtual idx, 3))
    (kk : ∀ (rv : Option Value) (ws1 : va_W) (H1 : Heap) (locs1 : List Loc), ev_ext (ws.map Prod.fst) (ws1.map Prod.fst) → ev_rr (ws1.map Prod.fst) r rv → ev_Wd D cl dA A s (ev_afx qc w is) ws1 H1 locs1 → (∀ k : Nat, k < ws.length → (∀ j : Nat, is[j]? ≠ some k) → ws1[k]? = ws[k]?) → (∀ j k : Nat, j < qc.2.2.2.2.2.2.1.length → is[j]? = some k → (qc.2.2.2.2.1.getD j ev_c0).1 = 9 → ws1[k]? = ws[k]?) → W p l e R s m args below meth c H1 locs1 (nc + mc) (ns + ms) Q (F0 m (pc + 3) ls (rv.toList ++ rs))) : W p l e R s m args below meth c H locs nc ns Q (F0 m pc ls (ys ++ .ref b :: rs)) := by
  have hM := hsm qc (List.mem_of_getElem? hqc) _ _ _ _ _ hP
  obtain ⟨ck, cdp, cps, cas, cw, cr, cw1, cmc, cms⟩ := qc
  unfold ev_ckx at hck
  simp only [Bool.and_eq_true, decide_eq_true_eq, beq_iff_eq] at hck
  obtain ⟨x1, x2, x3, x4, x5, x8, k3, ⟨rfl, rfl⟩, k2⟩ := hck
  have hrr : cr.map (ev_rnV is w.length) = r := by
    revert k3
    cases cr.map (ev_rnV is w.length) with
    | none => cases r with
      | none => intro _; rfl
      | some v => intro h; cases h
    | some u => cases r with
      | none => intro h; cases h
      | some v => intro h; rw [(List.cons.inj (ev_eqS_r h)).1]
  split at k2
  · next c0 z0 f0 hw =>
    have hci : c0 = ci := by simpa using k2
    subst hci
    have hil := (ev_lerW_at x2).1
    have hwl : cw.length ≤ cw1.length := by
      have x5b := x5
      unfold ev_fzz at x5b
      rw [Bool.and_eq_true] at x5b
      exact of_decide_eq_true x5b.1
    refine ev_w_fX (d := cdp) X hG hM (va_nd_inj is x1 · · ·) x2 x3 x4 x5 hS1 hw hc hq hcode hini hlk hins hsel hy ⟨by omega, by omega⟩ hWd hys hb hls hcs hf hd (fun rv ws1 H1 locs1 a1 a2 a3 a4 a5 => kk rv ws1 H1 locs1 a1 (by rw [← hrr]; exact a2) (by rw [ev_up_fast hil hwl] at a3; exact a3) a4 a5)
  · cases k2
end LWX
