/-! More rows for walks by hand: calls that also tell what stays; a static method with handlers is called -/
theorem ev_up_old {α : Type} {d0 : α} {ws ul : List α} {is : List Nat} {k : Nat} (hk : k < ws.length) (h : ∀ j : Nat, is[j]? ≠ some k) : (ev_up d0 ws ul is)[k]? = ws[k]? := by
  rw [ev_up_at (by omega), ev_getD_some (d0 := d0) hk]
  congr 1
  unfold ev_pick
  rw [if_pos hk]
  cases hx : ev_ixo is k 0 with
  | none => rfl
  | some j =>
    obtain ⟨-, h2⟩ := ev_ixo_some hx
    exact absurd h2 (h _)
theorem ev_up_new {α : Type} {d0 x : α} {ws ul : List α} {is : List Nat} {j k : Nat} (hk : k < ws.length) (hd : ∀ a b : Nat, is[a]? = some k → is[b]? = some k → a = b) (hj : is[j]? = some k) (hx : ul[j]? = some x) : (ev_up d0 ws ul is)[k]? = some x := by
  rw [ev_up_at (by omega)]
  congr 1
  unfold ev_pick
  rw [if_pos hk, ev_ixo_at hd hj, Nat.zero_add]
  exact ev_getD hx
section LWX
variable {p : Program} {l : Launch} {e : Env} {R : Room} {s : State} {m : MethodId} {args : Array Value} {below : List Frame} {meth : Method} {c : Code} {Q : State → Prop}
variable {D : va_G} {cl : List vw_C} {dA : Nat → ClassId} {kt : List FieldType} {A : Nat → Prop} {Gs : List Cond} {own : String} {cc : ByteArray} {nL : Nat}
variable {w : List ev_C} {H : Heap} {locs : List Loc} {ls : Array Slot} {ws : va_W} {nc ns pc : Nat}
/-- a method of an object is called: which cells are as they were -/
theorem ev_w_fX (X : ev_X p s m args c D cl dA kt A Gs own cc nL) (hG : ∀ w ∈ Gs, (w.onTables && w.keeps) = true ∨ ∃ ty, w = .arrayClass ty) {y : MethodName} {bytes : ByteArray} {ret : Option FieldType} {maxL idx n d o z9 ci z mc ms b : Nat} {q : vw_C} {fs S1 asL : List (Nat × Nat × Nat)} {w1 wL : List ev_C} {is : List Nat} {r : Option (Nat × Nat × Nat)} {ys rs : List Value} (hM : ev_Met l D cl dA kt Gs y bytes maxL ret d asL wL (r, w1, mc, ms)) (hdis : ∀ a b k : Nat, is[a]? = some k → is[b]? = some k → a = b) (hcells : ev_lerW w is is wL = true) (hargs : ev_lerS is ((2, o, z9) :: S1.reverse) asL = true) (hwok : ev_wok w1 = true) (hz : ev_fzz wL w1 = true) (hS1 : S1.length = n) (hw : w[o]? = some (0, ci, z, fs)) (hc : cl[ci]? = some q) (hq : q.1 = y.cls) (hcode : Cond.code y bytes maxL ret ∈ Gs) (hini : Cond.initialized y.cls ∈ Gs) (hlk : (Cond.methodLink own idx y).before args s = true) (hins : Cond.instanceMethod y ∈ Gs) (hsel : Cond.selects y.cls y y ∈ Gs)
    (hy : y.cls ≠ "java/lang/invoke/MethodHandle" ∧ y.cls ≠ "java/lang/invoke/VarHandle" ∧ (parseMethodDescriptor y.desc).map (fun d => d.parameters.length) = some n) (hR : d + 1 ≤ R.frames ∧ 8 + (maxL + 11) + 90 * d ≤ R.locals) (hWd : ev_Wd D cl dA A s w ws H locs) (hys : ev_sr (ws.map Prod.fst) S1 ys) (hb : (ws.map Prod.fst)[o]? = some b) (hls : ls.size = nL) (hcs : (rs.map fun v => v.category).sum ≤ 8) (hf : nc + mc ≤ R.cells ∧ ns + ms ≤ R.slots) (hd : decode cc pc = .ok (.invokevirtual idx, 3))
    (kk : ∀ (rv : Option Value) (ws1 : va_W) (H1 : Heap) (locs1 : List Loc), ev_ext (ws.map Prod.fst) (ws1.map Prod.fst) → ev_rr (ws1.map Prod.fst) (r.map (ev_rnV is w.length)) rv → ev_Wd D cl dA A s (ev_up ev_c0 w (ev_mix w wL w1 is) is) ws1 H1 locs1 → (∀ k : Nat, k < ws.length → (∀ j : Nat, is[j]? ≠ some k) → ws1[k]? = ws[k]?) → (∀ j k : Nat, j < w1.length → is[j]? = some k → (wL.getD j ev_c0).1 = 9 → ws1[k]? = ws[k]?) → W p l e R s m args below meth c H1 locs1 (nc + mc) (ns + ms) Q (F0 m (pc + 3) ls (rv.toList ++ rs))) : W p l e R s m args below meth c H locs nc ns Q (F0 m pc ls (ys ++ .ref b :: rs)) := by
  obtain ⟨h4, h6, h7, h8⟩ := hWd
  have hlen : ys.length = n := by rw [← hys.len, hS1]
  obtain ⟨E, hE, hr⟩ := h4.at hw hb
  rcases hr with ⟨-, gs, rfl, -⟩ | ⟨hr, -⟩ | ⟨hr, -⟩ | ⟨hr, -⟩ | hr
  · have hrec := va_recv X.2.1.1 h6 hc hE
    rw [hq] at hrec
    obtain ⟨s1, s2, s3, s4, s5⟩ := ev_subw hdis hcells h4 h6 h7
    have hfr := ev_free s5 h8 X.2.2.1
    have hav : ev_sr ((ev_wl ws is).map Prod.fst) asL (.ref b :: ys.reverse) := ev_lerS_r s2 hargs ⟨ev_vr.rf hb, hys.rev⟩
    refine ev_callf (va_runV (As := ys.reverse) (rest := rs) X.1 (hM (.ref b :: ys.reverse) (ev_wl ws is) H.size hav s3) ⟨callB_of n X.1.2.2.2.2 (ev_goodIn hG hcode) rfl rfl rfl (X.1.2.2.2.2 _ hini) hlk hy hR, X.1.2.2.2.2 _ hins, X.1.2.2.2.2 _ hsel⟩ ⟨ev_P_blind, hrec, fun U hU hW => ⟨rfl, by rw [hU], by rw [hU]; exact s4, ev_K.moved hW.alike X.2.1, s5.weaken (fun _ _ _ _ => trivial), by rw [hU]; exact ev_tbc X h8 hW.alike hfr⟩⟩ rfl (by rw [List.length_reverse]; exact hlen) hls (by rw [List.reverse_reverse]) (lv_room hcs) hd hf) h8 (fun q _ h => hfr q h) hfr (fun rv u H1 locs1 b1 b2 b3 b4 b6 b7 b8 => ?_)
    have F : ev_F D cl dA A ws u is w w1 H H1 := ⟨hdis, s1, h4, h6, h7, b2, b3, b4, b6, b7, hfr⟩
    refine kk rv (ev_up ev_d0 ws u is) H1 locs1 (ev_F_old F) ?_ ⟨ev_F_W F hwok hz (ev_lerW_at hcells).1, ev_F_P F, ev_F_D F, b8⟩ (fun k hk hj => ev_up_old hk hj) (fun j k hj hk h9 => ?_)
    · rw [h4.1]
      exact ev_rr_rn (ev_F_new F) b1
    · obtain ⟨k', q', g1, g2, g3⟩ := ev_F_fz F hz (ev_lerW_at hcells).1 hj h9
      obtain rfl : k' = k := Option.some.inj (g1.symm.trans hk)
      rw [g2]
      exact ev_up_new (s1 k' (List.mem_of_getElem? hk)) (fun a b ha hb => hdis a b k' ha hb) hk g3
  all_goals exact absurd hr (by simp)
/-- the same, by a contract that is told -/
def ev_ckx (q : Nat × Nat × List (Nat × Nat) × List (Nat × Nat × Nat) × List ev_C × ev_R) (dd : Nat) (w : List ev_C) (as : List (Nat × Nat × Nat)) (o ci : Nat) (r : Option (Nat × Nat × Nat)) (mc ms : Nat) (is : List Nat) : Bool := va_nd is && (ev_lerW w is is q.2.2.2.2.1 && (ev_lerS is as q.2.2.2.1 && (ev_wok q.2.2.2.2.2.2.1 && (ev_fzz q.2.2.2.2.1 q.2.2.2.2.2.2.1 && (decide (q.2.1 ≤ dd) && ((match q.2.2.2.2.2.1.map (ev_rnV is w.length), r with
    | none, none => true
    | some u, some v => ev_eqS [u] [v]
    | _, _ => false) && ((q.2.2.2.2.2.2.2.1 == mc && q.2.2.2.2.2.2.2.2 == ms) && (match w[o]? with
  | some (0, c, _, _) => c == ci
  | _ => false))))))))
def ev_afx (q : Nat × Nat × List (Nat × Nat) × List (Nat × Nat × Nat) × List ev_C × ev_R) (w : List ev_C) (is : List Nat) : List ev_C := ev_up ev_c0 w (ev_mix w q.2.2.2.2.1 q.2.2.2.2.2.2.1 is) is
theorem ev_w_cX (X : ev_X p s m args c D cl dA kt A Gs own cc nL) (hG : ∀ w ∈ Gs, (w.onTables && w.keeps) = true ∨ ∃ ty, w = .arrayClass ty) {Pg : List ev_Mt} {sm : ev_Sm} (hsm : ev_SM l D cl dA kt Gs Pg sm) {qc : Nat × Nat × List (Nat × Nat) × List (Nat × Nat × Nat) × List ev_C × ev_R} {kc : Nat} (hqc : sm[kc]? = some qc) {y : MethodName} {bytes : ByteArray} {ret : Option FieldType} {cdm : ev_Cd} {maxL idx n dd o ci mc ms b : Nat} {q : vw_C} {S1 : List (Nat × Nat × Nat)} {is : List Nat} {r : Option (Nat × Nat × Nat)} {ys rs : List Value} (hP : Pg[qc.1]? = some ((y, bytes, maxL, ret), cdm)) (hck : ev_ckx qc dd w ((2, o, 0) :: S1.reverse) o ci r mc ms is = true) (hS1 : S1.length = n) (hc : cl[ci]? = some q) (hq : q.1 = y.cls) (hcode : Cond.code y bytes maxL ret ∈ Gs) (hini : Cond.initialized y.cls ∈ Gs) (hlk : (Cond.methodLink own idx y).before args s = true) (hins : Cond.instanceMethod y ∈ Gs) (hsel : Cond.selects y.cls y y ∈ Gs)
    (hy : y.cls ≠ "java/lang/invoke/MethodHandle" ∧ y.cls ≠ "java/lang/invoke/VarHandle" ∧ (parseMethodDescriptor y.desc).map (fun d => d.parameters.length) = some n) (hmL : maxL ≤ 71) (hR : dd + 1 ≤ R.frames ∧ 90 * (dd + 1) ≤ R.locals) (hWd : ev_Wd D cl dA A s w ws H locs) (hys : ev_sr (ws.map Prod.fst) S1 ys) (hb : (ws.map Prod.fst)[o]? = some b) (hls : ls.size = nL) (hcs : (rs.map fun v => v.category).sum ≤ 8) (hf : nc + mc ≤ R.cells ∧ ns + ms ≤ R.slots) (hd : decode cc pc = .ok (.invokevirtual idx, 3))
    (kk : ∀ (rv : Option Value) (ws1 : va_W) (H1 : Heap) (locs1 : List Loc), ev_ext (ws.map Prod.fst) (ws1.map Prod.fst) → ev_rr (ws1.map Prod.fst) r rv → ev_Wd D cl dA A s (ev_afx qc w is) ws1 H1 locs1 → (∀ k : Nat, k < ws.length → (∀ j : Nat, is[j]? ≠ some k) → ws1[k]? = ws[k]?) → (∀ j k : Nat, j < qc.2.2.2.2.2.2.1.length → is[j]? = some k → (qc.2.2.2.2.1.getD j ev_c0).1 = 9 → ws1[k]? = ws[k]?) → W p l e R s m args below meth c H1 locs1 (nc + mc) (ns + ms) Q (F0 m (pc + 3) ls (rv.toList ++ rs))) : W p l e R s m args below meth c H locs nc ns Q (F0 m pc ls (ys ++ .ref b :: rs)) := by
  have hM := hsm qc (List.mem_of_getElem? hqc) _ _ _ _ _ hP
  obtain ⟨ck, cdp, cps, cas, cw, cr, cw1, cmc, cms⟩ := qc
  unfold ev_ckx at hck
  simp only [Bool.and_eq_true, decide_eq_true_eq, beq_iff_eq] at hck
  obtain ⟨x1, x2, x3, x4, x5, x8, k3, ⟨rfl, rfl⟩, k2⟩ := hck
  have hrr : cr.map (ev_rnV is w.length) = r := by
    revert k3
    cases cr.map (ev_rnV is w.length) with
    | none => cases r with
      | none => intro _; rfl
      | some v => intro h; cases h
    | some u => cases r with
      | none => intro h; cases h
      | some v => intro h; rw [(List.cons.inj (ev_eqS_r h)).1]
  split at k2
  · next c0 z0 f0 hw =>
    have hci : c0 = ci := by simpa using k2
    subst hci
    refine ev_w_fX (d := cdp) X hG hM (va_nd_inj is x1 · · ·) x2 x3 x4 x5 hS1 hw hc hq hcode hini hlk hins hsel hy ⟨by omega, by omega⟩ hWd hys hb hls hcs hf hd (fun rv ws1 H1 locs1 a1 a2 a3 a4 a5 => kk rv ws1 H1 locs1 a1 (by rw [← hrr]; exact a2) a3 a4 a5)
  · cases k2
/-- a static method with handlers is called -/
theorem th_runS {y : MethodName} {bytes : ByteArray} {maxL mc ms index cells slots : Nat} {ret : Option FieldType} {hh : List (Nat × Nat × Nat × Nat)} {wd Ts : List Cond} {rm : Room} {Pc : Array Value → State → Prop} {Qc : Array Value → State → Outcome → State → Prop} {free : Addr → Prop} {As rest : List Value} {g : JFrame} (S : CallFix p m c cc nL s args Ts own) (hM : Met l y wd rm Pc Qc mc ms free) (hblind : FrameBlind Pc) (hrc : rm.cells = mc) (hrs : rm.slots = ms) (hRf : rm.frames + 1 ≤ R.frames) (hRl : 8 + (maxL + 11) + rm.locals ≤ R.locals)
    (hws : ∀ w ∈ wd, ∀ a' U, s.WarmedH U.vm → w.before a' U = true) (hcode : Cond.codeWith y bytes maxL ret hh ∈ wd) (hini : (Cond.initialized y.cls).before args s = true) (hlink : (Cond.methodLink own index y).before args s = true) (hstat : (Cond.static y).before args s = true) (hy : y.cls ≠ "java/lang/invoke/MethodHandle" ∧ y.cls ≠ "java/lang/invoke/VarHandle") (hlen : (parseMethodDescriptor y.desc).map (fun d => d.parameters.length) = some As.length)
    (hPc : ∀ U : State, U.heap = H → s.WarmedH U.vm → Pc As.toArray U) (hg : g.method = m) (hsize : g.locals.size = nL) (hstack : g.stack = As.reverse ++ rest) (hW : 2 * g.monitorRoom + (rest.map fun v => v.category).sum ≤ 8) (hdg : decode cc g.pc = .ok (.invokestatic index, 3)) (hf : cells + mc ≤ R.cells ∧ slots + ms ≤ R.slots) :
    va_Run p l e R s m args below meth c H locs cells slots mc ms g rest (Qc As.toArray) free := by
  have hK : Back l R p e below s args y 3 8 (PreOf R mc ms Pc) (PostOf Qc mc ms free) := va_backW hM hblind hrc hrs hRf hRl hws hcode (fun a' U hW => word_at hW (Or.inl rfl) hini)
  obtain ⟨hx, hb, hml, ho, -⟩ := S
  intro T hT X
  obtain ⟨mk, methM, cM, hn, hmM, hcM, -, -, -, -, -, hsig⟩ := Cond.codeWith_spec (hws _ hcode args s (State.WarmedH.refl s))
  have hst := Cond.static_spec hn hmM hstat
  obtain ⟨kP, hkP, -⟩ := className_of_methodNamed hn
  have hki := Cond.initialized_spec (findClass_of_methodNamed hn) hkP hini
  obtain ⟨vm1, X1, st1⟩ := X.invokestatic hx ho hlink hn hmM hst hkP hki hy (g := g) hg (argsL := As) (rest := rest) (by
    rw [hsig] at hlen
    exact (Option.some.inj hlen).symm) hstack (by rw [hb]; exact hdg)
  obtain ⟨v, ⟨U', l2, c2, s2⟩, X', ⟨g', mk', t, L, e1, e2, hq, h1, hL, h2, h3⟩, st⟩ := hK m meth c ⟨T.setVm vm1, locs, cells, slots⟩ { g with stack := rest } (.invokestatic index) mk As.toArray X1 hg (hsize.trans hml.symm) (by rw [hb]; exact hdg) hW (X1.named hn) ⟨hf.1, hf.2, hPc (T.setVm vm1) hT X1.warmed⟩
  dsimp only [Pt.U, Pt.locs, Pt.cells, Pt.slots] at X' e1 e2 h1 h2 h3 st
  subst h1; subst h2; subst h3
  exact ⟨v, (T.setVm vm1).calling g' mk' As.toArray, t, U', L, hT, X', hL, e1, e2, hq, fun target h => st1 _ fun acts => by rw [doInvoke_state]; exact st.trans h⟩
/-- a helper has answered 1: all that was there is as it was -/
theorem th_ret1 {mc ms cells slots : Nat} {rest st0 : List Value} {a : Array Value} (hr : va_Run p l e R s m args below meth c H locs cells slots mc ms (F0 m pc ls st0) rest (th_Qh a) (fun _ => False)) (hWd : ev_Wd D cl dA A s w ws H locs)
    (kk : ∀ (H1 : Heap) (locs1 : List Loc), ev_Wd D cl dA A s w ws H1 locs1 → W p l e R s m args below meth c H1 locs1 (cells + mc) (slots + ms) Q (F0 m (pc + 3) ls (.int 1 :: rest))) : W p l e R s m args below meth c H locs cells slots Q (F0 m pc ls st0) := by
  obtain ⟨h4, h6, h7, h8⟩ := hWd
  intro T hT X
  obtain ⟨v, st0', t, T', L, h0, X', hL, e1, e2, ⟨hv, hz, hk⟩, st⟩ := hr T hT X
  cases hv
  rw [h0] at hz hk
  obtain ⟨t2, a1, c1⟩ := kk T'.heap (locs ++ L) ⟨h4, h6.kept (fun k x hx => by rw [e1]; exact hk x.1 ((h6 k x hx).lt)), h7, ⟨Nat.le_trans h8.1 (by rw [e1]; exact hz), fun q g1 g2 => by rw [e1, hk q (Nat.lt_of_lt_of_le g1 h8.1)]; exact h8.2.1 q g1 g2, fun q hq => by
      rcases List.mem_append.mp hq with h | h
      · exact h8.2.2 q h
      · exact (hL q h).elim⟩⟩ T' rfl X'
  exact ⟨t2, st t2 a1, c1⟩
/-- how a helper ends that has put a long into its array, and answered 0 -/
def th_Qi (D : va_G) (cl : List vw_C) (dA : Nat → ClassId) (ws0 : va_W) (A : Nat → Prop) (w : List ev_C) (po : Nat) (x : Int64) : Array Value → State → Outcome → State → Prop := fun _ st oc t =>
  (∃ u : va_W, oc = .returned (some (.int 0)) ∧ ev_ext (ws0.map Prod.fst) (u.map Prod.fst) ∧ ev_wr dA w u ∧ va_P D cl u t.heap ∧ va_D A u ∧ ∃ (a : Nat) (f : Nat → Int64), u[po]? = some (a, .inl (dA 2, 1, .inr (.inl f))) ∧ f 0 = x) ∧ va_F A st t
theorem th_ret0 {mc ms cells slots po : Nat} {x : Int64} {w1 : List ev_C} {rest st0 : List Value} {a : Array Value} (hr : va_Run p l e R s m args below meth c H locs cells slots mc ms (F0 m pc ls st0) rest (th_Qi D cl dA ws (va_A ws H.size) w1 po x a) (va_A ws H.size)) (hA : ∀ q, s.heap.size ≤ q → A q) (hWd : ev_Wd D cl dA A s w ws H locs)
    (kk : ∀ (u : va_W) (H1 : Heap) (locs1 : List Loc), ev_ext (ws.map Prod.fst) (u.map Prod.fst) → ev_Wd D cl dA A s w1 u H1 locs1 → (∃ (a : Nat) (f : Nat → Int64), u[po]? = some (a, .inl (dA 2, 1, .inr (.inl f))) ∧ f 0 = x) → W p l e R s m args below meth c H1 locs1 (cells + mc) (slots + ms) Q (F0 m (pc + 3) ls (.int 0 :: rest))) : W p l e R s m args below meth c H locs cells slots Q (F0 m pc ls st0) := by
  obtain ⟨h4, h6, h7, h8⟩ := hWd
  have hfr := ev_free h7 h8 hA
  intro T hT X
  obtain ⟨v, st0', t, T', L, h0, X', hL, e1, e2, ⟨⟨u, hv, b1, b2, b3, b4, b5⟩, hz, hk⟩, st⟩ := hr T hT X
  cases hv
  rw [h0] at hz hk
  obtain ⟨t2, a1, c1⟩ := kk u T'.heap (locs ++ L) b1 ⟨b2, by rw [e1]; exact b3, b4.weaken (fun _ _ _ h => hfr _ h), ⟨Nat.le_trans h8.1 (by rw [e1]; exact hz), fun q g1 g2 => by rw [e1, hk q (Nat.lt_of_lt_of_le g1 h8.1) (fun z => g2 (hfr q z))]; exact h8.2.1 q g1 g2, fun q hq => by
      rcases List.mem_append.mp hq with h | h
      · exact h8.2.2 q h
      · exact hfr _ (hL q h)⟩⟩ b5 T' rfl X'
  exact ⟨t2, st t2 a1, c1⟩
end LWX
theorem th_str {args : Array Value} {own tx : String} {k : Nat} {s : State} (h : (Cond.stringRef own k tx).before args s = true) : ∃ q : Nat, vk_R own k tx q s := by
  have h2 : ∃ a, s.resolvedAt? own k = some (.string a) := by
    have h1 := h
    simp only [Cond.before, Cond.holds, Cond.value] at h1
    cases hc : s.vm.findClass own with
    | none => simp [hc] at h1
    | some cur =>
      cases hr : s.resolvedAt? own k with
      | none => simp [hc, hr] at h1
      | some r =>
        cases r with
        | string a => exact ⟨a, rfl⟩
        | _ => simp [hc, hr] at h1
  obtain ⟨a, ha⟩ := h2
  refine ⟨a, vk_R.of (A := args) h ?_⟩
  unfold State.resolvedAt? at ha
  simp only [Term.eval]
  cases hc : s.vm.findClass own with
  | none => simp [hc] at ha
  | some cur =>
    cases hk : s.vm.classes[cur]? with
    | none => simp [hc, hk] at ha
    | some kc =>
      simp [hc, hk] at ha
      simp [hk, ha]
theorem th_neg {i : Int32} (h : ev_in (0, 0, 2147483647) i) : i < 0 := by
  obtain ⟨-, h2⟩ := h
  have h2 : ev_sx i ≤ 2147483647 := h2
  have e := ev_sx_eq i
  rw [Int32.lt_iff_toInt_lt]
  have z : (0 : Int32).toInt = 0 := by decide +kernel
  omega
theorem th_gt {i : Int32} {n : Nat} (hn : n < 2147483648) (h : ev_in (0, n + 2147483649, 4294967295) i) : nI n < i := by
  obtain ⟨h1, -⟩ := h
  have h1 : n + 2147483649 ≤ ev_sx i := h1
  have e := ev_sx_eq i
  rw [Int32.lt_iff_toInt_lt, nI_toInt hn]
  omega
