/-! Rows for the law's own walk: what it makes -/
section LWN
variable {p : Program} {l : Launch} {e : Env} {R : Room} {s : State} {m : MethodId} {args : Array Value} {below : List Frame} {meth : Method} {c : Code} {Q : State → Prop}
variable {D : va_G} {cl : List vw_C} {dA : Nat → ClassId} {kt : List FieldType} {A : Nat → Prop} {Gs : List Cond} {own : String} {cc : ByteArray} {nL : Nat}
variable {w : List ev_C} {H : Heap} {locs : List Loc} {ls : Array Slot} {ws : va_W} {nc ns pc : Nat} {rs : List Value}
theorem ev_Wd.push {cN : ev_C} {q : Nat} {E : va_E} {H1 : Heap} {locs1 : List Loc} (h : ev_wr dA w ws) (hc : ev_cr (ws.map Prod.fst ++ [q]) dA cN E) (g6 : va_P D cl (ws ++ [(q, E)]) H1) (g7 : va_D A (ws ++ [(q, E)])) (g8 : va_S A s.heap H1 locs1) : ev_Wd D cl dA A s (w ++ [cN]) (ws ++ [(q, E)]) H1 locs1 := ⟨h.push hc, g6, g7, g8⟩
theorem ev_w_new (X : ev_X p s m args c D cl dA kt A Gs own cc nL) {C : String} {T : u_T} {N ci idx : Nat} {df : List (Nat × Nat × Nat)} (hin : ∀ w ∈ u_ws C T N, w ∈ Gs) (ty0 : Nat → FieldType) (hty : ∀ k, k < N → parseFieldDescriptor (T k).2.2.1 = some (ty0 k)) (hc : cl[ci]? = some (C, T, N)) (hcl : (Cond.classLink own idx C).before args s = true) (hins : Cond.instantiable C N ∈ Gs) (hini : Cond.initialized C ∈ Gs) (hdf : ∀ j, j < N → defaultValue (ty0 j) = vp_V (df.map ev_dv) j) (hdt : ∀ v ∈ df, v = (0, 2147483648, 2147483648) ∨ v = (3, 0, 0) ∨ v = (1, 0, 0)) (hd : decode cc pc = .ok (.new idx, 3)) (hR : nc + 1 ≤ R.cells) (hR2 : ns + N ≤ R.slots) (hWd : ev_Wd D cl dA A s w ws H locs)
    (kk : ∀ (q : Nat) (E : va_E) (H1 : Heap), ev_Wd D cl dA A s (w ++ [(0, ci, 0, df)]) (ws ++ [(q, E)]) H1 locs → W p l e R s m args below meth c H1 locs (nc + 1) (ns + N) Q (F0 m (pc + 3) ls (.ref q :: rs))) : W p l e R s m args below meth c H locs nc ns Q (F0 m pc ls rs) := by
  obtain ⟨h4, h6, h7, h8⟩ := hWd
  exact va_new X.1.1 X.1.2.1 X.1.2.2.2.2 hin ty0 hty X.1.2.2.2.1 hcl (X.1.2.2.2.2 _ hins) (X.1.2.2.2.2 _ hini) X.2.1.1 h6 h7 h8 X.2.2.1 hc hdf hR hR2 hd (fun q H1 g6 g7 g8 => kk q _ H1 (ev_Wd.push h4 (Or.inl ⟨rfl, _, rfl, ev_df_r _ df hdt⟩) g6 g7 g8))
theorem ev_w_newL (X : ev_X p s m args c D cl dA kt A Gs own cc nL) {kd n : Nat} (hkt : kt[kd]? = some .long) (harr : Cond.arrayClass .long ∈ Gs) (hn0 : n < 2147483648) (hby : n * componentBytes .long ≤ 536870912) (hd : decode cc pc = .ok (.newarray .long, 2)) (hR : nc + 1 ≤ R.cells) (hR2 : ns + n ≤ R.slots) (hWd : ev_Wd D cl dA A s w ws H locs)
    (kk : ∀ (q : Nat) (E : va_E) (H1 : Heap), ev_Wd D cl dA A s (w ++ [(3, kd, n, [])]) (ws ++ [(q, E)]) H1 locs → W p l e R s m args below meth c H1 locs (nc + 1) (ns + n) Q (F0 m (pc + 2) ls (.ref q :: rs))) : W p l e R s m args below meth c H locs nc ns Q (F0 m pc ls (.int (nI n) :: rs)) := by
  obtain ⟨h4, h6, h7, h8⟩ := hWd
  refine va_newa (atype := .long) (ty := .long) (N' := n) (a0 := (n, .inr (.inl (fun _ => 0)))) X.1.1 X.1.2.1 (show (Cond.arrayClass (newarray.typeOf .long)).before args s = true from X.1.2.2.2.2 _ harr) rfl X.2.1.1 h6 h7 h8 X.2.2.1 (fun cA => by rw [vp_cell_l]; rfl) (nI_pos hn0) (nI_clamp hn0) hby hR hR2 hd (fun q cA H1 gK g6 g7 g8 => ?_)
  have hA : cA = dA kd := ev_RA_inj (gK.2 (ev_tys dA kt).length (cA, .long) (by simp)).2 (X.2.1.1.2 kd (dA kd, .long) (ev_tys_at hkt)).2
  subst hA
  exact kk q _ H1 (ev_Wd.push h4 (Or.inr (Or.inr (Or.inr (Or.inl ⟨rfl, _, rfl⟩)))) g6 g7 g8)
/-- a constructor is called, by the first contract that fits -/
theorem ev_w_cI (X : ev_X p s m args c D cl dA kt A Gs own cc nL) (hG : ∀ w ∈ Gs, (w.onTables && w.keeps) = true ∨ ∃ ty, w = .arrayClass ty) {Pg : List ev_Mt} {sm : ev_Sm} (hsm : ev_SM l D cl dA kt Gs Pg sm) {y : MethodName} {bytes : ByteArray} {cdm : ev_Cd} {maxL idx n dd o ci mi mc ms b : Nat} {S1 : List (Nat × Nat × Nat)} {ys : List Value} (hP : Pg[mi]? = some ((y, bytes, maxL, none), cdm)) (hck : ev_cks sm dd w ((2, o, 0) :: S1.reverse) mi o ci none mc ms = true) (hS1 : S1.length = n) (hcode : Cond.code y bytes maxL none ∈ Gs) (hini : Cond.initialized y.cls ∈ Gs) (hlk : (Cond.methodLink own idx y).before args s = true) (hins : Cond.instanceMethod y ∈ Gs) (hy1 : y.name = "<init>")
    (hy : y.cls ≠ "java/lang/invoke/MethodHandle" ∧ y.cls ≠ "java/lang/invoke/VarHandle" ∧ (parseMethodDescriptor y.desc).map (fun d => d.parameters.length) = some n) (hmL : maxL ≤ 71) (hR : dd + 1 ≤ R.frames ∧ 90 * (dd + 1) ≤ R.locals) (hWd : ev_Wd D cl dA A s w ws H locs) (hys : ev_sr (ws.map Prod.fst) S1 ys) (hb : (ws.map Prod.fst)[o]? = some b) (hls : ls.size = nL) (hcs : (rs.map fun v => v.category).sum ≤ 8) (hf : nc + mc ≤ R.cells ∧ ns + ms ≤ R.slots) (hd : decode cc pc = .ok (.invokespecial idx, 3))
    (kk : ∀ (ws1 : va_W) (H1 : Heap) (locs1 : List Loc), ev_ext (ws.map Prod.fst) (ws1.map Prod.fst) → ev_Wd D cl dA A s (ev_aft sm dd w ((2, o, 0) :: S1.reverse) mi) ws1 H1 locs1 → W p l e R s m args below meth c H1 locs1 (nc + mc) (ns + ms) Q (F0 m (pc + 3) ls rs)) : W p l e R s m args below meth c H locs nc ns Q (F0 m pc ls (ys ++ .ref b :: rs)) := by
  unfold ev_cks at hck
  unfold ev_aft at kk
  rw [Bool.and_eq_true] at hck
  obtain ⟨k1, k2⟩ := hck
  cases hr : sm.findSome? (ev_att dd w ((2, o, 0) :: S1.reverse) mi) with
  | none => rw [hr] at k1; cases k1
  | some q9 =>
    rw [hr] at k1 kk
    dsimp only at k1 kk
    obtain ⟨qc, hqm, hmi, is, x1, x2, x3, x4, x5, x8, x9⟩ := ev_att_ok hr
    have hM := hsm qc hqm _ _ _ _ _ (by rw [hmi]; exact hP)
    obtain ⟨ck, cdp, cps, cas, cw, cr, cw1, cmc, cms⟩ := qc
    obtain ⟨q1, q2, q3, q4⟩ := q9
    obtain ⟨y1, y2, y3, y4⟩ : q1 = cr.map (ev_rnV is w.length) ∧ q2 = ev_up ev_c0 w (ev_mix w cw cw1 is) is ∧ q3 = cmc ∧ q4 = cms := ⟨congrArg Prod.fst x9, congrArg (fun r => r.2.1) x9, congrArg (fun r => r.2.2.1) x9, congrArg (fun r => r.2.2.2) x9⟩
    subst y1 y2 y3 y4
    simp only [Bool.and_eq_true, beq_iff_eq] at k1
    obtain ⟨k3, rfl, rfl⟩ := k1
    cases cr with
    | some v => cases k3
    | none =>
      have x8 : cdp ≤ dd := x8
      exact ev_w_fI X hG hM x1 x2 x3 x4 x5 hS1 hcode hini hlk hins hy1 hy ⟨by omega, by omega⟩ hWd hys hb hls hcs hf hd kk
end LWN
