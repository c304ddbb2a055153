/-! The rows of the small machine that make and change cells -/
def ev_fit (ty : FieldType) (v : ev_V) : Bool := match ty with
  | .int => decide (v.1 = 0)
  | .boolean => decide (v.1 = 0 ∧ 2147483648 ≤ v.2.1 ∧ v.2.2 ≤ 2147483649)
  | .long => decide (v.1 = 1)
  | .object _ => decide (v.1 = 2 ∨ v.1 = 3)
  | .array _ => decide (v.1 = 2 ∨ v.1 = 3)
  | _ => false
theorem ev_fit_ok {ty : FieldType} {v : ev_V} (h : ev_fit ty v = true) {ad : List Nat} {x : Value} (hx : ev_vr ad v x) : narrow ty x = x ∧ fits ty x = true := by
  unfold ev_fit at h
  split at h
  · obtain ⟨i, rfl, -⟩ := hx.int (of_decide_eq_true h)
    exact ⟨rfl, rfl⟩
  · have h := of_decide_eq_true h
    obtain ⟨i, rfl, hi⟩ := hx.int h.1
    have e : i = nI 0 ∨ i = nI 1 := by
      have q0 := ev_sx_nI (n := 0) (by omega)
      have q1 := ev_sx_nI (n := 1) (by omega)
      obtain ⟨a1, a2⟩ := hi
      rcases (show ev_sx i = 2147483648 ∨ ev_sx i = 2147483649 by omega) with q | q
      · exact Or.inl (ev_sx_inj (by omega))
      · exact Or.inr (ev_sx_inj (by omega))
    rcases e with rfl | rfl <;> decide +kernel
  · obtain ⟨j, rfl⟩ := hx.long (of_decide_eq_true h)
    exact ⟨rfl, rfl⟩
  · rcases of_decide_eq_true h with q | q
    · obtain ⟨a, -, rfl⟩ := hx.ref q; exact ⟨rfl, rfl⟩
    · obtain rfl := hx.null q; exact ⟨rfl, rfl⟩
  · rcases of_decide_eq_true h with q | q
    · obtain ⟨a, -, rfl⟩ := hx.ref q; exact ⟨rfl, rfl⟩
    · obtain rfl := hx.null q; exact ⟨rfl, rfl⟩
  · exact absurd h (by decide)
/-- the value of a field of a new object -/
def ev_dv (v : ev_V) : Value := if v.1 = 0 then .int 0 else if v.1 = 3 then .null else .long 0
theorem ev_dv_r (ad : List Nat) {v : ev_V} (h : v = (0, 2147483648, 2147483648) ∨ v = (3, 0, 0) ∨ v = (1, 0, 0)) : ev_vr ad v (ev_dv v) := by
  rcases h with rfl | rfl | rfl
  · exact ev_vr.it rfl ⟨by decide +kernel, by decide +kernel⟩
  · exact ev_vr.nu _ _ _
  · exact ev_vr.lg _ _ _ _
theorem ev_df_r (ad : List Nat) : ∀ (df : List (Nat × Nat × Nat)), (∀ v ∈ df, v = (0, 2147483648, 2147483648) ∨ v = (3, 0, 0) ∨ v = (1, 0, 0)) → ev_sr ad df (df.map ev_dv)
  | [], _ => trivial
  | v :: df, h => ⟨ev_dv_r ad (h v List.mem_cons_self), ev_df_r ad df (fun u hu => h u (List.mem_cons_of_mem _ hu))⟩
theorem ev_RA_inj {U : State} {a b : ClassId} {ty : FieldType} (h1 : va_RA U a ty) (h2 : va_RA U b ty) : a = b := by
  cases ty with
  | object C =>
    obtain ⟨_, _, _, _, _, h1⟩ := h1
    obtain ⟨_, _, _, _, _, h2⟩ := h2
    exact Option.some.inj (h1.symm.trans h2)
  | _ => exact Option.some.inj (h1.symm.trans h2)
section EV3
variable {p : Program} {l : Launch} {e : Env} {R : Room} {s : State} {m : MethodId} {args : Array Value} {below : List Frame} {meth : Method} {c : Code} {Q : State → Prop}
variable {D : va_G} {cl : List vw_C} {dA : Nat → ClassId} {kt : List FieldType} {A : Nat → Prop} {ws0 : va_W} {Gs : List Cond} {own : String} {cc : ByteArray} {nL : Nat} {cd : ev_Cd}
variable {ix nc ns : Nat} {L : List (Nat × (Nat × Nat × Nat))} {S : List (Nat × Nat × Nat)} {w : List ev_C}
theorem ev_s_putf (X : ev_X p s m args c D cl dA kt A Gs own cc nL) {C : String} {T : u_T} {N ci z idx kf i y9 : Nat} {fs : List (Nat × Nat × Nat)} {v : ev_V} (hin : ∀ w ∈ u_ws C T N, w ∈ Gs) (ty0 : Nat → FieldType) (hty : ∀ k, k < N → parseFieldDescriptor (T k).2.2.1 = some (ty0 k)) (hnm : ∀ a, a < N → ∀ b, b < N → a ≠ b → (T a).2.1 ≠ (T b).2.1) (hc : cl[ci]? = some (C, T, N)) (hk : kf < N) (hlk : Cond.fieldLink own idx (T kf).1 (T kf).2.1 (T kf).2.2.1 ∈ Gs) (hfin : (T kf).2.2.2 = false) (hd : decode cc (ev_pc cd ix) = .ok (.putfield idx, 3)) (hn : ev_pc cd (ix + 1) = ev_pc cd ix + 3) (hw : w[i]? = some (0, ci, z, fs)) (hl : kf < fs.length) (hv : ev_fit (ty0 kf) v = true)
    (k : ev_G p l e R s m args below meth c Q D cl dA A ws0 nL cd (ix + 1, L, S, w.set i (0, ci, z, fs.set kf v), nc, ns)) : ev_G p l e R s m args below meth c Q D cl dA A ws0 nL cd (ix, L, v :: (2, i, y9) :: S, w, nc, ns) := by
  intro H locs ls vs lv ws h1 h2 h3 h4 h5 h6 h7 h8
  have h3q := h3.cons
  clear h3
  obtain ⟨y, ys, rfl, hy, h3⟩ := h3q
  have h3q := h3.cons
  clear h3
  obtain ⟨x, zs, rfl, hx, h3⟩ := h3q
  obtain ⟨a, ha, rfl⟩ := hx.ref rfl
  obtain ⟨E, hE, hr⟩ := h4.at hw ha
  rcases hr with ⟨-, gs, rfl, hg⟩ | ⟨hr, -⟩ | ⟨hr, -⟩ | ⟨hr, -⟩ | hr
  · obtain ⟨hf1, hf2⟩ := ev_fit_ok hv hy
    have hg : ev_sr (ws.map Prod.fst) fs gs := hg
    refine va_put X.1.1 X.1.2.1 X.1.2.2.2.2 hin ty0 hty hnm X.1.2.2.2.1 X.2.1.1 h6 h7 h8 i hE hc kf hk (X.1.2.2.2.2 _ hlk) (fun _ h9 => h9) hfin (hty kf hk) hf1 hf2 (by rw [← hg.len]; exact hl) hd (fun H1 locs1 g6 g7 g8 => ?_)
    have em := ev_map_set (e := .inr (ci, gs.set kf y)) hE
    exact ev_go k hn h1 (by rw [em]; exact h2) (by rw [em]; exact h3) (h4.set hE (Or.inl ⟨rfl, _, rfl, hg.set hy kf⟩)) (h5.set hE (by simp)) g6 g7 g8
  all_goals exact absurd hr (by simp)
theorem ev_s_putF (X : ev_X p s m args c D cl dA kt A Gs own cc nL) {C : String} {T : u_T} {N ci z idx kf i y9 : Nat} {fs : List (Nat × Nat × Nat)} {v : ev_V} (hin : ∀ w ∈ u_ws C T N, w ∈ Gs) (ty0 : Nat → FieldType) (hty : ∀ k, k < N → parseFieldDescriptor (T k).2.2.1 = some (ty0 k)) (hnm : ∀ a, a < N → ∀ b, b < N → a ≠ b → (T a).2.1 ≠ (T b).2.1) (hc : cl[ci]? = some (C, T, N)) (hk : kf < N) (hlk : Cond.fieldLink own idx (T kf).1 (T kf).2.1 (T kf).2.2.1 ∈ Gs) (hfin : (T kf).2.2.2 = true) (hin2 : meth.name = "<init>") (hdecl : (T kf).1 = own) (hd : decode cc (ev_pc cd ix) = .ok (.putfield idx, 3)) (hn : ev_pc cd (ix + 1) = ev_pc cd ix + 3) (hw : w[i]? = some (0, ci, z, fs)) (hl : kf < fs.length) (hv : ev_fit (ty0 kf) v = true)
    (k : ev_G p l e R s m args below meth c Q D cl dA A ws0 nL cd (ix + 1, L, S, w.set i (0, ci, z, fs.set kf v), nc, ns)) : ev_G p l e R s m args below meth c Q D cl dA A ws0 nL cd (ix, L, v :: (2, i, y9) :: S, w, nc, ns) := by
  intro H locs ls vs lv ws h1 h2 h3 h4 h5 h6 h7 h8
  have h3q := h3.cons
  clear h3
  obtain ⟨y, ys, rfl, hy, h3⟩ := h3q
  have h3q := h3.cons
  clear h3
  obtain ⟨x, zs, rfl, hx, h3⟩ := h3q
  obtain ⟨a, ha, rfl⟩ := hx.ref rfl
  obtain ⟨E, hE, hr⟩ := h4.at hw ha
  rcases hr with ⟨-, gs, rfl, hg⟩ | ⟨hr, -⟩ | ⟨hr, -⟩ | ⟨hr, -⟩ | hr
  · obtain ⟨hf1, hf2⟩ := ev_fit_ok hv hy
    have hg : ev_sr (ws.map Prod.fst) fs gs := hg
    refine va_putF X.1.1 X.1.2.1 X.1.2.2.2.2 hin ty0 hty hnm X.1.2.2.2.1 X.2.1.1 h6 h7 h8 i hE hc kf hk (X.1.2.2.2.2 _ hlk) (fun _ h9 => h9) hfin hin2 hdecl (hty kf hk) hf1 hf2 (by rw [← hg.len]; exact hl) hd (fun H1 locs1 g6 g7 g8 => ?_)
    have em := ev_map_set (e := .inr (ci, gs.set kf y)) hE
    exact ev_go k hn h1 (by rw [em]; exact h2) (by rw [em]; exact h3) (h4.set hE (Or.inl ⟨rfl, _, rfl, hg.set hy kf⟩)) (h5.set hE (by simp)) g6 g7 g8
  all_goals exact absurd hr (by simp)
/-- a cell has come: all that was told stays, its place is the next -/
theorem ev_pushed {cN : ev_C} {pc q : Nat} {E : va_E} {H : Heap} {locs : List Loc} {ls : Array Slot} {vs : List Value} {lv : List (Nat × Value)} {ws : va_W} (kk : ev_G p l e R s m args below meth c Q D cl dA A ws0 nL cd (ix, L, (2, w.length, 0) :: S, w ++ [cN], nc, ns)) (hn : ev_pc cd ix = pc)
    (h1 : lv_has ls nL lv) (h2 : ev_lr (ws.map Prod.fst) L lv) (h3 : ev_sr (ws.map Prod.fst) S vs) (h4 : ev_wr dA w ws) (h5 : ev_E ws0 w ws) (h9 : cN.1 ≠ 9) (hc : ev_cr (ws.map Prod.fst ++ [q]) dA cN E) (g6 : va_P D cl (ws ++ [(q, E)]) H) (g7 : va_D A (ws ++ [(q, E)])) (g8 : va_S A s.heap H locs) :
    W p l e R s m args below meth c H locs nc ns Q (F0 m pc ls (.ref q :: vs)) := by
  have em : (ws ++ [(q, E)]).map Prod.fst = ws.map Prod.fst ++ [q] := by simp
  have hx : ev_ext (ws.map Prod.fst) ((ws ++ [(q, E)]).map Prod.fst) := by rw [em]; exact ev_ext.app _ _
  refine ev_go kk hn h1 (h2.mono hx) ⟨ev_vr.rf ?_, h3.mono hx⟩ (h4.push hc) (h5.pushes h4.1 (fun c hc => by rw [List.mem_singleton.mp hc]; exact h9)) g6 g7 g8
  rw [em, h4.1, ← List.length_map (f := Prod.fst) (as := ws)]
  simp
theorem ev_s_new (X : ev_X p s m args c D cl dA kt A Gs own cc nL) {C : String} {T : u_T} {N ci idx : Nat} {df : List (Nat × Nat × Nat)} (hin : ∀ w ∈ u_ws C T N, w ∈ Gs) (ty0 : Nat → FieldType) (hty : ∀ k, k < N → parseFieldDescriptor (T k).2.2.1 = some (ty0 k)) (hc : cl[ci]? = some (C, T, N)) (hcl : Cond.classLink own idx C ∈ Gs) (hins : Cond.instantiable C N ∈ Gs) (hini : Cond.initialized C ∈ Gs) (hdf : ∀ j, j < N → defaultValue (ty0 j) = vp_V (df.map ev_dv) j) (hdt : ∀ v ∈ df, v = (0, 2147483648, 2147483648) ∨ v = (3, 0, 0) ∨ v = (1, 0, 0)) (hd : decode cc (ev_pc cd ix) = .ok (.new idx, 3)) (hn : ev_pc cd (ix + 1) = ev_pc cd ix + 3) (hR : nc + 1 ≤ R.cells) (hR2 : ns + N ≤ R.slots)
    (k : ev_G p l e R s m args below meth c Q D cl dA A ws0 nL cd (ix + 1, L, (2, w.length, 0) :: S, w ++ [(0, ci, 0, df)], nc + 1, ns + N)) : ev_G p l e R s m args below meth c Q D cl dA A ws0 nL cd (ix, L, S, w, nc, ns) := by
  intro H locs ls vs lv ws h1 h2 h3 h4 h5 h6 h7 h8
  exact va_new X.1.1 X.1.2.1 X.1.2.2.2.2 hin ty0 hty X.1.2.2.2.1 (X.1.2.2.2.2 _ hcl) (X.1.2.2.2.2 _ hins) (X.1.2.2.2.2 _ hini) X.2.1.1 h6 h7 h8 X.2.2.1 hc hdf hR hR2 hd (fun q H1 g6 g7 g8 => ev_pushed k hn h1 h2 h3 h4 h5 (by simp) (Or.inl ⟨rfl, _, rfl, ev_df_r _ df hdt⟩) g6 g7 g8)
/-- newarray of ints, bytes, booleans: all 0 -/
theorem ev_s_newaI (X : ev_X p s m args c D cl dA kt A Gs own cc nL) {atype : ArrayType} {ty : FieldType} {kd n : Nat} (hty : newarray.typeOf atype = ty) (hkt : kt[kd]? = some ty) (hdv : defaultValue ty = .int 0) (harr : Cond.arrayClass ty ∈ Gs) (hn0 : n < 2147483648) (hby : n * componentBytes ty ≤ 536870912) (hd : decode cc (ev_pc cd ix) = .ok (.newarray atype, 2)) (hn : ev_pc cd (ix + 1) = ev_pc cd ix + 2) (hR : nc + 1 ≤ R.cells) (hR2 : ns + n ≤ R.slots)
    (k : ev_G p l e R s m args below meth c Q D cl dA A ws0 nL cd (ix + 1, L, (2, w.length, 0) :: S, w ++ [(2, kd, n, [(0, 2147483648, 2147483648)])], nc + 1, ns + n)) : ev_G p l e R s m args below meth c Q D cl dA A ws0 nL cd (ix, L, (0, n + 2147483648, n + 2147483648) :: S, w, nc, ns) := by
  intro H locs ls vs lv ws h1 h2 h3 h4 h5 h6 h7 h8
  have h3q := h3.cons
  clear h3
  obtain ⟨y, ys, rfl, hy, h3⟩ := h3q
  obtain ⟨i, rfl, hi⟩ := hy.int rfl
  obtain rfl := ev_in_nI hi hn0
  refine va_newa (N' := n) (a0 := (n, .inl (fun _ => 0))) X.1.1 X.1.2.1 (by rw [hty]; exact X.1.2.2.2.2 _ harr) hty X.2.1.1 h6 h7 h8 X.2.2.1 (fun cA => by rw [vp_cell_i, hdv]) (nI_pos hn0) (nI_clamp hn0) hby hR hR2 hd (fun q cA H1 gK g6 g7 g8 => ?_)
  have hA : cA = dA kd := ev_RA_inj (gK.2 (ev_tys dA kt).length (cA, ty) (by simp)).2 (X.2.1.1.2 kd (dA kd, ty) (ev_tys_at hkt)).2
  subst hA
  refine ev_pushed k hn h1 h2 h3 h4 h5 (by simp) (Or.inr (Or.inr (Or.inl ⟨rfl, _, rfl, fun v hv j => ?_⟩))) g6 g7 g8
  obtain rfl : (0, 2147483648, 2147483648) = v := Option.some.inj hv
  exact ⟨by decide +kernel, by decide +kernel⟩
/-- newarray of longs -/
theorem ev_s_newaL (X : ev_X p s m args c D cl dA kt A Gs own cc nL) {atype : ArrayType} {kd n : Nat} (hty : newarray.typeOf atype = .long) (hkt : kt[kd]? = some .long) (harr : Cond.arrayClass .long ∈ Gs) (hn0 : n < 2147483648) (hby : n * componentBytes .long ≤ 536870912) (hd : decode cc (ev_pc cd ix) = .ok (.newarray atype, 2)) (hn : ev_pc cd (ix + 1) = ev_pc cd ix + 2) (hR : nc + 1 ≤ R.cells) (hR2 : ns + n ≤ R.slots)
    (k : ev_G p l e R s m args below meth c Q D cl dA A ws0 nL cd (ix + 1, L, (2, w.length, 0) :: S, w ++ [(3, kd, n, [])], nc + 1, ns + n)) : ev_G p l e R s m args below meth c Q D cl dA A ws0 nL cd (ix, L, (0, n + 2147483648, n + 2147483648) :: S, w, nc, ns) := by
  intro H locs ls vs lv ws h1 h2 h3 h4 h5 h6 h7 h8
  have h3q := h3.cons
  clear h3
  obtain ⟨y, ys, rfl, hy, h3⟩ := h3q
  obtain ⟨i, rfl, hi⟩ := hy.int rfl
  obtain rfl := ev_in_nI hi hn0
  refine va_newa (N' := n) (a0 := (n, .inr (.inl (fun _ => 0)))) X.1.1 X.1.2.1 (by rw [hty]; exact X.1.2.2.2.2 _ harr) hty X.2.1.1 h6 h7 h8 X.2.2.1 (fun cA => by rw [vp_cell_l]; rfl) (nI_pos hn0) (nI_clamp hn0) hby hR hR2 hd (fun q cA H1 gK g6 g7 g8 => ?_)
  have hA : cA = dA kd := ev_RA_inj (gK.2 (ev_tys dA kt).length (cA, .long) (by simp)).2 (X.2.1.1.2 kd (dA kd, .long) (ev_tys_at hkt)).2
  subst hA
  exact ev_pushed k hn h1 h2 h3 h4 h5 (by simp) (Or.inr (Or.inr (Or.inr (Or.inl ⟨rfl, _, rfl⟩)))) g6 g7 g8
/-- anewarray of objects: all null -/
theorem ev_s_newq (X : ev_X p s m args c D cl dA kt A Gs own cc nL) {C : String} {kd n idx : Nat} (hkt : kt[kd]? = some (.object C)) (hcl : Cond.classLink own idx C ∈ Gs) (hao : va_AO C s) (hn0 : n < 2147483648) (hby : n * 4 ≤ 536870912) (hd : decode cc (ev_pc cd ix) = .ok (.anewarray idx, 3)) (hn : ev_pc cd (ix + 1) = ev_pc cd ix + 3) (hR : nc + 1 ≤ R.cells) (hR2 : ns + n ≤ R.slots)
    (k : ev_G p l e R s m args below meth c Q D cl dA A ws0 nL cd (ix + 1, L, (2, w.length, 0) :: S, w ++ [(1, kd, n, List.replicate n (3, 0, 0))], nc + 1, ns + n)) : ev_G p l e R s m args below meth c Q D cl dA A ws0 nL cd (ix, L, (0, n + 2147483648, n + 2147483648) :: S, w, nc, ns) := by
  intro H locs ls vs lv ws h1 h2 h3 h4 h5 h6 h7 h8
  have h3q := h3.cons
  clear h3
  obtain ⟨y, ys, rfl, hy, h3⟩ := h3q
  obtain ⟨i, rfl, hi⟩ := hy.int rfl
  obtain rfl := ev_in_nI hi hn0
  refine va_newq (N' := n) X.1.1 X.1.2.1 X.1.2.2.2.1 (X.1.2.2.2.2 _ hcl) hao X.2.1.1 h6 h7 h8 X.2.2.1 (nI_pos hn0) (nI_clamp hn0) hby hR hR2 hd (fun q cA H1 gK g6 g7 g8 => ?_)
  have hA : cA = dA kd := ev_RA_inj (gK.2 (ev_tys dA kt).length (cA, .object C) (by simp)).2 (X.2.1.1.2 kd (dA kd, .object C) (ev_tys_at hkt)).2
  subst hA
  refine ev_pushed k hn h1 h2 h3 h4 h5 (by simp) (Or.inr (Or.inl ⟨rfl, _, rfl, fun j v hj => ?_⟩)) g6 g7 g8
  have hv := List.eq_of_mem_replicate (List.mem_of_getElem? hj)
  rw [hv]
  exact ev_vr.nu _ _ _
/-- a load out of an array of ints -/
theorem ev_s_iald (X : ev_X p s m args c D cl dA kt A Gs own cc nL) {kd n i y9 : Nat} {x b : ev_V} {z : List (Nat × Nat × Nat)} (hkt : kt[kd]? = some .int) (hd : decode cc (ev_pc cd ix) = .ok (.iaload, 1)) (hn : ev_pc cd (ix + 1) = ev_pc cd ix + 1) (hw : w[i]? = some (2, kd, n, z)) (hz : z[0]? = some b) (hb : b.1 = 0) (hx : x.1 = 0) (hx1 : 2147483648 ≤ x.2.1) (hx2 : x.2.2 < 2147483648 + n)
    (k : ev_G p l e R s m args below meth c Q D cl dA A ws0 nL cd (ix + 1, L, b :: S, w, nc, ns)) : ev_G p l e R s m args below meth c Q D cl dA A ws0 nL cd (ix, L, x :: (2, i, y9) :: S, w, nc, ns) := by
  intro H locs ls vs lv ws h1 h2 h3 h4 h5 h6 h7 h8
  have h3q := h3.cons
  clear h3
  obtain ⟨y, ys, rfl, hy, h3⟩ := h3q
  obtain ⟨i1, rfl, hi⟩ := hy.int hx
  have h3q := h3.cons
  clear h3
  obtain ⟨x, zs, rfl, hx, h3⟩ := h3q
  obtain ⟨a, ha, rfl⟩ := hx.ref rfl
  obtain ⟨E, hE, hr⟩ := h4.at hw ha
  rcases hr with ⟨hr, -⟩ | ⟨hr, -⟩ | ⟨hr, f, rfl, hf⟩ | ⟨hr, -⟩ | hr
  case inr.inr.inl => exact va_iald X.1.1 X.1.2.1 X.2.1.1 h6 i kd hE (ev_tys_at hkt) (ev_in_at hi hx1 hx2) hd (ev_go k hn h1 h2 ⟨ev_vr.it hb (hf b hz _), h3⟩ h4 h5 h6 h7 h8)
  all_goals exact absurd hr (by simp)
theorem ev_s_bald (X : ev_X p s m args c D cl dA kt A Gs own cc nL) {tg kd n i y9 : Nat} {x b : ev_V} {z : List (Nat × Nat × Nat)} (hkt : kt[kd]? = some .byte) (hd : decode cc (ev_pc cd ix) = .ok (.baload, 1)) (hn : ev_pc cd (ix + 1) = ev_pc cd ix + 1) (htg : tg = 2 ∨ tg = 9) (hw : w[i]? = some (tg, kd, n, z)) (hz : z[0]? = some b) (hb : b.1 = 0) (hx : x.1 = 0) (hx1 : 2147483648 ≤ x.2.1) (hx2 : x.2.2 < 2147483648 + n)
    (k : ev_G p l e R s m args below meth c Q D cl dA A ws0 nL cd (ix + 1, L, b :: S, w, nc, ns)) : ev_G p l e R s m args below meth c Q D cl dA A ws0 nL cd (ix, L, x :: (2, i, y9) :: S, w, nc, ns) := by
  intro H locs ls vs lv ws h1 h2 h3 h4 h5 h6 h7 h8
  have h3q := h3.cons
  clear h3
  obtain ⟨y, ys, rfl, hy, h3⟩ := h3q
  obtain ⟨i1, rfl, hi⟩ := hy.int hx
  have h3q := h3.cons
  clear h3
  obtain ⟨x, zs, rfl, hx, h3⟩ := h3q
  obtain ⟨a, ha, rfl⟩ := hx.ref rfl
  obtain ⟨E, hE, hr⟩ := h4.at hw ha
  obtain ⟨f, rfl, hf⟩ := hr.ints htg hz
  exact va_bald X.1.1 X.1.2.1 X.2.1.1 h6 i kd hE (ev_tys_at hkt) (ev_in_at hi hx1 hx2) hd (ev_go k hn h1 h2 ⟨ev_vr.it hb (hf _), h3⟩ h4 h5 h6 h7 h8)
theorem ev_s_zald (X : ev_X p s m args c D cl dA kt A Gs own cc nL) {kd n i y9 : Nat} {x b : ev_V} {z : List (Nat × Nat × Nat)} (hkt : kt[kd]? = some .boolean) (hd : decode cc (ev_pc cd ix) = .ok (.baload, 1)) (hn : ev_pc cd (ix + 1) = ev_pc cd ix + 1) (hw : w[i]? = some (2, kd, n, z)) (hz : z[0]? = some b) (hb : b.1 = 0) (hx : x.1 = 0) (hx1 : 2147483648 ≤ x.2.1) (hx2 : x.2.2 < 2147483648 + n)
    (k : ev_G p l e R s m args below meth c Q D cl dA A ws0 nL cd (ix + 1, L, b :: S, w, nc, ns)) : ev_G p l e R s m args below meth c Q D cl dA A ws0 nL cd (ix, L, x :: (2, i, y9) :: S, w, nc, ns) := by
  intro H locs ls vs lv ws h1 h2 h3 h4 h5 h6 h7 h8
  have h3q := h3.cons
  clear h3
  obtain ⟨y, ys, rfl, hy, h3⟩ := h3q
  obtain ⟨i1, rfl, hi⟩ := hy.int hx
  have h3q := h3.cons
  clear h3
  obtain ⟨x, zs, rfl, hx, h3⟩ := h3q
  obtain ⟨a, ha, rfl⟩ := hx.ref rfl
  obtain ⟨E, hE, hr⟩ := h4.at hw ha
  rcases hr with ⟨hr, -⟩ | ⟨hr, -⟩ | ⟨hr, f, rfl, hf⟩ | ⟨hr, -⟩ | hr
  case inr.inr.inl => exact va_zald X.1.1 X.1.2.1 X.2.1.1 h6 i kd hE (ev_tys_at hkt) (ev_in_at hi hx1 hx2) hd (ev_go k hn h1 h2 ⟨ev_vr.it hb (hf b hz _), h3⟩ h4 h5 h6 h7 h8)
  all_goals exact absurd hr (by simp)
/-- what a byte can be -/
def ev_byte : ev_V := (0, 2147483520, 2147483775)
theorem ev_byte_in (x : Int32) : ev_in ev_byte (vp_nar .byte x) := by
  rw [vp_nar_byte]
  have h1 := Int8.le_toInt x.toInt8
  have h2 := Int8.toInt_lt x.toInt8
  have h3 := ev_sx_eq x.toInt8.toInt32
  rw [Int8.toInt_toInt32] at h3
  show 2147483520 ≤ _ ∧ _ ≤ 2147483775
  omega
/-- a store into an array of ints -/
theorem ev_s_iast (X : ev_X p s m args c D cl dA kt A Gs own cc nL) {kd n i y9 : Nat} {x b v : ev_V} {z : List (Nat × Nat × Nat)} (hkt : kt[kd]? = some .int) (hd : decode cc (ev_pc cd ix) = .ok (.iastore, 1)) (hn : ev_pc cd (ix + 1) = ev_pc cd ix + 1) (hw : w[i]? = some (2, kd, n, z)) (hz : z[0]? = some b) (hx : x.1 = 0) (hx1 : 2147483648 ≤ x.2.1) (hx2 : x.2.2 < 2147483648 + n) (hv : v.1 = 0)
    (k : ev_G p l e R s m args below meth c Q D cl dA A ws0 nL cd (ix + 1, L, S, w.set i (2, kd, n, [ev_hull b v]), nc, ns)) : ev_G p l e R s m args below meth c Q D cl dA A ws0 nL cd (ix, L, v :: x :: (2, i, y9) :: S, w, nc, ns) := by
  intro H locs ls vs lv ws h1 h2 h3 h4 h5 h6 h7 h8
  have h3q := h3.cons
  clear h3
  obtain ⟨y0, ys, rfl, hy0, h3⟩ := h3q
  obtain ⟨x0, rfl, hx0⟩ := hy0.int hv
  have h3q := h3.cons
  clear h3
  obtain ⟨y, ys, rfl, hy, h3⟩ := h3q
  obtain ⟨i1, rfl, hi⟩ := hy.int hx
  have h3q := h3.cons
  clear h3
  obtain ⟨x, zs, rfl, hx, h3⟩ := h3q
  obtain ⟨a, ha, rfl⟩ := hx.ref rfl
  obtain ⟨E, hE, hr⟩ := h4.at hw ha
  rcases hr with ⟨hr, -⟩ | ⟨hr, -⟩ | ⟨hr, f, rfl, hf⟩ | ⟨hr, -⟩ | hr
  case inr.inr.inl =>
    refine va_iast X.1.1 X.1.2.1 X.2.1.1 h6 h7 h8 i kd hE (ev_tys_at hkt) (ev_in_at hi hx1 hx2) hd (fun H1 locs1 g6 g7 g8 => ?_)
    have em := ev_map_set (e := .inl (dA kd, n, .inl (upd f i1.toNatClampNeg x0))) hE
    refine ev_go k hn h1 (by rw [em]; exact h2) (by rw [em]; exact h3) (h4.set hE (Or.inr (Or.inr (Or.inl ⟨rfl, _, rfl, fun u hu j => ?_⟩)))) (h5.set hE (by simp)) g6 g7 g8
    obtain rfl : ev_hull b v = u := Option.some.inj hu
    by_cases hj : j = i1.toNatClampNeg
    · rw [hj, pk_us]
      exact ev_hull_r hx0
    · rw [pk_un hj]
      exact ev_hull_l (hf b hz j)
  all_goals exact absurd hr (by simp)
theorem ev_s_bast (X : ev_X p s m args c D cl dA kt A Gs own cc nL) {kd n i y9 : Nat} {x b v : ev_V} {z : List (Nat × Nat × Nat)} (hkt : kt[kd]? = some .byte) (hd : decode cc (ev_pc cd ix) = .ok (.bastore, 1)) (hn : ev_pc cd (ix + 1) = ev_pc cd ix + 1) (hw : w[i]? = some (2, kd, n, z)) (hz : z[0]? = some b) (hx : x.1 = 0) (hx1 : 2147483648 ≤ x.2.1) (hx2 : x.2.2 < 2147483648 + n) (hv : v.1 = 0)
    (k : ev_G p l e R s m args below meth c Q D cl dA A ws0 nL cd (ix + 1, L, S, w.set i (2, kd, n, [ev_hull b ev_byte]), nc, ns)) : ev_G p l e R s m args below meth c Q D cl dA A ws0 nL cd (ix, L, v :: x :: (2, i, y9) :: S, w, nc, ns) := by
  intro H locs ls vs lv ws h1 h2 h3 h4 h5 h6 h7 h8
  have h3q := h3.cons
  clear h3
  obtain ⟨y0, ys, rfl, hy0, h3⟩ := h3q
  obtain ⟨x0, rfl, hx0⟩ := hy0.int hv
  have h3q := h3.cons
  clear h3
  obtain ⟨y, ys, rfl, hy, h3⟩ := h3q
  obtain ⟨i1, rfl, hi⟩ := hy.int hx
  have h3q := h3.cons
  clear h3
  obtain ⟨x, zs, rfl, hx, h3⟩ := h3q
  obtain ⟨a, ha, rfl⟩ := hx.ref rfl
  obtain ⟨E, hE, hr⟩ := h4.at hw ha
  rcases hr with ⟨hr, -⟩ | ⟨hr, -⟩ | ⟨hr, f, rfl, hf⟩ | ⟨hr, -⟩ | hr
  case inr.inr.inl =>
    refine va_bast X.1.1 X.1.2.1 X.2.1.1 h6 h7 h8 i kd hE (ev_tys_at hkt) (ev_in_at hi hx1 hx2) hd (fun H1 locs1 g6 g7 g8 => ?_)
    have em := ev_map_set (e := .inl (dA kd, n, .inl (upd f i1.toNatClampNeg (vp_nar .byte x0)))) hE
    refine ev_go k hn h1 (by rw [em]; exact h2) (by rw [em]; exact h3) (h4.set hE (Or.inr (Or.inr (Or.inl ⟨rfl, _, rfl, fun u hu j => ?_⟩)))) (h5.set hE (by simp)) g6 g7 g8
    obtain rfl : ev_hull b ev_byte = u := Option.some.inj hu
    by_cases hj : j = i1.toNatClampNeg
    · rw [hj, pk_us]
      exact ev_hull_r (ev_byte_in x0)
    · rw [pk_un hj]
      exact ev_hull_l (hf b hz j)
  all_goals exact absurd hr (by simp)
/-- a load out of an array of references -/
theorem ev_s_aald (X : ev_X p s m args c D cl dA kt A Gs own cc nL) {kd n i j y9 : Nat} {ty : FieldType} {es : List (Nat × Nat × Nat)} {v : ev_V} (hkt : kt[kd]? = some ty) (hrt : ty.isReference = true) (hd : decode cc (ev_pc cd ix) = .ok (.aaload, 1)) (hn : ev_pc cd (ix + 1) = ev_pc cd ix + 1) (hw : w[i]? = some (1, kd, n, es)) (hj : j < n) (hN : n < 2147483648) (hv : es[j]? = some v)
    (k : ev_G p l e R s m args below meth c Q D cl dA A ws0 nL cd (ix + 1, L, v :: S, w, nc, ns)) : ev_G p l e R s m args below meth c Q D cl dA A ws0 nL cd (ix, L, (0, j + 2147483648, j + 2147483648) :: (2, i, y9) :: S, w, nc, ns) := by
  intro H locs ls vs lv ws h1 h2 h3 h4 h5 h6 h7 h8
  have h3q := h3.cons
  clear h3
  obtain ⟨y, ys, rfl, hy, h3⟩ := h3q
  obtain ⟨i1, rfl, hi⟩ := hy.int rfl
  obtain rfl := ev_in_nI hi (by omega)
  have h3q := h3.cons
  clear h3
  obtain ⟨x, zs, rfl, hx, h3⟩ := h3q
  obtain ⟨a, ha, rfl⟩ := hx.ref rfl
  obtain ⟨E, hE, hr⟩ := h4.at hw ha
  rcases hr with ⟨hr, -⟩ | ⟨hr, f, rfl, hf⟩ | ⟨hr, -⟩ | ⟨hr, -⟩ | hr
  case inr.inl =>
    have hc : (nI j).toNatClampNeg = j := nI_clamp (by omega)
    have hin : vp_in (nI j) n := vp_in_nI hj hN
    refine W.aald (v := va_rf (f j)) (ty := ty) X.1.1 X.1.2.1 (h6 i _ hE) ((X.2.1.1.2 kd _ (ev_tys_at hkt)).1 n (fun j => va_rf (f j))) hrt (fun q => by cases q) (by show ¬ (nI j < 0 ∨ (arrV _ _ _).slots.size ≤ _); rw [arrV_size]; exact hin) (by show (arrV _ _ _).slots[_]? = _; rw [hc, arrV_read _ _ hj]) rfl rfl hd ?_
    exact ev_go k hn h1 h2 ⟨hf j v hv, h3⟩ h4 h5 h6 h7 h8
  all_goals exact absurd hr (by simp)
/-- an object is stored into an array of its sort -/
theorem ev_s_aast (X : ev_X p s m args c D cl dA kt A Gs own cc nL) {kd n i j o ci z y9 z9 : Nat} {r : vw_C} {es fs : List (Nat × Nat × Nat)} (hkt : kt[kd]? = some (.object r.1)) (hc : cl[ci]? = some r) (hd : decode cc (ev_pc cd ix) = .ok (.aastore, 1)) (hn : ev_pc cd (ix + 1) = ev_pc cd ix + 1) (hw : w[i]? = some (1, kd, n, es)) (ho : w[o]? = some (0, ci, z, fs)) (hj : j < n) (hN : n < 2147483648)
    (k : ev_G p l e R s m args below meth c Q D cl dA A ws0 nL cd (ix + 1, L, S, w.set i (1, kd, n, es.set j (2, o, 0)), nc, ns)) : ev_G p l e R s m args below meth c Q D cl dA A ws0 nL cd (ix, L, (2, o, z9) :: (0, j + 2147483648, j + 2147483648) :: (2, i, y9) :: S, w, nc, ns) := by
  intro H locs ls vs lv ws h1 h2 h3 h4 h5 h6 h7 h8
  have h3q := h3.cons
  clear h3
  obtain ⟨y0, ys, rfl, hy0, h3⟩ := h3q
  obtain ⟨b, hb, rfl⟩ := hy0.ref rfl
  have h3q := h3.cons
  clear h3
  obtain ⟨y, ys, rfl, hy, h3⟩ := h3q
  obtain ⟨i1, rfl, hi⟩ := hy.int rfl
  obtain rfl := ev_in_nI hi (by omega)
  have h3q := h3.cons
  clear h3
  obtain ⟨x, zs, rfl, hx, h3⟩ := h3q
  obtain ⟨a, ha, rfl⟩ := hx.ref rfl
  obtain ⟨E, hE, hr⟩ := h4.at hw ha
  obtain ⟨F, hF, hs⟩ := h4.at ho hb
  have hcj : (nI j).toNatClampNeg = j := nI_clamp (by omega)
  rcases hs with ⟨-, gs, rfl, -⟩ | ⟨hs, -⟩ | ⟨hs, -⟩ | ⟨hs, -⟩ | hs
  case inl =>
    rcases hr with ⟨hr, -⟩ | ⟨hr, f, rfl, hf⟩ | ⟨hr, -⟩ | ⟨hr, -⟩ | hr
    case inr.inl =>
      refine va_astq X.1.1 X.1.2.1 X.2.1.1 h6 h7 h8 i kd o ci hE (ev_tys_at hkt) hF hc (vp_in_nI hj hN) hd (fun H1 locs1 g6 g7 g8 => ?_)
      have em := ev_map_set (e := .inl (dA kd, n, .inr (.inr (.inr (.inr (va_up f (nI j).toNatClampNeg (some b))))))) hE
      refine ev_go k hn h1 (by rw [em]; exact h2) (by rw [em]; exact h3) (h4.set hE (Or.inr (Or.inl ⟨rfl, _, rfl, fun q v hq => ?_⟩))) (h5.set hE (by simp)) g6 g7 g8
      rw [hcj]
      have hq : (es.set j (2, o, 0))[q]? = some v := hq
      by_cases hjq : j = q
      · subst hjq
        rw [List.getElem?_set] at hq
        simp only [if_true] at hq
        split at hq
        · obtain rfl := Option.some.inj hq
          rw [va_up_self]
          exact ev_vr.rf hb
        · cases hq
      · rw [List.getElem?_set_ne hjq] at hq
        rw [va_up_ne _ _ (Ne.symm hjq)]
        exact hf q v hq
    all_goals exact absurd hr (by simp)
  all_goals exact absurd hs (by simp)
theorem ev_s_alen (X : ev_X p s m args c D cl dA kt A Gs own cc nL) {tg kd n i y9 : Nat} {ty : FieldType} {z : List (Nat × Nat × Nat)} (hkt : kt[kd]? = some ty) (hd : decode cc (ev_pc cd ix) = .ok (.arraylength, 1)) (hn : ev_pc cd (ix + 1) = ev_pc cd ix + 1) (hw : w[i]? = some (tg, kd, n, z)) (htg : tg ≠ 0 ∧ tg ≠ 9) (hN : n < 2147483648)
    (k : ev_G p l e R s m args below meth c Q D cl dA A ws0 nL cd (ix + 1, L, (0, n + 2147483648, n + 2147483648) :: S, w, nc, ns)) : ev_G p l e R s m args below meth c Q D cl dA A ws0 nL cd (ix, L, (2, i, y9) :: S, w, nc, ns) := by
  intro H locs ls vs lv ws h1 h2 h3 h4 h5 h6 h7 h8
  have h3q := h3.cons
  clear h3
  obtain ⟨x, zs, rfl, hx, h3⟩ := h3q
  obtain ⟨a, ha, rfl⟩ := hx.ref rfl
  obtain ⟨E, hE, hr⟩ := h4.at hw ha
  rcases hr with ⟨hr, -⟩ | ⟨-, f, rfl, -⟩ | ⟨-, f, rfl, -⟩ | ⟨-, f, rfl⟩ | hr
  case inl => exact absurd hr htg.1
  case inr.inr.inr.inr => exact absurd hr.1 htg.2
  all_goals exact va_alen (v := nI n) X.1.1 X.1.2.1 X.2.1.1 h6 i kd hE (ev_tys_at hkt) rfl hd (ev_go k hn h1 h2 ⟨ev_vr.it rfl (ev_in_eq (ev_sx_nI hN)), h3⟩ h4 h5 h6 h7 h8)
end EV3
