/-! The rows of the small machine: an instruction each -/
def ev_pc (cd : List (Nat × Nat × Nat × Nat × Nat × Nat × Nat)) (ix : Nat) : Nat := (cd.getD ix (0, 0, 0, 0, 0, 0, 0)).1
def ev_tys (dA : Nat → ClassId) (kt : List FieldType) : List (ClassId × FieldType) := (List.range kt.length).map (fun k => (dA k, kt.getD k .int))
theorem ev_tys_at {dA : Nat → ClassId} {kt : List FieldType} {k : Nat} {ty : FieldType} (h : kt[k]? = some ty) : (ev_tys dA kt)[k]? = some (dA k, ty) := by
  have hk : k < kt.length := (List.getElem?_eq_some_iff.mp h).1
  unfold ev_tys
  rw [List.getElem?_map, List.getElem?_range hk]
  simp [List.getD, h]
theorem va_AOA.moved {t : FieldType} {u U : State} (hvm : u.vm.Alike U.vm) (h : va_AOA t u) : va_AOA t U := by
  obtain ⟨comp, c, k, h1, h2, h3, h4, h5⟩ := arrayOverA_spec (show (Cond.arrayOver (.array t)).holds #[] u none u [] = true from h)
  obtain ⟨k', hk', he⟩ := hvm.2.2 _ _ h3
  have hkind : k'.kind = .array comp (.array t) := by rw [he]; exact h4
  have hi : (U.vm.classes.findIdx? fun x => match x.kind with | .array component _ => component == comp | _ => false) = some c := by
    rw [hvm.findIdx?_eq _ (fun _ => rfl)]; exact h2
  have f1 : U.vm.findClass (FieldType.array t).toString = some comp := by rw [hvm.findClass]; exact h1
  have f2 : U.vm.findClass ("[" ++ (FieldType.array t).toString) = some c := by rw [hvm.findClass]; exact h5
  unfold va_AOA Cond.before Cond.holds
  simp only [Cond.value]
  rw [f1, Option.bind_some]
  refine (congrArg (fun o : Option Nat => (o.bind (fun c => (U.vm.classes[c]?).map fun (k : Class) => match k.kind with | .array _ ty => decide (ty = FieldType.array t) && decide (U.vm.findClass ("[" ++ (FieldType.array t).toString) = some c) | _ => false) == some true)) hi).trans ?_
  simp [hk', hkind, f2]
/-- what the tables say: fields, and the arrays of the kinds kt -/
def ev_K (D : va_G) (cl : List vw_C) (dA : Nat → ClassId) (kt : List FieldType) (U : State) : Prop := va_K D cl (ev_tys dA kt) U ∧ (∀ (k : Nat) (C : String), kt[k]? = some (.object C) → va_AO C U) ∧ (∀ (k : Nat) (t : FieldType), kt[k]? = some (.array t) → va_AOA t U)
theorem ev_K.moved {D : va_G} {cl : List vw_C} {dA : Nat → ClassId} {kt : List FieldType} {u U : State} (hvm : u.vm.Alike U.vm) (h : ev_K D cl dA kt u) : ev_K D cl dA kt U := ⟨va_K.moved hvm h.1, fun k C hk => va_AO.moved hvm (h.2.1 k C hk), fun k t hk => va_AOA.moved hvm (h.2.2 k t hk)⟩
theorem ev_in_eq {a : Nat} {i : Int32} (h : ev_sx i = a) : ev_in (0, a, a) i := ⟨Nat.le_of_eq h.symm, Nat.le_of_eq h⟩
/-- the tables that nobody writes: where they stand, and how many ints each has -/
def ev_tb : List (String × String × Nat) := [("TrustedMachine$Sha256", "FIRST", 8), ("TrustedMachine$Sha256", "ADDED", 64)]
def ev_Tb (A : Nat → Prop) (U : State) (H : Heap) : Prop := ∀ q ∈ ev_tb, ∃ (t : Nat) (f : Nat → Int32), va_Z q.1 q.2.1 "[I" (.ref t) A U H ∧ va_T .int t q.2.2 (fun j => .int (f j)) A U H
theorem ev_Tb.moved {A : Nat → Prop} {u U : State} {H : Heap} (hvm : u.vm.Alike U.vm) (h : ev_Tb A u H) : ev_Tb A U H := fun q hq => by
  obtain ⟨t, f, h1, h2⟩ := h q hq
  exact ⟨t, f, va_Z.moved hvm h1, va_T.moved hvm h2⟩
theorem ev_Tb.kept {A : Nat → Prop} {U : State} {H H1 : Heap} (h : ev_Tb A U H) (hq : ∀ a : Nat, a < H.size → ¬ A a → H1[a]? = H[a]?) : ev_Tb A U H1 := fun q hm => by
  obtain ⟨t, f, h1, h2⟩ := h q hm
  exact ⟨t, f, h1.kept hq, h2.kept hq⟩
theorem ev_Tb.narrow {A B : Nat → Prop} {U : State} {H : Heap} (h : ev_Tb A U H) (hAB : ∀ q, B q → A q) : ev_Tb B U H := fun q hm => by
  obtain ⟨t, f, h1, h2⟩ := h q hm
  exact ⟨t, f, h1.narrow hAB, h2.narrow hAB⟩
section EV
variable {p : Program} {l : Launch} {e : Env} {R : Room} {s : State} {m : MethodId} {args : Array Value} {below : List Frame} {meth : Method} {c : Code} {Q : State → Prop}
variable {D : va_G} {cl : List vw_C} {dA : Nat → ClassId} {kt : List FieldType} {A : Nat → Prop} {ws0 : va_W} {Gs : List Cond} {own : String} {cc : ByteArray} {nL : Nat} {cd : ev_Cd}
variable {ix nc ns : Nat} {L : List (Nat × (Nat × Nat × Nat))} {S : List (Nat × Nat × Nat)} {w : List ev_C}
def ev_X (p : Program) (s : State) (m : MethodId) (args : Array Value) (c : Code) (D : va_G) (cl : List vw_C) (dA : Nat → ClassId) (kt : List FieldType) (A : Nat → Prop) (Gs : List Cond) (own : String) (cc : ByteArray) (nL : Nat) : Prop :=
  CallFix p m c cc nL s args Gs own ∧ ev_K D cl dA kt s ∧ (∀ q, s.heap.size ≤ q → A q) ∧ ev_Tb A s s.heap
def ev_G (p : Program) (l : Launch) (e : Env) (R : Room) (s : State) (m : MethodId) (args : Array Value) (below : List Frame) (meth : Method) (c : Code) (Q : State → Prop) (D : va_G) (cl : List vw_C) (dA : Nat → ClassId) (A : Nat → Prop) (ws0 : va_W) (nL : Nat) (cd : ev_Cd) (st : ev_S) : Prop :=
  ∀ (H : Heap) (locs : List Loc) (ls : Array Slot) (vs : List Value) (lv : List (Nat × Value)) (ws : va_W), lv_has ls nL lv → ev_lr (ws.map Prod.fst) st.2.1 lv → ev_sr (ws.map Prod.fst) st.2.2.1 vs → ev_wr dA st.2.2.2.1 ws → ev_E ws0 st.2.2.2.1 ws → va_P D cl ws H → va_D A ws → va_S A s.heap H locs →
    W p l e R s m args below meth c H locs st.2.2.2.2.1 st.2.2.2.2.2 Q (F0 m (ev_pc cd st.1) ls vs)
theorem ev_go (k : ev_G p l e R s m args below meth c Q D cl dA A ws0 nL cd (ix, L, S, w, nc, ns)) {pc : Nat} (hn : ev_pc cd ix = pc) {H : Heap} {locs : List Loc} {ls : Array Slot} {vs : List Value} {lv : List (Nat × Value)} {ws : va_W} (h1 : lv_has ls nL lv) (h2 : ev_lr (ws.map Prod.fst) L lv) (h3 : ev_sr (ws.map Prod.fst) S vs) (h4 : ev_wr dA w ws) (h5 : ev_E ws0 w ws) (h6 : va_P D cl ws H) (h7 : va_D A ws) (h8 : va_S A s.heap H locs) :
    W p l e R s m args below meth c H locs nc ns Q (F0 m pc ls vs) := by
  subst hn
  exact k H locs ls vs lv ws h1 h2 h3 h4 h5 h6 h7 h8
-- constants
theorem ev_s_iconst (X : ev_X p s m args c D cl dA kt A Gs own cc nL) {n : Int} {a : Nat} (hd : decode cc (ev_pc cd ix) = .ok (.iconst n, 1)) (hv : ev_sx (Int32.ofInt n) = a) (hn : ev_pc cd (ix + 1) = ev_pc cd ix + 1)
    (k : ev_G p l e R s m args below meth c Q D cl dA A ws0 nL cd (ix + 1, L, (0, a, a) :: S, w, nc, ns)) : ev_G p l e R s m args below meth c Q D cl dA A ws0 nL cd (ix, L, S, w, nc, ns) := by
  intro H locs ls vs lv ws h1 h2 h3 h4 h5 h6 h7 h8
  exact lv_iconst X.1.1 X.1.2.1 hd rfl (ev_go k hn h1 h2 ⟨ev_vr.it rfl (ev_in_eq hv), h3⟩ h4 h5 h6 h7 h8)
theorem ev_s_bipush (X : ev_X p s m args c D cl dA kt A Gs own cc nL) {n : Int} {a : Nat} (hd : decode cc (ev_pc cd ix) = .ok (.bipush n, 2)) (hv : ev_sx (Int8.ofInt n).toInt32 = a) (hn : ev_pc cd (ix + 1) = ev_pc cd ix + 2)
    (k : ev_G p l e R s m args below meth c Q D cl dA A ws0 nL cd (ix + 1, L, (0, a, a) :: S, w, nc, ns)) : ev_G p l e R s m args below meth c Q D cl dA A ws0 nL cd (ix, L, S, w, nc, ns) := by
  intro H locs ls vs lv ws h1 h2 h3 h4 h5 h6 h7 h8
  exact lv_bipush X.1.1 X.1.2.1 hd rfl (ev_go k hn h1 h2 ⟨ev_vr.it rfl (ev_in_eq hv), h3⟩ h4 h5 h6 h7 h8)
theorem ev_s_sipush (X : ev_X p s m args c D cl dA kt A Gs own cc nL) {n : Int} {a : Nat} (hd : decode cc (ev_pc cd ix) = .ok (.sipush n, 3)) (hv : ev_sx (Int16.ofInt n).toInt32 = a) (hn : ev_pc cd (ix + 1) = ev_pc cd ix + 3)
    (k : ev_G p l e R s m args below meth c Q D cl dA A ws0 nL cd (ix + 1, L, (0, a, a) :: S, w, nc, ns)) : ev_G p l e R s m args below meth c Q D cl dA A ws0 nL cd (ix, L, S, w, nc, ns) := by
  intro H locs ls vs lv ws h1 h2 h3 h4 h5 h6 h7 h8
  exact lv_sipush X.1.1 X.1.2.1 hd rfl (ev_go k hn h1 h2 ⟨ev_vr.it rfl (ev_in_eq hv), h3⟩ h4 h5 h6 h7 h8)
theorem ev_s_ldc (X : ev_X p s m args c D cl dA kt A Gs own cc nL) {idx a : Nat} {x : Int32} (hd : decode cc (ev_pc cd ix) = .ok (.ldc idx, 2)) (hc : Cond.constant own idx x ∈ Gs) (hv : ev_sx x = a) (hn : ev_pc cd (ix + 1) = ev_pc cd ix + 2)
    (k : ev_G p l e R s m args below meth c Q D cl dA A ws0 nL cd (ix + 1, L, (0, a, a) :: S, w, nc, ns)) : ev_G p l e R s m args below meth c Q D cl dA A ws0 nL cd (ix, L, S, w, nc, ns) := by
  intro H locs ls vs lv ws h1 h2 h3 h4 h5 h6 h7 h8
  exact lv_ldc X.1.1 X.1.2.1 X.1.2.2.2.1 (X.1.2.2.2.2 _ hc) hd (ev_go k hn h1 h2 ⟨ev_vr.it rfl (ev_in_eq hv), h3⟩ h4 h5 h6 h7 h8)
theorem ev_s_null (X : ev_X p s m args c D cl dA kt A Gs own cc nL) (hd : decode cc (ev_pc cd ix) = .ok (.aconst_null, 1)) (hn : ev_pc cd (ix + 1) = ev_pc cd ix + 1)
    (k : ev_G p l e R s m args below meth c Q D cl dA A ws0 nL cd (ix + 1, L, (3, 0, 0) :: S, w, nc, ns)) : ev_G p l e R s m args below meth c Q D cl dA A ws0 nL cd (ix, L, S, w, nc, ns) := by
  intro H locs ls vs lv ws h1 h2 h3 h4 h5 h6 h7 h8
  exact lv_null X.1.1 X.1.2.1 hd (ev_go k hn h1 h2 ⟨ev_vr.nu _ _ _, h3⟩ h4 h5 h6 h7 h8)
-- locals
theorem ev_s_iload_n (X : ev_X p s m args c D cl dA kt A Gs own cc nL) {a : Nat} {kk : Fin 4} {v : ev_V} (hd : decode cc (ev_pc cd ix) = .ok (.iload_n kk, 1)) (ha : (kk : Nat) = a) (hn : ev_pc cd (ix + 1) = ev_pc cd ix + 1) (hg : ev_get L a = some v) (hv : v.1 = 0)
    (k : ev_G p l e R s m args below meth c Q D cl dA A ws0 nL cd (ix + 1, L, v :: S, w, nc, ns)) : ev_G p l e R s m args below meth c Q D cl dA A ws0 nL cd (ix, L, S, w, nc, ns) := by
  intro H locs ls vs lv ws h1 h2 h3 h4 h5 h6 h7 h8
  obtain ⟨j, x, hj, hx⟩ := h2.get hg
  obtain ⟨i, rfl, -⟩ := hx.int hv
  exact lv_iload_n X.1.1 X.1.2.1 hd ha (lv_at h1 j hj) (ev_go k hn h1 h2 ⟨hx, h3⟩ h4 h5 h6 h7 h8)
theorem ev_s_iload (X : ev_X p s m args c D cl dA kt A Gs own cc nL) {a : Nat} {v : ev_V} (hd : decode cc (ev_pc cd ix) = .ok (.iload a, 2)) (hn : ev_pc cd (ix + 1) = ev_pc cd ix + 2) (hg : ev_get L a = some v) (hv : v.1 = 0)
    (k : ev_G p l e R s m args below meth c Q D cl dA A ws0 nL cd (ix + 1, L, v :: S, w, nc, ns)) : ev_G p l e R s m args below meth c Q D cl dA A ws0 nL cd (ix, L, S, w, nc, ns) := by
  intro H locs ls vs lv ws h1 h2 h3 h4 h5 h6 h7 h8
  obtain ⟨j, x, hj, hx⟩ := h2.get hg
  obtain ⟨i, rfl, -⟩ := hx.int hv
  exact lv_iload X.1.1 X.1.2.1 hd (lv_at h1 j hj) (ev_go k hn h1 h2 ⟨hx, h3⟩ h4 h5 h6 h7 h8)
theorem ev_s_aload_n (X : ev_X p s m args c D cl dA kt A Gs own cc nL) {a : Nat} {kk : Fin 4} {v : ev_V} (hd : decode cc (ev_pc cd ix) = .ok (.aload_n kk, 1)) (ha : (kk : Nat) = a) (hn : ev_pc cd (ix + 1) = ev_pc cd ix + 1) (hg : ev_get L a = some v) (hv : v.1 = 2)
    (k : ev_G p l e R s m args below meth c Q D cl dA A ws0 nL cd (ix + 1, L, v :: S, w, nc, ns)) : ev_G p l e R s m args below meth c Q D cl dA A ws0 nL cd (ix, L, S, w, nc, ns) := by
  intro H locs ls vs lv ws h1 h2 h3 h4 h5 h6 h7 h8
  obtain ⟨j, x, hj, hx⟩ := h2.get hg
  obtain ⟨i, -, rfl⟩ := hx.ref hv
  exact lv_aload_n X.1.1 X.1.2.1 hd ha (lv_at h1 j hj) (ev_go k hn h1 h2 ⟨hx, h3⟩ h4 h5 h6 h7 h8)
theorem ev_s_aload (X : ev_X p s m args c D cl dA kt A Gs own cc nL) {a : Nat} {v : ev_V} (hd : decode cc (ev_pc cd ix) = .ok (.aload a, 2)) (hn : ev_pc cd (ix + 1) = ev_pc cd ix + 2) (hg : ev_get L a = some v) (hv : v.1 = 2)
    (k : ev_G p l e R s m args below meth c Q D cl dA A ws0 nL cd (ix + 1, L, v :: S, w, nc, ns)) : ev_G p l e R s m args below meth c Q D cl dA A ws0 nL cd (ix, L, S, w, nc, ns) := by
  intro H locs ls vs lv ws h1 h2 h3 h4 h5 h6 h7 h8
  obtain ⟨j, x, hj, hx⟩ := h2.get hg
  obtain ⟨i, -, rfl⟩ := hx.ref hv
  exact lv_aload X.1.1 X.1.2.1 hd (lv_at h1 j hj) (ev_go k hn h1 h2 ⟨hx, h3⟩ h4 h5 h6 h7 h8)
theorem ev_s_istore_n (X : ev_X p s m args c D cl dA kt A Gs own cc nL) {a : Nat} {kk : Fin 4} {v : ev_V} (hd : decode cc (ev_pc cd ix) = .ok (.istore_n kk, 1)) (ha : (kk : Nat) = a) (hn : ev_pc cd (ix + 1) = ev_pc cd ix + 1) (hL : a < nL) (hv : v.1 = 0)
    (k : ev_G p l e R s m args below meth c Q D cl dA A ws0 nL cd (ix + 1, ev_put L a v, S, w, nc, ns)) : ev_G p l e R s m args below meth c Q D cl dA A ws0 nL cd (ix, L, v :: S, w, nc, ns) := by
  intro H locs ls vs lv ws h1 h2 h3 h4 h5 h6 h7 h8
  have h3q := h3.cons
  clear h3
  obtain ⟨x, ys, rfl, hx, h3⟩ := h3q
  obtain ⟨i, rfl, -⟩ := hx.int hv
  exact lv_istore_n X.1.1 X.1.2.1 hd ha h1 hL rfl (fun ls' hl => ev_go k hn hl (h2.put hx) h3 h4 h5 h6 h7 h8)
theorem ev_s_istore (X : ev_X p s m args c D cl dA kt A Gs own cc nL) {a : Nat} {v : ev_V} (hd : decode cc (ev_pc cd ix) = .ok (.istore a, 2)) (hn : ev_pc cd (ix + 1) = ev_pc cd ix + 2) (hL : a < nL) (hv : v.1 = 0)
    (k : ev_G p l e R s m args below meth c Q D cl dA A ws0 nL cd (ix + 1, ev_put L a v, S, w, nc, ns)) : ev_G p l e R s m args below meth c Q D cl dA A ws0 nL cd (ix, L, v :: S, w, nc, ns) := by
  intro H locs ls vs lv ws h1 h2 h3 h4 h5 h6 h7 h8
  have h3q := h3.cons
  clear h3
  obtain ⟨x, ys, rfl, hx, h3⟩ := h3q
  obtain ⟨i, rfl, -⟩ := hx.int hv
  exact lv_istore X.1.1 X.1.2.1 hd h1 hL rfl (fun ls' hl => ev_go k hn hl (h2.put hx) h3 h4 h5 h6 h7 h8)
theorem ev_s_astore_n (X : ev_X p s m args c D cl dA kt A Gs own cc nL) {a : Nat} {kk : Fin 4} {v : ev_V} (hd : decode cc (ev_pc cd ix) = .ok (.astore_n kk, 1)) (ha : (kk : Nat) = a) (hn : ev_pc cd (ix + 1) = ev_pc cd ix + 1) (hL : a < nL) (hv : v.1 = 2)
    (k : ev_G p l e R s m args below meth c Q D cl dA A ws0 nL cd (ix + 1, ev_put L a v, S, w, nc, ns)) : ev_G p l e R s m args below meth c Q D cl dA A ws0 nL cd (ix, L, v :: S, w, nc, ns) := by
  intro H locs ls vs lv ws h1 h2 h3 h4 h5 h6 h7 h8
  have h3q := h3.cons
  clear h3
  obtain ⟨x, ys, rfl, hx, h3⟩ := h3q
  obtain ⟨i, -, rfl⟩ := hx.ref hv
  exact lv_astore_n X.1.1 X.1.2.1 hd ha h1 hL rfl (fun ls' hl => ev_go k hn hl (h2.put hx) h3 h4 h5 h6 h7 h8)
theorem ev_s_astore (X : ev_X p s m args c D cl dA kt A Gs own cc nL) {a : Nat} {v : ev_V} (hd : decode cc (ev_pc cd ix) = .ok (.astore a, 2)) (hn : ev_pc cd (ix + 1) = ev_pc cd ix + 2) (hL : a < nL) (hv : v.1 = 2)
    (k : ev_G p l e R s m args below meth c Q D cl dA A ws0 nL cd (ix + 1, ev_put L a v, S, w, nc, ns)) : ev_G p l e R s m args below meth c Q D cl dA A ws0 nL cd (ix, L, v :: S, w, nc, ns) := by
  intro H locs ls vs lv ws h1 h2 h3 h4 h5 h6 h7 h8
  have h3q := h3.cons
  clear h3
  obtain ⟨x, ys, rfl, hx, h3⟩ := h3q
  obtain ⟨i, -, rfl⟩ := hx.ref hv
  exact lv_astore X.1.1 X.1.2.1 hd h1 hL rfl (fun ls' hl => ev_go k hn hl (h2.put hx) h3 h4 h5 h6 h7 h8)
end EV
