/-! The small machine's steps, one after another -/
abbrev ev_Mt : Type := (MethodName × ByteArray × Nat × Option FieldType) × List (Nat × Nat × Nat × Nat × Nat × Nat)
/-- contracts over some cells: method, depth, where its cells are found, arguments, cells, what comes -/
abbrev ev_Sm : Type := List (Nat × Nat × List (Nat × Nat) × List (Nat × Nat × Nat) × List ev_C × ev_R)
abbrev ev_Ct : Type := vw_C × (Nat → FieldType) × List (Nat × Nat × Nat)
def ev_dn (cc : ByteArray) (pc : Nat) : Int := match decode cc pc with
  | .ok (.iconst n, _) => n
  | .ok (.bipush n, _) => n
  | .ok (.sipush n, _) => n
  | .ok (.iinc _ n, _) => n
  | .ok (.goto n, _) => n
  | .ok (.ifCond _ n, _) => n
  | .ok (.if_icmp _ n, _) => n
  | _ => 0
/-- the comparison t can hold of ints within these bounds -/
def ev_ct (t : Nat) (x y : ev_V) : Bool := match t with
  | 0 => decide (x.2.1 ≤ y.2.2 ∧ y.2.1 ≤ x.2.2)
  | 1 => !decide (x.2.1 = x.2.2 ∧ y.2.1 = y.2.2 ∧ x.2.1 = y.2.1)
  | 2 => decide (x.2.1 < y.2.2)
  | 3 => decide (y.2.1 ≤ x.2.2)
  | 4 => decide (y.2.1 < x.2.2)
  | _ => decide (x.2.1 ≤ y.2.2)
def ev_ng (t : Nat) : Nat := match t with
  | 0 => 1
  | 1 => 0
  | 2 => 3
  | 3 => 2
  | 4 => 5
  | _ => 4
def ev_cp (t : Nat) (i j : Int32) : Prop := match t with
  | 0 => i = j
  | 1 => ¬ i = j
  | 2 => i < j
  | 3 => j ≤ i
  | 4 => j < i
  | _ => i ≤ j
def ev_cn (t : Nat) : Jvm.ClassFile.Cond := match t with
  | 0 => .eq
  | 1 => .ne
  | 2 => .lt
  | 3 => .ge
  | 4 => .gt
  | _ => .le
theorem ev_sx_lt_iff {i j : Int32} : i < j ↔ ev_sx i < ev_sx j := by
  rw [Int32.lt_iff_toInt_lt]
  have h1 := ev_sx_eq i
  have h2 := ev_sx_eq j
  omega
theorem ev_sx_le_iff {i j : Int32} : i ≤ j ↔ ev_sx i ≤ ev_sx j := by
  rw [Int32.le_iff_toInt_le]
  have h1 := ev_sx_eq i
  have h2 := ev_sx_eq j
  omega
theorem ev_ct_ok {t : Nat} {x y : ev_V} {i j : Int32} (hi : ev_in x i) (hj : ev_in y j) (h : ev_cp t i j) : ev_ct t x y = true := by
  obtain ⟨a1, a2⟩ := hi
  obtain ⟨b1, b2⟩ := hj
  unfold ev_cp at h
  unfold ev_ct
  split at h
  · subst h; exact decide_eq_true ⟨by omega, by omega⟩
  · have hf : ¬ (x.2.1 = x.2.2 ∧ y.2.1 = y.2.2 ∧ x.2.1 = y.2.1) := fun q => h (ev_sx_inj (by omega))
    simp [hf]
  · have h := ev_sx_lt_iff.mp h; exact decide_eq_true (by omega)
  · have h := ev_sx_le_iff.mp h; exact decide_eq_true (by omega)
  · have h := ev_sx_lt_iff.mp h; exact decide_eq_true (by omega)
  · have h := ev_sx_le_iff.mp h; exact decide_eq_true (by omega)
theorem ev_cf_ok {t : Nat} {x y : ev_V} {i j : Int32} (hi : ev_in x i) (hj : ev_in y j) (h : ¬ ev_cp t i j) : ev_ct (ev_ng t) x y = true := by
  apply ev_ct_ok hi hj
  unfold ev_cp at h
  split at h
  · exact h
  · show i = j
    exact Classical.not_not.mp h
  · show j ≤ i
    rw [ev_sx_le_iff]
    have : ¬ ev_sx i < ev_sx j := fun q => h (ev_sx_lt_iff.mpr q)
    omega
  · show i < j
    rw [ev_sx_lt_iff]
    have : ¬ ev_sx j ≤ ev_sx i := fun q => h (ev_sx_le_iff.mpr q)
    omega
  · show i ≤ j
    rw [ev_sx_le_iff]
    have : ¬ ev_sx j < ev_sx i := fun q => h (ev_sx_lt_iff.mpr q)
    omega
  · have h9 : ev_ng t = 4 := by
      unfold ev_ng
      split
      all_goals first | rfl | (exfalso; simp_all; done)
    rw [h9]
    show j < i
    rw [ev_sx_lt_iff]
    have : ¬ ev_sx i ≤ ev_sx j := fun q => h (ev_sx_le_iff.mpr q)
    omega
/-- a value fits a field; an answer fits -/
def ev_ft (Ct : List ev_Ct) (b a : Nat) (v : ev_V) : Bool := match Ct[b]? with
  | some q => ev_fit (q.2.1 a) v
  | none => false
def ev_fr (ret : Option FieldType) (v : ev_V) : Bool := match ret with
  | some ty => ev_fit ty v
  | none => false
def ev_ty (t : Nat) : FieldType := match t with
  | 0 => .byte
  | 1 => .int
  | _ => .long
/-- a row of an array of two dimensions -/
def ev_ci (ty : FieldType) (kd n : Nat) : ev_C := match ty with
  | .long => (3, kd, n, [])
  | _ => (2, kd, n, [(0, 2147483648, 2147483648)])
/-- the places of the cells that a callee wants: (0, i) argument i's, (j + 1, f) what value f of its cell j names -/
def ev_isp (w : List ev_C) (as : List (Nat × Nat × Nat)) : List (Nat × Nat) → List Nat → Option (List Nat)
  | [], acc => some acc
  | (0, i) :: ps, acc => (match as[i]? with
    | some v => if v.1 = 2 then ev_isp w as ps (acc ++ [v.2.1]) else none
    | none => none)
  | (b + 1, f) :: ps, acc => (match acc[b]? with
    | some g => (match w[g]? with
      | some c => (match c.2.2.2[f]? with
        | some v => if v.1 = 2 then ev_isp w as ps (acc ++ [v.2.1]) else none
        | none => none)
      | none => none)
    | none => none)
/-- a contract over some cells is tried -/
def ev_att (dd : Nat) (w : List ev_C) (as : List (Nat × Nat × Nat)) (mi : Nat) (q : Nat × Nat × List (Nat × Nat) × List (Nat × Nat × Nat) × List ev_C × ev_R) : Option (List ev_C × Nat × Nat) := if q.1 = mi then (match ev_isp w as q.2.2.1 [] with
  | some is => if va_nd is = true ∧ ev_lerW w is is q.2.2.2.2.1 = true ∧ ev_lerS is as q.2.2.2.1 = true ∧ ev_wok q.2.2.2.2.2.2.1 = true ∧ ev_fzz q.2.2.2.2.1 q.2.2.2.2.2.2.1 = true ∧ q.2.1 ≤ dd ∧ q.2.2.2.2.2.1 = none then some (ev_upf ev_c0 w (ev_mixf w is w.length q.2.2.2.2.1 is q.2.2.2.2.2.2.1) is, q.2.2.2.2.2.2.2.1, q.2.2.2.2.2.2.2.2) else none
  | none => none) else none
/-- which way a comparison goes: by the bounds, or both, to meet at j -/
def ev_way (u v : ev_S) (j : Nat) (a b : Bool) : Option (ev_S ⊕ (ev_R ⊕ (ev_S × ev_S × Nat))) := if a then (if b then some (.inr (.inr (u, v, j))) else some (.inl u)) else (if b then some (.inl v) else none)
def ev_o1 (Ct : List ev_Ct) (ret : Option FieldType) (sm : ev_Sm) (dd : Nat) (call : Nat → List (Nat × Nat × Nat) → List ev_C → Option ev_R) (i : ev_I) (st : ev_S) : Option (ev_S ⊕ (ev_R ⊕ (ev_S × ev_S × Nat))) := some (.inl (st.1 + 1, st.2.1, (0, i.2.2.1, i.2.2.1) :: st.2.2.1, st.2.2.2))
def ev_o2 (Ct : List ev_Ct) (ret : Option FieldType) (sm : ev_Sm) (dd : Nat) (call : Nat → List (Nat × Nat × Nat) → List ev_C → Option ev_R) (i : ev_I) (st : ev_S) : Option (ev_S ⊕ (ev_R ⊕ (ev_S × ev_S × Nat))) := some (.inl (st.1 + 1, st.2.1, (0, i.2.2.1, i.2.2.1) :: st.2.2.1, st.2.2.2))
def ev_o3 (Ct : List ev_Ct) (ret : Option FieldType) (sm : ev_Sm) (dd : Nat) (call : Nat → List (Nat × Nat × Nat) → List ev_C → Option ev_R) (i : ev_I) (st : ev_S) : Option (ev_S ⊕ (ev_R ⊕ (ev_S × ev_S × Nat))) := some (.inl (st.1 + 1, st.2.1, (0, i.2.2.1, i.2.2.1) :: st.2.2.1, st.2.2.2))
def ev_o6 (Ct : List ev_Ct) (ret : Option FieldType) (sm : ev_Sm) (dd : Nat) (call : Nat → List (Nat × Nat × Nat) → List ev_C → Option ev_R) (i : ev_I) (st : ev_S) : Option (ev_S ⊕ (ev_R ⊕ (ev_S × ev_S × Nat))) := match ev_get st.2.1 i.2.2.1 with
    | some v => if v.1 = 0 then some (.inl (st.1 + 1, st.2.1, v :: st.2.2.1, st.2.2.2)) else none
    | none => none
def ev_o7 (Ct : List ev_Ct) (ret : Option FieldType) (sm : ev_Sm) (dd : Nat) (call : Nat → List (Nat × Nat × Nat) → List ev_C → Option ev_R) (i : ev_I) (st : ev_S) : Option (ev_S ⊕ (ev_R ⊕ (ev_S × ev_S × Nat))) := match ev_get st.2.1 i.2.2.1 with
    | some v => if v.1 = 0 then some (.inl (st.1 + 1, st.2.1, v :: st.2.2.1, st.2.2.2)) else none
    | none => none
def ev_o8 (Ct : List ev_Ct) (ret : Option FieldType) (sm : ev_Sm) (dd : Nat) (call : Nat → List (Nat × Nat × Nat) → List ev_C → Option ev_R) (i : ev_I) (st : ev_S) : Option (ev_S ⊕ (ev_R ⊕ (ev_S × ev_S × Nat))) := match ev_get st.2.1 i.2.2.1 with
    | some v => if v.1 = 2 then some (.inl (st.1 + 1, st.2.1, v :: st.2.2.1, st.2.2.2)) else none
    | none => none
def ev_o9 (Ct : List ev_Ct) (ret : Option FieldType) (sm : ev_Sm) (dd : Nat) (call : Nat → List (Nat × Nat × Nat) → List ev_C → Option ev_R) (i : ev_I) (st : ev_S) : Option (ev_S ⊕ (ev_R ⊕ (ev_S × ev_S × Nat))) := match ev_get st.2.1 i.2.2.1 with
    | some v => if v.1 = 2 then some (.inl (st.1 + 1, st.2.1, v :: st.2.2.1, st.2.2.2)) else none
    | none => none
def ev_o10 (Ct : List ev_Ct) (ret : Option FieldType) (sm : ev_Sm) (dd : Nat) (call : Nat → List (Nat × Nat × Nat) → List ev_C → Option ev_R) (i : ev_I) (st : ev_S) : Option (ev_S ⊕ (ev_R ⊕ (ev_S × ev_S × Nat))) := match st.2.2.1 with
    | v :: S1 => if v.1 = 0 then some (.inl (st.1 + 1, ev_put st.2.1 i.2.2.1 v, S1, st.2.2.2)) else none
    | [] => none
def ev_o11 (Ct : List ev_Ct) (ret : Option FieldType) (sm : ev_Sm) (dd : Nat) (call : Nat → List (Nat × Nat × Nat) → List ev_C → Option ev_R) (i : ev_I) (st : ev_S) : Option (ev_S ⊕ (ev_R ⊕ (ev_S × ev_S × Nat))) := match st.2.2.1 with
    | v :: S1 => if v.1 = 0 then some (.inl (st.1 + 1, ev_put st.2.1 i.2.2.1 v, S1, st.2.2.2)) else none
    | [] => none
def ev_o12 (Ct : List ev_Ct) (ret : Option FieldType) (sm : ev_Sm) (dd : Nat) (call : Nat → List (Nat × Nat × Nat) → List ev_C → Option ev_R) (i : ev_I) (st : ev_S) : Option (ev_S ⊕ (ev_R ⊕ (ev_S × ev_S × Nat))) := match st.2.2.1 with
    | v :: S1 => if v.1 = 2 then some (.inl (st.1 + 1, ev_put st.2.1 i.2.2.1 v, S1, st.2.2.2)) else none
    | [] => none
def ev_o13 (Ct : List ev_Ct) (ret : Option FieldType) (sm : ev_Sm) (dd : Nat) (call : Nat → List (Nat × Nat × Nat) → List ev_C → Option ev_R) (i : ev_I) (st : ev_S) : Option (ev_S ⊕ (ev_R ⊕ (ev_S × ev_S × Nat))) := match st.2.2.1 with
    | v :: S1 => if v.1 = 2 then some (.inl (st.1 + 1, ev_put st.2.1 i.2.2.1 v, S1, st.2.2.2)) else none
    | [] => none
def ev_o14 (Ct : List ev_Ct) (ret : Option FieldType) (sm : ev_Sm) (dd : Nat) (call : Nat → List (Nat × Nat × Nat) → List ev_C → Option ev_R) (i : ev_I) (st : ev_S) : Option (ev_S ⊕ (ev_R ⊕ (ev_S × ev_S × Nat))) := match ev_get st.2.1 i.2.2.1 with
    | some v => if v.1 = 0 ∧ (ev_fadd v (0, i.2.2.2.1, i.2.2.2.1)).1 = 0 then some (.inl (st.1 + 1, ev_put st.2.1 i.2.2.1 (ev_fadd v (0, i.2.2.2.1, i.2.2.2.1)), st.2.2.1, st.2.2.2)) else none
    | none => none
def ev_o15 (Ct : List ev_Ct) (ret : Option FieldType) (sm : ev_Sm) (dd : Nat) (call : Nat → List (Nat × Nat × Nat) → List ev_C → Option ev_R) (i : ev_I) (st : ev_S) : Option (ev_S ⊕ (ev_R ⊕ (ev_S × ev_S × Nat))) := match st.2.2.1 with
    | y :: x :: S1 => if x.1 = 0 ∧ y.1 = 0 ∧ (ev_fadd x y).1 = 0 then some (.inl (st.1 + 1, st.2.1, ev_fadd x y :: S1, st.2.2.2)) else none
    | _ => none
def ev_o16 (Ct : List ev_Ct) (ret : Option FieldType) (sm : ev_Sm) (dd : Nat) (call : Nat → List (Nat × Nat × Nat) → List ev_C → Option ev_R) (i : ev_I) (st : ev_S) : Option (ev_S ⊕ (ev_R ⊕ (ev_S × ev_S × Nat))) := match st.2.2.1 with
    | y :: x :: S1 => if x.1 = 0 ∧ y.1 = 0 ∧ (ev_fsub x y).1 = 0 then some (.inl (st.1 + 1, st.2.1, ev_fsub x y :: S1, st.2.2.2)) else none
    | _ => none
def ev_o17 (Ct : List ev_Ct) (ret : Option FieldType) (sm : ev_Sm) (dd : Nat) (call : Nat → List (Nat × Nat × Nat) → List ev_C → Option ev_R) (i : ev_I) (st : ev_S) : Option (ev_S ⊕ (ev_R ⊕ (ev_S × ev_S × Nat))) := match st.2.2.1 with
    | y :: x :: S1 => if x.1 = 0 ∧ y.1 = 0 ∧ (ev_fmul x y).1 = 0 then some (.inl (st.1 + 1, st.2.1, ev_fmul x y :: S1, st.2.2.2)) else none
    | _ => none
def ev_o18 (Ct : List ev_Ct) (ret : Option FieldType) (sm : ev_Sm) (dd : Nat) (call : Nat → List (Nat × Nat × Nat) → List ev_C → Option ev_R) (i : ev_I) (st : ev_S) : Option (ev_S ⊕ (ev_R ⊕ (ev_S × ev_S × Nat))) := match st.2.2.1 with
    | y :: x :: S1 => if x.1 = 0 ∧ y.1 = 0 ∧ (ev_fand x y).1 = 0 then some (.inl (st.1 + 1, st.2.1, ev_fand x y :: S1, st.2.2.2)) else none
    | _ => none
def ev_o19 (Ct : List ev_Ct) (ret : Option FieldType) (sm : ev_Sm) (dd : Nat) (call : Nat → List (Nat × Nat × Nat) → List ev_C → Option ev_R) (i : ev_I) (st : ev_S) : Option (ev_S ⊕ (ev_R ⊕ (ev_S × ev_S × Nat))) := match st.2.2.1 with
    | y :: x :: S1 => if x.1 = 0 ∧ y.1 = 0 then some (.inl (st.1 + 1, st.2.1, ev_full :: S1, st.2.2.2)) else none
    | _ => none
def ev_o20 (Ct : List ev_Ct) (ret : Option FieldType) (sm : ev_Sm) (dd : Nat) (call : Nat → List (Nat × Nat × Nat) → List ev_C → Option ev_R) (i : ev_I) (st : ev_S) : Option (ev_S ⊕ (ev_R ⊕ (ev_S × ev_S × Nat))) := match st.2.2.1 with
    | y :: x :: S1 => if x.1 = 0 ∧ y.1 = 0 then some (.inl (st.1 + 1, st.2.1, ev_full :: S1, st.2.2.2)) else none
    | _ => none
def ev_o21 (Ct : List ev_Ct) (ret : Option FieldType) (sm : ev_Sm) (dd : Nat) (call : Nat → List (Nat × Nat × Nat) → List ev_C → Option ev_R) (i : ev_I) (st : ev_S) : Option (ev_S ⊕ (ev_R ⊕ (ev_S × ev_S × Nat))) := match st.2.2.1 with
    | y :: x :: S1 => if x.1 = 0 ∧ y.1 = 0 then some (.inl (st.1 + 1, st.2.1, ev_full :: S1, st.2.2.2)) else none
    | _ => none
def ev_o22 (Ct : List ev_Ct) (ret : Option FieldType) (sm : ev_Sm) (dd : Nat) (call : Nat → List (Nat × Nat × Nat) → List ev_C → Option ev_R) (i : ev_I) (st : ev_S) : Option (ev_S ⊕ (ev_R ⊕ (ev_S × ev_S × Nat))) := match st.2.2.1 with
    | v :: S1 => if v.1 ≠ 1 then some (.inl (st.1 + 1, st.2.1, v :: v :: S1, st.2.2.2)) else none
    | [] => none
def ev_o23 (Ct : List ev_Ct) (ret : Option FieldType) (sm : ev_Sm) (dd : Nat) (call : Nat → List (Nat × Nat × Nat) → List ev_C → Option ev_R) (i : ev_I) (st : ev_S) : Option (ev_S ⊕ (ev_R ⊕ (ev_S × ev_S × Nat))) := match st.2.2.1 with
    | v :: S1 => if v.1 ≠ 1 then some (.inl (st.1 + 1, st.2.1, S1, st.2.2.2)) else none
    | [] => none
def ev_o24 (Ct : List ev_Ct) (ret : Option FieldType) (sm : ev_Sm) (dd : Nat) (call : Nat → List (Nat × Nat × Nat) → List ev_C → Option ev_R) (i : ev_I) (st : ev_S) : Option (ev_S ⊕ (ev_R ⊕ (ev_S × ev_S × Nat))) := match st.2.2.1 with
    | u :: v :: S1 => if u.1 ≠ 1 ∧ v.1 ≠ 1 then some (.inl (st.1 + 1, st.2.1, u :: v :: u :: v :: S1, st.2.2.2)) else none
    | _ => none
def ev_o25 (Ct : List ev_Ct) (ret : Option FieldType) (sm : ev_Sm) (dd : Nat) (call : Nat → List (Nat × Nat × Nat) → List ev_C → Option ev_R) (i : ev_I) (st : ev_S) : Option (ev_S ⊕ (ev_R ⊕ (ev_S × ev_S × Nat))) := some (.inl (i.2.2.1, st.2))
def ev_o26 (Ct : List ev_Ct) (ret : Option FieldType) (sm : ev_Sm) (dd : Nat) (call : Nat → List (Nat × Nat × Nat) → List ev_C → Option ev_R) (i : ev_I) (st : ev_S) : Option (ev_S ⊕ (ev_R ⊕ (ev_S × ev_S × Nat))) := match st.2.2.1 with
    | y :: x :: S1 => if x.1 = 0 ∧ y.1 = 0 then ev_way (i.2.2.1, st.2.1, S1, st.2.2.2) (st.1 + 1, st.2.1, S1, st.2.2.2) i.2.2.2.1 (ev_ct i.2.2.2.2.2 x y) (ev_ct (ev_ng i.2.2.2.2.2) x y) else none
    | _ => none
def ev_o27 (Ct : List ev_Ct) (ret : Option FieldType) (sm : ev_Sm) (dd : Nat) (call : Nat → List (Nat × Nat × Nat) → List ev_C → Option ev_R) (i : ev_I) (st : ev_S) : Option (ev_S ⊕ (ev_R ⊕ (ev_S × ev_S × Nat))) := match st.2.2.1 with
    | x :: S1 => if x.1 = 0 then ev_way (i.2.2.1, st.2.1, S1, st.2.2.2) (st.1 + 1, st.2.1, S1, st.2.2.2) i.2.2.2.1 (ev_ct i.2.2.2.2.2 x (0, 2147483648, 2147483648)) (ev_ct (ev_ng i.2.2.2.2.2) x (0, 2147483648, 2147483648)) else none
    | _ => none
def ev_o28 (Ct : List ev_Ct) (ret : Option FieldType) (sm : ev_Sm) (dd : Nat) (call : Nat → List (Nat × Nat × Nat) → List ev_C → Option ev_R) (i : ev_I) (st : ev_S) : Option (ev_S ⊕ (ev_R ⊕ (ev_S × ev_S × Nat))) := match st.2.2.1 with
    | (2, k, _) :: S1 => (match st.2.2.2.1[k]? with
      | some (0, ci, _, fs) => if ci = i.2.2.2.1 then (match fs[i.2.2.1]? with
        | some v => some (.inl (st.1 + 1, st.2.1, v :: S1, st.2.2.2))
        | none => none) else none
      | _ => none)
    | _ => none
def ev_o29 (Ct : List ev_Ct) (ret : Option FieldType) (sm : ev_Sm) (dd : Nat) (call : Nat → List (Nat × Nat × Nat) → List ev_C → Option ev_R) (i : ev_I) (st : ev_S) : Option (ev_S ⊕ (ev_R ⊕ (ev_S × ev_S × Nat))) := match st.2.2.1 with
    | v :: (2, k, _) :: S1 => (match st.2.2.2.1[k]? with
      | some (0, ci, z, fs) => if ci = i.2.2.2.1 ∧ i.2.2.1 < fs.length ∧ ev_ft Ct i.2.2.2.1 i.2.2.1 v = true then some (.inl (st.1 + 1, st.2.1, S1, st.2.2.2.1.set k (0, ci, z, fs.set i.2.2.1 v), st.2.2.2.2)) else none
      | _ => none)
    | _ => none
def ev_o30 (Ct : List ev_Ct) (ret : Option FieldType) (sm : ev_Sm) (dd : Nat) (call : Nat → List (Nat × Nat × Nat) → List ev_C → Option ev_R) (i : ev_I) (st : ev_S) : Option (ev_S ⊕ (ev_R ⊕ (ev_S × ev_S × Nat))) := match st.2.2.1 with
    | v :: (2, k, _) :: S1 => (match st.2.2.2.1[k]? with
      | some (0, ci, z, fs) => if ci = i.2.2.2.1 ∧ i.2.2.1 < fs.length ∧ ev_ft Ct i.2.2.2.1 i.2.2.1 v = true then some (.inl (st.1 + 1, st.2.1, S1, st.2.2.2.1.set k (0, ci, z, fs.set i.2.2.1 v), st.2.2.2.2)) else none
      | _ => none)
    | _ => none
def ev_o31 (Ct : List ev_Ct) (ret : Option FieldType) (sm : ev_Sm) (dd : Nat) (call : Nat → List (Nat × Nat × Nat) → List ev_C → Option ev_R) (i : ev_I) (st : ev_S) : Option (ev_S ⊕ (ev_R ⊕ (ev_S × ev_S × Nat))) := match Ct[i.2.2.2.1]? with
    | some q => some (.inl (st.1 + 1, st.2.1, (2, st.2.2.2.1.length, 0) :: st.2.2.1, st.2.2.2.1 ++ [(0, i.2.2.2.1, 0, q.2.2)], st.2.2.2.2.1 + 1, st.2.2.2.2.2 + q.1.2.2))
    | none => none
def ev_o32 (Ct : List ev_Ct) (ret : Option FieldType) (sm : ev_Sm) (dd : Nat) (call : Nat → List (Nat × Nat × Nat) → List ev_C → Option ev_R) (i : ev_I) (st : ev_S) : Option (ev_S ⊕ (ev_R ⊕ (ev_S × ev_S × Nat))) := match st.2.2.1 with
    | (0, x, y) :: S1 => if x = y ∧ 2147483648 ≤ x ∧ x < 2281701376 then some (.inl (st.1 + 1, st.2.1, (2, st.2.2.2.1.length, 0) :: S1, st.2.2.2.1 ++ [(2, i.2.2.1, x - 2147483648, [(0, 2147483648, 2147483648)])], st.2.2.2.2.1 + 1, st.2.2.2.2.2 + (x - 2147483648))) else none
    | _ => none
def ev_o33 (Ct : List ev_Ct) (ret : Option FieldType) (sm : ev_Sm) (dd : Nat) (call : Nat → List (Nat × Nat × Nat) → List ev_C → Option ev_R) (i : ev_I) (st : ev_S) : Option (ev_S ⊕ (ev_R ⊕ (ev_S × ev_S × Nat))) := match st.2.2.1 with
    | (0, x, y) :: S1 => if x = y ∧ 2147483648 ≤ x ∧ x < 2214592512 then some (.inl (st.1 + 1, st.2.1, (2, st.2.2.2.1.length, 0) :: S1, st.2.2.2.1 ++ [(3, i.2.2.1, x - 2147483648, [])], st.2.2.2.2.1 + 1, st.2.2.2.2.2 + (x - 2147483648))) else none
    | _ => none
def ev_o34 (Ct : List ev_Ct) (ret : Option FieldType) (sm : ev_Sm) (dd : Nat) (call : Nat → List (Nat × Nat × Nat) → List ev_C → Option ev_R) (i : ev_I) (st : ev_S) : Option (ev_S ⊕ (ev_R ⊕ (ev_S × ev_S × Nat))) := match st.2.2.1 with
    | (0, x, y) :: S1 => if x = y ∧ 2147483648 ≤ x ∧ x < 2147500000 then some (.inl (st.1 + 1, st.2.1, (2, st.2.2.2.1.length, 0) :: S1, st.2.2.2.1 ++ [(1, i.2.2.1, x - 2147483648, List.replicate (x - 2147483648) (3, 0, 0))], st.2.2.2.2.1 + 1, st.2.2.2.2.2 + (x - 2147483648))) else none
    | _ => none
def ev_o35 (Ct : List ev_Ct) (ret : Option FieldType) (sm : ev_Sm) (dd : Nat) (call : Nat → List (Nat × Nat × Nat) → List ev_C → Option ev_R) (i : ev_I) (st : ev_S) : Option (ev_S ⊕ (ev_R ⊕ (ev_S × ev_S × Nat))) := match st.2.2.1 with
    | (0, x, y) :: (0, x2, y2) :: S1 => if x = y ∧ x2 = y2 ∧ 2147483648 ≤ x ∧ x < 2147500000 ∧ 2147483648 ≤ x2 ∧ x2 < 2147500000 then some (.inl (st.1 + 1, st.2.1, (2, st.2.2.2.1.length, 0) :: S1, st.2.2.2.1 ++ ((1, i.2.2.1, x2 - 2147483648, (List.range (x2 - 2147483648)).map (fun i => (2, st.2.2.2.1.length + 1 + i, 0))) :: List.replicate (x2 - 2147483648) (ev_ci (ev_ty i.2.2.2.2.2) i.2.2.2.1 (x - 2147483648))), st.2.2.2.2.1 + (1 + (x2 - 2147483648)), st.2.2.2.2.2 + ((x2 - 2147483648) + (x2 - 2147483648) * (x - 2147483648)))) else none
    | _ => none
def ev_o42 (Ct : List ev_Ct) (ret : Option FieldType) (sm : ev_Sm) (dd : Nat) (call : Nat → List (Nat × Nat × Nat) → List ev_C → Option ev_R) (i : ev_I) (st : ev_S) : Option (ev_S ⊕ (ev_R ⊕ (ev_S × ev_S × Nat))) := match st.2.2.1 with
    | (0, x, y) :: (2, k, _) :: S1 => (match st.2.2.2.1[k]? with
      | some (1, kd, n, es) => if x = y ∧ 2147483648 ≤ x ∧ x - 2147483648 < n ∧ n < 2147483648 ∧ kd = i.2.2.1 then (match es[x - 2147483648]? with
        | some v => some (.inl (st.1 + 1, st.2.1, v :: S1, st.2.2.2))
        | none => none) else none
      | _ => none)
    | _ => none
def ev_o43 (Ct : List ev_Ct) (ret : Option FieldType) (sm : ev_Sm) (dd : Nat) (call : Nat → List (Nat × Nat × Nat) → List ev_C → Option ev_R) (i : ev_I) (st : ev_S) : Option (ev_S ⊕ (ev_R ⊕ (ev_S × ev_S × Nat))) := match st.2.2.1 with
    | (2, o, _) :: (0, x, y) :: (2, k, _) :: S1 => (match st.2.2.2.1[k]? with
      | some (1, kd, n, es) => (match st.2.2.2.1[o]? with
        | some (0, ci, _, _) => if x = y ∧ 2147483648 ≤ x ∧ x - 2147483648 < n ∧ n < 2147483648 ∧ kd = i.2.2.1 ∧ ci = i.2.2.2.1 then some (.inl (st.1 + 1, st.2.1, S1, st.2.2.2.1.set k (1, kd, n, es.set (x - 2147483648) (2, o, 0)), st.2.2.2.2)) else none
        | _ => none)
      | _ => none)
    | _ => none
def ev_o45 (Ct : List ev_Ct) (ret : Option FieldType) (sm : ev_Sm) (dd : Nat) (call : Nat → List (Nat × Nat × Nat) → List ev_C → Option ev_R) (i : ev_I) (st : ev_S) : Option (ev_S ⊕ (ev_R ⊕ (ev_S × ev_S × Nat))) := match st.2.2.1.drop i.2.2.2.1 with
    | (2, k, z) :: S2 => (match call i.2.2.1 ((2, k, z) :: (st.2.2.1.take i.2.2.2.1).reverse) st.2.2.2.1 with
      | some (none, w1, mc, ms) => if (st.2.2.1.take i.2.2.2.1).length = i.2.2.2.1 ∧ ev_cs S2 ≤ 8 ∧ ev_fz st.2.2.2.1 w1 = true then some (.inl (st.1 + 1, st.2.1, S2, w1, st.2.2.2.2.1 + mc, st.2.2.2.2.2 + ms)) else none
      | _ => none)
    | _ => none
def ev_o46 (Ct : List ev_Ct) (ret : Option FieldType) (sm : ev_Sm) (dd : Nat) (call : Nat → List (Nat × Nat × Nat) → List ev_C → Option ev_R) (i : ev_I) (st : ev_S) : Option (ev_S ⊕ (ev_R ⊕ (ev_S × ev_S × Nat))) := match st.2.2.1 with
    | (2, _, _) :: S1 => if ev_cs S1 ≤ 8 then some (.inl (st.1 + 1, st.2.1, S1, st.2.2.2)) else none
    | _ => none
def ev_o49 (Ct : List ev_Ct) (ret : Option FieldType) (sm : ev_Sm) (dd : Nat) (call : Nat → List (Nat × Nat × Nat) → List ev_C → Option ev_R) (i : ev_I) (st : ev_S) : Option (ev_S ⊕ (ev_R ⊕ (ev_S × ev_S × Nat))) := match st.2.2.1 with
    | [] => some (.inr (.inl (none, st.2.2.2.1, st.2.2.2.2.1, st.2.2.2.2.2)))
    | _ => none
def ev_o50 (Ct : List ev_Ct) (ret : Option FieldType) (sm : ev_Sm) (dd : Nat) (call : Nat → List (Nat × Nat × Nat) → List ev_C → Option ev_R) (i : ev_I) (st : ev_S) : Option (ev_S ⊕ (ev_R ⊕ (ev_S × ev_S × Nat))) := match st.2.2.1 with
    | [v] => if v.1 = 0 ∧ ev_fr ret v = true then some (.inr (.inl (some v, st.2.2.2.1, st.2.2.2.2.1, st.2.2.2.2.2))) else none
    | _ => none
def ev_o55 (Ct : List ev_Ct) (ret : Option FieldType) (sm : ev_Sm) (dd : Nat) (call : Nat → List (Nat × Nat × Nat) → List ev_C → Option ev_R) (i : ev_I) (st : ev_S) : Option (ev_S ⊕ (ev_R ⊕ (ev_S × ev_S × Nat))) := match st.2.2.1.drop i.2.2.2.1 with
    | (2, k, z) :: S2 => (match sm.findSome? (ev_att dd st.2.2.2.1 ((2, k, z) :: (st.2.2.1.take i.2.2.2.1).reverse) i.2.2.2.2.2) with
      | some r => if (st.2.2.1.take i.2.2.2.1).length = i.2.2.2.1 ∧ ev_cs S2 ≤ 8 then some (.inl (st.1 + 1, st.2.1, S2, r.1, st.2.2.2.2.1 + r.2.1, st.2.2.2.2.2 + r.2.2)) else none
      | none => none)
    | _ => none
/-- which numbers name which arrays -/
def ev_at (t : Nat) : ArrayType := match t with
  | 0 => .boolean
  | 4 => .byte
  | 6 => .int
  | _ => .long
def ev_k1 (Gs : List Cond) (Ct : List ev_Ct) (kt : List FieldType) (Pg : List ev_Mt) (sm : ev_Sm) (own nm : String) (cc : ByteArray) (nL : Nat) (ret : Option FieldType) (cd : ev_Cd) (ix : Nat) (i : ev_I) : Bool := decide (decode cc (ev_pc cd ix) = .ok (.iconst (ev_dn cc (ev_pc cd ix)), 1)) && decide (ev_pc cd (ix + 1) = ev_pc cd ix + 1) && decide (ev_sx (Int32.ofInt (ev_dn cc (ev_pc cd ix))) = i.2.2.1)
def ev_k2 (Gs : List Cond) (Ct : List ev_Ct) (kt : List FieldType) (Pg : List ev_Mt) (sm : ev_Sm) (own nm : String) (cc : ByteArray) (nL : Nat) (ret : Option FieldType) (cd : ev_Cd) (ix : Nat) (i : ev_I) : Bool := decide (decode cc (ev_pc cd ix) = .ok (.bipush (ev_dn cc (ev_pc cd ix)), 2)) && decide (ev_pc cd (ix + 1) = ev_pc cd ix + 2) && decide (ev_sx (Int8.ofInt (ev_dn cc (ev_pc cd ix))).toInt32 = i.2.2.1)
def ev_k3 (Gs : List Cond) (Ct : List ev_Ct) (kt : List FieldType) (Pg : List ev_Mt) (sm : ev_Sm) (own nm : String) (cc : ByteArray) (nL : Nat) (ret : Option FieldType) (cd : ev_Cd) (ix : Nat) (i : ev_I) : Bool := decide (decode cc (ev_pc cd ix) = .ok (.sipush (ev_dn cc (ev_pc cd ix)), 3)) && decide (ev_pc cd (ix + 1) = ev_pc cd ix + 3) && decide (ev_sx (Int16.ofInt (ev_dn cc (ev_pc cd ix))).toInt32 = i.2.2.1)
def ev_k6 (Gs : List Cond) (Ct : List ev_Ct) (kt : List FieldType) (Pg : List ev_Mt) (sm : ev_Sm) (own nm : String) (cc : ByteArray) (nL : Nat) (ret : Option FieldType) (cd : ev_Cd) (ix : Nat) (i : ev_I) : Bool := decide (decode cc (ev_pc cd ix) = .ok (.iload_n (Fin.ofNat 4 i.2.2.1), 1)) && decide (ev_pc cd (ix + 1) = ev_pc cd ix + 1) && decide (i.2.2.1 < 4)
def ev_k7 (Gs : List Cond) (Ct : List ev_Ct) (kt : List FieldType) (Pg : List ev_Mt) (sm : ev_Sm) (own nm : String) (cc : ByteArray) (nL : Nat) (ret : Option FieldType) (cd : ev_Cd) (ix : Nat) (i : ev_I) : Bool := decide (decode cc (ev_pc cd ix) = .ok (.iload i.2.2.1, 2)) && decide (ev_pc cd (ix + 1) = ev_pc cd ix + 2)
def ev_k8 (Gs : List Cond) (Ct : List ev_Ct) (kt : List FieldType) (Pg : List ev_Mt) (sm : ev_Sm) (own nm : String) (cc : ByteArray) (nL : Nat) (ret : Option FieldType) (cd : ev_Cd) (ix : Nat) (i : ev_I) : Bool := decide (decode cc (ev_pc cd ix) = .ok (.aload_n (Fin.ofNat 4 i.2.2.1), 1)) && decide (ev_pc cd (ix + 1) = ev_pc cd ix + 1) && decide (i.2.2.1 < 4)
def ev_k9 (Gs : List Cond) (Ct : List ev_Ct) (kt : List FieldType) (Pg : List ev_Mt) (sm : ev_Sm) (own nm : String) (cc : ByteArray) (nL : Nat) (ret : Option FieldType) (cd : ev_Cd) (ix : Nat) (i : ev_I) : Bool := decide (decode cc (ev_pc cd ix) = .ok (.aload i.2.2.1, 2)) && decide (ev_pc cd (ix + 1) = ev_pc cd ix + 2)
def ev_k10 (Gs : List Cond) (Ct : List ev_Ct) (kt : List FieldType) (Pg : List ev_Mt) (sm : ev_Sm) (own nm : String) (cc : ByteArray) (nL : Nat) (ret : Option FieldType) (cd : ev_Cd) (ix : Nat) (i : ev_I) : Bool := decide (decode cc (ev_pc cd ix) = .ok (.istore_n (Fin.ofNat 4 i.2.2.1), 1)) && decide (ev_pc cd (ix + 1) = ev_pc cd ix + 1) && decide (i.2.2.1 < 4) && decide (i.2.2.1 < nL)
def ev_k11 (Gs : List Cond) (Ct : List ev_Ct) (kt : List FieldType) (Pg : List ev_Mt) (sm : ev_Sm) (own nm : String) (cc : ByteArray) (nL : Nat) (ret : Option FieldType) (cd : ev_Cd) (ix : Nat) (i : ev_I) : Bool := decide (decode cc (ev_pc cd ix) = .ok (.istore i.2.2.1, 2)) && decide (ev_pc cd (ix + 1) = ev_pc cd ix + 2) && decide (i.2.2.1 < nL)
def ev_k12 (Gs : List Cond) (Ct : List ev_Ct) (kt : List FieldType) (Pg : List ev_Mt) (sm : ev_Sm) (own nm : String) (cc : ByteArray) (nL : Nat) (ret : Option FieldType) (cd : ev_Cd) (ix : Nat) (i : ev_I) : Bool := decide (decode cc (ev_pc cd ix) = .ok (.astore_n (Fin.ofNat 4 i.2.2.1), 1)) && decide (ev_pc cd (ix + 1) = ev_pc cd ix + 1) && decide (i.2.2.1 < 4) && decide (i.2.2.1 < nL)
def ev_k13 (Gs : List Cond) (Ct : List ev_Ct) (kt : List FieldType) (Pg : List ev_Mt) (sm : ev_Sm) (own nm : String) (cc : ByteArray) (nL : Nat) (ret : Option FieldType) (cd : ev_Cd) (ix : Nat) (i : ev_I) : Bool := decide (decode cc (ev_pc cd ix) = .ok (.astore i.2.2.1, 2)) && decide (ev_pc cd (ix + 1) = ev_pc cd ix + 2) && decide (i.2.2.1 < nL)
def ev_k14 (Gs : List Cond) (Ct : List ev_Ct) (kt : List FieldType) (Pg : List ev_Mt) (sm : ev_Sm) (own nm : String) (cc : ByteArray) (nL : Nat) (ret : Option FieldType) (cd : ev_Cd) (ix : Nat) (i : ev_I) : Bool := decide (decode cc (ev_pc cd ix) = .ok (.iinc i.2.2.1 (ev_dn cc (ev_pc cd ix)), 3)) && decide (ev_pc cd (ix + 1) = ev_pc cd ix + 3) && decide (ev_sx (Int32.ofInt (ev_dn cc (ev_pc cd ix))) = i.2.2.2.1) && decide (i.2.2.1 < nL)
def ev_k15 (Gs : List Cond) (Ct : List ev_Ct) (kt : List FieldType) (Pg : List ev_Mt) (sm : ev_Sm) (own nm : String) (cc : ByteArray) (nL : Nat) (ret : Option FieldType) (cd : ev_Cd) (ix : Nat) (i : ev_I) : Bool := decide (decode cc (ev_pc cd ix) = .ok (.iadd, 1)) && decide (ev_pc cd (ix + 1) = ev_pc cd ix + 1)
def ev_k16 (Gs : List Cond) (Ct : List ev_Ct) (kt : List FieldType) (Pg : List ev_Mt) (sm : ev_Sm) (own nm : String) (cc : ByteArray) (nL : Nat) (ret : Option FieldType) (cd : ev_Cd) (ix : Nat) (i : ev_I) : Bool := decide (decode cc (ev_pc cd ix) = .ok (.isub, 1)) && decide (ev_pc cd (ix + 1) = ev_pc cd ix + 1)
def ev_k17 (Gs : List Cond) (Ct : List ev_Ct) (kt : List FieldType) (Pg : List ev_Mt) (sm : ev_Sm) (own nm : String) (cc : ByteArray) (nL : Nat) (ret : Option FieldType) (cd : ev_Cd) (ix : Nat) (i : ev_I) : Bool := decide (decode cc (ev_pc cd ix) = .ok (.imul, 1)) && decide (ev_pc cd (ix + 1) = ev_pc cd ix + 1)
def ev_k18 (Gs : List Cond) (Ct : List ev_Ct) (kt : List FieldType) (Pg : List ev_Mt) (sm : ev_Sm) (own nm : String) (cc : ByteArray) (nL : Nat) (ret : Option FieldType) (cd : ev_Cd) (ix : Nat) (i : ev_I) : Bool := decide (decode cc (ev_pc cd ix) = .ok (.iand, 1)) && decide (ev_pc cd (ix + 1) = ev_pc cd ix + 1)
def ev_k19 (Gs : List Cond) (Ct : List ev_Ct) (kt : List FieldType) (Pg : List ev_Mt) (sm : ev_Sm) (own nm : String) (cc : ByteArray) (nL : Nat) (ret : Option FieldType) (cd : ev_Cd) (ix : Nat) (i : ev_I) : Bool := decide (decode cc (ev_pc cd ix) = .ok (.ior, 1)) && decide (ev_pc cd (ix + 1) = ev_pc cd ix + 1)
def ev_k20 (Gs : List Cond) (Ct : List ev_Ct) (kt : List FieldType) (Pg : List ev_Mt) (sm : ev_Sm) (own nm : String) (cc : ByteArray) (nL : Nat) (ret : Option FieldType) (cd : ev_Cd) (ix : Nat) (i : ev_I) : Bool := decide (decode cc (ev_pc cd ix) = .ok (.ixor, 1)) && decide (ev_pc cd (ix + 1) = ev_pc cd ix + 1)
def ev_k21 (Gs : List Cond) (Ct : List ev_Ct) (kt : List FieldType) (Pg : List ev_Mt) (sm : ev_Sm) (own nm : String) (cc : ByteArray) (nL : Nat) (ret : Option FieldType) (cd : ev_Cd) (ix : Nat) (i : ev_I) : Bool := decide (decode cc (ev_pc cd ix) = .ok (.ishl, 1)) && decide (ev_pc cd (ix + 1) = ev_pc cd ix + 1)
def ev_k22 (Gs : List Cond) (Ct : List ev_Ct) (kt : List FieldType) (Pg : List ev_Mt) (sm : ev_Sm) (own nm : String) (cc : ByteArray) (nL : Nat) (ret : Option FieldType) (cd : ev_Cd) (ix : Nat) (i : ev_I) : Bool := decide (decode cc (ev_pc cd ix) = .ok (.dup, 1)) && decide (ev_pc cd (ix + 1) = ev_pc cd ix + 1)
def ev_k23 (Gs : List Cond) (Ct : List ev_Ct) (kt : List FieldType) (Pg : List ev_Mt) (sm : ev_Sm) (own nm : String) (cc : ByteArray) (nL : Nat) (ret : Option FieldType) (cd : ev_Cd) (ix : Nat) (i : ev_I) : Bool := decide (decode cc (ev_pc cd ix) = .ok (.pop, 1)) && decide (ev_pc cd (ix + 1) = ev_pc cd ix + 1)
def ev_k24 (Gs : List Cond) (Ct : List ev_Ct) (kt : List FieldType) (Pg : List ev_Mt) (sm : ev_Sm) (own nm : String) (cc : ByteArray) (nL : Nat) (ret : Option FieldType) (cd : ev_Cd) (ix : Nat) (i : ev_I) : Bool := decide (decode cc (ev_pc cd ix) = .ok (.dup2, 1)) && decide (ev_pc cd (ix + 1) = ev_pc cd ix + 1)
def ev_k25 (Gs : List Cond) (Ct : List ev_Ct) (kt : List FieldType) (Pg : List ev_Mt) (sm : ev_Sm) (own nm : String) (cc : ByteArray) (nL : Nat) (ret : Option FieldType) (cd : ev_Cd) (ix : Nat) (i : ev_I) : Bool := decide (decode cc (ev_pc cd ix) = .ok (.goto (ev_dn cc (ev_pc cd ix)), 3)) && decide (((ev_pc cd ix : Nat) : Int) + ev_dn cc (ev_pc cd ix) = ((ev_pc cd i.2.2.1 : Nat) : Int))
def ev_k26 (Gs : List Cond) (Ct : List ev_Ct) (kt : List FieldType) (Pg : List ev_Mt) (sm : ev_Sm) (own nm : String) (cc : ByteArray) (nL : Nat) (ret : Option FieldType) (cd : ev_Cd) (ix : Nat) (i : ev_I) : Bool := decide (decode cc (ev_pc cd ix) = .ok (.if_icmp (ev_cn i.2.2.2.2.2) (ev_dn cc (ev_pc cd ix)), 3)) && decide (ev_pc cd (ix + 1) = ev_pc cd ix + 3) && decide (((ev_pc cd ix : Nat) : Int) + ev_dn cc (ev_pc cd ix) = ((ev_pc cd i.2.2.1 : Nat) : Int))
def ev_k27 (Gs : List Cond) (Ct : List ev_Ct) (kt : List FieldType) (Pg : List ev_Mt) (sm : ev_Sm) (own nm : String) (cc : ByteArray) (nL : Nat) (ret : Option FieldType) (cd : ev_Cd) (ix : Nat) (i : ev_I) : Bool := decide (decode cc (ev_pc cd ix) = .ok (.ifCond (ev_cn i.2.2.2.2.2) (ev_dn cc (ev_pc cd ix)), 3)) && decide (ev_pc cd (ix + 1) = ev_pc cd ix + 3) && decide (((ev_pc cd ix : Nat) : Int) + ev_dn cc (ev_pc cd ix) = ((ev_pc cd i.2.2.1 : Nat) : Int))
def ev_k28 (Gs : List Cond) (Ct : List ev_Ct) (kt : List FieldType) (Pg : List ev_Mt) (sm : ev_Sm) (own nm : String) (cc : ByteArray) (nL : Nat) (ret : Option FieldType) (cd : ev_Cd) (ix : Nat) (i : ev_I) : Bool := decide (decode cc (ev_pc cd ix) = .ok (.getfield i.2.2.2.2.1, 3)) && decide (ev_pc cd (ix + 1) = ev_pc cd ix + 3) && (match Ct[i.2.2.2.1]? with
    | some q => decide (i.2.2.1 < q.1.2.2) && decide (Cond.fieldLink own i.2.2.2.2.1 (q.1.2.1 i.2.2.1).1 (q.1.2.1 i.2.2.1).2.1 (q.1.2.1 i.2.2.1).2.2.1 ∈ Gs)
    | none => false)
def ev_k29 (Gs : List Cond) (Ct : List ev_Ct) (kt : List FieldType) (Pg : List ev_Mt) (sm : ev_Sm) (own nm : String) (cc : ByteArray) (nL : Nat) (ret : Option FieldType) (cd : ev_Cd) (ix : Nat) (i : ev_I) : Bool := decide (decode cc (ev_pc cd ix) = .ok (.putfield i.2.2.2.2.1, 3)) && decide (ev_pc cd (ix + 1) = ev_pc cd ix + 3) && (match Ct[i.2.2.2.1]? with
    | some q => decide (i.2.2.1 < q.1.2.2) && decide (Cond.fieldLink own i.2.2.2.2.1 (q.1.2.1 i.2.2.1).1 (q.1.2.1 i.2.2.1).2.1 (q.1.2.1 i.2.2.1).2.2.1 ∈ Gs) && decide ((q.1.2.1 i.2.2.1).2.2.2 = false)
    | none => false)
def ev_k30 (Gs : List Cond) (Ct : List ev_Ct) (kt : List FieldType) (Pg : List ev_Mt) (sm : ev_Sm) (own nm : String) (cc : ByteArray) (nL : Nat) (ret : Option FieldType) (cd : ev_Cd) (ix : Nat) (i : ev_I) : Bool := decide (decode cc (ev_pc cd ix) = .ok (.putfield i.2.2.2.2.1, 3)) && decide (ev_pc cd (ix + 1) = ev_pc cd ix + 3) && (match Ct[i.2.2.2.1]? with
    | some q => decide (i.2.2.1 < q.1.2.2) && decide (Cond.fieldLink own i.2.2.2.2.1 (q.1.2.1 i.2.2.1).1 (q.1.2.1 i.2.2.1).2.1 (q.1.2.1 i.2.2.1).2.2.1 ∈ Gs) && decide ((q.1.2.1 i.2.2.1).2.2.2 = true) && decide (nm = "<init>") && decide ((q.1.2.1 i.2.2.1).1 = own)
    | none => false)
def ev_k31 (Gs : List Cond) (Ct : List ev_Ct) (kt : List FieldType) (Pg : List ev_Mt) (sm : ev_Sm) (own nm : String) (cc : ByteArray) (nL : Nat) (ret : Option FieldType) (cd : ev_Cd) (ix : Nat) (i : ev_I) : Bool := decide (decode cc (ev_pc cd ix) = .ok (.new i.2.2.2.2.1, 3)) && decide (ev_pc cd (ix + 1) = ev_pc cd ix + 3) && (match Ct[i.2.2.2.1]? with
    | some q => decide (Cond.classLink own i.2.2.2.2.1 q.1.1 ∈ Gs)
    | none => false)
def ev_k32 (Gs : List Cond) (Ct : List ev_Ct) (kt : List FieldType) (Pg : List ev_Mt) (sm : ev_Sm) (own nm : String) (cc : ByteArray) (nL : Nat) (ret : Option FieldType) (cd : ev_Cd) (ix : Nat) (i : ev_I) : Bool := decide (decode cc (ev_pc cd ix) = .ok (.newarray (ev_at i.2.2.2.2.2), 2)) && decide (ev_pc cd (ix + 1) = ev_pc cd ix + 2) && (match kt[i.2.2.1]? with
    | some ty => decide (newarray.typeOf (ev_at i.2.2.2.2.2) = ty) && decide (defaultValue ty = .int 0) && decide (componentBytes ty ≤ 4) && decide (Cond.arrayClass ty ∈ Gs)
    | none => false)
def ev_k33 (Gs : List Cond) (Ct : List ev_Ct) (kt : List FieldType) (Pg : List ev_Mt) (sm : ev_Sm) (own nm : String) (cc : ByteArray) (nL : Nat) (ret : Option FieldType) (cd : ev_Cd) (ix : Nat) (i : ev_I) : Bool := decide (decode cc (ev_pc cd ix) = .ok (.newarray (ev_at i.2.2.2.2.2), 2)) && decide (ev_pc cd (ix + 1) = ev_pc cd ix + 2) && decide (newarray.typeOf (ev_at i.2.2.2.2.2) = .long) && decide (kt[i.2.2.1]? = some .long) && decide (Cond.arrayClass .long ∈ Gs)
def ev_k34 (Gs : List Cond) (Ct : List ev_Ct) (kt : List FieldType) (Pg : List ev_Mt) (sm : ev_Sm) (own nm : String) (cc : ByteArray) (nL : Nat) (ret : Option FieldType) (cd : ev_Cd) (ix : Nat) (i : ev_I) : Bool := decide (decode cc (ev_pc cd ix) = .ok (.anewarray i.2.2.2.2.1, 3)) && decide (ev_pc cd (ix + 1) = ev_pc cd ix + 3) && (match kt[i.2.2.1]? with
    | some (.object C) => decide (Cond.classLink own i.2.2.2.2.1 C ∈ Gs)
    | _ => false)
def ev_k35 (Gs : List Cond) (Ct : List ev_Ct) (kt : List FieldType) (Pg : List ev_Mt) (sm : ev_Sm) (own nm : String) (cc : ByteArray) (nL : Nat) (ret : Option FieldType) (cd : ev_Cd) (ix : Nat) (i : ev_I) : Bool := decide (decode cc (ev_pc cd ix) = .ok (.multianewarray i.2.2.2.2.1 2, 4)) && decide (ev_pc cd (ix + 1) = ev_pc cd ix + 4) && decide (kt[i.2.2.1]? = some (.array (ev_ty i.2.2.2.2.2))) && decide (kt[i.2.2.2.1]? = some (ev_ty i.2.2.2.2.2)) && decide (Cond.classLink own i.2.2.2.2.1 ("[" ++ (FieldType.array (ev_ty i.2.2.2.2.2)).toString) ∈ Gs) && decide (Cond.arrayClass (ev_ty i.2.2.2.2.2) ∈ Gs)
def ev_k42 (Gs : List Cond) (Ct : List ev_Ct) (kt : List FieldType) (Pg : List ev_Mt) (sm : ev_Sm) (own nm : String) (cc : ByteArray) (nL : Nat) (ret : Option FieldType) (cd : ev_Cd) (ix : Nat) (i : ev_I) : Bool := decide (decode cc (ev_pc cd ix) = .ok (.aaload, 1)) && decide (ev_pc cd (ix + 1) = ev_pc cd ix + 1) && (match kt[i.2.2.1]? with
    | some ty => ty.isReference
    | none => false)
def ev_k43 (Gs : List Cond) (Ct : List ev_Ct) (kt : List FieldType) (Pg : List ev_Mt) (sm : ev_Sm) (own nm : String) (cc : ByteArray) (nL : Nat) (ret : Option FieldType) (cd : ev_Cd) (ix : Nat) (i : ev_I) : Bool := decide (decode cc (ev_pc cd ix) = .ok (.aastore, 1)) && decide (ev_pc cd (ix + 1) = ev_pc cd ix + 1) && (match Ct[i.2.2.2.1]? with
    | some q => decide (kt[i.2.2.1]? = some (.object q.1.1))
    | none => false)
def ev_k45 (Gs : List Cond) (Ct : List ev_Ct) (kt : List FieldType) (Pg : List ev_Mt) (sm : ev_Sm) (own nm : String) (cc : ByteArray) (nL : Nat) (ret : Option FieldType) (cd : ev_Cd) (ix : Nat) (i : ev_I) : Bool := decide (decode cc (ev_pc cd ix) = .ok (.invokespecial i.2.2.2.2.1, 3)) && decide (ev_pc cd (ix + 1) = ev_pc cd ix + 3) && (match Pg[i.2.2.1]? with
    | some ((y, bytes, maxL, none), _) => decide (Cond.code y bytes maxL none ∈ Gs) && decide (Cond.initialized y.cls ∈ Gs) && decide (Cond.methodLink own i.2.2.2.2.1 y ∈ Gs) && decide (Cond.instanceMethod y ∈ Gs) && decide (y.name = "<init>") && decide (y.cls ≠ "java/lang/invoke/MethodHandle" ∧ y.cls ≠ "java/lang/invoke/VarHandle" ∧ (parseMethodDescriptor y.desc).map (fun d => d.parameters.length) = some i.2.2.2.1) && decide (maxL ≤ 181)
    | _ => false)
def ev_k46 (Gs : List Cond) (Ct : List ev_Ct) (kt : List FieldType) (Pg : List ev_Mt) (sm : ev_Sm) (own nm : String) (cc : ByteArray) (nL : Nat) (ret : Option FieldType) (cd : ev_Cd) (ix : Nat) (i : ev_I) : Bool := decide (decode cc (ev_pc cd ix) = .ok (.invokespecial i.2.2.2.2.1, 3)) && decide (ev_pc cd (ix + 1) = ev_pc cd ix + 3) && decide (Cond.methodLink own i.2.2.2.2.1 objectInit ∈ Gs) && decide (Cond.instanceMethod objectInit ∈ Gs) && decide (Cond.code objectInit ⟨#[0xb1]⟩ 1 none ∈ Gs)
def ev_k49 (Gs : List Cond) (Ct : List ev_Ct) (kt : List FieldType) (Pg : List ev_Mt) (sm : ev_Sm) (own nm : String) (cc : ByteArray) (nL : Nat) (ret : Option FieldType) (cd : ev_Cd) (ix : Nat) (i : ev_I) : Bool := decide (decode cc (ev_pc cd ix) = .ok (.return_, 1)) && decide (ret = none)
def ev_k50 (Gs : List Cond) (Ct : List ev_Ct) (kt : List FieldType) (Pg : List ev_Mt) (sm : ev_Sm) (own nm : String) (cc : ByteArray) (nL : Nat) (ret : Option FieldType) (cd : ev_Cd) (ix : Nat) (i : ev_I) : Bool := decide (decode cc (ev_pc cd ix) = .ok (.ireturn, 1))
def ev_k55 (Gs : List Cond) (Ct : List ev_Ct) (kt : List FieldType) (Pg : List ev_Mt) (sm : ev_Sm) (own nm : String) (cc : ByteArray) (nL : Nat) (ret : Option FieldType) (cd : ev_Cd) (ix : Nat) (i : ev_I) : Bool := decide (decode cc (ev_pc cd ix) = .ok (.invokespecial i.2.2.2.2.1, 3)) && decide (ev_pc cd (ix + 1) = ev_pc cd ix + 3) && (match Pg[i.2.2.2.2.2]? with
    | some ((y, bytes, maxL, none), _) => decide (Cond.code y bytes maxL none ∈ Gs) && decide (Cond.initialized y.cls ∈ Gs) && decide (Cond.methodLink own i.2.2.2.2.1 y ∈ Gs) && decide (Cond.instanceMethod y ∈ Gs) && decide (y.name = "<init>") && decide (y.cls ≠ "java/lang/invoke/MethodHandle" ∧ y.cls ≠ "java/lang/invoke/VarHandle" ∧ (parseMethodDescriptor y.desc).map (fun d => d.parameters.length) = some i.2.2.2.1) && decide (maxL ≤ 181)
    | _ => false)
def ev_op (Ct : List ev_Ct) (ret : Option FieldType) (sm : ev_Sm) (dd : Nat) (call : Nat → List (Nat × Nat × Nat) → List ev_C → Option ev_R) (i : ev_I) (st : ev_S) : Option (ev_S ⊕ (ev_R ⊕ (ev_S × ev_S × Nat))) := match i.2.1 with
  | 1 => ev_o1 Ct ret sm dd call i st
  | 2 => ev_o2 Ct ret sm dd call i st
  | 3 => ev_o3 Ct ret sm dd call i st
  | 6 => ev_o6 Ct ret sm dd call i st
  | 7 => ev_o7 Ct ret sm dd call i st
  | 8 => ev_o8 Ct ret sm dd call i st
  | 9 => ev_o9 Ct ret sm dd call i st
  | 10 => ev_o10 Ct ret sm dd call i st
  | 11 => ev_o11 Ct ret sm dd call i st
  | 12 => ev_o12 Ct ret sm dd call i st
  | 13 => ev_o13 Ct ret sm dd call i st
  | 14 => ev_o14 Ct ret sm dd call i st
  | 15 => ev_o15 Ct ret sm dd call i st
  | 16 => ev_o16 Ct ret sm dd call i st
  | 17 => ev_o17 Ct ret sm dd call i st
  | 18 => ev_o18 Ct ret sm dd call i st
  | 19 => ev_o19 Ct ret sm dd call i st
  | 20 => ev_o20 Ct ret sm dd call i st
  | 21 => ev_o21 Ct ret sm dd call i st
  | 22 => ev_o22 Ct ret sm dd call i st
  | 23 => ev_o23 Ct ret sm dd call i st
  | 24 => ev_o24 Ct ret sm dd call i st
  | 25 => ev_o25 Ct ret sm dd call i st
  | 26 => ev_o26 Ct ret sm dd call i st
  | 27 => ev_o27 Ct ret sm dd call i st
  | 28 => ev_o28 Ct ret sm dd call i st
  | 29 => ev_o29 Ct ret sm dd call i st
  | 30 => ev_o30 Ct ret sm dd call i st
  | 31 => ev_o31 Ct ret sm dd call i st
  | 32 => ev_o32 Ct ret sm dd call i st
  | 33 => ev_o33 Ct ret sm dd call i st
  | 34 => ev_o34 Ct ret sm dd call i st
  | 35 => ev_o35 Ct ret sm dd call i st
  | 42 => ev_o42 Ct ret sm dd call i st
  | 43 => ev_o43 Ct ret sm dd call i st
  | 45 => ev_o45 Ct ret sm dd call i st
  | 46 => ev_o46 Ct ret sm dd call i st
  | 49 => ev_o49 Ct ret sm dd call i st
  | 50 => ev_o50 Ct ret sm dd call i st
  | 55 => ev_o55 Ct ret sm dd call i st
  | _ => none
def ev_ok (Gs : List Cond) (Ct : List ev_Ct) (kt : List FieldType) (Pg : List ev_Mt) (sm : ev_Sm) (own nm : String) (cc : ByteArray) (nL : Nat) (ret : Option FieldType) (cd : ev_Cd) (ix : Nat) (i : ev_I) : Bool := match i.2.1 with
  | 1 => ev_k1 Gs Ct kt Pg sm own nm cc nL ret cd ix i
  | 2 => ev_k2 Gs Ct kt Pg sm own nm cc nL ret cd ix i
  | 3 => ev_k3 Gs Ct kt Pg sm own nm cc nL ret cd ix i
  | 6 => ev_k6 Gs Ct kt Pg sm own nm cc nL ret cd ix i
  | 7 => ev_k7 Gs Ct kt Pg sm own nm cc nL ret cd ix i
  | 8 => ev_k8 Gs Ct kt Pg sm own nm cc nL ret cd ix i
  | 9 => ev_k9 Gs Ct kt Pg sm own nm cc nL ret cd ix i
  | 10 => ev_k10 Gs Ct kt Pg sm own nm cc nL ret cd ix i
  | 11 => ev_k11 Gs Ct kt Pg sm own nm cc nL ret cd ix i
  | 12 => ev_k12 Gs Ct kt Pg sm own nm cc nL ret cd ix i
  | 13 => ev_k13 Gs Ct kt Pg sm own nm cc nL ret cd ix i
  | 14 => ev_k14 Gs Ct kt Pg sm own nm cc nL ret cd ix i
  | 15 => ev_k15 Gs Ct kt Pg sm own nm cc nL ret cd ix i
  | 16 => ev_k16 Gs Ct kt Pg sm own nm cc nL ret cd ix i
  | 17 => ev_k17 Gs Ct kt Pg sm own nm cc nL ret cd ix i
  | 18 => ev_k18 Gs Ct kt Pg sm own nm cc nL ret cd ix i
  | 19 => ev_k19 Gs Ct kt Pg sm own nm cc nL ret cd ix i
  | 20 => ev_k20 Gs Ct kt Pg sm own nm cc nL ret cd ix i
  | 21 => ev_k21 Gs Ct kt Pg sm own nm cc nL ret cd ix i
  | 22 => ev_k22 Gs Ct kt Pg sm own nm cc nL ret cd ix i
  | 23 => ev_k23 Gs Ct kt Pg sm own nm cc nL ret cd ix i
  | 24 => ev_k24 Gs Ct kt Pg sm own nm cc nL ret cd ix i
  | 25 => ev_k25 Gs Ct kt Pg sm own nm cc nL ret cd ix i
  | 26 => ev_k26 Gs Ct kt Pg sm own nm cc nL ret cd ix i
  | 27 => ev_k27 Gs Ct kt Pg sm own nm cc nL ret cd ix i
  | 28 => ev_k28 Gs Ct kt Pg sm own nm cc nL ret cd ix i
  | 29 => ev_k29 Gs Ct kt Pg sm own nm cc nL ret cd ix i
  | 30 => ev_k30 Gs Ct kt Pg sm own nm cc nL ret cd ix i
  | 31 => ev_k31 Gs Ct kt Pg sm own nm cc nL ret cd ix i
  | 32 => ev_k32 Gs Ct kt Pg sm own nm cc nL ret cd ix i
  | 33 => ev_k33 Gs Ct kt Pg sm own nm cc nL ret cd ix i
  | 34 => ev_k34 Gs Ct kt Pg sm own nm cc nL ret cd ix i
  | 35 => ev_k35 Gs Ct kt Pg sm own nm cc nL ret cd ix i
  | 42 => ev_k42 Gs Ct kt Pg sm own nm cc nL ret cd ix i
  | 43 => ev_k43 Gs Ct kt Pg sm own nm cc nL ret cd ix i
  | 45 => ev_k45 Gs Ct kt Pg sm own nm cc nL ret cd ix i
  | 46 => ev_k46 Gs Ct kt Pg sm own nm cc nL ret cd ix i
  | 49 => ev_k49 Gs Ct kt Pg sm own nm cc nL ret cd ix i
  | 50 => ev_k50 Gs Ct kt Pg sm own nm cc nL ret cd ix i
  | 55 => ev_k55 Gs Ct kt Pg sm own nm cc nL ret cd ix i
  | _ => false
/-- what the tables must say of the sorts -/
def ev_okC (Gs : List Cond) (cl : List vw_C) (Ct : List ev_Ct) : Prop := ∀ (k : Nat) (q : ev_Ct), Ct[k]? = some q → (∀ w ∈ u_ws q.1.1 q.1.2.1 q.1.2.2, w ∈ Gs) ∧ cl[k]? = some (q.1.1, q.1.2.1, q.1.2.2) ∧ (∀ k, k < q.1.2.2 → parseFieldDescriptor (q.1.2.1 k).2.2.1 = some (q.2.1 k)) ∧ (∀ a, a < q.1.2.2 → ∀ b, b < q.1.2.2 → a ≠ b → (q.1.2.1 a).2.1 ≠ (q.1.2.1 b).2.1) ∧ Cond.instantiable q.1.1 q.1.2.2 ∈ Gs ∧ Cond.initialized q.1.1 ∈ Gs ∧ (∀ j, j < q.1.2.2 → defaultValue (q.2.1 j) = vp_V (q.2.2.map ev_dv) j) ∧ (∀ v ∈ q.2.2, v = (0, 2147483648, 2147483648) ∨ v = (3, 0, 0) ∨ v = (1, 0, 0))
def ev_SS (p : Program) (l : Launch) (e : Env) (R : Room) (s : State) (m : MethodId) (args : Array Value) (below : List Frame) (meth : Method) (c : Code) (D : va_G) (cl : List vw_C) (dA : Nat → ClassId) (kt : List FieldType) (A : Nat → Prop) (ws0 : va_W) (nL : Nat) (cd : ev_Cd) (st : ev_S) (o : ev_S ⊕ (ev_R ⊕ (ev_S × ev_S × Nat))) : Prop := match o with
  | .inl u => u.2.2.2.2.1 ≤ R.cells → u.2.2.2.2.2 ≤ R.slots → ∀ Q, ev_G p l e R s m args below meth c Q D cl dA A ws0 nL cd u → ev_G p l e R s m args below meth c Q D cl dA A ws0 nL cd st
  | .inr (.inl r) => ∀ (r' : Option (Nat × Nat × Nat)) (w' : List ev_C) (mc ms : Nat), ev_leO r.1 r' = true → ev_leW r.2.1 w' = true → r.2.2.1 ≤ mc → r.2.2.2 ≤ ms → ev_G p l e R s m args below meth c (MQ below (ev_Q D cl dA kt ws0 A r' w') args s mc ms A) D cl dA A ws0 nL cd st
  | .inr (.inr q) => ∀ Q, ev_G p l e R s m args below meth c Q D cl dA A ws0 nL cd q.1 → ev_G p l e R s m args below meth c Q D cl dA A ws0 nL cd q.2.1 → ev_G p l e R s m args below meth c Q D cl dA A ws0 nL cd st
theorem ev_in_0 : ev_in (0, 2147483648, 2147483648) 0 := ⟨by decide +kernel, by decide +kernel⟩
section EV7
variable {p : Program} {l : Launch} {e : Env} {R : Room} {s : State} {m : MethodId} {args : Array Value} {below : List Frame} {meth : Method} {c : Code} {Q : State → Prop}
variable {D : va_G} {cl : List vw_C} {dA : Nat → ClassId} {kt : List FieldType} {A : Nat → Prop} {ws0 : va_W} {Gs : List Cond} {own : String} {cc : ByteArray} {nL : Nat} {cd : ev_Cd}
variable {Ct : List ev_Ct} {Pg : List ev_Mt} {sm : ev_Sm} {nm : String} {ret : Option FieldType} {d dd : Nat} {call : Nat → List (Nat × Nat × Nat) → List ev_C → Option ev_R}
variable {i : ev_I} {st : ev_S} {o : ev_S ⊕ (ev_R ⊕ (ev_S × ev_S × Nat))}
theorem ev_G_mono {Q Q2 : State → Prop} (h : ∀ t, Q t → Q2 t) (k : ev_G p l e R s m args below meth c Q D cl dA A ws0 nL cd st) : ev_G p l e R s m args below meth c Q2 D cl dA A ws0 nL cd st := by
  intro H locs ls vs lv ws h1 h2 h3 h4 h5 h6 h7 h8 T hT X
  obtain ⟨t, a, b⟩ := k H locs ls vs lv ws h1 h2 h3 h4 h5 h6 h7 h8 T hT X
  exact ⟨t, a, h t b⟩
theorem ev_way_ok {u v : ev_S} {j : Nat} {a b : Bool} (h : ev_way u v j a b = some o) (k : ∀ Q, (a = true → ev_G p l e R s m args below meth c Q D cl dA A ws0 nL cd u) → (b = true → ev_G p l e R s m args below meth c Q D cl dA A ws0 nL cd v) → ev_G p l e R s m args below meth c Q D cl dA A ws0 nL cd st) : ev_SS p l e R s m args below meth c D cl dA kt A ws0 nL cd st o := by
  unfold ev_way at h
  cases a <;> cases b <;> simp at h
  · subst h; exact fun _ _ Q g => k Q (fun q => by cases q) (fun _ => g)
  · subst h; exact fun _ _ Q g => k Q (fun _ => g) (fun q => by cases q)
  · subst h; exact fun Q g1 g2 => k Q (fun _ => g1) (fun _ => g2)
theorem ev_in_0x : ev_in (0, 2147483648, 2147483648) 0 := ⟨by decide +kernel, by decide +kernel⟩
theorem ev_row_icmp (X : ev_X p s m args c D cl dA kt A Gs own cc nL) {t : Nat} {off : Int} {tg ix nc ns : Nat} (hd : decode cc (ev_pc cd ix) = .ok (.if_icmp (ev_cn t) off, 3)) (ht : ((ev_pc cd ix : Nat) : Int) + off = ((ev_pc cd tg : Nat) : Int)) {H : Heap} {locs : List Loc} {ls : Array Slot} {vs : List Value} (i j : Int32) (kt9 : ev_cp t i j → W p l e R s m args below meth c H locs nc ns Q (F0 m (ev_pc cd tg) ls vs)) (kf : ¬ ev_cp t i j → W p l e R s m args below meth c H locs nc ns Q (F0 m (ev_pc cd ix + 3) ls vs)) : W p l e R s m args below meth c H locs nc ns Q (F0 m (ev_pc cd ix) ls (.int j :: .int i :: vs)) := by
  unfold ev_cp at kt9 kf
  unfold ev_cn at hd
  split at hd
  · exact lv_icmp_eq X.1.1 X.1.2.1 hd ht kt9 kf
  · exact lv_icmp_ne X.1.1 X.1.2.1 hd ht kt9 (fun h => kf (fun q => q h))
  · exact lv_icmp_lt X.1.1 X.1.2.1 hd ht kt9 kf
  · exact lv_icmp_ge X.1.1 X.1.2.1 hd ht kt9 kf
  · exact lv_icmp_gt X.1.1 X.1.2.1 hd ht kt9 kf
  · next g0 g1 g2 g3 g4 =>
    refine lv_icmp_le X.1.1 X.1.2.1 hd ht (fun h => kt9 ?_) (fun h => kf ?_)
    · split
      all_goals first | exact h | (exfalso; first | exact g0 rfl | exact g1 rfl | exact g2 rfl | exact g3 rfl | exact g4 rfl)
    · split
      all_goals first | exact h | (exfalso; first | exact g0 rfl | exact g1 rfl | exact g2 rfl | exact g3 rfl | exact g4 rfl)
theorem ev_row_if0 (X : ev_X p s m args c D cl dA kt A Gs own cc nL) {t : Nat} {off : Int} {tg ix nc ns : Nat} (hd : decode cc (ev_pc cd ix) = .ok (.ifCond (ev_cn t) off, 3)) (ht : ((ev_pc cd ix : Nat) : Int) + off = ((ev_pc cd tg : Nat) : Int)) {H : Heap} {locs : List Loc} {ls : Array Slot} {vs : List Value} (i : Int32) (kt9 : ev_cp t i 0 → W p l e R s m args below meth c H locs nc ns Q (F0 m (ev_pc cd tg) ls vs)) (kf : ¬ ev_cp t i 0 → W p l e R s m args below meth c H locs nc ns Q (F0 m (ev_pc cd ix + 3) ls vs)) : W p l e R s m args below meth c H locs nc ns Q (F0 m (ev_pc cd ix) ls (.int i :: vs)) := by
  unfold ev_cp at kt9 kf
  unfold ev_cn at hd
  split at hd
  · exact lv_if_eq X.1.1 X.1.2.1 hd ht kt9 kf
  · exact lv_if_ne X.1.1 X.1.2.1 hd ht kt9 (fun h => kf (fun q => q h))
  · exact lv_if_lt X.1.1 X.1.2.1 hd ht kt9 kf
  · exact lv_if_ge X.1.1 X.1.2.1 hd ht kt9 kf
  · exact lv_if_gt X.1.1 X.1.2.1 hd ht kt9 kf
  · next g0 g1 g2 g3 g4 =>
    refine lv_if_le X.1.1 X.1.2.1 hd ht (fun h => kt9 ?_) (fun h => kf ?_)
    · split
      all_goals first | exact h | (exfalso; first | exact g0 rfl | exact g1 rfl | exact g2 rfl | exact g3 rfl | exact g4 rfl)
    · split
      all_goals first | exact h | (exfalso; first | exact g0 rfl | exact g1 rfl | exact g2 rfl | exact g3 rfl | exact g4 rfl)
theorem ev_p1 (X : ev_X p s m args c D cl dA kt A Gs own cc nL) (hG : ∀ w ∈ Gs, (w.onTables && w.keeps) = true ∨ ∃ ty, w = .arrayClass ty) (hT : ev_okC Gs cl Ct) (hnm : meth.name = nm) (hret : meth.sig.returnType = ret) (hlk : meth.locks = false) (hRf : R.frames = d + 1) (hRl : R.locals = 200 * (d + 1)) (hcl : ∀ (k : Nat) (as : List (Nat × Nat × Nat)) (w : List ev_C) (r : ev_R), call k as w = some r → ∀ (y : MethodName) (bytes : ByteArray) (maxL : Nat) (rt : Option FieldType) (cdm : ev_Cd), Pg[k]? = some ((y, bytes, maxL, rt), cdm) → ev_Met l D cl dA kt Gs y bytes maxL rt d as w r) (hdd : dd = d) (hsm : ∀ q ∈ sm, ∀ (y : MethodName) (bytes : ByteArray) (maxL : Nat) (rt : Option FieldType) (cdm : ev_Cd), Pg[q.1]? = some ((y, bytes, maxL, rt), cdm) → ev_Met l D cl dA kt Gs y bytes maxL rt q.2.1 q.2.2.2.1 q.2.2.2.2.1 q.2.2.2.2.2) (hok : ev_k1 Gs Ct kt Pg sm own nm cc nL ret cd st.1 i = true) (h : ev_o1 Ct ret sm dd call i st = some o) : ev_SS p l e R s m args below meth c D cl dA kt A ws0 nL cd st o := by
  obtain ⟨ix, L, S, w, nc, ns⟩ := st
  unfold ev_k1 at hok
  unfold ev_o1 at h
  simp only [Bool.and_eq_true, decide_eq_true_eq] at hok
  obtain rfl := Option.some.inj h
  exact fun _ _ Q k => ev_s_iconst X hok.1.1 hok.2 hok.1.2 k
theorem ev_p2 (X : ev_X p s m args c D cl dA kt A Gs own cc nL) (hG : ∀ w ∈ Gs, (w.onTables && w.keeps) = true ∨ ∃ ty, w = .arrayClass ty) (hT : ev_okC Gs cl Ct) (hnm : meth.name = nm) (hret : meth.sig.returnType = ret) (hlk : meth.locks = false) (hRf : R.frames = d + 1) (hRl : R.locals = 200 * (d + 1)) (hcl : ∀ (k : Nat) (as : List (Nat × Nat × Nat)) (w : List ev_C) (r : ev_R), call k as w = some r → ∀ (y : MethodName) (bytes : ByteArray) (maxL : Nat) (rt : Option FieldType) (cdm : ev_Cd), Pg[k]? = some ((y, bytes, maxL, rt), cdm) → ev_Met l D cl dA kt Gs y bytes maxL rt d as w r) (hdd : dd = d) (hsm : ∀ q ∈ sm, ∀ (y : MethodName) (bytes : ByteArray) (maxL : Nat) (rt : Option FieldType) (cdm : ev_Cd), Pg[q.1]? = some ((y, bytes, maxL, rt), cdm) → ev_Met l D cl dA kt Gs y bytes maxL rt q.2.1 q.2.2.2.1 q.2.2.2.2.1 q.2.2.2.2.2) (hok : ev_k2 Gs Ct kt Pg sm own nm cc nL ret cd st.1 i = true) (h : ev_o2 Ct ret sm dd call i st = some o) : ev_SS p l e R s m args below meth c D cl dA kt A ws0 nL cd st o := by
  obtain ⟨ix, L, S, w, nc, ns⟩ := st
  unfold ev_k2 at hok
  unfold ev_o2 at h
  simp only [Bool.and_eq_true, decide_eq_true_eq] at hok
  obtain rfl := Option.some.inj h
  exact fun _ _ Q k => ev_s_bipush X hok.1.1 hok.2 hok.1.2 k
theorem ev_p3 (X : ev_X p s m args c D cl dA kt A Gs own cc nL) (hG : ∀ w ∈ Gs, (w.onTables && w.keeps) = true ∨ ∃ ty, w = .arrayClass ty) (hT : ev_okC Gs cl Ct) (hnm : meth.name = nm) (hret : meth.sig.returnType = ret) (hlk : meth.locks = false) (hRf : R.frames = d + 1) (hRl : R.locals = 200 * (d + 1)) (hcl : ∀ (k : Nat) (as : List (Nat × Nat × Nat)) (w : List ev_C) (r : ev_R), call k as w = some r → ∀ (y : MethodName) (bytes : ByteArray) (maxL : Nat) (rt : Option FieldType) (cdm : ev_Cd), Pg[k]? = some ((y, bytes, maxL, rt), cdm) → ev_Met l D cl dA kt Gs y bytes maxL rt d as w r) (hdd : dd = d) (hsm : ∀ q ∈ sm, ∀ (y : MethodName) (bytes : ByteArray) (maxL : Nat) (rt : Option FieldType) (cdm : ev_Cd), Pg[q.1]? = some ((y, bytes, maxL, rt), cdm) → ev_Met l D cl dA kt Gs y bytes maxL rt q.2.1 q.2.2.2.1 q.2.2.2.2.1 q.2.2.2.2.2) (hok : ev_k3 Gs Ct kt Pg sm own nm cc nL ret cd st.1 i = true) (h : ev_o3 Ct ret sm dd call i st = some o) : ev_SS p l e R s m args below meth c D cl dA kt A ws0 nL cd st o := by
  obtain ⟨ix, L, S, w, nc, ns⟩ := st
  unfold ev_k3 at hok
  unfold ev_o3 at h
  simp only [Bool.and_eq_true, decide_eq_true_eq] at hok
  obtain rfl := Option.some.inj h
  exact fun _ _ Q k => ev_s_sipush X hok.1.1 hok.2 hok.1.2 k
theorem ev_p6 (X : ev_X p s m args c D cl dA kt A Gs own cc nL) (hG : ∀ w ∈ Gs, (w.onTables && w.keeps) = true ∨ ∃ ty, w = .arrayClass ty) (hT : ev_okC Gs cl Ct) (hnm : meth.name = nm) (hret : meth.sig.returnType = ret) (hlk : meth.locks = false) (hRf : R.frames = d + 1) (hRl : R.locals = 200 * (d + 1)) (hcl : ∀ (k : Nat) (as : List (Nat × Nat × Nat)) (w : List ev_C) (r : ev_R), call k as w = some r → ∀ (y : MethodName) (bytes : ByteArray) (maxL : Nat) (rt : Option FieldType) (cdm : ev_Cd), Pg[k]? = some ((y, bytes, maxL, rt), cdm) → ev_Met l D cl dA kt Gs y bytes maxL rt d as w r) (hdd : dd = d) (hsm : ∀ q ∈ sm, ∀ (y : MethodName) (bytes : ByteArray) (maxL : Nat) (rt : Option FieldType) (cdm : ev_Cd), Pg[q.1]? = some ((y, bytes, maxL, rt), cdm) → ev_Met l D cl dA kt Gs y bytes maxL rt q.2.1 q.2.2.2.1 q.2.2.2.2.1 q.2.2.2.2.2) (hok : ev_k6 Gs Ct kt Pg sm own nm cc nL ret cd st.1 i = true) (h : ev_o6 Ct ret sm dd call i st = some o) : ev_SS p l e R s m args below meth c D cl dA kt A ws0 nL cd st o := by
  obtain ⟨ix, L, S, w, nc, ns⟩ := st
  unfold ev_k6 at hok
  unfold ev_o6 at h
  simp only [Bool.and_eq_true, decide_eq_true_eq] at hok
  split at h
  · next v hg =>
    split at h
    · next hv =>
      obtain rfl := Option.some.inj h
      exact fun _ _ Q k => ev_s_iload_n X hok.1.1 (Nat.mod_eq_of_lt hok.2) hok.1.2 hg hv k
    · cases h
  · cases h
theorem ev_p7 (X : ev_X p s m args c D cl dA kt A Gs own cc nL) (hG : ∀ w ∈ Gs, (w.onTables && w.keeps) = true ∨ ∃ ty, w = .arrayClass ty) (hT : ev_okC Gs cl Ct) (hnm : meth.name = nm) (hret : meth.sig.returnType = ret) (hlk : meth.locks = false) (hRf : R.frames = d + 1) (hRl : R.locals = 200 * (d + 1)) (hcl : ∀ (k : Nat) (as : List (Nat × Nat × Nat)) (w : List ev_C) (r : ev_R), call k as w = some r → ∀ (y : MethodName) (bytes : ByteArray) (maxL : Nat) (rt : Option FieldType) (cdm : ev_Cd), Pg[k]? = some ((y, bytes, maxL, rt), cdm) → ev_Met l D cl dA kt Gs y bytes maxL rt d as w r) (hdd : dd = d) (hsm : ∀ q ∈ sm, ∀ (y : MethodName) (bytes : ByteArray) (maxL : Nat) (rt : Option FieldType) (cdm : ev_Cd), Pg[q.1]? = some ((y, bytes, maxL, rt), cdm) → ev_Met l D cl dA kt Gs y bytes maxL rt q.2.1 q.2.2.2.1 q.2.2.2.2.1 q.2.2.2.2.2) (hok : ev_k7 Gs Ct kt Pg sm own nm cc nL ret cd st.1 i = true) (h : ev_o7 Ct ret sm dd call i st = some o) : ev_SS p l e R s m args below meth c D cl dA kt A ws0 nL cd st o := by
  obtain ⟨ix, L, S, w, nc, ns⟩ := st
  unfold ev_k7 at hok
  unfold ev_o7 at h
  simp only [Bool.and_eq_true, decide_eq_true_eq] at hok
  split at h
  · next v hg =>
    split at h
    · next hv =>
      obtain rfl := Option.some.inj h
      exact fun _ _ Q k => ev_s_iload X hok.1 hok.2 hg hv k
    · cases h
  · cases h
theorem ev_p8 (X : ev_X p s m args c D cl dA kt A Gs own cc nL) (hG : ∀ w ∈ Gs, (w.onTables && w.keeps) = true ∨ ∃ ty, w = .arrayClass ty) (hT : ev_okC Gs cl Ct) (hnm : meth.name = nm) (hret : meth.sig.returnType = ret) (hlk : meth.locks = false) (hRf : R.frames = d + 1) (hRl : R.locals = 200 * (d + 1)) (hcl : ∀ (k : Nat) (as : List (Nat × Nat × Nat)) (w : List ev_C) (r : ev_R), call k as w = some r → ∀ (y : MethodName) (bytes : ByteArray) (maxL : Nat) (rt : Option FieldType) (cdm : ev_Cd), Pg[k]? = some ((y, bytes, maxL, rt), cdm) → ev_Met l D cl dA kt Gs y bytes maxL rt d as w r) (hdd : dd = d) (hsm : ∀ q ∈ sm, ∀ (y : MethodName) (bytes : ByteArray) (maxL : Nat) (rt : Option FieldType) (cdm : ev_Cd), Pg[q.1]? = some ((y, bytes, maxL, rt), cdm) → ev_Met l D cl dA kt Gs y bytes maxL rt q.2.1 q.2.2.2.1 q.2.2.2.2.1 q.2.2.2.2.2) (hok : ev_k8 Gs Ct kt Pg sm own nm cc nL ret cd st.1 i = true) (h : ev_o8 Ct ret sm dd call i st = some o) : ev_SS p l e R s m args below meth c D cl dA kt A ws0 nL cd st o := by
  obtain ⟨ix, L, S, w, nc, ns⟩ := st
  unfold ev_k8 at hok
  unfold ev_o8 at h
  simp only [Bool.and_eq_true, decide_eq_true_eq] at hok
  split at h
  · next v hg =>
    split at h
    · next hv =>
      obtain rfl := Option.some.inj h
      exact fun _ _ Q k => ev_s_aload_n X hok.1.1 (Nat.mod_eq_of_lt hok.2) hok.1.2 hg hv k
    · cases h
  · cases h
theorem ev_p9 (X : ev_X p s m args c D cl dA kt A Gs own cc nL) (hG : ∀ w ∈ Gs, (w.onTables && w.keeps) = true ∨ ∃ ty, w = .arrayClass ty) (hT : ev_okC Gs cl Ct) (hnm : meth.name = nm) (hret : meth.sig.returnType = ret) (hlk : meth.locks = false) (hRf : R.frames = d + 1) (hRl : R.locals = 200 * (d + 1)) (hcl : ∀ (k : Nat) (as : List (Nat × Nat × Nat)) (w : List ev_C) (r : ev_R), call k as w = some r → ∀ (y : MethodName) (bytes : ByteArray) (maxL : Nat) (rt : Option FieldType) (cdm : ev_Cd), Pg[k]? = some ((y, bytes, maxL, rt), cdm) → ev_Met l D cl dA kt Gs y bytes maxL rt d as w r) (hdd : dd = d) (hsm : ∀ q ∈ sm, ∀ (y : MethodName) (bytes : ByteArray) (maxL : Nat) (rt : Option FieldType) (cdm : ev_Cd), Pg[q.1]? = some ((y, bytes, maxL, rt), cdm) → ev_Met l D cl dA kt Gs y bytes maxL rt q.2.1 q.2.2.2.1 q.2.2.2.2.1 q.2.2.2.2.2) (hok : ev_k9 Gs Ct kt Pg sm own nm cc nL ret cd st.1 i = true) (h : ev_o9 Ct ret sm dd call i st = some o) : ev_SS p l e R s m args below meth c D cl dA kt A ws0 nL cd st o := by
  obtain ⟨ix, L, S, w, nc, ns⟩ := st
  unfold ev_k9 at hok
  unfold ev_o9 at h
  simp only [Bool.and_eq_true, decide_eq_true_eq] at hok
  split at h
  · next v hg =>
    split at h
    · next hv =>
      obtain rfl := Option.some.inj h
      exact fun _ _ Q k => ev_s_aload X hok.1 hok.2 hg hv k
    · cases h
  · cases h
theorem ev_p10 (X : ev_X p s m args c D cl dA kt A Gs own cc nL) (hG : ∀ w ∈ Gs, (w.onTables && w.keeps) = true ∨ ∃ ty, w = .arrayClass ty) (hT : ev_okC Gs cl Ct) (hnm : meth.name = nm) (hret : meth.sig.returnType = ret) (hlk : meth.locks = false) (hRf : R.frames = d + 1) (hRl : R.locals = 200 * (d + 1)) (hcl : ∀ (k : Nat) (as : List (Nat × Nat × Nat)) (w : List ev_C) (r : ev_R), call k as w = some r → ∀ (y : MethodName) (bytes : ByteArray) (maxL : Nat) (rt : Option FieldType) (cdm : ev_Cd), Pg[k]? = some ((y, bytes, maxL, rt), cdm) → ev_Met l D cl dA kt Gs y bytes maxL rt d as w r) (hdd : dd = d) (hsm : ∀ q ∈ sm, ∀ (y : MethodName) (bytes : ByteArray) (maxL : Nat) (rt : Option FieldType) (cdm : ev_Cd), Pg[q.1]? = some ((y, bytes, maxL, rt), cdm) → ev_Met l D cl dA kt Gs y bytes maxL rt q.2.1 q.2.2.2.1 q.2.2.2.2.1 q.2.2.2.2.2) (hok : ev_k10 Gs Ct kt Pg sm own nm cc nL ret cd st.1 i = true) (h : ev_o10 Ct ret sm dd call i st = some o) : ev_SS p l e R s m args below meth c D cl dA kt A ws0 nL cd st o := by
  obtain ⟨ix, L, S, w, nc, ns⟩ := st
  unfold ev_k10 at hok
  unfold ev_o10 at h
  simp only [Bool.and_eq_true, decide_eq_true_eq] at hok
  split at h
  · next v S1 hS =>
    have hS : S = v :: S1 := hS
    subst hS
    split at h
    · next hv =>
      obtain rfl := Option.some.inj h
      exact fun _ _ Q k => ev_s_istore_n X hok.1.1.1 (Nat.mod_eq_of_lt hok.1.2) hok.1.1.2 hok.2 hv k
    · cases h
  · cases h
theorem ev_p11 (X : ev_X p s m args c D cl dA kt A Gs own cc nL) (hG : ∀ w ∈ Gs, (w.onTables && w.keeps) = true ∨ ∃ ty, w = .arrayClass ty) (hT : ev_okC Gs cl Ct) (hnm : meth.name = nm) (hret : meth.sig.returnType = ret) (hlk : meth.locks = false) (hRf : R.frames = d + 1) (hRl : R.locals = 200 * (d + 1)) (hcl : ∀ (k : Nat) (as : List (Nat × Nat × Nat)) (w : List ev_C) (r : ev_R), call k as w = some r → ∀ (y : MethodName) (bytes : ByteArray) (maxL : Nat) (rt : Option FieldType) (cdm : ev_Cd), Pg[k]? = some ((y, bytes, maxL, rt), cdm) → ev_Met l D cl dA kt Gs y bytes maxL rt d as w r) (hdd : dd = d) (hsm : ∀ q ∈ sm, ∀ (y : MethodName) (bytes : ByteArray) (maxL : Nat) (rt : Option FieldType) (cdm : ev_Cd), Pg[q.1]? = some ((y, bytes, maxL, rt), cdm) → ev_Met l D cl dA kt Gs y bytes maxL rt q.2.1 q.2.2.2.1 q.2.2.2.2.1 q.2.2.2.2.2) (hok : ev_k11 Gs Ct kt Pg sm own nm cc nL ret cd st.1 i = true) (h : ev_o11 Ct ret sm dd call i st = some o) : ev_SS p l e R s m args below meth c D cl dA kt A ws0 nL cd st o := by
  obtain ⟨ix, L, S, w, nc, ns⟩ := st
  unfold ev_k11 at hok
  unfold ev_o11 at h
  simp only [Bool.and_eq_true, decide_eq_true_eq] at hok
  split at h
  · next v S1 hS =>
    have hS : S = v :: S1 := hS
    subst hS
    split at h
    · next hv =>
      obtain rfl := Option.some.inj h
      exact fun _ _ Q k => ev_s_istore X hok.1.1 hok.1.2 hok.2 hv k
    · cases h
  · cases h
theorem ev_p12 (X : ev_X p s m args c D cl dA kt A Gs own cc nL) (hG : ∀ w ∈ Gs, (w.onTables && w.keeps) = true ∨ ∃ ty, w = .arrayClass ty) (hT : ev_okC Gs cl Ct) (hnm : meth.name = nm) (hret : meth.sig.returnType = ret) (hlk : meth.locks = false) (hRf : R.frames = d + 1) (hRl : R.locals = 200 * (d + 1)) (hcl : ∀ (k : Nat) (as : List (Nat × Nat × Nat)) (w : List ev_C) (r : ev_R), call k as w = some r → ∀ (y : MethodName) (bytes : ByteArray) (maxL : Nat) (rt : Option FieldType) (cdm : ev_Cd), Pg[k]? = some ((y, bytes, maxL, rt), cdm) → ev_Met l D cl dA kt Gs y bytes maxL rt d as w r) (hdd : dd = d) (hsm : ∀ q ∈ sm, ∀ (y : MethodName) (bytes : ByteArray) (maxL : Nat) (rt : Option FieldType) (cdm : ev_Cd), Pg[q.1]? = some ((y, bytes, maxL, rt), cdm) → ev_Met l D cl dA kt Gs y bytes maxL rt q.2.1 q.2.2.2.1 q.2.2.2.2.1 q.2.2.2.2.2) (hok : ev_k12 Gs Ct kt Pg sm own nm cc nL ret cd st.1 i = true) (h : ev_o12 Ct ret sm dd call i st = some o) : ev_SS p l e R s m args below meth c D cl dA kt A ws0 nL cd st o := by
  obtain ⟨ix, L, S, w, nc, ns⟩ := st
  unfold ev_k12 at hok
  unfold ev_o12 at h
  simp only [Bool.and_eq_true, decide_eq_true_eq] at hok
  split at h
  · next v S1 hS =>
    have hS : S = v :: S1 := hS
    subst hS
    split at h
    · next hv =>
      obtain rfl := Option.some.inj h
      exact fun _ _ Q k => ev_s_astore_n X hok.1.1.1 (Nat.mod_eq_of_lt hok.1.2) hok.1.1.2 hok.2 hv k
    · cases h
  · cases h
theorem ev_p13 (X : ev_X p s m args c D cl dA kt A Gs own cc nL) (hG : ∀ w ∈ Gs, (w.onTables && w.keeps) = true ∨ ∃ ty, w = .arrayClass ty) (hT : ev_okC Gs cl Ct) (hnm : meth.name = nm) (hret : meth.sig.returnType = ret) (hlk : meth.locks = false) (hRf : R.frames = d + 1) (hRl : R.locals = 200 * (d + 1)) (hcl : ∀ (k : Nat) (as : List (Nat × Nat × Nat)) (w : List ev_C) (r : ev_R), call k as w = some r → ∀ (y : MethodName) (bytes : ByteArray) (maxL : Nat) (rt : Option FieldType) (cdm : ev_Cd), Pg[k]? = some ((y, bytes, maxL, rt), cdm) → ev_Met l D cl dA kt Gs y bytes maxL rt d as w r) (hdd : dd = d) (hsm : ∀ q ∈ sm, ∀ (y : MethodName) (bytes : ByteArray) (maxL : Nat) (rt : Option FieldType) (cdm : ev_Cd), Pg[q.1]? = some ((y, bytes, maxL, rt), cdm) → ev_Met l D cl dA kt Gs y bytes maxL rt q.2.1 q.2.2.2.1 q.2.2.2.2.1 q.2.2.2.2.2) (hok : ev_k13 Gs Ct kt Pg sm own nm cc nL ret cd st.1 i = true) (h : ev_o13 Ct ret sm dd call i st = some o) : ev_SS p l e R s m args below meth c D cl dA kt A ws0 nL cd st o := by
  obtain ⟨ix, L, S, w, nc, ns⟩ := st
  unfold ev_k13 at hok
  unfold ev_o13 at h
  simp only [Bool.and_eq_true, decide_eq_true_eq] at hok
  split at h
  · next v S1 hS =>
    have hS : S = v :: S1 := hS
    subst hS
    split at h
    · next hv =>
      obtain rfl := Option.some.inj h
      exact fun _ _ Q k => ev_s_astore X hok.1.1 hok.1.2 hok.2 hv k
    · cases h
  · cases h
theorem ev_p14 (X : ev_X p s m args c D cl dA kt A Gs own cc nL) (hG : ∀ w ∈ Gs, (w.onTables && w.keeps) = true ∨ ∃ ty, w = .arrayClass ty) (hT : ev_okC Gs cl Ct) (hnm : meth.name = nm) (hret : meth.sig.returnType = ret) (hlk : meth.locks = false) (hRf : R.frames = d + 1) (hRl : R.locals = 200 * (d + 1)) (hcl : ∀ (k : Nat) (as : List (Nat × Nat × Nat)) (w : List ev_C) (r : ev_R), call k as w = some r → ∀ (y : MethodName) (bytes : ByteArray) (maxL : Nat) (rt : Option FieldType) (cdm : ev_Cd), Pg[k]? = some ((y, bytes, maxL, rt), cdm) → ev_Met l D cl dA kt Gs y bytes maxL rt d as w r) (hdd : dd = d) (hsm : ∀ q ∈ sm, ∀ (y : MethodName) (bytes : ByteArray) (maxL : Nat) (rt : Option FieldType) (cdm : ev_Cd), Pg[q.1]? = some ((y, bytes, maxL, rt), cdm) → ev_Met l D cl dA kt Gs y bytes maxL rt q.2.1 q.2.2.2.1 q.2.2.2.2.1 q.2.2.2.2.2) (hok : ev_k14 Gs Ct kt Pg sm own nm cc nL ret cd st.1 i = true) (h : ev_o14 Ct ret sm dd call i st = some o) : ev_SS p l e R s m args below meth c D cl dA kt A ws0 nL cd st o := by
  obtain ⟨ix, L, S, w, nc, ns⟩ := st
  unfold ev_k14 at hok
  unfold ev_o14 at h
  simp only [Bool.and_eq_true, decide_eq_true_eq] at hok
  split at h
  · next v hg =>
    split at h
    · next hv =>
      obtain rfl := Option.some.inj h
      exact fun _ _ Q k => ev_s_iinc X hok.1.1.1 (ev_in_eq hok.1.2) hok.1.1.2 hok.2 hg hv.1 hv.2 k
    · cases h
  · cases h
theorem ev_p15 (X : ev_X p s m args c D cl dA kt A Gs own cc nL) (hG : ∀ w ∈ Gs, (w.onTables && w.keeps) = true ∨ ∃ ty, w = .arrayClass ty) (hT : ev_okC Gs cl Ct) (hnm : meth.name = nm) (hret : meth.sig.returnType = ret) (hlk : meth.locks = false) (hRf : R.frames = d + 1) (hRl : R.locals = 200 * (d + 1)) (hcl : ∀ (k : Nat) (as : List (Nat × Nat × Nat)) (w : List ev_C) (r : ev_R), call k as w = some r → ∀ (y : MethodName) (bytes : ByteArray) (maxL : Nat) (rt : Option FieldType) (cdm : ev_Cd), Pg[k]? = some ((y, bytes, maxL, rt), cdm) → ev_Met l D cl dA kt Gs y bytes maxL rt d as w r) (hdd : dd = d) (hsm : ∀ q ∈ sm, ∀ (y : MethodName) (bytes : ByteArray) (maxL : Nat) (rt : Option FieldType) (cdm : ev_Cd), Pg[q.1]? = some ((y, bytes, maxL, rt), cdm) → ev_Met l D cl dA kt Gs y bytes maxL rt q.2.1 q.2.2.2.1 q.2.2.2.2.1 q.2.2.2.2.2) (hok : ev_k15 Gs Ct kt Pg sm own nm cc nL ret cd st.1 i = true) (h : ev_o15 Ct ret sm dd call i st = some o) : ev_SS p l e R s m args below meth c D cl dA kt A ws0 nL cd st o := by
  obtain ⟨ix, L, S, w, nc, ns⟩ := st
  unfold ev_k15 at hok
  unfold ev_o15 at h
  simp only [Bool.and_eq_true, decide_eq_true_eq] at hok
  split at h
  · next y x S1 hS =>
    have hS : S = y :: x :: S1 := hS
    subst hS
    split at h
    · next hv =>
      obtain rfl := Option.some.inj h
      exact fun _ _ Q k => ev_s_bin hv.1 hv.2.1 hv.2.2 (fun _ _ a b => ev_fadd_in a b) hok.2 (fun i j k9 => lv_iadd X.1.1 X.1.2.1 hok.1 k9) k
    · cases h
  · cases h
theorem ev_p16 (X : ev_X p s m args c D cl dA kt A Gs own cc nL) (hG : ∀ w ∈ Gs, (w.onTables && w.keeps) = true ∨ ∃ ty, w = .arrayClass ty) (hT : ev_okC Gs cl Ct) (hnm : meth.name = nm) (hret : meth.sig.returnType = ret) (hlk : meth.locks = false) (hRf : R.frames = d + 1) (hRl : R.locals = 200 * (d + 1)) (hcl : ∀ (k : Nat) (as : List (Nat × Nat × Nat)) (w : List ev_C) (r : ev_R), call k as w = some r → ∀ (y : MethodName) (bytes : ByteArray) (maxL : Nat) (rt : Option FieldType) (cdm : ev_Cd), Pg[k]? = some ((y, bytes, maxL, rt), cdm) → ev_Met l D cl dA kt Gs y bytes maxL rt d as w r) (hdd : dd = d) (hsm : ∀ q ∈ sm, ∀ (y : MethodName) (bytes : ByteArray) (maxL : Nat) (rt : Option FieldType) (cdm : ev_Cd), Pg[q.1]? = some ((y, bytes, maxL, rt), cdm) → ev_Met l D cl dA kt Gs y bytes maxL rt q.2.1 q.2.2.2.1 q.2.2.2.2.1 q.2.2.2.2.2) (hok : ev_k16 Gs Ct kt Pg sm own nm cc nL ret cd st.1 i = true) (h : ev_o16 Ct ret sm dd call i st = some o) : ev_SS p l e R s m args below meth c D cl dA kt A ws0 nL cd st o := by
  obtain ⟨ix, L, S, w, nc, ns⟩ := st
  unfold ev_k16 at hok
  unfold ev_o16 at h
  simp only [Bool.and_eq_true, decide_eq_true_eq] at hok
  split at h
  · next y x S1 hS =>
    have hS : S = y :: x :: S1 := hS
    subst hS
    split at h
    · next hv =>
      obtain rfl := Option.some.inj h
      exact fun _ _ Q k => ev_s_bin hv.1 hv.2.1 hv.2.2 (fun _ _ a b => ev_fsub_in a b) hok.2 (fun i j k9 => lv_isub X.1.1 X.1.2.1 hok.1 k9) k
    · cases h
  · cases h
theorem ev_p17 (X : ev_X p s m args c D cl dA kt A Gs own cc nL) (hG : ∀ w ∈ Gs, (w.onTables && w.keeps) = true ∨ ∃ ty, w = .arrayClass ty) (hT : ev_okC Gs cl Ct) (hnm : meth.name = nm) (hret : meth.sig.returnType = ret) (hlk : meth.locks = false) (hRf : R.frames = d + 1) (hRl : R.locals = 200 * (d + 1)) (hcl : ∀ (k : Nat) (as : List (Nat × Nat × Nat)) (w : List ev_C) (r : ev_R), call k as w = some r → ∀ (y : MethodName) (bytes : ByteArray) (maxL : Nat) (rt : Option FieldType) (cdm : ev_Cd), Pg[k]? = some ((y, bytes, maxL, rt), cdm) → ev_Met l D cl dA kt Gs y bytes maxL rt d as w r) (hdd : dd = d) (hsm : ∀ q ∈ sm, ∀ (y : MethodName) (bytes : ByteArray) (maxL : Nat) (rt : Option FieldType) (cdm : ev_Cd), Pg[q.1]? = some ((y, bytes, maxL, rt), cdm) → ev_Met l D cl dA kt Gs y bytes maxL rt q.2.1 q.2.2.2.1 q.2.2.2.2.1 q.2.2.2.2.2) (hok : ev_k17 Gs Ct kt Pg sm own nm cc nL ret cd st.1 i = true) (h : ev_o17 Ct ret sm dd call i st = some o) : ev_SS p l e R s m args below meth c D cl dA kt A ws0 nL cd st o := by
  obtain ⟨ix, L, S, w, nc, ns⟩ := st
  unfold ev_k17 at hok
  unfold ev_o17 at h
  simp only [Bool.and_eq_true, decide_eq_true_eq] at hok
  split at h
  · next y x S1 hS =>
    have hS : S = y :: x :: S1 := hS
    subst hS
    split at h
    · next hv =>
      obtain rfl := Option.some.inj h
      exact fun _ _ Q k => ev_s_bin hv.1 hv.2.1 hv.2.2 (fun _ _ a b => ev_fmul_in a b) hok.2 (fun i j k9 => lv_imul X.1.1 X.1.2.1 hok.1 k9) k
    · cases h
  · cases h
theorem ev_p18 (X : ev_X p s m args c D cl dA kt A Gs own cc nL) (hG : ∀ w ∈ Gs, (w.onTables && w.keeps) = true ∨ ∃ ty, w = .arrayClass ty) (hT : ev_okC Gs cl Ct) (hnm : meth.name = nm) (hret : meth.sig.returnType = ret) (hlk : meth.locks = false) (hRf : R.frames = d + 1) (hRl : R.locals = 200 * (d + 1)) (hcl : ∀ (k : Nat) (as : List (Nat × Nat × Nat)) (w : List ev_C) (r : ev_R), call k as w = some r → ∀ (y : MethodName) (bytes : ByteArray) (maxL : Nat) (rt : Option FieldType) (cdm : ev_Cd), Pg[k]? = some ((y, bytes, maxL, rt), cdm) → ev_Met l D cl dA kt Gs y bytes maxL rt d as w r) (hdd : dd = d) (hsm : ∀ q ∈ sm, ∀ (y : MethodName) (bytes : ByteArray) (maxL : Nat) (rt : Option FieldType) (cdm : ev_Cd), Pg[q.1]? = some ((y, bytes, maxL, rt), cdm) → ev_Met l D cl dA kt Gs y bytes maxL rt q.2.1 q.2.2.2.1 q.2.2.2.2.1 q.2.2.2.2.2) (hok : ev_k18 Gs Ct kt Pg sm own nm cc nL ret cd st.1 i = true) (h : ev_o18 Ct ret sm dd call i st = some o) : ev_SS p l e R s m args below meth c D cl dA kt A ws0 nL cd st o := by
  obtain ⟨ix, L, S, w, nc, ns⟩ := st
  unfold ev_k18 at hok
  unfold ev_o18 at h
  simp only [Bool.and_eq_true, decide_eq_true_eq] at hok
  split at h
  · next y x S1 hS =>
    have hS : S = y :: x :: S1 := hS
    subst hS
    split at h
    · next hv =>
      obtain rfl := Option.some.inj h
      exact fun _ _ Q k => ev_s_bin hv.1 hv.2.1 hv.2.2 (fun _ _ a b => ev_fand_in a b) hok.2 (fun i j k9 => lv_iand X.1.1 X.1.2.1 hok.1 k9) k
    · cases h
  · cases h
theorem ev_p19 (X : ev_X p s m args c D cl dA kt A Gs own cc nL) (hG : ∀ w ∈ Gs, (w.onTables && w.keeps) = true ∨ ∃ ty, w = .arrayClass ty) (hT : ev_okC Gs cl Ct) (hnm : meth.name = nm) (hret : meth.sig.returnType = ret) (hlk : meth.locks = false) (hRf : R.frames = d + 1) (hRl : R.locals = 200 * (d + 1)) (hcl : ∀ (k : Nat) (as : List (Nat × Nat × Nat)) (w : List ev_C) (r : ev_R), call k as w = some r → ∀ (y : MethodName) (bytes : ByteArray) (maxL : Nat) (rt : Option FieldType) (cdm : ev_Cd), Pg[k]? = some ((y, bytes, maxL, rt), cdm) → ev_Met l D cl dA kt Gs y bytes maxL rt d as w r) (hdd : dd = d) (hsm : ∀ q ∈ sm, ∀ (y : MethodName) (bytes : ByteArray) (maxL : Nat) (rt : Option FieldType) (cdm : ev_Cd), Pg[q.1]? = some ((y, bytes, maxL, rt), cdm) → ev_Met l D cl dA kt Gs y bytes maxL rt q.2.1 q.2.2.2.1 q.2.2.2.2.1 q.2.2.2.2.2) (hok : ev_k19 Gs Ct kt Pg sm own nm cc nL ret cd st.1 i = true) (h : ev_o19 Ct ret sm dd call i st = some o) : ev_SS p l e R s m args below meth c D cl dA kt A ws0 nL cd st o := by
  obtain ⟨ix, L, S, w, nc, ns⟩ := st
  unfold ev_k19 at hok
  unfold ev_o19 at h
  simp only [Bool.and_eq_true, decide_eq_true_eq] at hok
  split at h
  · next y x S1 hS =>
    have hS : S = y :: x :: S1 := hS
    subst hS
    split at h
    · next hv =>
      obtain rfl := Option.some.inj h
      exact fun _ _ Q k => ev_s_bin hv.1 hv.2 rfl (fun _ _ _ _ => ev_full_in _) hok.2 (fun i j k9 => lv_ior X.1.1 X.1.2.1 hok.1 k9) k
    · cases h
  · cases h
theorem ev_p20 (X : ev_X p s m args c D cl dA kt A Gs own cc nL) (hG : ∀ w ∈ Gs, (w.onTables && w.keeps) = true ∨ ∃ ty, w = .arrayClass ty) (hT : ev_okC Gs cl Ct) (hnm : meth.name = nm) (hret : meth.sig.returnType = ret) (hlk : meth.locks = false) (hRf : R.frames = d + 1) (hRl : R.locals = 200 * (d + 1)) (hcl : ∀ (k : Nat) (as : List (Nat × Nat × Nat)) (w : List ev_C) (r : ev_R), call k as w = some r → ∀ (y : MethodName) (bytes : ByteArray) (maxL : Nat) (rt : Option FieldType) (cdm : ev_Cd), Pg[k]? = some ((y, bytes, maxL, rt), cdm) → ev_Met l D cl dA kt Gs y bytes maxL rt d as w r) (hdd : dd = d) (hsm : ∀ q ∈ sm, ∀ (y : MethodName) (bytes : ByteArray) (maxL : Nat) (rt : Option FieldType) (cdm : ev_Cd), Pg[q.1]? = some ((y, bytes, maxL, rt), cdm) → ev_Met l D cl dA kt Gs y bytes maxL rt q.2.1 q.2.2.2.1 q.2.2.2.2.1 q.2.2.2.2.2) (hok : ev_k20 Gs Ct kt Pg sm own nm cc nL ret cd st.1 i = true) (h : ev_o20 Ct ret sm dd call i st = some o) : ev_SS p l e R s m args below meth c D cl dA kt A ws0 nL cd st o := by
  obtain ⟨ix, L, S, w, nc, ns⟩ := st
  unfold ev_k20 at hok
  unfold ev_o20 at h
  simp only [Bool.and_eq_true, decide_eq_true_eq] at hok
  split at h
  · next y x S1 hS =>
    have hS : S = y :: x :: S1 := hS
    subst hS
    split at h
    · next hv =>
      obtain rfl := Option.some.inj h
      exact fun _ _ Q k => ev_s_bin hv.1 hv.2 rfl (fun _ _ _ _ => ev_full_in _) hok.2 (fun i j k9 => lv_ixor X.1.1 X.1.2.1 hok.1 k9) k
    · cases h
  · cases h
theorem ev_p21 (X : ev_X p s m args c D cl dA kt A Gs own cc nL) (hG : ∀ w ∈ Gs, (w.onTables && w.keeps) = true ∨ ∃ ty, w = .arrayClass ty) (hT : ev_okC Gs cl Ct) (hnm : meth.name = nm) (hret : meth.sig.returnType = ret) (hlk : meth.locks = false) (hRf : R.frames = d + 1) (hRl : R.locals = 200 * (d + 1)) (hcl : ∀ (k : Nat) (as : List (Nat × Nat × Nat)) (w : List ev_C) (r : ev_R), call k as w = some r → ∀ (y : MethodName) (bytes : ByteArray) (maxL : Nat) (rt : Option FieldType) (cdm : ev_Cd), Pg[k]? = some ((y, bytes, maxL, rt), cdm) → ev_Met l D cl dA kt Gs y bytes maxL rt d as w r) (hdd : dd = d) (hsm : ∀ q ∈ sm, ∀ (y : MethodName) (bytes : ByteArray) (maxL : Nat) (rt : Option FieldType) (cdm : ev_Cd), Pg[q.1]? = some ((y, bytes, maxL, rt), cdm) → ev_Met l D cl dA kt Gs y bytes maxL rt q.2.1 q.2.2.2.1 q.2.2.2.2.1 q.2.2.2.2.2) (hok : ev_k21 Gs Ct kt Pg sm own nm cc nL ret cd st.1 i = true) (h : ev_o21 Ct ret sm dd call i st = some o) : ev_SS p l e R s m args below meth c D cl dA kt A ws0 nL cd st o := by
  obtain ⟨ix, L, S, w, nc, ns⟩ := st
  unfold ev_k21 at hok
  unfold ev_o21 at h
  simp only [Bool.and_eq_true, decide_eq_true_eq] at hok
  split at h
  · next y x S1 hS =>
    have hS : S = y :: x :: S1 := hS
    subst hS
    split at h
    · next hv =>
      obtain rfl := Option.some.inj h
      exact fun _ _ Q k => ev_s_bin hv.1 hv.2 rfl (fun _ _ _ _ => ev_full_in _) hok.2 (fun i j k9 => lv_ishl X.1.1 X.1.2.1 hok.1 k9) k
    · cases h
  · cases h
theorem ev_p22 (X : ev_X p s m args c D cl dA kt A Gs own cc nL) (hG : ∀ w ∈ Gs, (w.onTables && w.keeps) = true ∨ ∃ ty, w = .arrayClass ty) (hT : ev_okC Gs cl Ct) (hnm : meth.name = nm) (hret : meth.sig.returnType = ret) (hlk : meth.locks = false) (hRf : R.frames = d + 1) (hRl : R.locals = 200 * (d + 1)) (hcl : ∀ (k : Nat) (as : List (Nat × Nat × Nat)) (w : List ev_C) (r : ev_R), call k as w = some r → ∀ (y : MethodName) (bytes : ByteArray) (maxL : Nat) (rt : Option FieldType) (cdm : ev_Cd), Pg[k]? = some ((y, bytes, maxL, rt), cdm) → ev_Met l D cl dA kt Gs y bytes maxL rt d as w r) (hdd : dd = d) (hsm : ∀ q ∈ sm, ∀ (y : MethodName) (bytes : ByteArray) (maxL : Nat) (rt : Option FieldType) (cdm : ev_Cd), Pg[q.1]? = some ((y, bytes, maxL, rt), cdm) → ev_Met l D cl dA kt Gs y bytes maxL rt q.2.1 q.2.2.2.1 q.2.2.2.2.1 q.2.2.2.2.2) (hok : ev_k22 Gs Ct kt Pg sm own nm cc nL ret cd st.1 i = true) (h : ev_o22 Ct ret sm dd call i st = some o) : ev_SS p l e R s m args below meth c D cl dA kt A ws0 nL cd st o := by
  obtain ⟨ix, L, S, w, nc, ns⟩ := st
  unfold ev_k22 at hok
  unfold ev_o22 at h
  simp only [Bool.and_eq_true, decide_eq_true_eq] at hok
  split at h
  · next v S1 hS =>
    have hS : S = v :: S1 := hS
    subst hS
    split at h
    · next hv =>
      obtain rfl := Option.some.inj h
      exact fun _ _ Q k => ev_s_dup X hok.1 hok.2 hv k
    · cases h
  · cases h
theorem ev_p23 (X : ev_X p s m args c D cl dA kt A Gs own cc nL) (hG : ∀ w ∈ Gs, (w.onTables && w.keeps) = true ∨ ∃ ty, w = .arrayClass ty) (hT : ev_okC Gs cl Ct) (hnm : meth.name = nm) (hret : meth.sig.returnType = ret) (hlk : meth.locks = false) (hRf : R.frames = d + 1) (hRl : R.locals = 200 * (d + 1)) (hcl : ∀ (k : Nat) (as : List (Nat × Nat × Nat)) (w : List ev_C) (r : ev_R), call k as w = some r → ∀ (y : MethodName) (bytes : ByteArray) (maxL : Nat) (rt : Option FieldType) (cdm : ev_Cd), Pg[k]? = some ((y, bytes, maxL, rt), cdm) → ev_Met l D cl dA kt Gs y bytes maxL rt d as w r) (hdd : dd = d) (hsm : ∀ q ∈ sm, ∀ (y : MethodName) (bytes : ByteArray) (maxL : Nat) (rt : Option FieldType) (cdm : ev_Cd), Pg[q.1]? = some ((y, bytes, maxL, rt), cdm) → ev_Met l D cl dA kt Gs y bytes maxL rt q.2.1 q.2.2.2.1 q.2.2.2.2.1 q.2.2.2.2.2) (hok : ev_k23 Gs Ct kt Pg sm own nm cc nL ret cd st.1 i = true) (h : ev_o23 Ct ret sm dd call i st = some o) : ev_SS p l e R s m args below meth c D cl dA kt A ws0 nL cd st o := by
  obtain ⟨ix, L, S, w, nc, ns⟩ := st
  unfold ev_k23 at hok
  unfold ev_o23 at h
  simp only [Bool.and_eq_true, decide_eq_true_eq] at hok
  split at h
  · next v S1 hS =>
    have hS : S = v :: S1 := hS
    subst hS
    split at h
    · next hv =>
      obtain rfl := Option.some.inj h
      exact fun _ _ Q k => ev_s_pop X hok.1 hok.2 hv k
    · cases h
  · cases h
theorem ev_p24 (X : ev_X p s m args c D cl dA kt A Gs own cc nL) (hG : ∀ w ∈ Gs, (w.onTables && w.keeps) = true ∨ ∃ ty, w = .arrayClass ty) (hT : ev_okC Gs cl Ct) (hnm : meth.name = nm) (hret : meth.sig.returnType = ret) (hlk : meth.locks = false) (hRf : R.frames = d + 1) (hRl : R.locals = 200 * (d + 1)) (hcl : ∀ (k : Nat) (as : List (Nat × Nat × Nat)) (w : List ev_C) (r : ev_R), call k as w = some r → ∀ (y : MethodName) (bytes : ByteArray) (maxL : Nat) (rt : Option FieldType) (cdm : ev_Cd), Pg[k]? = some ((y, bytes, maxL, rt), cdm) → ev_Met l D cl dA kt Gs y bytes maxL rt d as w r) (hdd : dd = d) (hsm : ∀ q ∈ sm, ∀ (y : MethodName) (bytes : ByteArray) (maxL : Nat) (rt : Option FieldType) (cdm : ev_Cd), Pg[q.1]? = some ((y, bytes, maxL, rt), cdm) → ev_Met l D cl dA kt Gs y bytes maxL rt q.2.1 q.2.2.2.1 q.2.2.2.2.1 q.2.2.2.2.2) (hok : ev_k24 Gs Ct kt Pg sm own nm cc nL ret cd st.1 i = true) (h : ev_o24 Ct ret sm dd call i st = some o) : ev_SS p l e R s m args below meth c D cl dA kt A ws0 nL cd st o := by
  obtain ⟨ix, L, S, w, nc, ns⟩ := st
  unfold ev_k24 at hok
  unfold ev_o24 at h
  simp only [Bool.and_eq_true, decide_eq_true_eq] at hok
  split at h
  · next u v S1 hS =>
    have hS : S = u :: v :: S1 := hS
    subst hS
    split at h
    · next hv =>
      obtain rfl := Option.some.inj h
      exact fun _ _ Q k => ev_s_dup2 X hok.1 hok.2 hv.1 hv.2 k
    · cases h
  · cases h
theorem ev_p25 (X : ev_X p s m args c D cl dA kt A Gs own cc nL) (hG : ∀ w ∈ Gs, (w.onTables && w.keeps) = true ∨ ∃ ty, w = .arrayClass ty) (hT : ev_okC Gs cl Ct) (hnm : meth.name = nm) (hret : meth.sig.returnType = ret) (hlk : meth.locks = false) (hRf : R.frames = d + 1) (hRl : R.locals = 200 * (d + 1)) (hcl : ∀ (k : Nat) (as : List (Nat × Nat × Nat)) (w : List ev_C) (r : ev_R), call k as w = some r → ∀ (y : MethodName) (bytes : ByteArray) (maxL : Nat) (rt : Option FieldType) (cdm : ev_Cd), Pg[k]? = some ((y, bytes, maxL, rt), cdm) → ev_Met l D cl dA kt Gs y bytes maxL rt d as w r) (hdd : dd = d) (hsm : ∀ q ∈ sm, ∀ (y : MethodName) (bytes : ByteArray) (maxL : Nat) (rt : Option FieldType) (cdm : ev_Cd), Pg[q.1]? = some ((y, bytes, maxL, rt), cdm) → ev_Met l D cl dA kt Gs y bytes maxL rt q.2.1 q.2.2.2.1 q.2.2.2.2.1 q.2.2.2.2.2) (hok : ev_k25 Gs Ct kt Pg sm own nm cc nL ret cd st.1 i = true) (h : ev_o25 Ct ret sm dd call i st = some o) : ev_SS p l e R s m args below meth c D cl dA kt A ws0 nL cd st o := by
  obtain ⟨ix, L, S, w, nc, ns⟩ := st
  unfold ev_k25 at hok
  unfold ev_o25 at h
  simp only [Bool.and_eq_true, decide_eq_true_eq] at hok
  obtain rfl := Option.some.inj h
  exact fun _ _ Q k => ev_s_goto X hok.1 hok.2 k
theorem ev_p26 (X : ev_X p s m args c D cl dA kt A Gs own cc nL) (hG : ∀ w ∈ Gs, (w.onTables && w.keeps) = true ∨ ∃ ty, w = .arrayClass ty) (hT : ev_okC Gs cl Ct) (hnm : meth.name = nm) (hret : meth.sig.returnType = ret) (hlk : meth.locks = false) (hRf : R.frames = d + 1) (hRl : R.locals = 200 * (d + 1)) (hcl : ∀ (k : Nat) (as : List (Nat × Nat × Nat)) (w : List ev_C) (r : ev_R), call k as w = some r → ∀ (y : MethodName) (bytes : ByteArray) (maxL : Nat) (rt : Option FieldType) (cdm : ev_Cd), Pg[k]? = some ((y, bytes, maxL, rt), cdm) → ev_Met l D cl dA kt Gs y bytes maxL rt d as w r) (hdd : dd = d) (hsm : ∀ q ∈ sm, ∀ (y : MethodName) (bytes : ByteArray) (maxL : Nat) (rt : Option FieldType) (cdm : ev_Cd), Pg[q.1]? = some ((y, bytes, maxL, rt), cdm) → ev_Met l D cl dA kt Gs y bytes maxL rt q.2.1 q.2.2.2.1 q.2.2.2.2.1 q.2.2.2.2.2) (hok : ev_k26 Gs Ct kt Pg sm own nm cc nL ret cd st.1 i = true) (h : ev_o26 Ct ret sm dd call i st = some o) : ev_SS p l e R s m args below meth c D cl dA kt A ws0 nL cd st o := by
  obtain ⟨ix, L, S, w, nc, ns⟩ := st
  unfold ev_k26 at hok
  unfold ev_o26 at h
  simp only [Bool.and_eq_true, decide_eq_true_eq] at hok
  split at h
  · next y x S1 hS =>
    have hS : S = y :: x :: S1 := hS
    subst hS
    split at h
    · next hv =>
      exact ev_way_ok h (fun Q kt kf => ev_s_icmp (P := ev_cp i.2.2.2.2.2) (t := i.2.2.1) hv.1 hv.2 hok.1.2 (ev_row_icmp X hok.1.1 hok.2) (fun q => kt (by obtain ⟨a, b, ha, hb, hp⟩ := q; exact ev_ct_ok ha hb hp)) (fun q => kf (by obtain ⟨a, b, ha, hb, hp⟩ := q; exact ev_cf_ok ha hb hp)))
    · cases h
  · cases h
theorem ev_p27 (X : ev_X p s m args c D cl dA kt A Gs own cc nL) (hG : ∀ w ∈ Gs, (w.onTables && w.keeps) = true ∨ ∃ ty, w = .arrayClass ty) (hT : ev_okC Gs cl Ct) (hnm : meth.name = nm) (hret : meth.sig.returnType = ret) (hlk : meth.locks = false) (hRf : R.frames = d + 1) (hRl : R.locals = 200 * (d + 1)) (hcl : ∀ (k : Nat) (as : List (Nat × Nat × Nat)) (w : List ev_C) (r : ev_R), call k as w = some r → ∀ (y : MethodName) (bytes : ByteArray) (maxL : Nat) (rt : Option FieldType) (cdm : ev_Cd), Pg[k]? = some ((y, bytes, maxL, rt), cdm) → ev_Met l D cl dA kt Gs y bytes maxL rt d as w r) (hdd : dd = d) (hsm : ∀ q ∈ sm, ∀ (y : MethodName) (bytes : ByteArray) (maxL : Nat) (rt : Option FieldType) (cdm : ev_Cd), Pg[q.1]? = some ((y, bytes, maxL, rt), cdm) → ev_Met l D cl dA kt Gs y bytes maxL rt q.2.1 q.2.2.2.1 q.2.2.2.2.1 q.2.2.2.2.2) (hok : ev_k27 Gs Ct kt Pg sm own nm cc nL ret cd st.1 i = true) (h : ev_o27 Ct ret sm dd call i st = some o) : ev_SS p l e R s m args below meth c D cl dA kt A ws0 nL cd st o := by
  obtain ⟨ix, L, S, w, nc, ns⟩ := st
  unfold ev_k27 at hok
  unfold ev_o27 at h
  simp only [Bool.and_eq_true, decide_eq_true_eq] at hok
  split at h
  · next x S1 hS =>
    have hS : S = x :: S1 := hS
    subst hS
    split at h
    · next hv =>
      exact ev_way_ok h (fun Q kt kf => ev_s_if0 (P := fun i9 => ev_cp i.2.2.2.2.2 i9 0) (t := i.2.2.1) hv hok.1.2 (ev_row_if0 X hok.1.1 hok.2) (fun q => kt (by obtain ⟨a, ha, hp⟩ := q; exact ev_ct_ok ha ev_in_0 hp)) (fun q => kf (by obtain ⟨a, ha, hp⟩ := q; exact ev_cf_ok ha ev_in_0 hp)))
    · cases h
  · cases h
theorem ev_p28 (X : ev_X p s m args c D cl dA kt A Gs own cc nL) (hG : ∀ w ∈ Gs, (w.onTables && w.keeps) = true ∨ ∃ ty, w = .arrayClass ty) (hT : ev_okC Gs cl Ct) (hnm : meth.name = nm) (hret : meth.sig.returnType = ret) (hlk : meth.locks = false) (hRf : R.frames = d + 1) (hRl : R.locals = 200 * (d + 1)) (hcl : ∀ (k : Nat) (as : List (Nat × Nat × Nat)) (w : List ev_C) (r : ev_R), call k as w = some r → ∀ (y : MethodName) (bytes : ByteArray) (maxL : Nat) (rt : Option FieldType) (cdm : ev_Cd), Pg[k]? = some ((y, bytes, maxL, rt), cdm) → ev_Met l D cl dA kt Gs y bytes maxL rt d as w r) (hdd : dd = d) (hsm : ∀ q ∈ sm, ∀ (y : MethodName) (bytes : ByteArray) (maxL : Nat) (rt : Option FieldType) (cdm : ev_Cd), Pg[q.1]? = some ((y, bytes, maxL, rt), cdm) → ev_Met l D cl dA kt Gs y bytes maxL rt q.2.1 q.2.2.2.1 q.2.2.2.2.1 q.2.2.2.2.2) (hok : ev_k28 Gs Ct kt Pg sm own nm cc nL ret cd st.1 i = true) (h : ev_o28 Ct ret sm dd call i st = some o) : ev_SS p l e R s m args below meth c D cl dA kt A ws0 nL cd st o := by
  obtain ⟨ix, L, S, w, nc, ns⟩ := st
  unfold ev_k28 at hok
  unfold ev_o28 at h
  simp only [Bool.and_eq_true, decide_eq_true_eq] at hok
  split at h
  · next k z9 S1 hS =>
    have hS : S = (2, k, z9) :: S1 := hS
    subst hS
    split at h
    · next ci z fs hw =>
      split at h
      · next hci =>
        subst hci
        split at h
        · next v hf =>
          obtain rfl := Option.some.inj h
          obtain ⟨⟨hd, hn⟩, hq⟩ := hok
          cases hC : Ct[i.2.2.2.1]? with
          | none => rw [hC] at hq; cases hq
          | some q =>
            rw [hC] at hq
            simp only [Bool.and_eq_true, decide_eq_true_eq] at hq
            exact fun _ _ Q k9 => ev_s_getf X (hT _ _ hC).1 (hT _ _ hC).2.1 hq.1 hq.2 hd hn hw hf k9
        · cases h
      · cases h
    · cases h
  · cases h
theorem ev_p29 (X : ev_X p s m args c D cl dA kt A Gs own cc nL) (hG : ∀ w ∈ Gs, (w.onTables && w.keeps) = true ∨ ∃ ty, w = .arrayClass ty) (hT : ev_okC Gs cl Ct) (hnm : meth.name = nm) (hret : meth.sig.returnType = ret) (hlk : meth.locks = false) (hRf : R.frames = d + 1) (hRl : R.locals = 200 * (d + 1)) (hcl : ∀ (k : Nat) (as : List (Nat × Nat × Nat)) (w : List ev_C) (r : ev_R), call k as w = some r → ∀ (y : MethodName) (bytes : ByteArray) (maxL : Nat) (rt : Option FieldType) (cdm : ev_Cd), Pg[k]? = some ((y, bytes, maxL, rt), cdm) → ev_Met l D cl dA kt Gs y bytes maxL rt d as w r) (hdd : dd = d) (hsm : ∀ q ∈ sm, ∀ (y : MethodName) (bytes : ByteArray) (maxL : Nat) (rt : Option FieldType) (cdm : ev_Cd), Pg[q.1]? = some ((y, bytes, maxL, rt), cdm) → ev_Met l D cl dA kt Gs y bytes maxL rt q.2.1 q.2.2.2.1 q.2.2.2.2.1 q.2.2.2.2.2) (hok : ev_k29 Gs Ct kt Pg sm own nm cc nL ret cd st.1 i = true) (h : ev_o29 Ct ret sm dd call i st = some o) : ev_SS p l e R s m args below meth c D cl dA kt A ws0 nL cd st o := by
  obtain ⟨ix, L, S, w, nc, ns⟩ := st
  unfold ev_k29 at hok
  unfold ev_o29 at h
  simp only [Bool.and_eq_true, decide_eq_true_eq] at hok
  split at h
  · next v k z9 S1 hS =>
    have hS : S = v :: (2, k, z9) :: S1 := hS
    subst hS
    split at h
    · next ci z fs hw =>
      split at h
      · next hci =>
        obtain ⟨rfl, hlen, hfit⟩ := id hci
        obtain rfl := Option.some.inj h
        obtain ⟨⟨hd, hn⟩, hq⟩ := hok
        cases hC : Ct[i.2.2.2.1]? with
        | none => rw [hC] at hq; cases hq
        | some q =>
          unfold ev_ft at hfit
          rw [hC] at hq hfit
          simp only [Bool.and_eq_true, decide_eq_true_eq] at hq
          exact fun _ _ Q k9 => ev_s_putf X (hT _ _ hC).1 q.2.1 (hT _ _ hC).2.2.1 (hT _ _ hC).2.2.2.1 (hT _ _ hC).2.1 hq.1.1 hq.1.2 hq.2 hd hn hw hlen hfit k9
      · cases h
    · cases h
  · cases h
theorem ev_p30 (X : ev_X p s m args c D cl dA kt A Gs own cc nL) (hG : ∀ w ∈ Gs, (w.onTables && w.keeps) = true ∨ ∃ ty, w = .arrayClass ty) (hT : ev_okC Gs cl Ct) (hnm : meth.name = nm) (hret : meth.sig.returnType = ret) (hlk : meth.locks = false) (hRf : R.frames = d + 1) (hRl : R.locals = 200 * (d + 1)) (hcl : ∀ (k : Nat) (as : List (Nat × Nat × Nat)) (w : List ev_C) (r : ev_R), call k as w = some r → ∀ (y : MethodName) (bytes : ByteArray) (maxL : Nat) (rt : Option FieldType) (cdm : ev_Cd), Pg[k]? = some ((y, bytes, maxL, rt), cdm) → ev_Met l D cl dA kt Gs y bytes maxL rt d as w r) (hdd : dd = d) (hsm : ∀ q ∈ sm, ∀ (y : MethodName) (bytes : ByteArray) (maxL : Nat) (rt : Option FieldType) (cdm : ev_Cd), Pg[q.1]? = some ((y, bytes, maxL, rt), cdm) → ev_Met l D cl dA kt Gs y bytes maxL rt q.2.1 q.2.2.2.1 q.2.2.2.2.1 q.2.2.2.2.2) (hok : ev_k30 Gs Ct kt Pg sm own nm cc nL ret cd st.1 i = true) (h : ev_o30 Ct ret sm dd call i st = some o) : ev_SS p l e R s m args below meth c D cl dA kt A ws0 nL cd st o := by
  obtain ⟨ix, L, S, w, nc, ns⟩ := st
  unfold ev_k30 at hok
  unfold ev_o30 at h
  simp only [Bool.and_eq_true, decide_eq_true_eq] at hok
  split at h
  · next v k z9 S1 hS =>
    have hS : S = v :: (2, k, z9) :: S1 := hS
    subst hS
    split at h
    · next ci z fs hw =>
      split at h
      · next hci =>
        obtain ⟨rfl, hlen, hfit⟩ := id hci
        obtain rfl := Option.some.inj h
        obtain ⟨⟨hd, hn⟩, hq⟩ := hok
        cases hC : Ct[i.2.2.2.1]? with
        | none => rw [hC] at hq; cases hq
        | some q =>
          unfold ev_ft at hfit
          rw [hC] at hq hfit
          simp only [Bool.and_eq_true, decide_eq_true_eq] at hq
          exact fun _ _ Q k9 => ev_s_putF X (hT _ _ hC).1 q.2.1 (hT _ _ hC).2.2.1 (hT _ _ hC).2.2.2.1 (hT _ _ hC).2.1 hq.1.1.1.1 hq.1.1.1.2 hq.1.1.2 (by rw [hnm]; exact hq.1.2) hq.2 hd hn hw hlen hfit k9
      · cases h
    · cases h
  · cases h
theorem ev_p31 (X : ev_X p s m args c D cl dA kt A Gs own cc nL) (hG : ∀ w ∈ Gs, (w.onTables && w.keeps) = true ∨ ∃ ty, w = .arrayClass ty) (hT : ev_okC Gs cl Ct) (hnm : meth.name = nm) (hret : meth.sig.returnType = ret) (hlk : meth.locks = false) (hRf : R.frames = d + 1) (hRl : R.locals = 200 * (d + 1)) (hcl : ∀ (k : Nat) (as : List (Nat × Nat × Nat)) (w : List ev_C) (r : ev_R), call k as w = some r → ∀ (y : MethodName) (bytes : ByteArray) (maxL : Nat) (rt : Option FieldType) (cdm : ev_Cd), Pg[k]? = some ((y, bytes, maxL, rt), cdm) → ev_Met l D cl dA kt Gs y bytes maxL rt d as w r) (hdd : dd = d) (hsm : ∀ q ∈ sm, ∀ (y : MethodName) (bytes : ByteArray) (maxL : Nat) (rt : Option FieldType) (cdm : ev_Cd), Pg[q.1]? = some ((y, bytes, maxL, rt), cdm) → ev_Met l D cl dA kt Gs y bytes maxL rt q.2.1 q.2.2.2.1 q.2.2.2.2.1 q.2.2.2.2.2) (hok : ev_k31 Gs Ct kt Pg sm own nm cc nL ret cd st.1 i = true) (h : ev_o31 Ct ret sm dd call i st = some o) : ev_SS p l e R s m args below meth c D cl dA kt A ws0 nL cd st o := by
  obtain ⟨ix, L, S, w, nc, ns⟩ := st
  unfold ev_k31 at hok
  unfold ev_o31 at h
  simp only [Bool.and_eq_true, decide_eq_true_eq] at hok
  split at h
  · next q hC =>
    obtain rfl := Option.some.inj h
    obtain ⟨⟨hd, hn⟩, hq⟩ := hok
    rw [hC] at hq
    have hq := of_decide_eq_true hq
    exact fun r1 r2 Q k9 => ev_s_new X (hT _ _ hC).1 q.2.1 (hT _ _ hC).2.2.1 (hT _ _ hC).2.1 hq (hT _ _ hC).2.2.2.2.1 (hT _ _ hC).2.2.2.2.2.1 (hT _ _ hC).2.2.2.2.2.2.1 (hT _ _ hC).2.2.2.2.2.2.2 hd hn r1 r2 k9
  · cases h
theorem ev_p32 (X : ev_X p s m args c D cl dA kt A Gs own cc nL) (hG : ∀ w ∈ Gs, (w.onTables && w.keeps) = true ∨ ∃ ty, w = .arrayClass ty) (hT : ev_okC Gs cl Ct) (hnm : meth.name = nm) (hret : meth.sig.returnType = ret) (hlk : meth.locks = false) (hRf : R.frames = d + 1) (hRl : R.locals = 200 * (d + 1)) (hcl : ∀ (k : Nat) (as : List (Nat × Nat × Nat)) (w : List ev_C) (r : ev_R), call k as w = some r → ∀ (y : MethodName) (bytes : ByteArray) (maxL : Nat) (rt : Option FieldType) (cdm : ev_Cd), Pg[k]? = some ((y, bytes, maxL, rt), cdm) → ev_Met l D cl dA kt Gs y bytes maxL rt d as w r) (hdd : dd = d) (hsm : ∀ q ∈ sm, ∀ (y : MethodName) (bytes : ByteArray) (maxL : Nat) (rt : Option FieldType) (cdm : ev_Cd), Pg[q.1]? = some ((y, bytes, maxL, rt), cdm) → ev_Met l D cl dA kt Gs y bytes maxL rt q.2.1 q.2.2.2.1 q.2.2.2.2.1 q.2.2.2.2.2) (hok : ev_k32 Gs Ct kt Pg sm own nm cc nL ret cd st.1 i = true) (h : ev_o32 Ct ret sm dd call i st = some o) : ev_SS p l e R s m args below meth c D cl dA kt A ws0 nL cd st o := by
  obtain ⟨ix, L, S, w, nc, ns⟩ := st
  unfold ev_k32 at hok
  unfold ev_o32 at h
  simp only [Bool.and_eq_true, decide_eq_true_eq] at hok
  split at h
  · next x y S1 hS =>
    have hS : S = (0, x, y) :: S1 := hS
    subst hS
    split at h
    · next hx =>
      obtain ⟨rfl, h1, h2⟩ := hx
      obtain rfl := Option.some.inj h
      obtain ⟨⟨hd, hn⟩, hq⟩ := hok
      cases hK : kt[i.2.2.1]? with
      | none => rw [hK] at hq; cases hq
      | some ty =>
        rw [hK] at hq
        simp only [Bool.and_eq_true, decide_eq_true_eq] at hq
        have hm : (x - 2147483648) * componentBytes ty ≤ (x - 2147483648) * 4 := Nat.mul_le_mul_left _ hq.1.2
        obtain ⟨n, rfl⟩ : ∃ n, x = n + 2147483648 := ⟨x - 2147483648, by omega⟩
        rw [Nat.add_sub_cancel] at hm ⊢
        exact fun r1 r2 Q k9 => ev_s_newaI X hq.1.1.1 hK hq.1.1.2 hq.2 (by omega) (by omega) hd hn r1 r2 k9
    · cases h
  · cases h
theorem ev_p33 (X : ev_X p s m args c D cl dA kt A Gs own cc nL) (hG : ∀ w ∈ Gs, (w.onTables && w.keeps) = true ∨ ∃ ty, w = .arrayClass ty) (hT : ev_okC Gs cl Ct) (hnm : meth.name = nm) (hret : meth.sig.returnType = ret) (hlk : meth.locks = false) (hRf : R.frames = d + 1) (hRl : R.locals = 200 * (d + 1)) (hcl : ∀ (k : Nat) (as : List (Nat × Nat × Nat)) (w : List ev_C) (r : ev_R), call k as w = some r → ∀ (y : MethodName) (bytes : ByteArray) (maxL : Nat) (rt : Option FieldType) (cdm : ev_Cd), Pg[k]? = some ((y, bytes, maxL, rt), cdm) → ev_Met l D cl dA kt Gs y bytes maxL rt d as w r) (hdd : dd = d) (hsm : ∀ q ∈ sm, ∀ (y : MethodName) (bytes : ByteArray) (maxL : Nat) (rt : Option FieldType) (cdm : ev_Cd), Pg[q.1]? = some ((y, bytes, maxL, rt), cdm) → ev_Met l D cl dA kt Gs y bytes maxL rt q.2.1 q.2.2.2.1 q.2.2.2.2.1 q.2.2.2.2.2) (hok : ev_k33 Gs Ct kt Pg sm own nm cc nL ret cd st.1 i = true) (h : ev_o33 Ct ret sm dd call i st = some o) : ev_SS p l e R s m args below meth c D cl dA kt A ws0 nL cd st o := by
  obtain ⟨ix, L, S, w, nc, ns⟩ := st
  unfold ev_k33 at hok
  unfold ev_o33 at h
  simp only [Bool.and_eq_true, decide_eq_true_eq] at hok
  split at h
  · next x y S1 hS =>
    have hS : S = (0, x, y) :: S1 := hS
    subst hS
    split at h
    · next hx =>
      obtain ⟨rfl, h1, h2⟩ := hx
      obtain rfl := Option.some.inj h
      obtain ⟨⟨⟨⟨hd, hn⟩, hq1⟩, hq2⟩, hq3⟩ := hok
      obtain ⟨n, rfl⟩ : ∃ n, x = n + 2147483648 := ⟨x - 2147483648, by omega⟩
      rw [Nat.add_sub_cancel]
      exact fun r1 r2 Q k9 => ev_s_newaL X hq1 hq2 hq3 (by omega) (by show n * 8 ≤ _; omega) hd hn r1 r2 k9
    · cases h
  · cases h
theorem ev_p34 (X : ev_X p s m args c D cl dA kt A Gs own cc nL) (hG : ∀ w ∈ Gs, (w.onTables && w.keeps) = true ∨ ∃ ty, w = .arrayClass ty) (hT : ev_okC Gs cl Ct) (hnm : meth.name = nm) (hret : meth.sig.returnType = ret) (hlk : meth.locks = false) (hRf : R.frames = d + 1) (hRl : R.locals = 200 * (d + 1)) (hcl : ∀ (k : Nat) (as : List (Nat × Nat × Nat)) (w : List ev_C) (r : ev_R), call k as w = some r → ∀ (y : MethodName) (bytes : ByteArray) (maxL : Nat) (rt : Option FieldType) (cdm : ev_Cd), Pg[k]? = some ((y, bytes, maxL, rt), cdm) → ev_Met l D cl dA kt Gs y bytes maxL rt d as w r) (hdd : dd = d) (hsm : ∀ q ∈ sm, ∀ (y : MethodName) (bytes : ByteArray) (maxL : Nat) (rt : Option FieldType) (cdm : ev_Cd), Pg[q.1]? = some ((y, bytes, maxL, rt), cdm) → ev_Met l D cl dA kt Gs y bytes maxL rt q.2.1 q.2.2.2.1 q.2.2.2.2.1 q.2.2.2.2.2) (hok : ev_k34 Gs Ct kt Pg sm own nm cc nL ret cd st.1 i = true) (h : ev_o34 Ct ret sm dd call i st = some o) : ev_SS p l e R s m args below meth c D cl dA kt A ws0 nL cd st o := by
  obtain ⟨ix, L, S, w, nc, ns⟩ := st
  unfold ev_k34 at hok
  unfold ev_o34 at h
  simp only [Bool.and_eq_true, decide_eq_true_eq] at hok
  split at h
  · next x y S1 hS =>
    have hS : S = (0, x, y) :: S1 := hS
    subst hS
    split at h
    · next hx =>
      obtain ⟨rfl, h1, h2⟩ := hx
      obtain rfl := Option.some.inj h
      obtain ⟨⟨hd, hn⟩, hq⟩ := hok
      split at hq
      · next C hK =>
        have hq := of_decide_eq_true hq
        obtain ⟨n, rfl⟩ : ∃ n, x = n + 2147483648 := ⟨x - 2147483648, by omega⟩
        rw [Nat.add_sub_cancel]
        exact fun r1 r2 Q k9 => ev_s_newq X hK hq (X.2.1.2.1 _ C hK) (by omega) (by omega) hd hn r1 r2 k9
      · cases hq
    · cases h
  · cases h
theorem ev_p35 (X : ev_X p s m args c D cl dA kt A Gs own cc nL) (hG : ∀ w ∈ Gs, (w.onTables && w.keeps) = true ∨ ∃ ty, w = .arrayClass ty) (hT : ev_okC Gs cl Ct) (hnm : meth.name = nm) (hret : meth.sig.returnType = ret) (hlk : meth.locks = false) (hRf : R.frames = d + 1) (hRl : R.locals = 200 * (d + 1)) (hcl : ∀ (k : Nat) (as : List (Nat × Nat × Nat)) (w : List ev_C) (r : ev_R), call k as w = some r → ∀ (y : MethodName) (bytes : ByteArray) (maxL : Nat) (rt : Option FieldType) (cdm : ev_Cd), Pg[k]? = some ((y, bytes, maxL, rt), cdm) → ev_Met l D cl dA kt Gs y bytes maxL rt d as w r) (hdd : dd = d) (hsm : ∀ q ∈ sm, ∀ (y : MethodName) (bytes : ByteArray) (maxL : Nat) (rt : Option FieldType) (cdm : ev_Cd), Pg[q.1]? = some ((y, bytes, maxL, rt), cdm) → ev_Met l D cl dA kt Gs y bytes maxL rt q.2.1 q.2.2.2.1 q.2.2.2.2.1 q.2.2.2.2.2) (hok : ev_k35 Gs Ct kt Pg sm own nm cc nL ret cd st.1 i = true) (h : ev_o35 Ct ret sm dd call i st = some o) : ev_SS p l e R s m args below meth c D cl dA kt A ws0 nL cd st o := by
  obtain ⟨ix, L, S, w, nc, ns⟩ := st
  unfold ev_k35 at hok
  unfold ev_o35 at h
  simp only [Bool.and_eq_true, decide_eq_true_eq] at hok
  split at h
  · next x y x2 y2 S1 hS =>
    have hS : S = (0, x, y) :: (0, x2, y2) :: S1 := hS
    subst hS
    split at h
    · next hx =>
      obtain ⟨rfl, rfl, h1, h2, h3, h4⟩ := hx
      obtain rfl := Option.some.inj h
      obtain ⟨⟨⟨⟨⟨hd, hn⟩, hq1⟩, hq2⟩, hq3⟩, hq4⟩ := hok
      obtain ⟨k, rfl⟩ : ∃ k, x = k + 2147483648 := ⟨x - 2147483648, by omega⟩
      obtain ⟨n, rfl⟩ : ∃ n, x2 = n + 2147483648 := ⟨x2 - 2147483648, by omega⟩
      simp only [Nat.add_sub_cancel]
      have hty : ev_ty i.2.2.2.2.2 = .byte ∨ ev_ty i.2.2.2.2.2 = .int ∨ ev_ty i.2.2.2.2.2 = .long := by
        unfold ev_ty
        split
        · exact Or.inl rfl
        · exact Or.inr (Or.inl rfl)
        · exact Or.inr (Or.inr rfl)
      generalize ev_ty i.2.2.2.2.2 = ty at hty hq1 hq2 hq3 hq4 ⊢
      rcases hty with rfl | rfl | rfl
      · exact fun r1 r2 Q k9 => ev_s_mna (z := (k, .inl (fun _ => 0))) X hq1 hq2 (fun C q => by cases q) rfl hq3 hq4 (by omega) (by omega) (by omega) (by show k * 1 ≤ _; omega) (by omega) rfl rfl (fun c9 => by rw [vp_cell_i, ← arrV_new]; rfl) (fun ad => Or.inr (Or.inr (Or.inl ⟨rfl, _, rfl, fun v hv j => by obtain rfl : (0, 2147483648, 2147483648) = v := Option.some.inj hv; exact ev_in_0⟩))) (by simp [ev_ci]) hd hn r1 r2 k9
      · exact fun r1 r2 Q k9 => ev_s_mna (z := (k, .inl (fun _ => 0))) X hq1 hq2 (fun C q => by cases q) rfl hq3 hq4 (by omega) (by omega) (by omega) (by show k * 4 ≤ _; omega) (by omega) rfl rfl (fun c9 => by rw [vp_cell_i, ← arrV_new]; rfl) (fun ad => Or.inr (Or.inr (Or.inl ⟨rfl, _, rfl, fun v hv j => by obtain rfl : (0, 2147483648, 2147483648) = v := Option.some.inj hv; exact ev_in_0⟩))) (by simp [ev_ci]) hd hn r1 r2 k9
      · exact fun r1 r2 Q k9 => ev_s_mna (z := (k, .inr (.inl (fun _ => 0)))) X hq1 hq2 (fun C q => by cases q) rfl hq3 hq4 (by omega) (by omega) (by omega) (by show k * 8 ≤ _; omega) (by omega) rfl rfl (fun c9 => by rw [vp_cell_l, ← arrV_new]; rfl) (fun ad => Or.inr (Or.inr (Or.inr (Or.inl ⟨rfl, _, rfl⟩)))) (by simp [ev_ci]) hd hn r1 r2 k9
    · cases h
  · cases h
theorem ev_p42 (X : ev_X p s m args c D cl dA kt A Gs own cc nL) (hG : ∀ w ∈ Gs, (w.onTables && w.keeps) = true ∨ ∃ ty, w = .arrayClass ty) (hT : ev_okC Gs cl Ct) (hnm : meth.name = nm) (hret : meth.sig.returnType = ret) (hlk : meth.locks = false) (hRf : R.frames = d + 1) (hRl : R.locals = 200 * (d + 1)) (hcl : ∀ (k : Nat) (as : List (Nat × Nat × Nat)) (w : List ev_C) (r : ev_R), call k as w = some r → ∀ (y : MethodName) (bytes : ByteArray) (maxL : Nat) (rt : Option FieldType) (cdm : ev_Cd), Pg[k]? = some ((y, bytes, maxL, rt), cdm) → ev_Met l D cl dA kt Gs y bytes maxL rt d as w r) (hdd : dd = d) (hsm : ∀ q ∈ sm, ∀ (y : MethodName) (bytes : ByteArray) (maxL : Nat) (rt : Option FieldType) (cdm : ev_Cd), Pg[q.1]? = some ((y, bytes, maxL, rt), cdm) → ev_Met l D cl dA kt Gs y bytes maxL rt q.2.1 q.2.2.2.1 q.2.2.2.2.1 q.2.2.2.2.2) (hok : ev_k42 Gs Ct kt Pg sm own nm cc nL ret cd st.1 i = true) (h : ev_o42 Ct ret sm dd call i st = some o) : ev_SS p l e R s m args below meth c D cl dA kt A ws0 nL cd st o := by
  obtain ⟨ix, L, S, w, nc, ns⟩ := st
  unfold ev_k42 at hok
  unfold ev_o42 at h
  simp only [Bool.and_eq_true, decide_eq_true_eq] at hok
  split at h
  · next x y k z9 S1 hS =>
    have hS : S = (0, x, y) :: (2, k, z9) :: S1 := hS
    subst hS
    split at h
    · next kd n es hw =>
      split at h
      · next hx =>
        obtain ⟨rfl, h1, h2, h3, rfl⟩ := hx
        split at h
        · next v hv =>
          obtain rfl := Option.some.inj h
          obtain ⟨⟨hd, hn⟩, hq⟩ := hok
          cases hK : kt[i.2.2.1]? with
          | none => rw [hK] at hq; cases hq
          | some ty =>
            rw [hK] at hq
            obtain ⟨j, rfl⟩ : ∃ j, x = j + 2147483648 := ⟨x - 2147483648, by omega⟩
            rw [Nat.add_sub_cancel] at h2 hv
            exact fun r1 r2 Q k9 => ev_s_aald X hK hq hd hn hw h2 h3 hv k9
        · cases h
      · cases h
    · cases h
  · cases h
theorem ev_p43 (X : ev_X p s m args c D cl dA kt A Gs own cc nL) (hG : ∀ w ∈ Gs, (w.onTables && w.keeps) = true ∨ ∃ ty, w = .arrayClass ty) (hT : ev_okC Gs cl Ct) (hnm : meth.name = nm) (hret : meth.sig.returnType = ret) (hlk : meth.locks = false) (hRf : R.frames = d + 1) (hRl : R.locals = 200 * (d + 1)) (hcl : ∀ (k : Nat) (as : List (Nat × Nat × Nat)) (w : List ev_C) (r : ev_R), call k as w = some r → ∀ (y : MethodName) (bytes : ByteArray) (maxL : Nat) (rt : Option FieldType) (cdm : ev_Cd), Pg[k]? = some ((y, bytes, maxL, rt), cdm) → ev_Met l D cl dA kt Gs y bytes maxL rt d as w r) (hdd : dd = d) (hsm : ∀ q ∈ sm, ∀ (y : MethodName) (bytes : ByteArray) (maxL : Nat) (rt : Option FieldType) (cdm : ev_Cd), Pg[q.1]? = some ((y, bytes, maxL, rt), cdm) → ev_Met l D cl dA kt Gs y bytes maxL rt q.2.1 q.2.2.2.1 q.2.2.2.2.1 q.2.2.2.2.2) (hok : ev_k43 Gs Ct kt Pg sm own nm cc nL ret cd st.1 i = true) (h : ev_o43 Ct ret sm dd call i st = some o) : ev_SS p l e R s m args below meth c D cl dA kt A ws0 nL cd st o := by
  obtain ⟨ix, L, S, w, nc, ns⟩ := st
  unfold ev_k43 at hok
  unfold ev_o43 at h
  simp only [Bool.and_eq_true, decide_eq_true_eq] at hok
  split at h
  · next o z8 x y k z9 S1 hS =>
    have hS : S = (2, o, z8) :: (0, x, y) :: (2, k, z9) :: S1 := hS
    subst hS
    split at h
    · next kd n es hw =>
      split at h
      · next ci z fs ho =>
        split at h
        · next hx =>
          obtain ⟨rfl, h1, h2, h3, rfl, rfl⟩ := hx
          obtain rfl := Option.some.inj h
          obtain ⟨⟨hd, hn⟩, hq⟩ := hok
          cases hC : Ct[i.2.2.2.1]? with
          | none => rw [hC] at hq; cases hq
          | some q =>
            rw [hC] at hq
            have hq := of_decide_eq_true hq
            obtain ⟨j, rfl⟩ : ∃ j, x = j + 2147483648 := ⟨x - 2147483648, by omega⟩
            rw [Nat.add_sub_cancel] at h2 ⊢
            exact fun r1 r2 Q k9 => ev_s_aast X hq (hT _ _ hC).2.1 hd hn hw ho h2 h3 k9
        · cases h
      · cases h
    · cases h
  · cases h
theorem ev_p45 (X : ev_X p s m args c D cl dA kt A Gs own cc nL) (hG : ∀ w ∈ Gs, (w.onTables && w.keeps) = true ∨ ∃ ty, w = .arrayClass ty) (hT : ev_okC Gs cl Ct) (hnm : meth.name = nm) (hret : meth.sig.returnType = ret) (hlk : meth.locks = false) (hRf : R.frames = d + 1) (hRl : R.locals = 200 * (d + 1)) (hcl : ∀ (k : Nat) (as : List (Nat × Nat × Nat)) (w : List ev_C) (r : ev_R), call k as w = some r → ∀ (y : MethodName) (bytes : ByteArray) (maxL : Nat) (rt : Option FieldType) (cdm : ev_Cd), Pg[k]? = some ((y, bytes, maxL, rt), cdm) → ev_Met l D cl dA kt Gs y bytes maxL rt d as w r) (hdd : dd = d) (hsm : ∀ q ∈ sm, ∀ (y : MethodName) (bytes : ByteArray) (maxL : Nat) (rt : Option FieldType) (cdm : ev_Cd), Pg[q.1]? = some ((y, bytes, maxL, rt), cdm) → ev_Met l D cl dA kt Gs y bytes maxL rt q.2.1 q.2.2.2.1 q.2.2.2.2.1 q.2.2.2.2.2) (hok : ev_k45 Gs Ct kt Pg sm own nm cc nL ret cd st.1 i = true) (h : ev_o45 Ct ret sm dd call i st = some o) : ev_SS p l e R s m args below meth c D cl dA kt A ws0 nL cd st o := by
  obtain ⟨ix, L, S, w, nc, ns⟩ := st
  unfold ev_k45 at hok
  unfold ev_o45 at h
  simp only [Bool.and_eq_true, decide_eq_true_eq] at hok
  split at h
  · next k z S2 hS =>
    have hS : S.drop i.2.2.2.1 = (2, k, z) :: S2 := hS
    split at h
    · next w1 mc ms hcall =>
      split at h
      · next hx =>
        obtain rfl := Option.some.inj h
        obtain ⟨⟨hd, hn⟩, hq⟩ := hok
        split at hq
        · next y bytes maxL cdm hP =>
          simp only [Bool.and_eq_true, decide_eq_true_eq] at hq
          have hM := hcl _ _ _ _ hcall _ _ _ _ _ hP
          have hSS : S = S.take i.2.2.2.1 ++ (2, k, z) :: S2 := by rw [← hS, List.take_append_drop]
          intro r1 r2 Q k9
          show ev_G p l e R s m args below meth c Q D cl dA A ws0 nL cd (ix, L, S, w, nc, ns)
          rw [hSS]
          have hRd : d + 1 ≤ R.frames ∧ 8 + (maxL + 11) + 200 * d ≤ R.locals := ⟨by omega, by omega⟩
          exact ev_s_invI X hG hM hx.2.2 hx.1 hq.1.1.1.1.1.1 hq.1.1.1.1.1.2 hq.1.1.1.1.2 hq.1.1.1.2 hq.1.1.2 hq.1.2 hRd hx.2.1 ⟨r1, r2⟩ hd hn k9
        · cases hq
      · cases h
    · cases h
  · cases h
theorem ev_p46 (X : ev_X p s m args c D cl dA kt A Gs own cc nL) (hG : ∀ w ∈ Gs, (w.onTables && w.keeps) = true ∨ ∃ ty, w = .arrayClass ty) (hT : ev_okC Gs cl Ct) (hnm : meth.name = nm) (hret : meth.sig.returnType = ret) (hlk : meth.locks = false) (hRf : R.frames = d + 1) (hRl : R.locals = 200 * (d + 1)) (hcl : ∀ (k : Nat) (as : List (Nat × Nat × Nat)) (w : List ev_C) (r : ev_R), call k as w = some r → ∀ (y : MethodName) (bytes : ByteArray) (maxL : Nat) (rt : Option FieldType) (cdm : ev_Cd), Pg[k]? = some ((y, bytes, maxL, rt), cdm) → ev_Met l D cl dA kt Gs y bytes maxL rt d as w r) (hdd : dd = d) (hsm : ∀ q ∈ sm, ∀ (y : MethodName) (bytes : ByteArray) (maxL : Nat) (rt : Option FieldType) (cdm : ev_Cd), Pg[q.1]? = some ((y, bytes, maxL, rt), cdm) → ev_Met l D cl dA kt Gs y bytes maxL rt q.2.1 q.2.2.2.1 q.2.2.2.2.1 q.2.2.2.2.2) (hok : ev_k46 Gs Ct kt Pg sm own nm cc nL ret cd st.1 i = true) (h : ev_o46 Ct ret sm dd call i st = some o) : ev_SS p l e R s m args below meth c D cl dA kt A ws0 nL cd st o := by
  obtain ⟨ix, L, S, w, nc, ns⟩ := st
  unfold ev_k46 at hok
  unfold ev_o46 at h
  simp only [Bool.and_eq_true, decide_eq_true_eq] at hok
  split at h
  · next k z9 S1 hS =>
    have hS : S = (2, k, z9) :: S1 := hS
    subst hS
    split at h
    · next hcs =>
      obtain rfl := Option.some.inj h
      obtain ⟨⟨⟨⟨hd, hn⟩, h1⟩, h2⟩, h3⟩ := hok
      exact fun _ _ Q k9 => ev_s_obj X h1 h2 h3 (by omega) (by omega) hcs hd hn k9
    · cases h
  · cases h
theorem ev_p49 (X : ev_X p s m args c D cl dA kt A Gs own cc nL) (hG : ∀ w ∈ Gs, (w.onTables && w.keeps) = true ∨ ∃ ty, w = .arrayClass ty) (hT : ev_okC Gs cl Ct) (hnm : meth.name = nm) (hret : meth.sig.returnType = ret) (hlk : meth.locks = false) (hRf : R.frames = d + 1) (hRl : R.locals = 200 * (d + 1)) (hcl : ∀ (k : Nat) (as : List (Nat × Nat × Nat)) (w : List ev_C) (r : ev_R), call k as w = some r → ∀ (y : MethodName) (bytes : ByteArray) (maxL : Nat) (rt : Option FieldType) (cdm : ev_Cd), Pg[k]? = some ((y, bytes, maxL, rt), cdm) → ev_Met l D cl dA kt Gs y bytes maxL rt d as w r) (hdd : dd = d) (hsm : ∀ q ∈ sm, ∀ (y : MethodName) (bytes : ByteArray) (maxL : Nat) (rt : Option FieldType) (cdm : ev_Cd), Pg[q.1]? = some ((y, bytes, maxL, rt), cdm) → ev_Met l D cl dA kt Gs y bytes maxL rt q.2.1 q.2.2.2.1 q.2.2.2.2.1 q.2.2.2.2.2) (hok : ev_k49 Gs Ct kt Pg sm own nm cc nL ret cd st.1 i = true) (h : ev_o49 Ct ret sm dd call i st = some o) : ev_SS p l e R s m args below meth c D cl dA kt A ws0 nL cd st o := by
  obtain ⟨ix, L, S, w, nc, ns⟩ := st
  unfold ev_k49 at hok
  unfold ev_o49 at h
  simp only [Bool.and_eq_true, decide_eq_true_eq] at hok
  split at h
  · next hS =>
    have hS : S = [] := hS
    subst hS
    obtain rfl := Option.some.inj h
    intro r' w' mc ms e1 e2 e3 e4
    refine ev_G_mono (fun t ht => ?_) (ev_s_vret X (hret.trans hok.2) hlk hok.1 e3 e4)
    obtain ⟨o, a1, a2, a3, a4⟩ := ht
    exact ⟨o, a1, a2, ev_Q_weak e1 e2 a3, a4⟩
  · cases h
theorem ev_p50 (X : ev_X p s m args c D cl dA kt A Gs own cc nL) (hG : ∀ w ∈ Gs, (w.onTables && w.keeps) = true ∨ ∃ ty, w = .arrayClass ty) (hT : ev_okC Gs cl Ct) (hnm : meth.name = nm) (hret : meth.sig.returnType = ret) (hlk : meth.locks = false) (hRf : R.frames = d + 1) (hRl : R.locals = 200 * (d + 1)) (hcl : ∀ (k : Nat) (as : List (Nat × Nat × Nat)) (w : List ev_C) (r : ev_R), call k as w = some r → ∀ (y : MethodName) (bytes : ByteArray) (maxL : Nat) (rt : Option FieldType) (cdm : ev_Cd), Pg[k]? = some ((y, bytes, maxL, rt), cdm) → ev_Met l D cl dA kt Gs y bytes maxL rt d as w r) (hdd : dd = d) (hsm : ∀ q ∈ sm, ∀ (y : MethodName) (bytes : ByteArray) (maxL : Nat) (rt : Option FieldType) (cdm : ev_Cd), Pg[q.1]? = some ((y, bytes, maxL, rt), cdm) → ev_Met l D cl dA kt Gs y bytes maxL rt q.2.1 q.2.2.2.1 q.2.2.2.2.1 q.2.2.2.2.2) (hok : ev_k50 Gs Ct kt Pg sm own nm cc nL ret cd st.1 i = true) (h : ev_o50 Ct ret sm dd call i st = some o) : ev_SS p l e R s m args below meth c D cl dA kt A ws0 nL cd st o := by
  obtain ⟨ix, L, S, w, nc, ns⟩ := st
  unfold ev_k50 at hok
  unfold ev_o50 at h
  simp only [Bool.and_eq_true, decide_eq_true_eq] at hok
  split at h
  · next v hS =>
    have hS : S = [v] := hS
    subst hS
    split at h
    · next hv =>
      obtain rfl := Option.some.inj h
      obtain ⟨hv0, hv⟩ := hv
      intro r' w' mc ms e1 e2 e3 e4
      unfold ev_fr at hv
      cases hrt : ret with
      | none => rw [hrt] at hv; cases hv
      | some ty =>
        rw [hrt] at hv
        refine ev_G_mono (fun t ht => ?_) (ev_s_iret X (hret.trans hrt) hv0 hv hlk hok e3 e4)
        obtain ⟨o, a1, a2, a3, a4⟩ := ht
        exact ⟨o, a1, a2, ev_Q_weak e1 e2 a3, a4⟩
    · cases h
  · cases h
theorem ev_p55 (X : ev_X p s m args c D cl dA kt A Gs own cc nL) (hG : ∀ w ∈ Gs, (w.onTables && w.keeps) = true ∨ ∃ ty, w = .arrayClass ty) (hT : ev_okC Gs cl Ct) (hnm : meth.name = nm) (hret : meth.sig.returnType = ret) (hlk : meth.locks = false) (hRf : R.frames = d + 1) (hRl : R.locals = 200 * (d + 1)) (hcl : ∀ (k : Nat) (as : List (Nat × Nat × Nat)) (w : List ev_C) (r : ev_R), call k as w = some r → ∀ (y : MethodName) (bytes : ByteArray) (maxL : Nat) (rt : Option FieldType) (cdm : ev_Cd), Pg[k]? = some ((y, bytes, maxL, rt), cdm) → ev_Met l D cl dA kt Gs y bytes maxL rt d as w r) (hdd : dd = d) (hsm : ∀ q ∈ sm, ∀ (y : MethodName) (bytes : ByteArray) (maxL : Nat) (rt : Option FieldType) (cdm : ev_Cd), Pg[q.1]? = some ((y, bytes, maxL, rt), cdm) → ev_Met l D cl dA kt Gs y bytes maxL rt q.2.1 q.2.2.2.1 q.2.2.2.2.1 q.2.2.2.2.2) (hok : ev_k55 Gs Ct kt Pg sm own nm cc nL ret cd st.1 i = true) (h : ev_o55 Ct ret sm dd call i st = some o) : ev_SS p l e R s m args below meth c D cl dA kt A ws0 nL cd st o := by
  obtain ⟨ix, L, S, w, nc, ns⟩ := st
  unfold ev_k55 at hok
  unfold ev_o55 at h
  simp only [Bool.and_eq_true, decide_eq_true_eq] at hok
  split at h
  · next k z S2 hS =>
    have hS : S.drop i.2.2.2.1 = (2, k, z) :: S2 := hS
    split at h
    · next r hr =>
      split at h
      · next hx =>
        obtain rfl := Option.some.inj h
        obtain ⟨⟨hd, hn⟩, hq⟩ := hok
        obtain ⟨q, hqm, hqa⟩ := List.exists_of_findSome?_eq_some hr
        split at hq
        · next y bytes maxL cdm hP =>
          simp only [Bool.and_eq_true, decide_eq_true_eq] at hq
          unfold ev_att at hqa
          split at hqa
          · next hmi =>
            split at hqa
            · next is his =>
              split at hqa
              · next hy =>
                obtain ⟨x1, x2, x3, x4, x5, x8, x9⟩ := hy
                have hil := (ev_lerW_at x2).1
                have hwl : q.2.2.2.2.1.length ≤ q.2.2.2.2.2.2.1.length := by
                  have x5b := x5
                  unfold ev_fzz at x5b
                  rw [Bool.and_eq_true] at x5b
                  exact of_decide_eq_true x5b.1
                rw [ev_mixf_eq hil, ev_upf_eq (by rw [ev_mix_len, hil]; exact hwl)] at hqa
                obtain rfl := Option.some.inj hqa
                have hM := hsm q hqm _ _ _ _ _ (by rw [hmi]; exact hP)
                obtain ⟨qk, qd, qp, qa, qw, qr, q1, qm, qs⟩ := q
                dsimp only at x1 x2 x3 x4 x5 x8 x9 hM
                subst x9
                have hSS : S = S.take i.2.2.2.1 ++ (2, k, z) :: S2 := by rw [← hS, List.take_append_drop]
                intro r1 r2 Q k9
                show ev_G p l e R s m args below meth c Q D cl dA A ws0 nL cd (ix, L, S, w, nc, ns)
                rw [hSS]
                have hRd : qd + 1 ≤ R.frames ∧ 8 + (maxL + 11) + 200 * qd ≤ R.locals := ⟨by omega, by omega⟩
                exact ev_s_fI X hG hM (va_nd_inj is x1 · · ·) x2 x3 x4 x5 hx.1 hq.1.1.1.1.1.1 hq.1.1.1.1.1.2 hq.1.1.1.1.2 hq.1.1.1.2 hq.1.1.2 hq.1.2 hRd hx.2 ⟨r1, r2⟩ hd hn k9
              · cases hqa
            · cases hqa
          · cases hqa
        · cases hq
      · cases h
    · cases h
  · cases h
theorem ev_op_ok (X : ev_X p s m args c D cl dA kt A Gs own cc nL) (hG : ∀ w ∈ Gs, (w.onTables && w.keeps) = true ∨ ∃ ty, w = .arrayClass ty) (hT : ev_okC Gs cl Ct) (hnm : meth.name = nm) (hret : meth.sig.returnType = ret) (hlk : meth.locks = false) (hRf : R.frames = d + 1) (hRl : R.locals = 200 * (d + 1)) (hcl : ∀ (k : Nat) (as : List (Nat × Nat × Nat)) (w : List ev_C) (r : ev_R), call k as w = some r → ∀ (y : MethodName) (bytes : ByteArray) (maxL : Nat) (rt : Option FieldType) (cdm : ev_Cd), Pg[k]? = some ((y, bytes, maxL, rt), cdm) → ev_Met l D cl dA kt Gs y bytes maxL rt d as w r) (hdd : dd = d) (hsm : ∀ q ∈ sm, ∀ (y : MethodName) (bytes : ByteArray) (maxL : Nat) (rt : Option FieldType) (cdm : ev_Cd), Pg[q.1]? = some ((y, bytes, maxL, rt), cdm) → ev_Met l D cl dA kt Gs y bytes maxL rt q.2.1 q.2.2.2.1 q.2.2.2.2.1 q.2.2.2.2.2) (hok : ev_ok Gs Ct kt Pg sm own nm cc nL ret cd st.1 i = true) (h : ev_op Ct ret sm dd call i st = some o) : ev_SS p l e R s m args below meth c D cl dA kt A ws0 nL cd st o := by
  unfold ev_op at h
  unfold ev_ok at hok
  split at h
  · next hop =>
    simp only [hop] at hok
    exact ev_p1 X hG hT hnm hret hlk hRf hRl hcl hdd hsm hok h
  · next hop =>
    simp only [hop] at hok
    exact ev_p2 X hG hT hnm hret hlk hRf hRl hcl hdd hsm hok h
  · next hop =>
    simp only [hop] at hok
    exact ev_p3 X hG hT hnm hret hlk hRf hRl hcl hdd hsm hok h
  · next hop =>
    simp only [hop] at hok
    exact ev_p6 X hG hT hnm hret hlk hRf hRl hcl hdd hsm hok h
  · next hop =>
    simp only [hop] at hok
    exact ev_p7 X hG hT hnm hret hlk hRf hRl hcl hdd hsm hok h
  · next hop =>
    simp only [hop] at hok
    exact ev_p8 X hG hT hnm hret hlk hRf hRl hcl hdd hsm hok h
  · next hop =>
    simp only [hop] at hok
    exact ev_p9 X hG hT hnm hret hlk hRf hRl hcl hdd hsm hok h
  · next hop =>
    simp only [hop] at hok
    exact ev_p10 X hG hT hnm hret hlk hRf hRl hcl hdd hsm hok h
  · next hop =>
    simp only [hop] at hok
    exact ev_p11 X hG hT hnm hret hlk hRf hRl hcl hdd hsm hok h
  · next hop =>
    simp only [hop] at hok
    exact ev_p12 X hG hT hnm hret hlk hRf hRl hcl hdd hsm hok h
  · next hop =>
    simp only [hop] at hok
    exact ev_p13 X hG hT hnm hret hlk hRf hRl hcl hdd hsm hok h
  · next hop =>
    simp only [hop] at hok
    exact ev_p14 X hG hT hnm hret hlk hRf hRl hcl hdd hsm hok h
  · next hop =>
    simp only [hop] at hok
    exact ev_p15 X hG hT hnm hret hlk hRf hRl hcl hdd hsm hok h
  · next hop =>
    simp only [hop] at hok
    exact ev_p16 X hG hT hnm hret hlk hRf hRl hcl hdd hsm hok h
  · next hop =>
    simp only [hop] at hok
    exact ev_p17 X hG hT hnm hret hlk hRf hRl hcl hdd hsm hok h
  · next hop =>
    simp only [hop] at hok
    exact ev_p18 X hG hT hnm hret hlk hRf hRl hcl hdd hsm hok h
  · next hop =>
    simp only [hop] at hok
    exact ev_p19 X hG hT hnm hret hlk hRf hRl hcl hdd hsm hok h
  · next hop =>
    simp only [hop] at hok
    exact ev_p20 X hG hT hnm hret hlk hRf hRl hcl hdd hsm hok h
  · next hop =>
    simp only [hop] at hok
    exact ev_p21 X hG hT hnm hret hlk hRf hRl hcl hdd hsm hok h
  · next hop =>
    simp only [hop] at hok
    exact ev_p22 X hG hT hnm hret hlk hRf hRl hcl hdd hsm hok h
  · next hop =>
    simp only [hop] at hok
    exact ev_p23 X hG hT hnm hret hlk hRf hRl hcl hdd hsm hok h
  · next hop =>
    simp only [hop] at hok
    exact ev_p24 X hG hT hnm hret hlk hRf hRl hcl hdd hsm hok h
  · next hop =>
    simp only [hop] at hok
    exact ev_p25 X hG hT hnm hret hlk hRf hRl hcl hdd hsm hok h
  · next hop =>
    simp only [hop] at hok
    exact ev_p26 X hG hT hnm hret hlk hRf hRl hcl hdd hsm hok h
  · next hop =>
    simp only [hop] at hok
    exact ev_p27 X hG hT hnm hret hlk hRf hRl hcl hdd hsm hok h
  · next hop =>
    simp only [hop] at hok
    exact ev_p28 X hG hT hnm hret hlk hRf hRl hcl hdd hsm hok h
  · next hop =>
    simp only [hop] at hok
    exact ev_p29 X hG hT hnm hret hlk hRf hRl hcl hdd hsm hok h
  · next hop =>
    simp only [hop] at hok
    exact ev_p30 X hG hT hnm hret hlk hRf hRl hcl hdd hsm hok h
  · next hop =>
    simp only [hop] at hok
    exact ev_p31 X hG hT hnm hret hlk hRf hRl hcl hdd hsm hok h
  · next hop =>
    simp only [hop] at hok
    exact ev_p32 X hG hT hnm hret hlk hRf hRl hcl hdd hsm hok h
  · next hop =>
    simp only [hop] at hok
    exact ev_p33 X hG hT hnm hret hlk hRf hRl hcl hdd hsm hok h
  · next hop =>
    simp only [hop] at hok
    exact ev_p34 X hG hT hnm hret hlk hRf hRl hcl hdd hsm hok h
  · next hop =>
    simp only [hop] at hok
    exact ev_p35 X hG hT hnm hret hlk hRf hRl hcl hdd hsm hok h
  · next hop =>
    simp only [hop] at hok
    exact ev_p42 X hG hT hnm hret hlk hRf hRl hcl hdd hsm hok h
  · next hop =>
    simp only [hop] at hok
    exact ev_p43 X hG hT hnm hret hlk hRf hRl hcl hdd hsm hok h
  · next hop =>
    simp only [hop] at hok
    exact ev_p45 X hG hT hnm hret hlk hRf hRl hcl hdd hsm hok h
  · next hop =>
    simp only [hop] at hok
    exact ev_p46 X hG hT hnm hret hlk hRf hRl hcl hdd hsm hok h
  · next hop =>
    simp only [hop] at hok
    exact ev_p49 X hG hT hnm hret hlk hRf hRl hcl hdd hsm hok h
  · next hop =>
    simp only [hop] at hok
    exact ev_p50 X hG hT hnm hret hlk hRf hRl hcl hdd hsm hok h
  · next hop =>
    simp only [hop] at hok
    exact ev_p55 X hG hT hnm hret hlk hRf hRl hcl hdd hsm hok h
  · cases h
end EV7
