/-! The small machine's steps, one after another -/
abbrev ev_Mt : Type := (MethodName × ByteArray × Nat × Option FieldType) × List (Nat × Nat × Nat × Nat × Nat × Nat × Nat)
/-- contracts over some cells: method, depth, where its cells are found, arguments, cells, what comes -/
abbrev ev_Sm : Type := List (Nat × Nat × List (Nat × Nat) × List (Nat × Nat × Nat) × List ev_C × ev_R)
abbrev ev_Ct : Type := vw_C × (Nat → FieldType) × List (Nat × Nat × Nat)
def ev_dn (cc : ByteArray) (pc : Nat) : Int := match decode cc pc with
  | .ok (.iconst n, _) => n
  | .ok (.bipush n, _) => n
  | .ok (.sipush n, _) => n
  | .ok (.iinc _ n, _) => n
  | .ok (.goto n, _) => n
  | .ok (.ifCond _ n, _) => n
  | .ok (.if_icmp _ n, _) => n
  | _ => 0
/-- the comparison t can hold of ints within these bounds -/
def ev_ct (t : Nat) (x y : ev_V) : Bool := match t with
  | 0 => decide (x.2.1 ≤ y.2.2 ∧ y.2.1 ≤ x.2.2)
  | 1 => !decide (x.2.1 = x.2.2 ∧ y.2.1 = y.2.2 ∧ x.2.1 = y.2.1)
  | 2 => decide (x.2.1 < y.2.2)
  | 3 => decide (y.2.1 ≤ x.2.2)
  | 4 => decide (y.2.1 < x.2.2)
  | _ => decide (x.2.1 ≤ y.2.2)
def ev_ng (t : Nat) : Nat := match t with
  | 0 => 1
  | 1 => 0
  | 2 => 3
  | 3 => 2
  | 4 => 5
  | _ => 4
def ev_cp (t : Nat) (i j : Int32) : Prop := match t with
  | 0 => i = j
  | 1 => ¬ i = j
  | 2 => i < j
  | 3 => j ≤ i
  | 4 => j < i
  | _ => i ≤ j
def ev_cn (t : Nat) : Jvm.ClassFile.Cond := match t with
  | 0 => .eq
  | 1 => .ne
  | 2 => .lt
  | 3 => .ge
  | 4 => .gt
  | _ => .le
theorem ev_sx_lt_iff {i j : Int32} : i < j ↔ ev_sx i < ev_sx j := by
  rw [Int32.lt_iff_toInt_lt]
  have h1 := ev_sx_eq i
  have h2 := ev_sx_eq j
  omega
theorem ev_sx_le_iff {i j : Int32} : i ≤ j ↔ ev_sx i ≤ ev_sx j := by
  rw [Int32.le_iff_toInt_le]
  have h1 := ev_sx_eq i
  have h2 := ev_sx_eq j
  omega
theorem ev_ct_ok {t : Nat} {x y : ev_V} {i j : Int32} (hi : ev_in x i) (hj : ev_in y j) (h : ev_cp t i j) : ev_ct t x y = true := by
  obtain ⟨a1, a2⟩ := hi
  obtain ⟨b1, b2⟩ := hj
  unfold ev_cp at h
  unfold ev_ct
  split at h
  · subst h; exact decide_eq_true ⟨by omega, by omega⟩
  · have hf : ¬ (x.2.1 = x.2.2 ∧ y.2.1 = y.2.2 ∧ x.2.1 = y.2.1) := fun q => h (ev_sx_inj (by omega))
    simp [hf]
  · have h := ev_sx_lt_iff.mp h; exact decide_eq_true (by omega)
  · have h := ev_sx_le_iff.mp h; exact decide_eq_true (by omega)
  · have h := ev_sx_lt_iff.mp h; exact decide_eq_true (by omega)
  · have h := ev_sx_le_iff.mp h; exact decide_eq_true (by omega)
theorem ev_cf_ok {t : Nat} {x y : ev_V} {i j : Int32} (hi : ev_in x i) (hj : ev_in y j) (h : ¬ ev_cp t i j) : ev_ct (ev_ng t) x y = true := by
  apply ev_ct_ok hi hj
  unfold ev_cp at h
  split at h
  · exact h
  · show i = j
    exact Classical.not_not.mp h
  · show j ≤ i
    rw [ev_sx_le_iff]
    have : ¬ ev_sx i < ev_sx j := fun q => h (ev_sx_lt_iff.mpr q)
    omega
  · show i < j
    rw [ev_sx_lt_iff]
    have : ¬ ev_sx j ≤ ev_sx i := fun q => h (ev_sx_le_iff.mpr q)
    omega
  · show i ≤ j
    rw [ev_sx_le_iff]
    have : ¬ ev_sx j < ev_sx i := fun q => h (ev_sx_lt_iff.mpr q)
    omega
  · have h9 : ev_ng t = 4 := by
      unfold ev_ng
      split
      all_goals first | rfl | (exfalso; simp_all; done)
    rw [h9]
    show j < i
    rw [ev_sx_lt_iff]
    have : ¬ ev_sx i ≤ ev_sx j := fun q => h (ev_sx_le_iff.mpr q)
    omega
/-- a value fits a field; an answer fits -/
def ev_ft (Ct : List ev_Ct) (b a : Nat) (v : ev_V) : Bool := match Ct[b]? with
  | some q => ev_fit (q.2.1 a) v
  | none => false
def ev_fr (ret : Option FieldType) (v : ev_V) : Bool := match ret with
  | some ty => ev_fit ty v
  | none => false
def ev_ty (t : Nat) : FieldType := match t with
  | 0 => .byte
  | 1 => .int
  | _ => .long
def ev_cft (t : Nat) (b : ev_V) : Bool := ev_cfit (ev_ty t) b
/-- the index of an instruction that has one -/
def ev_gi (cc : ByteArray) (pc : Nat) : Nat := match decode cc pc with
  | .ok (.getfield n, _) => n
  | .ok (.invokestatic n, _) => n
  | _ => 0
/-- a row of an array of two dimensions -/
def ev_ci (ty : FieldType) (kd n : Nat) : ev_C := match ty with
  | .long => (3, kd, n, [])
  | _ => (2, kd, n, [(0, 2147483648, 2147483648)])
/-- the places of the cells that a callee wants: (0, i) argument i's, (j + 1, f) what value f of its cell j names -/
def ev_isp (w : List ev_C) (as : List (Nat × Nat × Nat)) : List (Nat × Nat) → List Nat → Option (List Nat)
  | [], acc => some acc
  | (0, i) :: ps, acc => (match as[i]? with
    | some v => if v.1 = 2 then ev_isp w as ps (acc ++ [v.2.1]) else none
    | none => none)
  | (b + 1, f) :: ps, acc => (match acc[b]? with
    | some g => (match w[g]? with
      | some c => (match c.2.2.2[f]? with
        | some v => if v.1 = 2 then ev_isp w as ps (acc ++ [v.2.1]) else none
        | none => none)
      | none => none)
    | none => none)
/-- a contract over some cells is tried -/
def ev_att (dd : Nat) (w : List ev_C) (as : List (Nat × Nat × Nat)) (mi : Nat) (q : Nat × Nat × List (Nat × Nat) × List (Nat × Nat × Nat) × List ev_C × ev_R) : Option ev_R := if q.1 = mi then (match ev_isp w as q.2.2.1 [] with
  | some is => if va_nd is = true ∧ ev_lerW w is is q.2.2.2.2.1 = true ∧ ev_lerS is as q.2.2.2.1 = true ∧ ev_wok q.2.2.2.2.2.2.1 = true ∧ ev_fzz q.2.2.2.2.1 q.2.2.2.2.2.2.1 = true ∧ q.2.1 ≤ dd then some (q.2.2.2.2.2.1.map (ev_rnV is w.length), ev_upf ev_c0 w (ev_mixf w is w.length q.2.2.2.2.1 is q.2.2.2.2.2.2.1) is, q.2.2.2.2.2.2.2.1, q.2.2.2.2.2.2.2.2) else none
  | none => none) else none
/-- what a contract that was found gives -/
theorem ev_att_ok {dd mi : Nat} {w : List ev_C} {as : List (Nat × Nat × Nat)} {sm : ev_Sm} {r : ev_R} (h : sm.findSome? (ev_att dd w as mi) = some r) : ∃ q ∈ sm, q.1 = mi ∧ ∃ is : List Nat, (∀ a b k : Nat, is[a]? = some k → is[b]? = some k → a = b) ∧ ev_lerW w is is q.2.2.2.2.1 = true ∧ ev_lerS is as q.2.2.2.1 = true ∧ ev_wok q.2.2.2.2.2.2.1 = true ∧ ev_fzz q.2.2.2.2.1 q.2.2.2.2.2.2.1 = true ∧ q.2.1 ≤ dd ∧ r = (q.2.2.2.2.2.1.map (ev_rnV is w.length), ev_up ev_c0 w (ev_mix w q.2.2.2.2.1 q.2.2.2.2.2.2.1 is) is, q.2.2.2.2.2.2.2.1, q.2.2.2.2.2.2.2.2) := by
  obtain ⟨q, hqm, hqa⟩ := List.exists_of_findSome?_eq_some h
  unfold ev_att at hqa
  split at hqa
  · next hmi =>
    split at hqa
    · next is his =>
      split at hqa
      · next hy =>
        obtain ⟨x1, x2, x3, x4, x5, x8⟩ := hy
        have hil := (ev_lerW_at x2).1
        have hwl : q.2.2.2.2.1.length ≤ q.2.2.2.2.2.2.1.length := by
          have x5b := x5
          unfold ev_fzz at x5b
          rw [Bool.and_eq_true] at x5b
          exact of_decide_eq_true x5b.1
        rw [ev_mixf_eq hil, ev_upf_eq (by rw [ev_mix_len, hil]; exact hwl)] at hqa
        exact ⟨q, hqm, hmi, is, (va_nd_inj is x1 · · ·), x2, x3, x4, x5, x8, (Option.some.inj hqa).symm⟩
      · cases hqa
    · cases hqa
  · cases hqa
/-- a word by its place -/
def ev_hg (Gc : List (List Cond)) (h : Nat) : Option Cond := match Gc[h / 64]? with
  | some g => g[h % 64]?
  | none => none
theorem ev_hg_r {Gc : List (List Cond)} {h : Nat} {w : Cond} (q : ev_hg Gc h = some w) : w ∈ Gc.flatten := by
  unfold ev_hg at q
  split at q
  · next g hg => exact List.mem_flatten.mpr ⟨g, List.mem_of_getElem? hg, List.mem_of_getElem? q⟩
  · cases q
/-- the int that is written a -/
def ev_un (a : Nat) : Int32 := Int32.ofInt ((a : Int) - 2147483648)
/-- which way a comparison goes: by the bounds, or both, to meet at j -/
def ev_way (u v : ev_S) (j : Nat) (a b : Bool) : Option (ev_S ⊕ (ev_R ⊕ (ev_S × ev_S × Nat))) := if a then (if b then some (.inr (.inr (u, v, j))) else some (.inl u)) else (if b then some (.inl v) else none)
def ev_o0 (Ct : List ev_Ct) (ret : Option FieldType) (sm : ev_Sm) (dd : Nat) (call : Nat → List (Nat × Nat × Nat) → List ev_C → Option ev_R) (i : ev_I) (st : ev_S) : Option (ev_S ⊕ (ev_R ⊕ (ev_S × ev_S × Nat))) := none
def ev_o1 (Ct : List ev_Ct) (ret : Option FieldType) (sm : ev_Sm) (dd : Nat) (call : Nat → List (Nat × Nat × Nat) → List ev_C → Option ev_R) (i : ev_I) (st : ev_S) : Option (ev_S ⊕ (ev_R ⊕ (ev_S × ev_S × Nat))) := some (.inl (st.1 + 1, st.2.1, (0, i.2.2.1, i.2.2.1) :: st.2.2.1, st.2.2.2))
def ev_o2 (Ct : List ev_Ct) (ret : Option FieldType) (sm : ev_Sm) (dd : Nat) (call : Nat → List (Nat × Nat × Nat) → List ev_C → Option ev_R) (i : ev_I) (st : ev_S) : Option (ev_S ⊕ (ev_R ⊕ (ev_S × ev_S × Nat))) := some (.inl (st.1 + 1, st.2.1, (0, i.2.2.1, i.2.2.1) :: st.2.2.1, st.2.2.2))
def ev_o3 (Ct : List ev_Ct) (ret : Option FieldType) (sm : ev_Sm) (dd : Nat) (call : Nat → List (Nat × Nat × Nat) → List ev_C → Option ev_R) (i : ev_I) (st : ev_S) : Option (ev_S ⊕ (ev_R ⊕ (ev_S × ev_S × Nat))) := some (.inl (st.1 + 1, st.2.1, (0, i.2.2.1, i.2.2.1) :: st.2.2.1, st.2.2.2))
def ev_o4 (Ct : List ev_Ct) (ret : Option FieldType) (sm : ev_Sm) (dd : Nat) (call : Nat → List (Nat × Nat × Nat) → List ev_C → Option ev_R) (i : ev_I) (st : ev_S) : Option (ev_S ⊕ (ev_R ⊕ (ev_S × ev_S × Nat))) := some (.inl (st.1 + 1, st.2.1, (0, i.2.2.1, i.2.2.1) :: st.2.2.1, st.2.2.2))
def ev_o5 (Ct : List ev_Ct) (ret : Option FieldType) (sm : ev_Sm) (dd : Nat) (call : Nat → List (Nat × Nat × Nat) → List ev_C → Option ev_R) (i : ev_I) (st : ev_S) : Option (ev_S ⊕ (ev_R ⊕ (ev_S × ev_S × Nat))) := some (.inl (st.1 + 1, st.2.1, (0, i.2.2.1, i.2.2.1) :: st.2.2.1, st.2.2.2))
def ev_o6 (Ct : List ev_Ct) (ret : Option FieldType) (sm : ev_Sm) (dd : Nat) (call : Nat → List (Nat × Nat × Nat) → List ev_C → Option ev_R) (i : ev_I) (st : ev_S) : Option (ev_S ⊕ (ev_R ⊕ (ev_S × ev_S × Nat))) := match ev_get st.2.1 i.2.2.1 with
    | some v => if v.1 = 0 then some (.inl (st.1 + 1, st.2.1, v :: st.2.2.1, st.2.2.2)) else none
    | none => none
def ev_o7 (Ct : List ev_Ct) (ret : Option FieldType) (sm : ev_Sm) (dd : Nat) (call : Nat → List (Nat × Nat × Nat) → List ev_C → Option ev_R) (i : ev_I) (st : ev_S) : Option (ev_S ⊕ (ev_R ⊕ (ev_S × ev_S × Nat))) := match ev_get st.2.1 i.2.2.1 with
    | some v => if v.1 = 0 then some (.inl (st.1 + 1, st.2.1, v :: st.2.2.1, st.2.2.2)) else none
    | none => none
def ev_o8 (Ct : List ev_Ct) (ret : Option FieldType) (sm : ev_Sm) (dd : Nat) (call : Nat → List (Nat × Nat × Nat) → List ev_C → Option ev_R) (i : ev_I) (st : ev_S) : Option (ev_S ⊕ (ev_R ⊕ (ev_S × ev_S × Nat))) := match ev_get st.2.1 i.2.2.1 with
    | some v => if v.1 = 2 then some (.inl (st.1 + 1, st.2.1, v :: st.2.2.1, st.2.2.2)) else none
    | none => none
def ev_o9 (Ct : List ev_Ct) (ret : Option FieldType) (sm : ev_Sm) (dd : Nat) (call : Nat → List (Nat × Nat × Nat) → List ev_C → Option ev_R) (i : ev_I) (st : ev_S) : Option (ev_S ⊕ (ev_R ⊕ (ev_S × ev_S × Nat))) := match ev_get st.2.1 i.2.2.1 with
    | some v => if v.1 = 2 then some (.inl (st.1 + 1, st.2.1, v :: st.2.2.1, st.2.2.2)) else none
    | none => none
def ev_o10 (Ct : List ev_Ct) (ret : Option FieldType) (sm : ev_Sm) (dd : Nat) (call : Nat → List (Nat × Nat × Nat) → List ev_C → Option ev_R) (i : ev_I) (st : ev_S) : Option (ev_S ⊕ (ev_R ⊕ (ev_S × ev_S × Nat))) := match st.2.2.1 with
    | v :: S1 => if v.1 = 0 then some (.inl (st.1 + 1, ev_put st.2.1 i.2.2.1 v, S1, st.2.2.2)) else none
    | [] => none
def ev_o11 (Ct : List ev_Ct) (ret : Option FieldType) (sm : ev_Sm) (dd : Nat) (call : Nat → List (Nat × Nat × Nat) → List ev_C → Option ev_R) (i : ev_I) (st : ev_S) : Option (ev_S ⊕ (ev_R ⊕ (ev_S × ev_S × Nat))) := match st.2.2.1 with
    | v :: S1 => if v.1 = 0 then some (.inl (st.1 + 1, ev_put st.2.1 i.2.2.1 v, S1, st.2.2.2)) else none
    | [] => none
def ev_o12 (Ct : List ev_Ct) (ret : Option FieldType) (sm : ev_Sm) (dd : Nat) (call : Nat → List (Nat × Nat × Nat) → List ev_C → Option ev_R) (i : ev_I) (st : ev_S) : Option (ev_S ⊕ (ev_R ⊕ (ev_S × ev_S × Nat))) := match st.2.2.1 with
    | v :: S1 => if v.1 = 2 then some (.inl (st.1 + 1, ev_put st.2.1 i.2.2.1 v, S1, st.2.2.2)) else none
    | [] => none
def ev_o13 (Ct : List ev_Ct) (ret : Option FieldType) (sm : ev_Sm) (dd : Nat) (call : Nat → List (Nat × Nat × Nat) → List ev_C → Option ev_R) (i : ev_I) (st : ev_S) : Option (ev_S ⊕ (ev_R ⊕ (ev_S × ev_S × Nat))) := match st.2.2.1 with
    | v :: S1 => if v.1 = 2 then some (.inl (st.1 + 1, ev_put st.2.1 i.2.2.1 v, S1, st.2.2.2)) else none
    | [] => none
def ev_o14 (Ct : List ev_Ct) (ret : Option FieldType) (sm : ev_Sm) (dd : Nat) (call : Nat → List (Nat × Nat × Nat) → List ev_C → Option ev_R) (i : ev_I) (st : ev_S) : Option (ev_S ⊕ (ev_R ⊕ (ev_S × ev_S × Nat))) := match ev_get st.2.1 i.2.2.1 with
    | some v => if v.1 = 0 ∧ (ev_fadd v (0, i.2.2.2.1, i.2.2.2.1)).1 = 0 then some (.inl (st.1 + 1, ev_put st.2.1 i.2.2.1 (ev_fadd v (0, i.2.2.2.1, i.2.2.2.1)), st.2.2.1, st.2.2.2)) else none
    | none => none
def ev_o15 (Ct : List ev_Ct) (ret : Option FieldType) (sm : ev_Sm) (dd : Nat) (call : Nat → List (Nat × Nat × Nat) → List ev_C → Option ev_R) (i : ev_I) (st : ev_S) : Option (ev_S ⊕ (ev_R ⊕ (ev_S × ev_S × Nat))) := match st.2.2.1 with
    | y :: x :: S1 => if x.1 = 0 ∧ y.1 = 0 ∧ (ev_fadd x y).1 = 0 then some (.inl (st.1 + 1, st.2.1, ev_fadd x y :: S1, st.2.2.2)) else none
    | _ => none
def ev_o16 (Ct : List ev_Ct) (ret : Option FieldType) (sm : ev_Sm) (dd : Nat) (call : Nat → List (Nat × Nat × Nat) → List ev_C → Option ev_R) (i : ev_I) (st : ev_S) : Option (ev_S ⊕ (ev_R ⊕ (ev_S × ev_S × Nat))) := match st.2.2.1 with
    | y :: x :: S1 => if x.1 = 0 ∧ y.1 = 0 ∧ (ev_fsub x y).1 = 0 then some (.inl (st.1 + 1, st.2.1, ev_fsub x y :: S1, st.2.2.2)) else none
    | _ => none
def ev_o17 (Ct : List ev_Ct) (ret : Option FieldType) (sm : ev_Sm) (dd : Nat) (call : Nat → List (Nat × Nat × Nat) → List ev_C → Option ev_R) (i : ev_I) (st : ev_S) : Option (ev_S ⊕ (ev_R ⊕ (ev_S × ev_S × Nat))) := match st.2.2.1 with
    | y :: x :: S1 => if x.1 = 0 ∧ y.1 = 0 ∧ (ev_fmul x y).1 = 0 then some (.inl (st.1 + 1, st.2.1, ev_fmul x y :: S1, st.2.2.2)) else none
    | _ => none
def ev_o18 (Ct : List ev_Ct) (ret : Option FieldType) (sm : ev_Sm) (dd : Nat) (call : Nat → List (Nat × Nat × Nat) → List ev_C → Option ev_R) (i : ev_I) (st : ev_S) : Option (ev_S ⊕ (ev_R ⊕ (ev_S × ev_S × Nat))) := match st.2.2.1 with
    | y :: x :: S1 => if x.1 = 0 ∧ y.1 = 0 ∧ (ev_fand x y).1 = 0 then some (.inl (st.1 + 1, st.2.1, ev_fand x y :: S1, st.2.2.2)) else none
    | _ => none
def ev_o19 (Ct : List ev_Ct) (ret : Option FieldType) (sm : ev_Sm) (dd : Nat) (call : Nat → List (Nat × Nat × Nat) → List ev_C → Option ev_R) (i : ev_I) (st : ev_S) : Option (ev_S ⊕ (ev_R ⊕ (ev_S × ev_S × Nat))) := match st.2.2.1 with
    | y :: x :: S1 => if x.1 = 0 ∧ y.1 = 0 then some (.inl (st.1 + 1, st.2.1, ev_full :: S1, st.2.2.2)) else none
    | _ => none
def ev_o20 (Ct : List ev_Ct) (ret : Option FieldType) (sm : ev_Sm) (dd : Nat) (call : Nat → List (Nat × Nat × Nat) → List ev_C → Option ev_R) (i : ev_I) (st : ev_S) : Option (ev_S ⊕ (ev_R ⊕ (ev_S × ev_S × Nat))) := match st.2.2.1 with
    | y :: x :: S1 => if x.1 = 0 ∧ y.1 = 0 then some (.inl (st.1 + 1, st.2.1, ev_full :: S1, st.2.2.2)) else none
    | _ => none
def ev_o21 (Ct : List ev_Ct) (ret : Option FieldType) (sm : ev_Sm) (dd : Nat) (call : Nat → List (Nat × Nat × Nat) → List ev_C → Option ev_R) (i : ev_I) (st : ev_S) : Option (ev_S ⊕ (ev_R ⊕ (ev_S × ev_S × Nat))) := match st.2.2.1 with
    | y :: x :: S1 => if x.1 = 0 ∧ y.1 = 0 then some (.inl (st.1 + 1, st.2.1, ev_full :: S1, st.2.2.2)) else none
    | _ => none
def ev_o22 (Ct : List ev_Ct) (ret : Option FieldType) (sm : ev_Sm) (dd : Nat) (call : Nat → List (Nat × Nat × Nat) → List ev_C → Option ev_R) (i : ev_I) (st : ev_S) : Option (ev_S ⊕ (ev_R ⊕ (ev_S × ev_S × Nat))) := match st.2.2.1 with
    | v :: S1 => if v.1 ≠ 1 then some (.inl (st.1 + 1, st.2.1, v :: v :: S1, st.2.2.2)) else none
    | [] => none
def ev_o23 (Ct : List ev_Ct) (ret : Option FieldType) (sm : ev_Sm) (dd : Nat) (call : Nat → List (Nat × Nat × Nat) → List ev_C → Option ev_R) (i : ev_I) (st : ev_S) : Option (ev_S ⊕ (ev_R ⊕ (ev_S × ev_S × Nat))) := match st.2.2.1 with
    | v :: S1 => if v.1 ≠ 1 then some (.inl (st.1 + 1, st.2.1, S1, st.2.2.2)) else none
    | [] => none
def ev_o24 (Ct : List ev_Ct) (ret : Option FieldType) (sm : ev_Sm) (dd : Nat) (call : Nat → List (Nat × Nat × Nat) → List ev_C → Option ev_R) (i : ev_I) (st : ev_S) : Option (ev_S ⊕ (ev_R ⊕ (ev_S × ev_S × Nat))) := match st.2.2.1 with
    | u :: v :: S1 => if u.1 ≠ 1 ∧ v.1 ≠ 1 then some (.inl (st.1 + 1, st.2.1, u :: v :: u :: v :: S1, st.2.2.2)) else none
    | _ => none
def ev_o25 (Ct : List ev_Ct) (ret : Option FieldType) (sm : ev_Sm) (dd : Nat) (call : Nat → List (Nat × Nat × Nat) → List ev_C → Option ev_R) (i : ev_I) (st : ev_S) : Option (ev_S ⊕ (ev_R ⊕ (ev_S × ev_S × Nat))) := some (.inl (i.2.2.1, st.2))
def ev_o26 (Ct : List ev_Ct) (ret : Option FieldType) (sm : ev_Sm) (dd : Nat) (call : Nat → List (Nat × Nat × Nat) → List ev_C → Option ev_R) (i : ev_I) (st : ev_S) : Option (ev_S ⊕ (ev_R ⊕ (ev_S × ev_S × Nat))) := match st.2.2.1 with
    | y :: x :: S1 => if x.1 = 0 ∧ y.1 = 0 then ev_way (i.2.2.1, st.2.1, S1, st.2.2.2) (st.1 + 1, st.2.1, S1, st.2.2.2) i.2.2.2.1 (ev_ct i.2.2.2.2.2.1 x y) (ev_ct (ev_ng i.2.2.2.2.2.1) x y) else none
    | _ => none
def ev_o27 (Ct : List ev_Ct) (ret : Option FieldType) (sm : ev_Sm) (dd : Nat) (call : Nat → List (Nat × Nat × Nat) → List ev_C → Option ev_R) (i : ev_I) (st : ev_S) : Option (ev_S ⊕ (ev_R ⊕ (ev_S × ev_S × Nat))) := match st.2.2.1 with
    | x :: S1 => if x.1 = 0 then ev_way (i.2.2.1, st.2.1, S1, st.2.2.2) (st.1 + 1, st.2.1, S1, st.2.2.2) i.2.2.2.1 (ev_ct i.2.2.2.2.2.1 x (0, 2147483648, 2147483648)) (ev_ct (ev_ng i.2.2.2.2.2.1) x (0, 2147483648, 2147483648)) else none
    | _ => none
def ev_o28 (Ct : List ev_Ct) (ret : Option FieldType) (sm : ev_Sm) (dd : Nat) (call : Nat → List (Nat × Nat × Nat) → List ev_C → Option ev_R) (i : ev_I) (st : ev_S) : Option (ev_S ⊕ (ev_R ⊕ (ev_S × ev_S × Nat))) := match st.2.2.1 with
    | (2, k, _) :: S1 => (match st.2.2.2.1[k]? with
      | some (0, ci, _, fs) => if ci = i.2.2.2.1 then (match fs[i.2.2.1]? with
        | some v => some (.inl (st.1 + 1, st.2.1, v :: S1, st.2.2.2))
        | none => none) else none
      | _ => none)
    | _ => none
def ev_o29 (Ct : List ev_Ct) (ret : Option FieldType) (sm : ev_Sm) (dd : Nat) (call : Nat → List (Nat × Nat × Nat) → List ev_C → Option ev_R) (i : ev_I) (st : ev_S) : Option (ev_S ⊕ (ev_R ⊕ (ev_S × ev_S × Nat))) := match st.2.2.1 with
    | v :: (2, k, _) :: S1 => (match st.2.2.2.1[k]? with
      | some (0, ci, z, fs) => if ci = i.2.2.2.1 ∧ i.2.2.1 < fs.length ∧ ev_ft Ct i.2.2.2.1 i.2.2.1 v = true then some (.inl (st.1 + 1, st.2.1, S1, st.2.2.2.1.set k (0, ci, z, fs.set i.2.2.1 v), st.2.2.2.2)) else none
      | _ => none)
    | _ => none
def ev_o30 (Ct : List ev_Ct) (ret : Option FieldType) (sm : ev_Sm) (dd : Nat) (call : Nat → List (Nat × Nat × Nat) → List ev_C → Option ev_R) (i : ev_I) (st : ev_S) : Option (ev_S ⊕ (ev_R ⊕ (ev_S × ev_S × Nat))) := match st.2.2.1 with
    | v :: (2, k, _) :: S1 => (match st.2.2.2.1[k]? with
      | some (0, ci, z, fs) => if ci = i.2.2.2.1 ∧ i.2.2.1 < fs.length ∧ ev_ft Ct i.2.2.2.1 i.2.2.1 v = true then some (.inl (st.1 + 1, st.2.1, S1, st.2.2.2.1.set k (0, ci, z, fs.set i.2.2.1 v), st.2.2.2.2)) else none
      | _ => none)
    | _ => none
def ev_o31 (Ct : List ev_Ct) (ret : Option FieldType) (sm : ev_Sm) (dd : Nat) (call : Nat → List (Nat × Nat × Nat) → List ev_C → Option ev_R) (i : ev_I) (st : ev_S) : Option (ev_S ⊕ (ev_R ⊕ (ev_S × ev_S × Nat))) := match Ct[i.2.2.2.1]? with
    | some q => some (.inl (st.1 + 1, st.2.1, (2, st.2.2.2.1.length, 0) :: st.2.2.1, st.2.2.2.1 ++ [(0, i.2.2.2.1, 0, q.2.2)], st.2.2.2.2.1 + 1, st.2.2.2.2.2 + q.1.2.2))
    | none => none
def ev_o32 (Ct : List ev_Ct) (ret : Option FieldType) (sm : ev_Sm) (dd : Nat) (call : Nat → List (Nat × Nat × Nat) → List ev_C → Option ev_R) (i : ev_I) (st : ev_S) : Option (ev_S ⊕ (ev_R ⊕ (ev_S × ev_S × Nat))) := match st.2.2.1 with
    | (0, x, y) :: S1 => if x = y ∧ 2147483648 ≤ x ∧ x < 2281701376 then some (.inl (st.1 + 1, st.2.1, (2, st.2.2.2.1.length, 0) :: S1, st.2.2.2.1 ++ [(2, i.2.2.1, x - 2147483648, [(0, 2147483648, 2147483648)])], st.2.2.2.2.1 + 1, st.2.2.2.2.2 + (x - 2147483648))) else none
    | _ => none
def ev_o33 (Ct : List ev_Ct) (ret : Option FieldType) (sm : ev_Sm) (dd : Nat) (call : Nat → List (Nat × Nat × Nat) → List ev_C → Option ev_R) (i : ev_I) (st : ev_S) : Option (ev_S ⊕ (ev_R ⊕ (ev_S × ev_S × Nat))) := match st.2.2.1 with
    | (0, x, y) :: S1 => if x = y ∧ 2147483648 ≤ x ∧ x < 2214592512 then some (.inl (st.1 + 1, st.2.1, (2, st.2.2.2.1.length, 0) :: S1, st.2.2.2.1 ++ [(3, i.2.2.1, x - 2147483648, [])], st.2.2.2.2.1 + 1, st.2.2.2.2.2 + (x - 2147483648))) else none
    | _ => none
def ev_o34 (Ct : List ev_Ct) (ret : Option FieldType) (sm : ev_Sm) (dd : Nat) (call : Nat → List (Nat × Nat × Nat) → List ev_C → Option ev_R) (i : ev_I) (st : ev_S) : Option (ev_S ⊕ (ev_R ⊕ (ev_S × ev_S × Nat))) := match st.2.2.1 with
    | (0, x, y) :: S1 => if x = y ∧ 2147483648 ≤ x ∧ x < 2147500000 then some (.inl (st.1 + 1, st.2.1, (2, st.2.2.2.1.length, 0) :: S1, st.2.2.2.1 ++ [(1, i.2.2.1, x - 2147483648, List.replicate (x - 2147483648) (3, 0, 0))], st.2.2.2.2.1 + 1, st.2.2.2.2.2 + (x - 2147483648))) else none
    | _ => none
def ev_o35 (Ct : List ev_Ct) (ret : Option FieldType) (sm : ev_Sm) (dd : Nat) (call : Nat → List (Nat × Nat × Nat) → List ev_C → Option ev_R) (i : ev_I) (st : ev_S) : Option (ev_S ⊕ (ev_R ⊕ (ev_S × ev_S × Nat))) := match st.2.2.1 with
    | (0, x, y) :: (0, x2, y2) :: S1 => if x = y ∧ x2 = y2 ∧ 2147483648 ≤ x ∧ x < 2147500000 ∧ 2147483648 ≤ x2 ∧ x2 < 2147500000 then some (.inl (st.1 + 1, st.2.1, (2, st.2.2.2.1.length, 0) :: S1, st.2.2.2.1 ++ ((1, i.2.2.1, x2 - 2147483648, (List.range (x2 - 2147483648)).map (fun i => (2, st.2.2.2.1.length + 1 + i, 0))) :: List.replicate (x2 - 2147483648) (ev_ci (ev_ty i.2.2.2.2.2.1) i.2.2.2.1 (x - 2147483648))), st.2.2.2.2.1 + (1 + (x2 - 2147483648)), st.2.2.2.2.2 + ((x2 - 2147483648) + (x2 - 2147483648) * (x - 2147483648)))) else none
    | _ => none
def ev_o36 (Ct : List ev_Ct) (ret : Option FieldType) (sm : ev_Sm) (dd : Nat) (call : Nat → List (Nat × Nat × Nat) → List ev_C → Option ev_R) (i : ev_I) (st : ev_S) : Option (ev_S ⊕ (ev_R ⊕ (ev_S × ev_S × Nat))) := match ev_get st.2.1 i.2.2.1 with
    | some v => if v.1 = 1 then some (.inl (st.1 + 1, st.2.1, v :: st.2.2.1, st.2.2.2)) else none
    | none => none
def ev_o37 (Ct : List ev_Ct) (ret : Option FieldType) (sm : ev_Sm) (dd : Nat) (call : Nat → List (Nat × Nat × Nat) → List ev_C → Option ev_R) (i : ev_I) (st : ev_S) : Option (ev_S ⊕ (ev_R ⊕ (ev_S × ev_S × Nat))) := match ev_get st.2.1 i.2.2.1 with
    | some v => if v.1 = 1 then some (.inl (st.1 + 1, st.2.1, v :: st.2.2.1, st.2.2.2)) else none
    | none => none
def ev_o38 (Ct : List ev_Ct) (ret : Option FieldType) (sm : ev_Sm) (dd : Nat) (call : Nat → List (Nat × Nat × Nat) → List ev_C → Option ev_R) (i : ev_I) (st : ev_S) : Option (ev_S ⊕ (ev_R ⊕ (ev_S × ev_S × Nat))) := match st.2.2.1 with
    | v :: S1 => if v.1 = 1 then some (.inl (st.1 + 1, ev_put2 st.2.1 i.2.2.1 v, S1, st.2.2.2)) else none
    | [] => none
def ev_o39 (Ct : List ev_Ct) (ret : Option FieldType) (sm : ev_Sm) (dd : Nat) (call : Nat → List (Nat × Nat × Nat) → List ev_C → Option ev_R) (i : ev_I) (st : ev_S) : Option (ev_S ⊕ (ev_R ⊕ (ev_S × ev_S × Nat))) := match st.2.2.1 with
    | v :: S1 => if v.1 = 1 then some (.inl (st.1 + 1, ev_put2 st.2.1 i.2.2.1 v, S1, st.2.2.2)) else none
    | [] => none
def ev_o40 (Ct : List ev_Ct) (ret : Option FieldType) (sm : ev_Sm) (dd : Nat) (call : Nat → List (Nat × Nat × Nat) → List ev_C → Option ev_R) (i : ev_I) (st : ev_S) : Option (ev_S ⊕ (ev_R ⊕ (ev_S × ev_S × Nat))) := match st.2.2.1 with
    | (2, k, _) :: S1 => (match st.2.2.2.1[k]? with
      | some (tg, kd, n, _) => if tg ≠ 0 ∧ tg ≠ 9 ∧ n < 2147483648 ∧ kd = i.2.2.1 then some (.inl (st.1 + 1, st.2.1, (0, n + 2147483648, n + 2147483648) :: S1, st.2.2.2)) else none
      | _ => none)
    | _ => none
def ev_o42 (Ct : List ev_Ct) (ret : Option FieldType) (sm : ev_Sm) (dd : Nat) (call : Nat → List (Nat × Nat × Nat) → List ev_C → Option ev_R) (i : ev_I) (st : ev_S) : Option (ev_S ⊕ (ev_R ⊕ (ev_S × ev_S × Nat))) := match st.2.2.1 with
    | (0, x, y) :: (2, k, _) :: S1 => (match st.2.2.2.1[k]? with
      | some (1, kd, n, es) => if x = y ∧ 2147483648 ≤ x ∧ x - 2147483648 < n ∧ n < 2147483648 ∧ kd = i.2.2.1 then (match es[x - 2147483648]? with
        | some v => some (.inl (st.1 + 1, st.2.1, v :: S1, st.2.2.2))
        | none => none) else none
      | _ => none)
    | _ => none
def ev_o43 (Ct : List ev_Ct) (ret : Option FieldType) (sm : ev_Sm) (dd : Nat) (call : Nat → List (Nat × Nat × Nat) → List ev_C → Option ev_R) (i : ev_I) (st : ev_S) : Option (ev_S ⊕ (ev_R ⊕ (ev_S × ev_S × Nat))) := match st.2.2.1 with
    | (2, o, _) :: (0, x, y) :: (2, k, _) :: S1 => (match st.2.2.2.1[k]? with
      | some (1, kd, n, es) => (match st.2.2.2.1[o]? with
        | some (0, ci, _, _) => if x = y ∧ 2147483648 ≤ x ∧ x - 2147483648 < n ∧ n < 2147483648 ∧ kd = i.2.2.1 ∧ ci = i.2.2.2.1 then some (.inl (st.1 + 1, st.2.1, S1, st.2.2.2.1.set k (1, kd, n, es.set (x - 2147483648) (2, o, 0)), st.2.2.2.2)) else none
        | _ => none)
      | _ => none)
    | _ => none
def ev_o44 (Ct : List ev_Ct) (ret : Option FieldType) (sm : ev_Sm) (dd : Nat) (call : Nat → List (Nat × Nat × Nat) → List ev_C → Option ev_R) (i : ev_I) (st : ev_S) : Option (ev_S ⊕ (ev_R ⊕ (ev_S × ev_S × Nat))) := some (.inl (st.1 + 1, st.2.1, ev_lng :: st.2.2.1, st.2.2.2))
def ev_o46 (Ct : List ev_Ct) (ret : Option FieldType) (sm : ev_Sm) (dd : Nat) (call : Nat → List (Nat × Nat × Nat) → List ev_C → Option ev_R) (i : ev_I) (st : ev_S) : Option (ev_S ⊕ (ev_R ⊕ (ev_S × ev_S × Nat))) := match st.2.2.1 with
    | (2, _, _) :: S1 => if ev_cs S1 ≤ 8 then some (.inl (st.1 + 1, st.2.1, S1, st.2.2.2)) else none
    | _ => none
def ev_o47 (Ct : List ev_Ct) (ret : Option FieldType) (sm : ev_Sm) (dd : Nat) (call : Nat → List (Nat × Nat × Nat) → List ev_C → Option ev_R) (i : ev_I) (st : ev_S) : Option (ev_S ⊕ (ev_R ⊕ (ev_S × ev_S × Nat))) := some (.inl (st.1 + 1, st.2.1, ev_lng :: st.2.2.1, st.2.2.2))
def ev_o48 (Ct : List ev_Ct) (ret : Option FieldType) (sm : ev_Sm) (dd : Nat) (call : Nat → List (Nat × Nat × Nat) → List ev_C → Option ev_R) (i : ev_I) (st : ev_S) : Option (ev_S ⊕ (ev_R ⊕ (ev_S × ev_S × Nat))) := match st.2.2.1 with
    | [v] => if v.1 = 1 ∧ ret = some .long then some (.inr (.inl (some v, st.2.2.2.1, st.2.2.2.2.1, st.2.2.2.2.2))) else none
    | _ => none
def ev_o49 (Ct : List ev_Ct) (ret : Option FieldType) (sm : ev_Sm) (dd : Nat) (call : Nat → List (Nat × Nat × Nat) → List ev_C → Option ev_R) (i : ev_I) (st : ev_S) : Option (ev_S ⊕ (ev_R ⊕ (ev_S × ev_S × Nat))) := match st.2.2.1 with
    | [] => some (.inr (.inl (none, st.2.2.2.1, st.2.2.2.2.1, st.2.2.2.2.2)))
    | _ => none
def ev_o50 (Ct : List ev_Ct) (ret : Option FieldType) (sm : ev_Sm) (dd : Nat) (call : Nat → List (Nat × Nat × Nat) → List ev_C → Option ev_R) (i : ev_I) (st : ev_S) : Option (ev_S ⊕ (ev_R ⊕ (ev_S × ev_S × Nat))) := match st.2.2.1 with
    | [v] => if v.1 = 0 ∧ ev_fr ret v = true then some (.inr (.inl (some v, st.2.2.2.1, st.2.2.2.2.1, st.2.2.2.2.2))) else none
    | _ => none
def ev_o51 (Ct : List ev_Ct) (ret : Option FieldType) (sm : ev_Sm) (dd : Nat) (call : Nat → List (Nat × Nat × Nat) → List ev_C → Option ev_R) (i : ev_I) (st : ev_S) : Option (ev_S ⊕ (ev_R ⊕ (ev_S × ev_S × Nat))) := match st.2.2.1 with
    | x :: (2, k, _) :: S1 => (match st.2.2.2.1[k]? with
      | some (2, kd, n, b :: z) => if kd = i.2.2.1 ∧ b.1 = 0 ∧ x.1 = 0 ∧ 2147483648 ≤ x.2.1 ∧ x.2.2 < 2147483648 + n then some (.inl (st.1 + 1, st.2.1, b :: S1, st.2.2.2)) else none
      | _ => none)
    | _ => none
def ev_o52 (Ct : List ev_Ct) (ret : Option FieldType) (sm : ev_Sm) (dd : Nat) (call : Nat → List (Nat × Nat × Nat) → List ev_C → Option ev_R) (i : ev_I) (st : ev_S) : Option (ev_S ⊕ (ev_R ⊕ (ev_S × ev_S × Nat))) := match st.2.2.1 with
    | x :: (2, k, _) :: S1 => (match st.2.2.2.1[k]? with
      | some (tg, kd, n, b :: z) => if (tg = 2 ∨ tg = 9) ∧ kd = i.2.2.1 ∧ b.1 = 0 ∧ x.1 = 0 ∧ 2147483648 ≤ x.2.1 ∧ x.2.2 < 2147483648 + n then some (.inl (st.1 + 1, st.2.1, b :: S1, st.2.2.2)) else none
      | _ => none)
    | _ => none
def ev_o53 (Ct : List ev_Ct) (ret : Option FieldType) (sm : ev_Sm) (dd : Nat) (call : Nat → List (Nat × Nat × Nat) → List ev_C → Option ev_R) (i : ev_I) (st : ev_S) : Option (ev_S ⊕ (ev_R ⊕ (ev_S × ev_S × Nat))) := match st.2.2.1 with
    | x :: (2, k, _) :: S1 => (match st.2.2.2.1[k]? with
      | some (2, kd, n, b :: z) => if kd = i.2.2.1 ∧ b.1 = 0 ∧ x.1 = 0 ∧ 2147483648 ≤ x.2.1 ∧ x.2.2 < 2147483648 + n then some (.inl (st.1 + 1, st.2.1, b :: S1, st.2.2.2)) else none
      | _ => none)
    | _ => none
def ev_o54 (Ct : List ev_Ct) (ret : Option FieldType) (sm : ev_Sm) (dd : Nat) (call : Nat → List (Nat × Nat × Nat) → List ev_C → Option ev_R) (i : ev_I) (st : ev_S) : Option (ev_S ⊕ (ev_R ⊕ (ev_S × ev_S × Nat))) := match st.2.2.1 with
    | x :: (2, k, _) :: S1 => (match st.2.2.2.1[k]? with
      | some (3, kd, n, z) => if kd = i.2.2.1 ∧ x.1 = 0 ∧ 2147483648 ≤ x.2.1 ∧ x.2.2 < 2147483648 + n then some (.inl (st.1 + 1, st.2.1, ev_lng :: S1, st.2.2.2)) else none
      | _ => none)
    | _ => none
def ev_o55 (Ct : List ev_Ct) (ret : Option FieldType) (sm : ev_Sm) (dd : Nat) (call : Nat → List (Nat × Nat × Nat) → List ev_C → Option ev_R) (i : ev_I) (st : ev_S) : Option (ev_S ⊕ (ev_R ⊕ (ev_S × ev_S × Nat))) := match st.2.2.1.drop i.2.2.2.1 with
    | (2, k, z) :: S2 => (match sm.findSome? (ev_att dd st.2.2.2.1 ((2, k, z) :: (st.2.2.1.take i.2.2.2.1).reverse) i.2.2.2.2.2.1) with
      | some (none, w1, mc, ms) => if (st.2.2.1.take i.2.2.2.1).length = i.2.2.2.1 ∧ ev_cs S2 ≤ 8 then some (.inl (st.1 + 1, st.2.1, S2, w1, st.2.2.2.2.1 + mc, st.2.2.2.2.2 + ms)) else none
      | _ => none)
    | _ => none
def ev_o56 (Ct : List ev_Ct) (ret : Option FieldType) (sm : ev_Sm) (dd : Nat) (call : Nat → List (Nat × Nat × Nat) → List ev_C → Option ev_R) (i : ev_I) (st : ev_S) : Option (ev_S ⊕ (ev_R ⊕ (ev_S × ev_S × Nat))) := match st.2.2.1.drop i.2.2.2.1 with
    | (2, k, z) :: S2 => (match st.2.2.2.1[k]? with
      | some (0, ci, _, _) => (match sm.findSome? (ev_att dd st.2.2.2.1 ((2, k, z) :: (st.2.2.1.take i.2.2.2.1).reverse) i.2.2.2.2.2.1) with
        | some (r, w1, mc, ms) => if (st.2.2.1.take i.2.2.2.1).length = i.2.2.2.1 ∧ ev_cs S2 ≤ 8 ∧ ci = i.2.2.2.2.2.2 % 64 then some (.inl (st.1 + 1, st.2.1, r.toList ++ S2, w1, st.2.2.2.2.1 + mc, st.2.2.2.2.2 + ms)) else none
        | none => none)
      | _ => none)
    | _ => none
def ev_o57 (Ct : List ev_Ct) (ret : Option FieldType) (sm : ev_Sm) (dd : Nat) (call : Nat → List (Nat × Nat × Nat) → List ev_C → Option ev_R) (i : ev_I) (st : ev_S) : Option (ev_S ⊕ (ev_R ⊕ (ev_S × ev_S × Nat))) := match sm.findSome? (ev_att dd st.2.2.2.1 (st.2.2.1.take i.2.2.2.1).reverse i.2.2.2.2.2.1) with
    | some (r, w1, mc, ms) => if (st.2.2.1.take i.2.2.2.1).length = i.2.2.2.1 ∧ ev_cs (st.2.2.1.drop i.2.2.2.1) ≤ 8 then some (.inl (st.1 + 1, st.2.1, r.toList ++ st.2.2.1.drop i.2.2.2.1, w1, st.2.2.2.2.1 + mc, st.2.2.2.2.2 + ms)) else none
    | none => none
def ev_o58 (Ct : List ev_Ct) (ret : Option FieldType) (sm : ev_Sm) (dd : Nat) (call : Nat → List (Nat × Nat × Nat) → List ev_C → Option ev_R) (i : ev_I) (st : ev_S) : Option (ev_S ⊕ (ev_R ⊕ (ev_S × ev_S × Nat))) := match call i.2.2.2.2.2.1 (st.2.2.1.take i.2.2.2.1).reverse st.2.2.2.1 with
    | some (r, w1, mc, ms) => if (st.2.2.1.take i.2.2.2.1).length = i.2.2.2.1 ∧ ev_cs (st.2.2.1.drop i.2.2.2.1) ≤ 8 ∧ ev_fz st.2.2.2.1 w1 = true then some (.inl (st.1 + 1, st.2.1, r.toList ++ st.2.2.1.drop i.2.2.2.1, w1, st.2.2.2.2.1 + mc, st.2.2.2.2.2 + ms)) else none
    | none => none
def ev_o59 (Ct : List ev_Ct) (ret : Option FieldType) (sm : ev_Sm) (dd : Nat) (call : Nat → List (Nat × Nat × Nat) → List ev_C → Option ev_R) (i : ev_I) (st : ev_S) : Option (ev_S ⊕ (ev_R ⊕ (ev_S × ev_S × Nat))) := match st.2.2.1 with
    | v :: x :: (2, k, _) :: S1 => (match st.2.2.2.1[k]? with
      | some (2, kd, n, b :: z) => if kd = i.2.2.1 ∧ v.1 = 0 ∧ x.1 = 0 ∧ 2147483648 ≤ x.2.1 ∧ x.2.2 < 2147483648 + n then some (.inl (st.1 + 1, st.2.1, S1, st.2.2.2.1.set k (2, kd, n, [ev_hull b v]), st.2.2.2.2)) else none
      | _ => none)
    | _ => none
def ev_o60 (Ct : List ev_Ct) (ret : Option FieldType) (sm : ev_Sm) (dd : Nat) (call : Nat → List (Nat × Nat × Nat) → List ev_C → Option ev_R) (i : ev_I) (st : ev_S) : Option (ev_S ⊕ (ev_R ⊕ (ev_S × ev_S × Nat))) := match st.2.2.1 with
    | v :: x :: (2, k, _) :: S1 => (match st.2.2.2.1[k]? with
      | some (2, kd, n, b :: z) => if kd = i.2.2.1 ∧ v.1 = 0 ∧ x.1 = 0 ∧ 2147483648 ≤ x.2.1 ∧ x.2.2 < 2147483648 + n then some (.inl (st.1 + 1, st.2.1, S1, st.2.2.2.1.set k (2, kd, n, [ev_hull b ev_byte]), st.2.2.2.2)) else none
      | _ => none)
    | _ => none
def ev_o61 (Ct : List ev_Ct) (ret : Option FieldType) (sm : ev_Sm) (dd : Nat) (call : Nat → List (Nat × Nat × Nat) → List ev_C → Option ev_R) (i : ev_I) (st : ev_S) : Option (ev_S ⊕ (ev_R ⊕ (ev_S × ev_S × Nat))) := match st.2.2.1 with
    | v :: x :: (2, k, _) :: S1 => (match st.2.2.2.1[k]? with
      | some (2, kd, n, b :: z) => if kd = i.2.2.1 ∧ v.1 = 0 ∧ x.1 = 0 ∧ 2147483648 ≤ x.2.1 ∧ x.2.2 < 2147483648 + n then some (.inl (st.1 + 1, st.2.1, S1, st.2.2.2.1.set k (2, kd, n, [ev_hull b (0, 2147483648, 2147483649)]), st.2.2.2.2)) else none
      | _ => none)
    | _ => none
def ev_o62 (Ct : List ev_Ct) (ret : Option FieldType) (sm : ev_Sm) (dd : Nat) (call : Nat → List (Nat × Nat × Nat) → List ev_C → Option ev_R) (i : ev_I) (st : ev_S) : Option (ev_S ⊕ (ev_R ⊕ (ev_S × ev_S × Nat))) := match st.2.2.1 with
    | v :: x :: (2, k, _) :: S1 => (match st.2.2.2.1[k]? with
      | some (3, kd, n, z) => if kd = i.2.2.1 ∧ v.1 = 1 ∧ x.1 = 0 ∧ 2147483648 ≤ x.2.1 ∧ x.2.2 < 2147483648 + n then some (.inl (st.1 + 1, st.2.1, S1, st.2.2.2)) else none
      | _ => none)
    | _ => none
def ev_o63 (Ct : List ev_Ct) (ret : Option FieldType) (sm : ev_Sm) (dd : Nat) (call : Nat → List (Nat × Nat × Nat) → List ev_C → Option ev_R) (i : ev_I) (st : ev_S) : Option (ev_S ⊕ (ev_R ⊕ (ev_S × ev_S × Nat))) := match st.2.2.1 with
    | nn :: dp :: (2, k1, _) :: sp :: (2, k0, _) :: S1 => (match st.2.2.2.1[k0]?, st.2.2.2.1[k1]? with
      | some (tg, kd, n0, b0 :: _), some (2, kd1, n1, b1 :: _) => if (tg = 2 ∨ tg = 9) ∧ kd = i.2.2.1 ∧ kd1 = i.2.2.1 ∧ ev_cft (i.2.2.2.2.2.1) b0 = true ∧ sp.1 = 0 ∧ dp.1 = 0 ∧ nn.1 = 0 ∧ 2147483648 ≤ sp.2.1 ∧ 2147483648 ≤ dp.2.1 ∧ 2147483648 ≤ nn.2.1 ∧ sp.2.2 + nn.2.2 ≤ n0 + 4294967296 ∧ dp.2.2 + nn.2.2 ≤ n1 + 4294967296 ∧ ev_cs S1 ≤ 8 then some (.inl (st.1 + 1, st.2.1, S1, st.2.2.2.1.set k1 (2, kd1, n1, [ev_hull b1 b0]), st.2.2.2.2)) else none
      | _, _ => none)
    | _ => none
def ev_o64 (Ct : List ev_Ct) (ret : Option FieldType) (sm : ev_Sm) (dd : Nat) (call : Nat → List (Nat × Nat × Nat) → List ev_C → Option ev_R) (i : ev_I) (st : ev_S) : Option (ev_S ⊕ (ev_R ⊕ (ev_S × ev_S × Nat))) := match ev_get st.2.1 i.2.2.1 with
    | some v => if v.1 = 0 ∧ 2147483648 ≤ v.2.1 ∧ v.2.2 < 2147483648 + (ev_tb.getD i.2.2.2.1 ("", "", 0)).2.2 then some (.inl (st.1 + 3, st.2.1, ev_full :: st.2.2.1, st.2.2.2)) else none
    | none => none
def ev_o65 (Ct : List ev_Ct) (ret : Option FieldType) (sm : ev_Sm) (dd : Nat) (call : Nat → List (Nat × Nat × Nat) → List ev_C → Option ev_R) (i : ev_I) (st : ev_S) : Option (ev_S ⊕ (ev_R ⊕ (ev_S × ev_S × Nat))) := match ev_get st.2.1 0 with
    | some (2, o, _) => (match st.2.2.2.1[o]? with
      | some (0, ci, _, fs) => (match fs[i.2.2.1]? with
        | some (2, k1, _) => (match st.2.2.2.1[k1]? with
          | some (2, kd, n1, _) => if ci = i.2.2.2.2.2.1 / 65536 ∧ kd = i.2.2.2.2.2.1 / 256 % 256 ∧ i.2.2.2.2.2.1 % 256 ≤ n1 ∧ ev_cs st.2.2.1 ≤ 8 then some (.inl (st.1 + 7, st.2.1, st.2.2.1, st.2.2.2.1.set k1 (2, kd, n1, [ev_full]), st.2.2.2.2)) else none
          | _ => none)
        | _ => none)
      | _ => none)
    | _ => none
def ev_o66 (Ct : List ev_Ct) (ret : Option FieldType) (sm : ev_Sm) (dd : Nat) (call : Nat → List (Nat × Nat × Nat) → List ev_C → Option ev_R) (i : ev_I) (st : ev_S) : Option (ev_S ⊕ (ev_R ⊕ (ev_S × ev_S × Nat))) := match st.2.2.1 with
    | y :: x :: S1 => if x.1 = 1 ∧ y.1 = 1 then some (.inl (st.1 + 1, st.2.1, ev_lng :: S1, st.2.2.2)) else none
    | _ => none
def ev_o67 (Ct : List ev_Ct) (ret : Option FieldType) (sm : ev_Sm) (dd : Nat) (call : Nat → List (Nat × Nat × Nat) → List ev_C → Option ev_R) (i : ev_I) (st : ev_S) : Option (ev_S ⊕ (ev_R ⊕ (ev_S × ev_S × Nat))) := match st.2.2.1 with
    | y :: x :: S1 => if x.1 = 1 ∧ y.1 = 1 then some (.inl (st.1 + 1, st.2.1, ev_lng :: S1, st.2.2.2)) else none
    | _ => none
def ev_o68 (Ct : List ev_Ct) (ret : Option FieldType) (sm : ev_Sm) (dd : Nat) (call : Nat → List (Nat × Nat × Nat) → List ev_C → Option ev_R) (i : ev_I) (st : ev_S) : Option (ev_S ⊕ (ev_R ⊕ (ev_S × ev_S × Nat))) := match st.2.2.1 with
    | y :: x :: S1 => if x.1 = 1 ∧ y.1 = 1 then some (.inl (st.1 + 1, st.2.1, ev_lng :: S1, st.2.2.2)) else none
    | _ => none
def ev_o69 (Ct : List ev_Ct) (ret : Option FieldType) (sm : ev_Sm) (dd : Nat) (call : Nat → List (Nat × Nat × Nat) → List ev_C → Option ev_R) (i : ev_I) (st : ev_S) : Option (ev_S ⊕ (ev_R ⊕ (ev_S × ev_S × Nat))) := match st.2.2.1 with
    | y :: x :: S1 => if x.1 = 1 ∧ y.1 = 1 then some (.inl (st.1 + 1, st.2.1, ev_lng :: S1, st.2.2.2)) else none
    | _ => none
def ev_o70 (Ct : List ev_Ct) (ret : Option FieldType) (sm : ev_Sm) (dd : Nat) (call : Nat → List (Nat × Nat × Nat) → List ev_C → Option ev_R) (i : ev_I) (st : ev_S) : Option (ev_S ⊕ (ev_R ⊕ (ev_S × ev_S × Nat))) := match st.2.2.1 with
    | y :: x :: S1 => if x.1 = 1 ∧ y.1 = 1 then some (.inl (st.1 + 1, st.2.1, ev_lng :: S1, st.2.2.2)) else none
    | _ => none
def ev_o71 (Ct : List ev_Ct) (ret : Option FieldType) (sm : ev_Sm) (dd : Nat) (call : Nat → List (Nat × Nat × Nat) → List ev_C → Option ev_R) (i : ev_I) (st : ev_S) : Option (ev_S ⊕ (ev_R ⊕ (ev_S × ev_S × Nat))) := match st.2.2.1 with
    | y :: x :: S1 => if x.1 = 1 ∧ y.1 = 1 then some (.inl (st.1 + 1, st.2.1, ev_lng :: S1, st.2.2.2)) else none
    | _ => none
def ev_o72 (Ct : List ev_Ct) (ret : Option FieldType) (sm : ev_Sm) (dd : Nat) (call : Nat → List (Nat × Nat × Nat) → List ev_C → Option ev_R) (i : ev_I) (st : ev_S) : Option (ev_S ⊕ (ev_R ⊕ (ev_S × ev_S × Nat))) := match st.2.2.1 with
    | y :: x :: S1 => if x.1 = 1 ∧ y.1 = 0 then some (.inl (st.1 + 1, st.2.1, ev_lng :: S1, st.2.2.2)) else none
    | _ => none
def ev_o73 (Ct : List ev_Ct) (ret : Option FieldType) (sm : ev_Sm) (dd : Nat) (call : Nat → List (Nat × Nat × Nat) → List ev_C → Option ev_R) (i : ev_I) (st : ev_S) : Option (ev_S ⊕ (ev_R ⊕ (ev_S × ev_S × Nat))) := match st.2.2.1 with
    | y :: x :: S1 => if x.1 = 1 ∧ y.1 = 0 then some (.inl (st.1 + 1, st.2.1, ev_lng :: S1, st.2.2.2)) else none
    | _ => none
def ev_o74 (Ct : List ev_Ct) (ret : Option FieldType) (sm : ev_Sm) (dd : Nat) (call : Nat → List (Nat × Nat × Nat) → List ev_C → Option ev_R) (i : ev_I) (st : ev_S) : Option (ev_S ⊕ (ev_R ⊕ (ev_S × ev_S × Nat))) := match st.2.2.1 with
    | y :: x :: S1 => if x.1 = 1 ∧ y.1 = 0 then some (.inl (st.1 + 1, st.2.1, ev_lng :: S1, st.2.2.2)) else none
    | _ => none
def ev_o75 (Ct : List ev_Ct) (ret : Option FieldType) (sm : ev_Sm) (dd : Nat) (call : Nat → List (Nat × Nat × Nat) → List ev_C → Option ev_R) (i : ev_I) (st : ev_S) : Option (ev_S ⊕ (ev_R ⊕ (ev_S × ev_S × Nat))) := match st.2.2.1 with
    | y :: x :: S1 => if x.1 = 1 ∧ y.1 = 1 then some (.inl (st.1 + 1, st.2.1, (0, 2147483647, 2147483649) :: S1, st.2.2.2)) else none
    | _ => none
def ev_o76 (Ct : List ev_Ct) (ret : Option FieldType) (sm : ev_Sm) (dd : Nat) (call : Nat → List (Nat × Nat × Nat) → List ev_C → Option ev_R) (i : ev_I) (st : ev_S) : Option (ev_S ⊕ (ev_R ⊕ (ev_S × ev_S × Nat))) := match st.2.2.1 with
    | x :: S1 => if x.1 = 0 then some (.inl (st.1 + 1, st.2.1, ev_lng :: S1, st.2.2.2)) else none
    | _ => none
def ev_o77 (Ct : List ev_Ct) (ret : Option FieldType) (sm : ev_Sm) (dd : Nat) (call : Nat → List (Nat × Nat × Nat) → List ev_C → Option ev_R) (i : ev_I) (st : ev_S) : Option (ev_S ⊕ (ev_R ⊕ (ev_S × ev_S × Nat))) := match st.2.2.1 with
    | x :: S1 => if x.1 = 1 then some (.inl (st.1 + 1, st.2.1, ev_full :: S1, st.2.2.2)) else none
    | _ => none
def ev_o78 (Ct : List ev_Ct) (ret : Option FieldType) (sm : ev_Sm) (dd : Nat) (call : Nat → List (Nat × Nat × Nat) → List ev_C → Option ev_R) (i : ev_I) (st : ev_S) : Option (ev_S ⊕ (ev_R ⊕ (ev_S × ev_S × Nat))) := match st.2.2.1 with
    | x :: S1 => if x.1 = 0 then some (.inl (st.1 + 1, st.2.1, (0, 2147483520, 2147483775) :: S1, st.2.2.2)) else none
    | _ => none
def ev_o79 (Ct : List ev_Ct) (ret : Option FieldType) (sm : ev_Sm) (dd : Nat) (call : Nat → List (Nat × Nat × Nat) → List ev_C → Option ev_R) (i : ev_I) (st : ev_S) : Option (ev_S ⊕ (ev_R ⊕ (ev_S × ev_S × Nat))) := match st.2.2.1 with
    | y :: x :: S1 => if x.1 = 0 ∧ y.1 = 0 ∧ 2147483648 < y.2.1 ∧ (ev_fdiv x y).1 = 0 then some (.inl (st.1 + 1, st.2.1, ev_fdiv x y :: S1, st.2.2.2)) else none
    | _ => none
def ev_o80 (Ct : List ev_Ct) (ret : Option FieldType) (sm : ev_Sm) (dd : Nat) (call : Nat → List (Nat × Nat × Nat) → List ev_C → Option ev_R) (i : ev_I) (st : ev_S) : Option (ev_S ⊕ (ev_R ⊕ (ev_S × ev_S × Nat))) := match st.2.2.1 with
    | y :: x :: S1 => if x.1 = 0 ∧ y.1 = 0 ∧ 2147483648 < y.2.1 ∧ (ev_frem x y).1 = 0 then some (.inl (st.1 + 1, st.2.1, ev_frem x y :: S1, st.2.2.2)) else none
    | _ => none
def ev_o81 (Ct : List ev_Ct) (ret : Option FieldType) (sm : ev_Sm) (dd : Nat) (call : Nat → List (Nat × Nat × Nat) → List ev_C → Option ev_R) (i : ev_I) (st : ev_S) : Option (ev_S ⊕ (ev_R ⊕ (ev_S × ev_S × Nat))) := match st.2.2.1 with
    | y :: x :: S1 => if x.1 = 0 ∧ y.1 = 0 then some (.inl (st.1 + 1, st.2.1, ev_full :: S1, st.2.2.2)) else none
    | _ => none
def ev_o82 (Ct : List ev_Ct) (ret : Option FieldType) (sm : ev_Sm) (dd : Nat) (call : Nat → List (Nat × Nat × Nat) → List ev_C → Option ev_R) (i : ev_I) (st : ev_S) : Option (ev_S ⊕ (ev_R ⊕ (ev_S × ev_S × Nat))) := match st.2.2.1 with
    | y :: x :: S1 => if x.1 = 0 ∧ y.1 = 0 then some (.inl (st.1 + 1, st.2.1, ev_full :: S1, st.2.2.2)) else none
    | _ => none
def ev_o83 (Ct : List ev_Ct) (ret : Option FieldType) (sm : ev_Sm) (dd : Nat) (call : Nat → List (Nat × Nat × Nat) → List ev_C → Option ev_R) (i : ev_I) (st : ev_S) : Option (ev_S ⊕ (ev_R ⊕ (ev_S × ev_S × Nat))) := match ev_get st.2.1 i.2.2.1 with
    | some v => if v.1 = 0 ∧ (ev_fadd v (0, i.2.2.2.1, i.2.2.2.1)).1 = 0 then some (.inl (st.1 + 1, ev_put st.2.1 i.2.2.1 (ev_fadd v (0, i.2.2.2.1, i.2.2.2.1)), st.2.2.1, st.2.2.2)) else none
    | none => none
/-- which numbers name which arrays -/
def ev_at (t : Nat) : ArrayType := match t with
  | 0 => .boolean
  | 4 => .byte
  | 6 => .int
  | _ => .long
def ev_k0 (Gc : List (List Cond)) (Ct : List ev_Ct) (kt : List FieldType) (Pg : List ev_Mt) (sm : ev_Sm) (own nm : String) (cc : ByteArray) (nL : Nat) (ret : Option FieldType) (cd : ev_Cd) (ix : Nat) (i : ev_I) : Bool := true
def ev_k1 (Gc : List (List Cond)) (Ct : List ev_Ct) (kt : List FieldType) (Pg : List ev_Mt) (sm : ev_Sm) (own nm : String) (cc : ByteArray) (nL : Nat) (ret : Option FieldType) (cd : ev_Cd) (ix : Nat) (i : ev_I) : Bool := decide (decode cc (ev_pc cd ix) = .ok (.iconst (ev_dn cc (ev_pc cd ix)), 1)) && decide (ev_pc cd (ix + 1) = ev_pc cd ix + 1) && decide (ev_sx (Int32.ofInt (ev_dn cc (ev_pc cd ix))) = i.2.2.1)
def ev_k2 (Gc : List (List Cond)) (Ct : List ev_Ct) (kt : List FieldType) (Pg : List ev_Mt) (sm : ev_Sm) (own nm : String) (cc : ByteArray) (nL : Nat) (ret : Option FieldType) (cd : ev_Cd) (ix : Nat) (i : ev_I) : Bool := decide (decode cc (ev_pc cd ix) = .ok (.bipush (ev_dn cc (ev_pc cd ix)), 2)) && decide (ev_pc cd (ix + 1) = ev_pc cd ix + 2) && decide (ev_sx (Int8.ofInt (ev_dn cc (ev_pc cd ix))).toInt32 = i.2.2.1)
def ev_k3 (Gc : List (List Cond)) (Ct : List ev_Ct) (kt : List FieldType) (Pg : List ev_Mt) (sm : ev_Sm) (own nm : String) (cc : ByteArray) (nL : Nat) (ret : Option FieldType) (cd : ev_Cd) (ix : Nat) (i : ev_I) : Bool := decide (decode cc (ev_pc cd ix) = .ok (.sipush (ev_dn cc (ev_pc cd ix)), 3)) && decide (ev_pc cd (ix + 1) = ev_pc cd ix + 3) && decide (ev_sx (Int16.ofInt (ev_dn cc (ev_pc cd ix))).toInt32 = i.2.2.1)
def ev_k4 (Gc : List (List Cond)) (Ct : List ev_Ct) (kt : List FieldType) (Pg : List ev_Mt) (sm : ev_Sm) (own nm : String) (cc : ByteArray) (nL : Nat) (ret : Option FieldType) (cd : ev_Cd) (ix : Nat) (i : ev_I) : Bool := decide (decode cc (ev_pc cd ix) = .ok (.ldc i.2.2.2.2.1, 2)) && decide (ev_pc cd (ix + 1) = ev_pc cd ix + 2) && decide (ev_hg Gc (i.2.2.2.2.2.2) = some (Cond.constant own i.2.2.2.2.1 (ev_un i.2.2.1))) && decide (ev_sx (ev_un i.2.2.1) = i.2.2.1)
def ev_k5 (Gc : List (List Cond)) (Ct : List ev_Ct) (kt : List FieldType) (Pg : List ev_Mt) (sm : ev_Sm) (own nm : String) (cc : ByteArray) (nL : Nat) (ret : Option FieldType) (cd : ev_Cd) (ix : Nat) (i : ev_I) : Bool := decide (decode cc (ev_pc cd ix) = .ok (.ldc_w i.2.2.2.2.1, 3)) && decide (ev_pc cd (ix + 1) = ev_pc cd ix + 3) && decide (ev_hg Gc (i.2.2.2.2.2.2) = some (Cond.constant own i.2.2.2.2.1 (ev_un i.2.2.1))) && decide (ev_sx (ev_un i.2.2.1) = i.2.2.1)
def ev_k6 (Gc : List (List Cond)) (Ct : List ev_Ct) (kt : List FieldType) (Pg : List ev_Mt) (sm : ev_Sm) (own nm : String) (cc : ByteArray) (nL : Nat) (ret : Option FieldType) (cd : ev_Cd) (ix : Nat) (i : ev_I) : Bool := decide (decode cc (ev_pc cd ix) = .ok (.iload_n (Fin.ofNat 4 i.2.2.1), 1)) && decide (ev_pc cd (ix + 1) = ev_pc cd ix + 1) && decide (i.2.2.1 < 4)
def ev_k7 (Gc : List (List Cond)) (Ct : List ev_Ct) (kt : List FieldType) (Pg : List ev_Mt) (sm : ev_Sm) (own nm : String) (cc : ByteArray) (nL : Nat) (ret : Option FieldType) (cd : ev_Cd) (ix : Nat) (i : ev_I) : Bool := decide (decode cc (ev_pc cd ix) = .ok (.iload i.2.2.1, 2)) && decide (ev_pc cd (ix + 1) = ev_pc cd ix + 2)
def ev_k8 (Gc : List (List Cond)) (Ct : List ev_Ct) (kt : List FieldType) (Pg : List ev_Mt) (sm : ev_Sm) (own nm : String) (cc : ByteArray) (nL : Nat) (ret : Option FieldType) (cd : ev_Cd) (ix : Nat) (i : ev_I) : Bool := decide (decode cc (ev_pc cd ix) = .ok (.aload_n (Fin.ofNat 4 i.2.2.1), 1)) && decide (ev_pc cd (ix + 1) = ev_pc cd ix + 1) && decide (i.2.2.1 < 4)
def ev_k9 (Gc : List (List Cond)) (Ct : List ev_Ct) (kt : List FieldType) (Pg : List ev_Mt) (sm : ev_Sm) (own nm : String) (cc : ByteArray) (nL : Nat) (ret : Option FieldType) (cd : ev_Cd) (ix : Nat) (i : ev_I) : Bool := decide (decode cc (ev_pc cd ix) = .ok (.aload i.2.2.1, 2)) && decide (ev_pc cd (ix + 1) = ev_pc cd ix + 2)
def ev_k10 (Gc : List (List Cond)) (Ct : List ev_Ct) (kt : List FieldType) (Pg : List ev_Mt) (sm : ev_Sm) (own nm : String) (cc : ByteArray) (nL : Nat) (ret : Option FieldType) (cd : ev_Cd) (ix : Nat) (i : ev_I) : Bool := decide (decode cc (ev_pc cd ix) = .ok (.istore_n (Fin.ofNat 4 i.2.2.1), 1)) && decide (ev_pc cd (ix + 1) = ev_pc cd ix + 1) && decide (i.2.2.1 < 4) && decide (i.2.2.1 < nL)
def ev_k11 (Gc : List (List Cond)) (Ct : List ev_Ct) (kt : List FieldType) (Pg : List ev_Mt) (sm : ev_Sm) (own nm : String) (cc : ByteArray) (nL : Nat) (ret : Option FieldType) (cd : ev_Cd) (ix : Nat) (i : ev_I) : Bool := decide (decode cc (ev_pc cd ix) = .ok (.istore i.2.2.1, 2)) && decide (ev_pc cd (ix + 1) = ev_pc cd ix + 2) && decide (i.2.2.1 < nL)
def ev_k12 (Gc : List (List Cond)) (Ct : List ev_Ct) (kt : List FieldType) (Pg : List ev_Mt) (sm : ev_Sm) (own nm : String) (cc : ByteArray) (nL : Nat) (ret : Option FieldType) (cd : ev_Cd) (ix : Nat) (i : ev_I) : Bool := decide (decode cc (ev_pc cd ix) = .ok (.astore_n (Fin.ofNat 4 i.2.2.1), 1)) && decide (ev_pc cd (ix + 1) = ev_pc cd ix + 1) && decide (i.2.2.1 < 4) && decide (i.2.2.1 < nL)
def ev_k13 (Gc : List (List Cond)) (Ct : List ev_Ct) (kt : List FieldType) (Pg : List ev_Mt) (sm : ev_Sm) (own nm : String) (cc : ByteArray) (nL : Nat) (ret : Option FieldType) (cd : ev_Cd) (ix : Nat) (i : ev_I) : Bool := decide (decode cc (ev_pc cd ix) = .ok (.astore i.2.2.1, 2)) && decide (ev_pc cd (ix + 1) = ev_pc cd ix + 2) && decide (i.2.2.1 < nL)
def ev_k14 (Gc : List (List Cond)) (Ct : List ev_Ct) (kt : List FieldType) (Pg : List ev_Mt) (sm : ev_Sm) (own nm : String) (cc : ByteArray) (nL : Nat) (ret : Option FieldType) (cd : ev_Cd) (ix : Nat) (i : ev_I) : Bool := decide (decode cc (ev_pc cd ix) = .ok (.iinc i.2.2.1 (ev_dn cc (ev_pc cd ix)), 3)) && decide (ev_pc cd (ix + 1) = ev_pc cd ix + 3) && decide (ev_sx (Int32.ofInt (ev_dn cc (ev_pc cd ix))) = i.2.2.2.1) && decide (i.2.2.1 < nL)
def ev_k15 (Gc : List (List Cond)) (Ct : List ev_Ct) (kt : List FieldType) (Pg : List ev_Mt) (sm : ev_Sm) (own nm : String) (cc : ByteArray) (nL : Nat) (ret : Option FieldType) (cd : ev_Cd) (ix : Nat) (i : ev_I) : Bool := decide (decode cc (ev_pc cd ix) = .ok (.iadd, 1)) && decide (ev_pc cd (ix + 1) = ev_pc cd ix + 1)
def ev_k16 (Gc : List (List Cond)) (Ct : List ev_Ct) (kt : List FieldType) (Pg : List ev_Mt) (sm : ev_Sm) (own nm : String) (cc : ByteArray) (nL : Nat) (ret : Option FieldType) (cd : ev_Cd) (ix : Nat) (i : ev_I) : Bool := decide (decode cc (ev_pc cd ix) = .ok (.isub, 1)) && decide (ev_pc cd (ix + 1) = ev_pc cd ix + 1)
def ev_k17 (Gc : List (List Cond)) (Ct : List ev_Ct) (kt : List FieldType) (Pg : List ev_Mt) (sm : ev_Sm) (own nm : String) (cc : ByteArray) (nL : Nat) (ret : Option FieldType) (cd : ev_Cd) (ix : Nat) (i : ev_I) : Bool := decide (decode cc (ev_pc cd ix) = .ok (.imul, 1)) && decide (ev_pc cd (ix + 1) = ev_pc cd ix + 1)
def ev_k18 (Gc : List (List Cond)) (Ct : List ev_Ct) (kt : List FieldType) (Pg : List ev_Mt) (sm : ev_Sm) (own nm : String) (cc : ByteArray) (nL : Nat) (ret : Option FieldType) (cd : ev_Cd) (ix : Nat) (i : ev_I) : Bool := decide (decode cc (ev_pc cd ix) = .ok (.iand, 1)) && decide (ev_pc cd (ix + 1) = ev_pc cd ix + 1)
def ev_k19 (Gc : List (List Cond)) (Ct : List ev_Ct) (kt : List FieldType) (Pg : List ev_Mt) (sm : ev_Sm) (own nm : String) (cc : ByteArray) (nL : Nat) (ret : Option FieldType) (cd : ev_Cd) (ix : Nat) (i : ev_I) : Bool := decide (decode cc (ev_pc cd ix) = .ok (.ior, 1)) && decide (ev_pc cd (ix + 1) = ev_pc cd ix + 1)
def ev_k20 (Gc : List (List Cond)) (Ct : List ev_Ct) (kt : List FieldType) (Pg : List ev_Mt) (sm : ev_Sm) (own nm : String) (cc : ByteArray) (nL : Nat) (ret : Option FieldType) (cd : ev_Cd) (ix : Nat) (i : ev_I) : Bool := decide (decode cc (ev_pc cd ix) = .ok (.ixor, 1)) && decide (ev_pc cd (ix + 1) = ev_pc cd ix + 1)
def ev_k21 (Gc : List (List Cond)) (Ct : List ev_Ct) (kt : List FieldType) (Pg : List ev_Mt) (sm : ev_Sm) (own nm : String) (cc : ByteArray) (nL : Nat) (ret : Option FieldType) (cd : ev_Cd) (ix : Nat) (i : ev_I) : Bool := decide (decode cc (ev_pc cd ix) = .ok (.ishl, 1)) && decide (ev_pc cd (ix + 1) = ev_pc cd ix + 1)
def ev_k22 (Gc : List (List Cond)) (Ct : List ev_Ct) (kt : List FieldType) (Pg : List ev_Mt) (sm : ev_Sm) (own nm : String) (cc : ByteArray) (nL : Nat) (ret : Option FieldType) (cd : ev_Cd) (ix : Nat) (i : ev_I) : Bool := decide (decode cc (ev_pc cd ix) = .ok (.dup, 1)) && decide (ev_pc cd (ix + 1) = ev_pc cd ix + 1)
def ev_k23 (Gc : List (List Cond)) (Ct : List ev_Ct) (kt : List FieldType) (Pg : List ev_Mt) (sm : ev_Sm) (own nm : String) (cc : ByteArray) (nL : Nat) (ret : Option FieldType) (cd : ev_Cd) (ix : Nat) (i : ev_I) : Bool := decide (decode cc (ev_pc cd ix) = .ok (.pop, 1)) && decide (ev_pc cd (ix + 1) = ev_pc cd ix + 1)
def ev_k24 (Gc : List (List Cond)) (Ct : List ev_Ct) (kt : List FieldType) (Pg : List ev_Mt) (sm : ev_Sm) (own nm : String) (cc : ByteArray) (nL : Nat) (ret : Option FieldType) (cd : ev_Cd) (ix : Nat) (i : ev_I) : Bool := decide (decode cc (ev_pc cd ix) = .ok (.dup2, 1)) && decide (ev_pc cd (ix + 1) = ev_pc cd ix + 1)
def ev_k25 (Gc : List (List Cond)) (Ct : List ev_Ct) (kt : List FieldType) (Pg : List ev_Mt) (sm : ev_Sm) (own nm : String) (cc : ByteArray) (nL : Nat) (ret : Option FieldType) (cd : ev_Cd) (ix : Nat) (i : ev_I) : Bool := decide (decode cc (ev_pc cd ix) = .ok (.goto (ev_dn cc (ev_pc cd ix)), 3)) && decide (((ev_pc cd ix : Nat) : Int) + ev_dn cc (ev_pc cd ix) = ((ev_pc cd i.2.2.1 : Nat) : Int))
def ev_k26 (Gc : List (List Cond)) (Ct : List ev_Ct) (kt : List FieldType) (Pg : List ev_Mt) (sm : ev_Sm) (own nm : String) (cc : ByteArray) (nL : Nat) (ret : Option FieldType) (cd : ev_Cd) (ix : Nat) (i : ev_I) : Bool := decide (decode cc (ev_pc cd ix) = .ok (.if_icmp (ev_cn i.2.2.2.2.2.1) (ev_dn cc (ev_pc cd ix)), 3)) && decide (ev_pc cd (ix + 1) = ev_pc cd ix + 3) && decide (((ev_pc cd ix : Nat) : Int) + ev_dn cc (ev_pc cd ix) = ((ev_pc cd i.2.2.1 : Nat) : Int))
def ev_k27 (Gc : List (List Cond)) (Ct : List ev_Ct) (kt : List FieldType) (Pg : List ev_Mt) (sm : ev_Sm) (own nm : String) (cc : ByteArray) (nL : Nat) (ret : Option FieldType) (cd : ev_Cd) (ix : Nat) (i : ev_I) : Bool := decide (decode cc (ev_pc cd ix) = .ok (.ifCond (ev_cn i.2.2.2.2.2.1) (ev_dn cc (ev_pc cd ix)), 3)) && decide (ev_pc cd (ix + 1) = ev_pc cd ix + 3) && decide (((ev_pc cd ix : Nat) : Int) + ev_dn cc (ev_pc cd ix) = ((ev_pc cd i.2.2.1 : Nat) : Int))
def ev_k28 (Gc : List (List Cond)) (Ct : List ev_Ct) (kt : List FieldType) (Pg : List ev_Mt) (sm : ev_Sm) (own nm : String) (cc : ByteArray) (nL : Nat) (ret : Option FieldType) (cd : ev_Cd) (ix : Nat) (i : ev_I) : Bool := decide (decode cc (ev_pc cd ix) = .ok (.getfield i.2.2.2.2.1, 3)) && decide (ev_pc cd (ix + 1) = ev_pc cd ix + 3) && (match Ct[i.2.2.2.1]? with
    | some q => decide (i.2.2.1 < q.1.2.2) && decide (ev_hg Gc (i.2.2.2.2.2.2) = some (Cond.fieldLink own i.2.2.2.2.1 (q.1.2.1 i.2.2.1).1 (q.1.2.1 i.2.2.1).2.1 (q.1.2.1 i.2.2.1).2.2.1))
    | none => false)
def ev_k29 (Gc : List (List Cond)) (Ct : List ev_Ct) (kt : List FieldType) (Pg : List ev_Mt) (sm : ev_Sm) (own nm : String) (cc : ByteArray) (nL : Nat) (ret : Option FieldType) (cd : ev_Cd) (ix : Nat) (i : ev_I) : Bool := decide (decode cc (ev_pc cd ix) = .ok (.putfield i.2.2.2.2.1, 3)) && decide (ev_pc cd (ix + 1) = ev_pc cd ix + 3) && (match Ct[i.2.2.2.1]? with
    | some q => decide (i.2.2.1 < q.1.2.2) && decide (ev_hg Gc (i.2.2.2.2.2.2) = some (Cond.fieldLink own i.2.2.2.2.1 (q.1.2.1 i.2.2.1).1 (q.1.2.1 i.2.2.1).2.1 (q.1.2.1 i.2.2.1).2.2.1)) && decide ((q.1.2.1 i.2.2.1).2.2.2 = false)
    | none => false)
def ev_k30 (Gc : List (List Cond)) (Ct : List ev_Ct) (kt : List FieldType) (Pg : List ev_Mt) (sm : ev_Sm) (own nm : String) (cc : ByteArray) (nL : Nat) (ret : Option FieldType) (cd : ev_Cd) (ix : Nat) (i : ev_I) : Bool := decide (decode cc (ev_pc cd ix) = .ok (.putfield i.2.2.2.2.1, 3)) && decide (ev_pc cd (ix + 1) = ev_pc cd ix + 3) && (match Ct[i.2.2.2.1]? with
    | some q => decide (i.2.2.1 < q.1.2.2) && decide (ev_hg Gc (i.2.2.2.2.2.2) = some (Cond.fieldLink own i.2.2.2.2.1 (q.1.2.1 i.2.2.1).1 (q.1.2.1 i.2.2.1).2.1 (q.1.2.1 i.2.2.1).2.2.1)) && decide ((q.1.2.1 i.2.2.1).2.2.2 = true) && decide (nm = "<init>") && decide ((q.1.2.1 i.2.2.1).1 = own)
    | none => false)
def ev_k31 (Gc : List (List Cond)) (Ct : List ev_Ct) (kt : List FieldType) (Pg : List ev_Mt) (sm : ev_Sm) (own nm : String) (cc : ByteArray) (nL : Nat) (ret : Option FieldType) (cd : ev_Cd) (ix : Nat) (i : ev_I) : Bool := decide (decode cc (ev_pc cd ix) = .ok (.new i.2.2.2.2.1, 3)) && decide (ev_pc cd (ix + 1) = ev_pc cd ix + 3) && (match Ct[i.2.2.2.1]? with
    | some q => decide (ev_hg Gc (i.2.2.2.2.2.2) = some (Cond.classLink own i.2.2.2.2.1 q.1.1))
    | none => false)
def ev_k32 (Gc : List (List Cond)) (Ct : List ev_Ct) (kt : List FieldType) (Pg : List ev_Mt) (sm : ev_Sm) (own nm : String) (cc : ByteArray) (nL : Nat) (ret : Option FieldType) (cd : ev_Cd) (ix : Nat) (i : ev_I) : Bool := decide (decode cc (ev_pc cd ix) = .ok (.newarray (ev_at i.2.2.2.2.2.1), 2)) && decide (ev_pc cd (ix + 1) = ev_pc cd ix + 2) && (match kt[i.2.2.1]? with
    | some ty => decide (newarray.typeOf (ev_at i.2.2.2.2.2.1) = ty) && decide (defaultValue ty = .int 0) && decide (componentBytes ty ≤ 4) && decide (ev_hg Gc (i.2.2.2.2.2.2) = some (Cond.arrayClass ty))
    | none => false)
def ev_k33 (Gc : List (List Cond)) (Ct : List ev_Ct) (kt : List FieldType) (Pg : List ev_Mt) (sm : ev_Sm) (own nm : String) (cc : ByteArray) (nL : Nat) (ret : Option FieldType) (cd : ev_Cd) (ix : Nat) (i : ev_I) : Bool := decide (decode cc (ev_pc cd ix) = .ok (.newarray (ev_at i.2.2.2.2.2.1), 2)) && decide (ev_pc cd (ix + 1) = ev_pc cd ix + 2) && decide (newarray.typeOf (ev_at i.2.2.2.2.2.1) = .long) && decide (kt[i.2.2.1]? = some .long) && decide (ev_hg Gc (i.2.2.2.2.2.2) = some (Cond.arrayClass .long))
def ev_k34 (Gc : List (List Cond)) (Ct : List ev_Ct) (kt : List FieldType) (Pg : List ev_Mt) (sm : ev_Sm) (own nm : String) (cc : ByteArray) (nL : Nat) (ret : Option FieldType) (cd : ev_Cd) (ix : Nat) (i : ev_I) : Bool := decide (decode cc (ev_pc cd ix) = .ok (.anewarray i.2.2.2.2.1, 3)) && decide (ev_pc cd (ix + 1) = ev_pc cd ix + 3) && (match kt[i.2.2.1]? with
    | some (.object C) => decide (ev_hg Gc (i.2.2.2.2.2.2) = some (Cond.classLink own i.2.2.2.2.1 C))
    | _ => false)
def ev_k35 (Gc : List (List Cond)) (Ct : List ev_Ct) (kt : List FieldType) (Pg : List ev_Mt) (sm : ev_Sm) (own nm : String) (cc : ByteArray) (nL : Nat) (ret : Option FieldType) (cd : ev_Cd) (ix : Nat) (i : ev_I) : Bool := decide (decode cc (ev_pc cd ix) = .ok (.multianewarray i.2.2.2.2.1 2, 4)) && decide (ev_pc cd (ix + 1) = ev_pc cd ix + 4) && decide (kt[i.2.2.1]? = some (.array (ev_ty i.2.2.2.2.2.1))) && decide (kt[i.2.2.2.1]? = some (ev_ty i.2.2.2.2.2.1)) && decide (ev_hg Gc (i.2.2.2.2.2.2) = some (Cond.classLink own i.2.2.2.2.1 ("[" ++ (FieldType.array (ev_ty i.2.2.2.2.2.1)).toString))) && decide (ev_hg Gc (i.2.2.2.2.2.2 + 1) = some (Cond.arrayClass (ev_ty i.2.2.2.2.2.1)))
def ev_k36 (Gc : List (List Cond)) (Ct : List ev_Ct) (kt : List FieldType) (Pg : List ev_Mt) (sm : ev_Sm) (own nm : String) (cc : ByteArray) (nL : Nat) (ret : Option FieldType) (cd : ev_Cd) (ix : Nat) (i : ev_I) : Bool := decide (decode cc (ev_pc cd ix) = .ok (.lload_n (Fin.ofNat 4 i.2.2.1), 1)) && decide (ev_pc cd (ix + 1) = ev_pc cd ix + 1) && decide (i.2.2.1 < 4)
def ev_k37 (Gc : List (List Cond)) (Ct : List ev_Ct) (kt : List FieldType) (Pg : List ev_Mt) (sm : ev_Sm) (own nm : String) (cc : ByteArray) (nL : Nat) (ret : Option FieldType) (cd : ev_Cd) (ix : Nat) (i : ev_I) : Bool := decide (decode cc (ev_pc cd ix) = .ok (.lload i.2.2.1, 2)) && decide (ev_pc cd (ix + 1) = ev_pc cd ix + 2)
def ev_k38 (Gc : List (List Cond)) (Ct : List ev_Ct) (kt : List FieldType) (Pg : List ev_Mt) (sm : ev_Sm) (own nm : String) (cc : ByteArray) (nL : Nat) (ret : Option FieldType) (cd : ev_Cd) (ix : Nat) (i : ev_I) : Bool := decide (decode cc (ev_pc cd ix) = .ok (.lstore_n (Fin.ofNat 4 i.2.2.1), 1)) && decide (ev_pc cd (ix + 1) = ev_pc cd ix + 1) && decide (i.2.2.1 < 4) && decide (i.2.2.1 + 1 < nL)
def ev_k39 (Gc : List (List Cond)) (Ct : List ev_Ct) (kt : List FieldType) (Pg : List ev_Mt) (sm : ev_Sm) (own nm : String) (cc : ByteArray) (nL : Nat) (ret : Option FieldType) (cd : ev_Cd) (ix : Nat) (i : ev_I) : Bool := decide (decode cc (ev_pc cd ix) = .ok (.lstore i.2.2.1, 2)) && decide (ev_pc cd (ix + 1) = ev_pc cd ix + 2) && decide (i.2.2.1 + 1 < nL)
def ev_k40 (Gc : List (List Cond)) (Ct : List ev_Ct) (kt : List FieldType) (Pg : List ev_Mt) (sm : ev_Sm) (own nm : String) (cc : ByteArray) (nL : Nat) (ret : Option FieldType) (cd : ev_Cd) (ix : Nat) (i : ev_I) : Bool := decide (decode cc (ev_pc cd ix) = .ok (.arraylength, 1)) && decide (ev_pc cd (ix + 1) = ev_pc cd ix + 1) && (match kt[i.2.2.1]? with
    | some _ => true
    | none => false)
def ev_k42 (Gc : List (List Cond)) (Ct : List ev_Ct) (kt : List FieldType) (Pg : List ev_Mt) (sm : ev_Sm) (own nm : String) (cc : ByteArray) (nL : Nat) (ret : Option FieldType) (cd : ev_Cd) (ix : Nat) (i : ev_I) : Bool := decide (decode cc (ev_pc cd ix) = .ok (.aaload, 1)) && decide (ev_pc cd (ix + 1) = ev_pc cd ix + 1) && (match kt[i.2.2.1]? with
    | some ty => ty.isReference
    | none => false)
def ev_k43 (Gc : List (List Cond)) (Ct : List ev_Ct) (kt : List FieldType) (Pg : List ev_Mt) (sm : ev_Sm) (own nm : String) (cc : ByteArray) (nL : Nat) (ret : Option FieldType) (cd : ev_Cd) (ix : Nat) (i : ev_I) : Bool := decide (decode cc (ev_pc cd ix) = .ok (.aastore, 1)) && decide (ev_pc cd (ix + 1) = ev_pc cd ix + 1) && (match Ct[i.2.2.2.1]? with
    | some q => decide (kt[i.2.2.1]? = some (.object q.1.1))
    | none => false)
def ev_k44 (Gc : List (List Cond)) (Ct : List ev_Ct) (kt : List FieldType) (Pg : List ev_Mt) (sm : ev_Sm) (own nm : String) (cc : ByteArray) (nL : Nat) (ret : Option FieldType) (cd : ev_Cd) (ix : Nat) (i : ev_I) : Bool := decide (decode cc (ev_pc cd ix) = .ok (.lconst (Fin.ofNat 2 i.2.2.1), 1)) && decide (ev_pc cd (ix + 1) = ev_pc cd ix + 1)
def ev_k46 (Gc : List (List Cond)) (Ct : List ev_Ct) (kt : List FieldType) (Pg : List ev_Mt) (sm : ev_Sm) (own nm : String) (cc : ByteArray) (nL : Nat) (ret : Option FieldType) (cd : ev_Cd) (ix : Nat) (i : ev_I) : Bool := decide (decode cc (ev_pc cd ix) = .ok (.invokespecial i.2.2.2.2.1, 3)) && decide (ev_pc cd (ix + 1) = ev_pc cd ix + 3) && decide (ev_hg Gc (i.2.2.2.2.2.2) = some (Cond.methodLink own i.2.2.2.2.1 objectInit)) && decide (ev_hg Gc (i.2.2.1) = some (Cond.instanceMethod objectInit)) && decide (ev_hg Gc (i.2.2.1 + 1) = some (Cond.code objectInit ⟨#[0xb1]⟩ 1 none))
def ev_k47 (Gc : List (List Cond)) (Ct : List ev_Ct) (kt : List FieldType) (Pg : List ev_Mt) (sm : ev_Sm) (own nm : String) (cc : ByteArray) (nL : Nat) (ret : Option FieldType) (cd : ev_Cd) (ix : Nat) (i : ev_I) : Bool := decide (decode cc (ev_pc cd ix) = .ok (.ldc2_w i.2.2.2.2.1, 3)) && decide (ev_pc cd (ix + 1) = ev_pc cd ix + 3) && decide (ev_hg Gc (i.2.2.2.2.2.2) = some (Cond.constantLong own i.2.2.2.2.1 (Int64.ofNat i.2.2.1)))
def ev_k48 (Gc : List (List Cond)) (Ct : List ev_Ct) (kt : List FieldType) (Pg : List ev_Mt) (sm : ev_Sm) (own nm : String) (cc : ByteArray) (nL : Nat) (ret : Option FieldType) (cd : ev_Cd) (ix : Nat) (i : ev_I) : Bool := decide (decode cc (ev_pc cd ix) = .ok (.lreturn, 1))
def ev_k49 (Gc : List (List Cond)) (Ct : List ev_Ct) (kt : List FieldType) (Pg : List ev_Mt) (sm : ev_Sm) (own nm : String) (cc : ByteArray) (nL : Nat) (ret : Option FieldType) (cd : ev_Cd) (ix : Nat) (i : ev_I) : Bool := decide (decode cc (ev_pc cd ix) = .ok (.return_, 1)) && decide (ret = none)
def ev_k50 (Gc : List (List Cond)) (Ct : List ev_Ct) (kt : List FieldType) (Pg : List ev_Mt) (sm : ev_Sm) (own nm : String) (cc : ByteArray) (nL : Nat) (ret : Option FieldType) (cd : ev_Cd) (ix : Nat) (i : ev_I) : Bool := decide (decode cc (ev_pc cd ix) = .ok (.ireturn, 1))
def ev_k51 (Gc : List (List Cond)) (Ct : List ev_Ct) (kt : List FieldType) (Pg : List ev_Mt) (sm : ev_Sm) (own nm : String) (cc : ByteArray) (nL : Nat) (ret : Option FieldType) (cd : ev_Cd) (ix : Nat) (i : ev_I) : Bool := decide (decode cc (ev_pc cd ix) = .ok (.iaload, 1)) && decide (ev_pc cd (ix + 1) = ev_pc cd ix + 1) && decide (kt[i.2.2.1]? = some .int)
def ev_k52 (Gc : List (List Cond)) (Ct : List ev_Ct) (kt : List FieldType) (Pg : List ev_Mt) (sm : ev_Sm) (own nm : String) (cc : ByteArray) (nL : Nat) (ret : Option FieldType) (cd : ev_Cd) (ix : Nat) (i : ev_I) : Bool := decide (decode cc (ev_pc cd ix) = .ok (.baload, 1)) && decide (ev_pc cd (ix + 1) = ev_pc cd ix + 1) && decide (kt[i.2.2.1]? = some .byte)
def ev_k53 (Gc : List (List Cond)) (Ct : List ev_Ct) (kt : List FieldType) (Pg : List ev_Mt) (sm : ev_Sm) (own nm : String) (cc : ByteArray) (nL : Nat) (ret : Option FieldType) (cd : ev_Cd) (ix : Nat) (i : ev_I) : Bool := decide (decode cc (ev_pc cd ix) = .ok (.baload, 1)) && decide (ev_pc cd (ix + 1) = ev_pc cd ix + 1) && decide (kt[i.2.2.1]? = some .boolean)
def ev_k54 (Gc : List (List Cond)) (Ct : List ev_Ct) (kt : List FieldType) (Pg : List ev_Mt) (sm : ev_Sm) (own nm : String) (cc : ByteArray) (nL : Nat) (ret : Option FieldType) (cd : ev_Cd) (ix : Nat) (i : ev_I) : Bool := decide (decode cc (ev_pc cd ix) = .ok (.laload, 1)) && decide (ev_pc cd (ix + 1) = ev_pc cd ix + 1) && decide (kt[i.2.2.1]? = some .long)
def ev_k55 (Gc : List (List Cond)) (Ct : List ev_Ct) (kt : List FieldType) (Pg : List ev_Mt) (sm : ev_Sm) (own nm : String) (cc : ByteArray) (nL : Nat) (ret : Option FieldType) (cd : ev_Cd) (ix : Nat) (i : ev_I) : Bool := decide (decode cc (ev_pc cd ix) = .ok (.invokespecial i.2.2.2.2.1, 3)) && decide (ev_pc cd (ix + 1) = ev_pc cd ix + 3) && (match Pg[i.2.2.2.2.2.1]? with
    | some ((y, bytes, maxL, rt), _) => decide (ev_hg Gc (i.2.2.2.2.2.2) = some (Cond.methodLink own i.2.2.2.2.1 y)) && decide (maxL ≤ maxL) && decide (ev_hg Gc (i.2.2.1 + 1) = some (Cond.initialized y.cls)) && decide (ev_hg Gc (i.2.2.1 + 2) = some (Cond.instanceMethod y)) && decide (y.name = "<init>") && decide (rt = none) && decide (y.cls ≠ "java/lang/invoke/MethodHandle" ∧ y.cls ≠ "java/lang/invoke/VarHandle" ∧ (parseMethodDescriptor y.desc).map (fun d => d.parameters.length) = some i.2.2.2.1) && decide (maxL ≤ 71)
    | _ => false)
def ev_k56 (Gc : List (List Cond)) (Ct : List ev_Ct) (kt : List FieldType) (Pg : List ev_Mt) (sm : ev_Sm) (own nm : String) (cc : ByteArray) (nL : Nat) (ret : Option FieldType) (cd : ev_Cd) (ix : Nat) (i : ev_I) : Bool := decide (decode cc (ev_pc cd ix) = .ok (.invokevirtual i.2.2.2.2.1, 3)) && decide (ev_pc cd (ix + 1) = ev_pc cd ix + 3) && (match Pg[i.2.2.2.2.2.1]? with
    | some ((y, bytes, maxL, rt), _) => decide (ev_hg Gc (i.2.2.2.2.2.2 / 64) = some (Cond.methodLink own i.2.2.2.2.1 y)) && decide (maxL ≤ maxL) && decide (ev_hg Gc (i.2.2.1 + 1) = some (Cond.initialized y.cls)) && decide (ev_hg Gc (i.2.2.1 + 2) = some (Cond.instanceMethod y)) && decide (ev_hg Gc (i.2.2.1 + 3) = some (Cond.selects y.cls y y)) && (match Ct[i.2.2.2.2.2.2 % 64]? with
      | some q => decide (q.1.1 = y.cls)
      | none => false) && decide (y.cls ≠ "java/lang/invoke/MethodHandle" ∧ y.cls ≠ "java/lang/invoke/VarHandle" ∧ (parseMethodDescriptor y.desc).map (fun d => d.parameters.length) = some i.2.2.2.1) && decide (maxL ≤ 71)
    | _ => false)
def ev_k57 (Gc : List (List Cond)) (Ct : List ev_Ct) (kt : List FieldType) (Pg : List ev_Mt) (sm : ev_Sm) (own nm : String) (cc : ByteArray) (nL : Nat) (ret : Option FieldType) (cd : ev_Cd) (ix : Nat) (i : ev_I) : Bool := decide (decode cc (ev_pc cd ix) = .ok (.invokestatic i.2.2.2.2.1, 3)) && decide (ev_pc cd (ix + 1) = ev_pc cd ix + 3) && (match Pg[i.2.2.2.2.2.1]? with
    | some ((y, bytes, maxL, rt), _) => decide (ev_hg Gc (i.2.2.2.2.2.2) = some (Cond.methodLink own i.2.2.2.2.1 y)) && decide (maxL ≤ maxL) && decide (ev_hg Gc (i.2.2.1 + 1) = some (Cond.initialized y.cls)) && decide (ev_hg Gc (i.2.2.1 + 2) = some (Cond.static y)) && decide (y.cls ≠ "java/lang/invoke/MethodHandle" ∧ y.cls ≠ "java/lang/invoke/VarHandle" ∧ (parseMethodDescriptor y.desc).map (fun d => d.parameters.length) = some i.2.2.2.1) && decide (maxL ≤ 71)
    | _ => false)
def ev_k58 (Gc : List (List Cond)) (Ct : List ev_Ct) (kt : List FieldType) (Pg : List ev_Mt) (sm : ev_Sm) (own nm : String) (cc : ByteArray) (nL : Nat) (ret : Option FieldType) (cd : ev_Cd) (ix : Nat) (i : ev_I) : Bool := decide (decode cc (ev_pc cd ix) = .ok (.invokestatic i.2.2.2.2.1, 3)) && decide (ev_pc cd (ix + 1) = ev_pc cd ix + 3) && (match Pg[i.2.2.2.2.2.1]? with
    | some ((y, bytes, maxL, rt), _) => decide (ev_hg Gc (i.2.2.2.2.2.2) = some (Cond.methodLink own i.2.2.2.2.1 y)) && decide (maxL ≤ maxL) && decide (ev_hg Gc (i.2.2.1 + 1) = some (Cond.initialized y.cls)) && decide (ev_hg Gc (i.2.2.1 + 2) = some (Cond.static y)) && decide (y.cls ≠ "java/lang/invoke/MethodHandle" ∧ y.cls ≠ "java/lang/invoke/VarHandle" ∧ (parseMethodDescriptor y.desc).map (fun d => d.parameters.length) = some i.2.2.2.1) && decide (maxL ≤ 71)
    | _ => false)
def ev_k59 (Gc : List (List Cond)) (Ct : List ev_Ct) (kt : List FieldType) (Pg : List ev_Mt) (sm : ev_Sm) (own nm : String) (cc : ByteArray) (nL : Nat) (ret : Option FieldType) (cd : ev_Cd) (ix : Nat) (i : ev_I) : Bool := decide (decode cc (ev_pc cd ix) = .ok (.iastore, 1)) && decide (ev_pc cd (ix + 1) = ev_pc cd ix + 1) && decide (kt[i.2.2.1]? = some .int)
def ev_k60 (Gc : List (List Cond)) (Ct : List ev_Ct) (kt : List FieldType) (Pg : List ev_Mt) (sm : ev_Sm) (own nm : String) (cc : ByteArray) (nL : Nat) (ret : Option FieldType) (cd : ev_Cd) (ix : Nat) (i : ev_I) : Bool := decide (decode cc (ev_pc cd ix) = .ok (.bastore, 1)) && decide (ev_pc cd (ix + 1) = ev_pc cd ix + 1) && decide (kt[i.2.2.1]? = some .byte)
def ev_k61 (Gc : List (List Cond)) (Ct : List ev_Ct) (kt : List FieldType) (Pg : List ev_Mt) (sm : ev_Sm) (own nm : String) (cc : ByteArray) (nL : Nat) (ret : Option FieldType) (cd : ev_Cd) (ix : Nat) (i : ev_I) : Bool := decide (decode cc (ev_pc cd ix) = .ok (.bastore, 1)) && decide (ev_pc cd (ix + 1) = ev_pc cd ix + 1) && decide (kt[i.2.2.1]? = some .boolean)
def ev_k62 (Gc : List (List Cond)) (Ct : List ev_Ct) (kt : List FieldType) (Pg : List ev_Mt) (sm : ev_Sm) (own nm : String) (cc : ByteArray) (nL : Nat) (ret : Option FieldType) (cd : ev_Cd) (ix : Nat) (i : ev_I) : Bool := decide (decode cc (ev_pc cd ix) = .ok (.lastore, 1)) && decide (ev_pc cd (ix + 1) = ev_pc cd ix + 1) && decide (kt[i.2.2.1]? = some .long)
def ev_k63 (Gc : List (List Cond)) (Ct : List ev_Ct) (kt : List FieldType) (Pg : List ev_Mt) (sm : ev_Sm) (own nm : String) (cc : ByteArray) (nL : Nat) (ret : Option FieldType) (cd : ev_Cd) (ix : Nat) (i : ev_I) : Bool := decide (decode cc (ev_pc cd ix) = .ok (.invokestatic i.2.2.2.2.1, 3)) && decide (ev_pc cd (ix + 1) = ev_pc cd ix + 3) && decide (kt[i.2.2.1]? = some (ev_ty i.2.2.2.2.2.1)) && decide (refKind (ev_ty i.2.2.2.2.2.1) = false) && decide (ev_hg Gc (i.2.2.2.2.2.2) = some (Cond.methodLink own i.2.2.2.2.1 arraycopyName)) && decide (ev_hg Gc (i.2.2.2.1) = some (Cond.native arraycopyName)) && decide (ev_hg Gc (i.2.2.2.1 + 1) = some (Cond.static arraycopyName)) && decide (ev_hg Gc (i.2.2.2.1 + 2) = some (Cond.initialized "java/lang/System"))
def ev_k64 (Gc : List (List Cond)) (Ct : List ev_Ct) (kt : List FieldType) (Pg : List ev_Mt) (sm : ev_Sm) (own nm : String) (cc : ByteArray) (nL : Nat) (ret : Option FieldType) (cd : ev_Cd) (ix : Nat) (i : ev_I) : Bool := decide (decode cc (ev_pc cd ix) = .ok (.getstatic i.2.2.2.2.1, 3)) && decide (decode cc ((ev_pc cd ix) + 3) = .ok (.iload i.2.2.1, 2)) && decide (decode cc ((ev_pc cd ix) + 5) = .ok (.iaload, 1)) && decide (ev_pc cd (ix + 3) = ev_pc cd ix + 6) && decide (i.2.2.2.1 < ev_tb.length) && decide (ev_hg Gc (i.2.2.2.2.2.2) = some (Cond.fieldLink own i.2.2.2.2.1 (ev_tb.getD i.2.2.2.1 ("", "", 0)).1 (ev_tb.getD i.2.2.2.1 ("", "", 0)).2.1 "[I"))
def ev_k65 (Gc : List (List Cond)) (Ct : List ev_Ct) (kt : List FieldType) (Pg : List ev_Mt) (sm : ev_Sm) (own nm : String) (cc : ByteArray) (nL : Nat) (ret : Option FieldType) (cd : ev_Cd) (ix : Nat) (i : ev_I) : Bool := decide (decode cc (ev_pc cd ix) = .ok (.getstatic i.2.2.2.2.1, 3)) && decide (decode cc ((ev_pc cd ix) + 3) = .ok (.iconst 0, 1)) && decide (decode cc ((ev_pc cd ix) + 4) = .ok (.aload_n 0, 1)) && decide (decode cc ((ev_pc cd ix) + 5) = .ok (.getfield (ev_gi cc (ev_pc cd ix + 5)), 3)) && decide (decode cc ((ev_pc cd ix) + 8) = .ok (.iconst 0, 1)) && decide (decode cc ((ev_pc cd ix) + 9) = .ok (.bipush ((i.2.2.2.2.2.1 % 256 : Nat) : Int), 2)) && decide (decode cc ((ev_pc cd ix) + 11) = .ok (.invokestatic (ev_gi cc (ev_pc cd ix + 11)), 3)) && decide (ev_pc cd (ix + 7) = ev_pc cd ix + 14) && decide (i.2.2.2.1 < ev_tb.length) && decide (i.2.2.2.2.2.1 % 256 < 128 ∧ i.2.2.2.2.2.1 % 256 ≤ (ev_tb.getD i.2.2.2.1 ("", "", 0)).2.2) && decide (kt[i.2.2.2.2.2.1 / 256 % 256]? = some .int) && decide (ev_hg Gc (i.2.2.2.2.2.2 % 65536) = some (Cond.fieldLink own i.2.2.2.2.1 (ev_tb.getD i.2.2.2.1 ("", "", 0)).1 (ev_tb.getD i.2.2.2.1 ("", "", 0)).2.1 "[I")) && (match Ct[i.2.2.2.2.2.1 / 65536]? with
    | some q => decide (i.2.2.1 < q.1.2.2) && decide (ev_hg Gc (i.2.2.2.2.2.2 / 65536 % 65536) = some (Cond.fieldLink own (ev_gi cc (ev_pc cd ix + 5)) (q.1.2.1 i.2.2.1).1 (q.1.2.1 i.2.2.1).2.1 (q.1.2.1 i.2.2.1).2.2.1))
    | none => false) && (decide (ev_hg Gc (i.2.2.2.2.2.2 / 4294967296 % 65536) = some (Cond.methodLink own (ev_gi cc (ev_pc cd ix + 11)) arraycopyName)) && decide (ev_hg Gc (i.2.2.2.2.2.2 / 281474976710656) = some (Cond.native arraycopyName)) && decide (ev_hg Gc (i.2.2.2.2.2.2 / 281474976710656 + 1) = some (Cond.static arraycopyName)) && decide (ev_hg Gc (i.2.2.2.2.2.2 / 281474976710656 + 2) = some (Cond.initialized "java/lang/System")))
def ev_k66 (Gc : List (List Cond)) (Ct : List ev_Ct) (kt : List FieldType) (Pg : List ev_Mt) (sm : ev_Sm) (own nm : String) (cc : ByteArray) (nL : Nat) (ret : Option FieldType) (cd : ev_Cd) (ix : Nat) (i : ev_I) : Bool := decide (decode cc (ev_pc cd ix) = .ok (.ladd, 1)) && decide (ev_pc cd (ix + 1) = ev_pc cd ix + 1)
def ev_k67 (Gc : List (List Cond)) (Ct : List ev_Ct) (kt : List FieldType) (Pg : List ev_Mt) (sm : ev_Sm) (own nm : String) (cc : ByteArray) (nL : Nat) (ret : Option FieldType) (cd : ev_Cd) (ix : Nat) (i : ev_I) : Bool := decide (decode cc (ev_pc cd ix) = .ok (.lsub, 1)) && decide (ev_pc cd (ix + 1) = ev_pc cd ix + 1)
def ev_k68 (Gc : List (List Cond)) (Ct : List ev_Ct) (kt : List FieldType) (Pg : List ev_Mt) (sm : ev_Sm) (own nm : String) (cc : ByteArray) (nL : Nat) (ret : Option FieldType) (cd : ev_Cd) (ix : Nat) (i : ev_I) : Bool := decide (decode cc (ev_pc cd ix) = .ok (.lmul, 1)) && decide (ev_pc cd (ix + 1) = ev_pc cd ix + 1)
def ev_k69 (Gc : List (List Cond)) (Ct : List ev_Ct) (kt : List FieldType) (Pg : List ev_Mt) (sm : ev_Sm) (own nm : String) (cc : ByteArray) (nL : Nat) (ret : Option FieldType) (cd : ev_Cd) (ix : Nat) (i : ev_I) : Bool := decide (decode cc (ev_pc cd ix) = .ok (.land, 1)) && decide (ev_pc cd (ix + 1) = ev_pc cd ix + 1)
def ev_k70 (Gc : List (List Cond)) (Ct : List ev_Ct) (kt : List FieldType) (Pg : List ev_Mt) (sm : ev_Sm) (own nm : String) (cc : ByteArray) (nL : Nat) (ret : Option FieldType) (cd : ev_Cd) (ix : Nat) (i : ev_I) : Bool := decide (decode cc (ev_pc cd ix) = .ok (.lor, 1)) && decide (ev_pc cd (ix + 1) = ev_pc cd ix + 1)
def ev_k71 (Gc : List (List Cond)) (Ct : List ev_Ct) (kt : List FieldType) (Pg : List ev_Mt) (sm : ev_Sm) (own nm : String) (cc : ByteArray) (nL : Nat) (ret : Option FieldType) (cd : ev_Cd) (ix : Nat) (i : ev_I) : Bool := decide (decode cc (ev_pc cd ix) = .ok (.lxor, 1)) && decide (ev_pc cd (ix + 1) = ev_pc cd ix + 1)
def ev_k72 (Gc : List (List Cond)) (Ct : List ev_Ct) (kt : List FieldType) (Pg : List ev_Mt) (sm : ev_Sm) (own nm : String) (cc : ByteArray) (nL : Nat) (ret : Option FieldType) (cd : ev_Cd) (ix : Nat) (i : ev_I) : Bool := decide (decode cc (ev_pc cd ix) = .ok (.lshl, 1)) && decide (ev_pc cd (ix + 1) = ev_pc cd ix + 1)
def ev_k73 (Gc : List (List Cond)) (Ct : List ev_Ct) (kt : List FieldType) (Pg : List ev_Mt) (sm : ev_Sm) (own nm : String) (cc : ByteArray) (nL : Nat) (ret : Option FieldType) (cd : ev_Cd) (ix : Nat) (i : ev_I) : Bool := decide (decode cc (ev_pc cd ix) = .ok (.lshr, 1)) && decide (ev_pc cd (ix + 1) = ev_pc cd ix + 1)
def ev_k74 (Gc : List (List Cond)) (Ct : List ev_Ct) (kt : List FieldType) (Pg : List ev_Mt) (sm : ev_Sm) (own nm : String) (cc : ByteArray) (nL : Nat) (ret : Option FieldType) (cd : ev_Cd) (ix : Nat) (i : ev_I) : Bool := decide (decode cc (ev_pc cd ix) = .ok (.lushr, 1)) && decide (ev_pc cd (ix + 1) = ev_pc cd ix + 1)
def ev_k75 (Gc : List (List Cond)) (Ct : List ev_Ct) (kt : List FieldType) (Pg : List ev_Mt) (sm : ev_Sm) (own nm : String) (cc : ByteArray) (nL : Nat) (ret : Option FieldType) (cd : ev_Cd) (ix : Nat) (i : ev_I) : Bool := decide (decode cc (ev_pc cd ix) = .ok (.lcmp, 1)) && decide (ev_pc cd (ix + 1) = ev_pc cd ix + 1)
def ev_k76 (Gc : List (List Cond)) (Ct : List ev_Ct) (kt : List FieldType) (Pg : List ev_Mt) (sm : ev_Sm) (own nm : String) (cc : ByteArray) (nL : Nat) (ret : Option FieldType) (cd : ev_Cd) (ix : Nat) (i : ev_I) : Bool := decide (decode cc (ev_pc cd ix) = .ok (.i2l, 1)) && decide (ev_pc cd (ix + 1) = ev_pc cd ix + 1)
def ev_k77 (Gc : List (List Cond)) (Ct : List ev_Ct) (kt : List FieldType) (Pg : List ev_Mt) (sm : ev_Sm) (own nm : String) (cc : ByteArray) (nL : Nat) (ret : Option FieldType) (cd : ev_Cd) (ix : Nat) (i : ev_I) : Bool := decide (decode cc (ev_pc cd ix) = .ok (.l2i, 1)) && decide (ev_pc cd (ix + 1) = ev_pc cd ix + 1)
def ev_k78 (Gc : List (List Cond)) (Ct : List ev_Ct) (kt : List FieldType) (Pg : List ev_Mt) (sm : ev_Sm) (own nm : String) (cc : ByteArray) (nL : Nat) (ret : Option FieldType) (cd : ev_Cd) (ix : Nat) (i : ev_I) : Bool := decide (decode cc (ev_pc cd ix) = .ok (.i2b, 1)) && decide (ev_pc cd (ix + 1) = ev_pc cd ix + 1)
def ev_k79 (Gc : List (List Cond)) (Ct : List ev_Ct) (kt : List FieldType) (Pg : List ev_Mt) (sm : ev_Sm) (own nm : String) (cc : ByteArray) (nL : Nat) (ret : Option FieldType) (cd : ev_Cd) (ix : Nat) (i : ev_I) : Bool := decide (decode cc (ev_pc cd ix) = .ok (.idiv, 1)) && decide (ev_pc cd (ix + 1) = ev_pc cd ix + 1)
def ev_k80 (Gc : List (List Cond)) (Ct : List ev_Ct) (kt : List FieldType) (Pg : List ev_Mt) (sm : ev_Sm) (own nm : String) (cc : ByteArray) (nL : Nat) (ret : Option FieldType) (cd : ev_Cd) (ix : Nat) (i : ev_I) : Bool := decide (decode cc (ev_pc cd ix) = .ok (.irem, 1)) && decide (ev_pc cd (ix + 1) = ev_pc cd ix + 1)
def ev_k81 (Gc : List (List Cond)) (Ct : List ev_Ct) (kt : List FieldType) (Pg : List ev_Mt) (sm : ev_Sm) (own nm : String) (cc : ByteArray) (nL : Nat) (ret : Option FieldType) (cd : ev_Cd) (ix : Nat) (i : ev_I) : Bool := decide (decode cc (ev_pc cd ix) = .ok (.ishr, 1)) && decide (ev_pc cd (ix + 1) = ev_pc cd ix + 1)
def ev_k82 (Gc : List (List Cond)) (Ct : List ev_Ct) (kt : List FieldType) (Pg : List ev_Mt) (sm : ev_Sm) (own nm : String) (cc : ByteArray) (nL : Nat) (ret : Option FieldType) (cd : ev_Cd) (ix : Nat) (i : ev_I) : Bool := decide (decode cc (ev_pc cd ix) = .ok (.iushr, 1)) && decide (ev_pc cd (ix + 1) = ev_pc cd ix + 1)
def ev_k83 (Gc : List (List Cond)) (Ct : List ev_Ct) (kt : List FieldType) (Pg : List ev_Mt) (sm : ev_Sm) (own nm : String) (cc : ByteArray) (nL : Nat) (ret : Option FieldType) (cd : ev_Cd) (ix : Nat) (i : ev_I) : Bool := decide (decode cc (ev_pc cd ix) = .ok (.iinc i.2.2.1 (ev_dn cc (ev_pc cd ix)), 6)) && decide (ev_pc cd (ix + 1) = ev_pc cd ix + 6) && decide (ev_sx (Int32.ofInt (ev_dn cc (ev_pc cd ix))) = i.2.2.2.1) && decide (i.2.2.1 < nL)
def ev_op (Ct : List ev_Ct) (ret : Option FieldType) (sm : ev_Sm) (dd : Nat) (call : Nat → List (Nat × Nat × Nat) → List ev_C → Option ev_R) (i : ev_I) (st : ev_S) : Option (ev_S ⊕ (ev_R ⊕ (ev_S × ev_S × Nat))) := (if i.2.1 < 42 then (if i.2.1 < 20 then (if i.2.1 < 10 then (if i.2.1 < 5 then (if i.2.1 < 2 then (if i.2.1 < 1 then (if i.2.1 = 0 then ev_o0 Ct ret sm dd call i st else none) else (if i.2.1 = 1 then ev_o1 Ct ret sm dd call i st else none)) else (if i.2.1 < 3 then (if i.2.1 = 2 then ev_o2 Ct ret sm dd call i st else none) else (if i.2.1 < 4 then (if i.2.1 = 3 then ev_o3 Ct ret sm dd call i st else none) else (if i.2.1 = 4 then ev_o4 Ct ret sm dd call i st else none)))) else (if i.2.1 < 7 then (if i.2.1 < 6 then (if i.2.1 = 5 then ev_o5 Ct ret sm dd call i st else none) else (if i.2.1 = 6 then ev_o6 Ct ret sm dd call i st else none)) else (if i.2.1 < 8 then (if i.2.1 = 7 then ev_o7 Ct ret sm dd call i st else none) else (if i.2.1 < 9 then (if i.2.1 = 8 then ev_o8 Ct ret sm dd call i st else none) else (if i.2.1 = 9 then ev_o9 Ct ret sm dd call i st else none))))) else (if i.2.1 < 15 then (if i.2.1 < 12 then (if i.2.1 < 11 then (if i.2.1 = 10 then ev_o10 Ct ret sm dd call i st else none) else (if i.2.1 = 11 then ev_o11 Ct ret sm dd call i st else none)) else (if i.2.1 < 13 then (if i.2.1 = 12 then ev_o12 Ct ret sm dd call i st else none) else (if i.2.1 < 14 then (if i.2.1 = 13 then ev_o13 Ct ret sm dd call i st else none) else (if i.2.1 = 14 then ev_o14 Ct ret sm dd call i st else none)))) else (if i.2.1 < 17 then (if i.2.1 < 16 then (if i.2.1 = 15 then ev_o15 Ct ret sm dd call i st else none) else (if i.2.1 = 16 then ev_o16 Ct ret sm dd call i st else none)) else (if i.2.1 < 18 then (if i.2.1 = 17 then ev_o17 Ct ret sm dd call i st else none) else (if i.2.1 < 19 then (if i.2.1 = 18 then ev_o18 Ct ret sm dd call i st else none) else (if i.2.1 = 19 then ev_o19 Ct ret sm dd call i st else none)))))) else (if i.2.1 < 30 then (if i.2.1 < 25 then (if i.2.1 < 22 then (if i.2.1 < 21 then (if i.2.1 = 20 then ev_o20 Ct ret sm dd call i st else none) else (if i.2.1 = 21 then ev_o21 Ct ret sm dd call i st else none)) else (if i.2.1 < 23 then (if i.2.1 = 22 then ev_o22 Ct ret sm dd call i st else none) else (if i.2.1 < 24 then (if i.2.1 = 23 then ev_o23 Ct ret sm dd call i st else none) else (if i.2.1 = 24 then ev_o24 Ct ret sm dd call i st else none)))) else (if i.2.1 < 27 then (if i.2.1 < 26 then (if i.2.1 = 25 then ev_o25 Ct ret sm dd call i st else none) else (if i.2.1 = 26 then ev_o26 Ct ret sm dd call i st else none)) else (if i.2.1 < 28 then (if i.2.1 = 27 then ev_o27 Ct ret sm dd call i st else none) else (if i.2.1 < 29 then (if i.2.1 = 28 then ev_o28 Ct ret sm dd call i st else none) else (if i.2.1 = 29 then ev_o29 Ct ret sm dd call i st else none))))) else (if i.2.1 < 35 then (if i.2.1 < 32 then (if i.2.1 < 31 then (if i.2.1 = 30 then ev_o30 Ct ret sm dd call i st else none) else (if i.2.1 = 31 then ev_o31 Ct ret sm dd call i st else none)) else (if i.2.1 < 33 then (if i.2.1 = 32 then ev_o32 Ct ret sm dd call i st else none) else (if i.2.1 < 34 then (if i.2.1 = 33 then ev_o33 Ct ret sm dd call i st else none) else (if i.2.1 = 34 then ev_o34 Ct ret sm dd call i st else none)))) else (if i.2.1 < 38 then (if i.2.1 < 36 then (if i.2.1 = 35 then ev_o35 Ct ret sm dd call i st else none) else (if i.2.1 < 37 then (if i.2.1 = 36 then ev_o36 Ct ret sm dd call i st else none) else (if i.2.1 = 37 then ev_o37 Ct ret sm dd call i st else none))) else (if i.2.1 < 39 then (if i.2.1 = 38 then ev_o38 Ct ret sm dd call i st else none) else (if i.2.1 < 40 then (if i.2.1 = 39 then ev_o39 Ct ret sm dd call i st else none) else (if i.2.1 = 40 then ev_o40 Ct ret sm dd call i st else none))))))) else (if i.2.1 < 63 then (if i.2.1 < 53 then (if i.2.1 < 48 then (if i.2.1 < 44 then (if i.2.1 < 43 then (if i.2.1 = 42 then ev_o42 Ct ret sm dd call i st else none) else (if i.2.1 = 43 then ev_o43 Ct ret sm dd call i st else none)) else (if i.2.1 < 46 then (if i.2.1 = 44 then ev_o44 Ct ret sm dd call i st else none) else (if i.2.1 < 47 then (if i.2.1 = 46 then ev_o46 Ct ret sm dd call i st else none) else (if i.2.1 = 47 then ev_o47 Ct ret sm dd call i st else none)))) else (if i.2.1 < 50 then (if i.2.1 < 49 then (if i.2.1 = 48 then ev_o48 Ct ret sm dd call i st else none) else (if i.2.1 = 49 then ev_o49 Ct ret sm dd call i st else none)) else (if i.2.1 < 51 then (if i.2.1 = 50 then ev_o50 Ct ret sm dd call i st else none) else (if i.2.1 < 52 then (if i.2.1 = 51 then ev_o51 Ct ret sm dd call i st else none) else (if i.2.1 = 52 then ev_o52 Ct ret sm dd call i st else none))))) else (if i.2.1 < 58 then (if i.2.1 < 55 then (if i.2.1 < 54 then (if i.2.1 = 53 then ev_o53 Ct ret sm dd call i st else none) else (if i.2.1 = 54 then ev_o54 Ct ret sm dd call i st else none)) else (if i.2.1 < 56 then (if i.2.1 = 55 then ev_o55 Ct ret sm dd call i st else none) else (if i.2.1 < 57 then (if i.2.1 = 56 then ev_o56 Ct ret sm dd call i st else none) else (if i.2.1 = 57 then ev_o57 Ct ret sm dd call i st else none)))) else (if i.2.1 < 60 then (if i.2.1 < 59 then (if i.2.1 = 58 then ev_o58 Ct ret sm dd call i st else none) else (if i.2.1 = 59 then ev_o59 Ct ret sm dd call i st else none)) else (if i.2.1 < 61 then (if i.2.1 = 60 then ev_o60 Ct ret sm dd call i st else none) else (if i.2.1 < 62 then (if i.2.1 = 61 then ev_o61 Ct ret sm dd call i st else none) else (if i.2.1 = 62 then ev_o62 Ct ret sm dd call i st else none)))))) else (if i.2.1 < 73 then (if i.2.1 < 68 then (if i.2.1 < 65 then (if i.2.1 < 64 then (if i.2.1 = 63 then ev_o63 Ct ret sm dd call i st else none) else (if i.2.1 = 64 then ev_o64 Ct ret sm dd call i st else none)) else (if i.2.1 < 66 then (if i.2.1 = 65 then ev_o65 Ct ret sm dd call i st else none) else (if i.2.1 < 67 then (if i.2.1 = 66 then ev_o66 Ct ret sm dd call i st else none) else (if i.2.1 = 67 then ev_o67 Ct ret sm dd call i st else none)))) else (if i.2.1 < 70 then (if i.2.1 < 69 then (if i.2.1 = 68 then ev_o68 Ct ret sm dd call i st else none) else (if i.2.1 = 69 then ev_o69 Ct ret sm dd call i st else none)) else (if i.2.1 < 71 then (if i.2.1 = 70 then ev_o70 Ct ret sm dd call i st else none) else (if i.2.1 < 72 then (if i.2.1 = 71 then ev_o71 Ct ret sm dd call i st else none) else (if i.2.1 = 72 then ev_o72 Ct ret sm dd call i st else none))))) else (if i.2.1 < 78 then (if i.2.1 < 75 then (if i.2.1 < 74 then (if i.2.1 = 73 then ev_o73 Ct ret sm dd call i st else none) else (if i.2.1 = 74 then ev_o74 Ct ret sm dd call i st else none)) else (if i.2.1 < 76 then (if i.2.1 = 75 then ev_o75 Ct ret sm dd call i st else none) else (if i.2.1 < 77 then (if i.2.1 = 76 then ev_o76 Ct ret sm dd call i st else none) else (if i.2.1 = 77 then ev_o77 Ct ret sm dd call i st else none)))) else (if i.2.1 < 81 then (if i.2.1 < 79 then (if i.2.1 = 78 then ev_o78 Ct ret sm dd call i st else none) else (if i.2.1 < 80 then (if i.2.1 = 79 then ev_o79 Ct ret sm dd call i st else none) else (if i.2.1 = 80 then ev_o80 Ct ret sm dd call i st else none))) else (if i.2.1 < 82 then (if i.2.1 = 81 then ev_o81 Ct ret sm dd call i st else none) else (if i.2.1 < 83 then (if i.2.1 = 82 then ev_o82 Ct ret sm dd call i st else none) else (if i.2.1 = 83 then ev_o83 Ct ret sm dd call i st else none))))))))
def ev_ok (Gc : List (List Cond)) (Ct : List ev_Ct) (kt : List FieldType) (Pg : List ev_Mt) (sm : ev_Sm) (own nm : String) (cc : ByteArray) (nL : Nat) (ret : Option FieldType) (cd : ev_Cd) (ix : Nat) (i : ev_I) : Bool := (if i.2.1 < 42 then (if i.2.1 < 20 then (if i.2.1 < 10 then (if i.2.1 < 5 then (if i.2.1 < 2 then (if i.2.1 < 1 then (if i.2.1 = 0 then ev_k0 Gc Ct kt Pg sm own nm cc nL ret cd ix i else false) else (if i.2.1 = 1 then ev_k1 Gc Ct kt Pg sm own nm cc nL ret cd ix i else false)) else (if i.2.1 < 3 then (if i.2.1 = 2 then ev_k2 Gc Ct kt Pg sm own nm cc nL ret cd ix i else false) else (if i.2.1 < 4 then (if i.2.1 = 3 then ev_k3 Gc Ct kt Pg sm own nm cc nL ret cd ix i else false) else (if i.2.1 = 4 then ev_k4 Gc Ct kt Pg sm own nm cc nL ret cd ix i else false)))) else (if i.2.1 < 7 then (if i.2.1 < 6 then (if i.2.1 = 5 then ev_k5 Gc Ct kt Pg sm own nm cc nL ret cd ix i else false) else (if i.2.1 = 6 then ev_k6 Gc Ct kt Pg sm own nm cc nL ret cd ix i else false)) else (if i.2.1 < 8 then (if i.2.1 = 7 then ev_k7 Gc Ct kt Pg sm own nm cc nL ret cd ix i else false) else (if i.2.1 < 9 then (if i.2.1 = 8 then ev_k8 Gc Ct kt Pg sm own nm cc nL ret cd ix i else false) else (if i.2.1 = 9 then ev_k9 Gc Ct kt Pg sm own nm cc nL ret cd ix i else false))))) else (if i.2.1 < 15 then (if i.2.1 < 12 then (if i.2.1 < 11 then (if i.2.1 = 10 then ev_k10 Gc Ct kt Pg sm own nm cc nL ret cd ix i else false) else (if i.2.1 = 11 then ev_k11 Gc Ct kt Pg sm own nm cc nL ret cd ix i else false)) else (if i.2.1 < 13 then (if i.2.1 = 12 then ev_k12 Gc Ct kt Pg sm own nm cc nL ret cd ix i else false) else (if i.2.1 < 14 then (if i.2.1 = 13 then ev_k13 Gc Ct kt Pg sm own nm cc nL ret cd ix i else false) else (if i.2.1 = 14 then ev_k14 Gc Ct kt Pg sm own nm cc nL ret cd ix i else false)))) else (if i.2.1 < 17 then (if i.2.1 < 16 then (if i.2.1 = 15 then ev_k15 Gc Ct kt Pg sm own nm cc nL ret cd ix i else false) else (if i.2.1 = 16 then ev_k16 Gc Ct kt Pg sm own nm cc nL ret cd ix i else false)) else (if i.2.1 < 18 then (if i.2.1 = 17 then ev_k17 Gc Ct kt Pg sm own nm cc nL ret cd ix i else false) else (if i.2.1 < 19 then (if i.2.1 = 18 then ev_k18 Gc Ct kt Pg sm own nm cc nL ret cd ix i else false) else (if i.2.1 = 19 then ev_k19 Gc Ct kt Pg sm own nm cc nL ret cd ix i else false)))))) else (if i.2.1 < 30 then (if i.2.1 < 25 then (if i.2.1 < 22 then (if i.2.1 < 21 then (if i.2.1 = 20 then ev_k20 Gc Ct kt Pg sm own nm cc nL ret cd ix i else false) else (if i.2.1 = 21 then ev_k21 Gc Ct kt Pg sm own nm cc nL ret cd ix i else false)) else (if i.2.1 < 23 then (if i.2.1 = 22 then ev_k22 Gc Ct kt Pg sm own nm cc nL ret cd ix i else false) else (if i.2.1 < 24 then (if i.2.1 = 23 then ev_k23 Gc Ct kt Pg sm own nm cc nL ret cd ix i else false) else (if i.2.1 = 24 then ev_k24 Gc Ct kt Pg sm own nm cc nL ret cd ix i else false)))) else (if i.2.1 < 27 then (if i.2.1 < 26 then (if i.2.1 = 25 then ev_k25 Gc Ct kt Pg sm own nm cc nL ret cd ix i else false) else (if i.2.1 = 26 then ev_k26 Gc Ct kt Pg sm own nm cc nL ret cd ix i else false)) else (if i.2.1 < 28 then (if i.2.1 = 27 then ev_k27 Gc Ct kt Pg sm own nm cc nL ret cd ix i else false) else (if i.2.1 < 29 then (if i.2.1 = 28 then ev_k28 Gc Ct kt Pg sm own nm cc nL ret cd ix i else false) else (if i.2.1 = 29 then ev_k29 Gc Ct kt Pg sm own nm cc nL ret cd ix i else false))))) else (if i.2.1 < 35 then (if i.2.1 < 32 then (if i.2.1 < 31 then (if i.2.1 = 30 then ev_k30 Gc Ct kt Pg sm own nm cc nL ret cd ix i else false) else (if i.2.1 = 31 then ev_k31 Gc Ct kt Pg sm own nm cc nL ret cd ix i else false)) else (if i.2.1 < 33 then (if i.2.1 = 32 then ev_k32 Gc Ct kt Pg sm own nm cc nL ret cd ix i else false) else (if i.2.1 < 34 then (if i.2.1 = 33 then ev_k33 Gc Ct kt Pg sm own nm cc nL ret cd ix i else false) else (if i.2.1 = 34 then ev_k34 Gc Ct kt Pg sm own nm cc nL ret cd ix i else false)))) else (if i.2.1 < 38 then (if i.2.1 < 36 then (if i.2.1 = 35 then ev_k35 Gc Ct kt Pg sm own nm cc nL ret cd ix i else false) else (if i.2.1 < 37 then (if i.2.1 = 36 then ev_k36 Gc Ct kt Pg sm own nm cc nL ret cd ix i else false) else (if i.2.1 = 37 then ev_k37 Gc Ct kt Pg sm own nm cc nL ret cd ix i else false))) else (if i.2.1 < 39 then (if i.2.1 = 38 then ev_k38 Gc Ct kt Pg sm own nm cc nL ret cd ix i else false) else (if i.2.1 < 40 then (if i.2.1 = 39 then ev_k39 Gc Ct kt Pg sm own nm cc nL ret cd ix i else false) else (if i.2.1 = 40 then ev_k40 Gc Ct kt Pg sm own nm cc nL ret cd ix i else false))))))) else (if i.2.1 < 63 then (if i.2.1 < 53 then (if i.2.1 < 48 then (if i.2.1 < 44 then (if i.2.1 < 43 then (if i.2.1 = 42 then ev_k42 Gc Ct kt Pg sm own nm cc nL ret cd ix i else false) else (if i.2.1 = 43 then ev_k43 Gc Ct kt Pg sm own nm cc nL ret cd ix i else false)) else (if i.2.1 < 46 then (if i.2.1 = 44 then ev_k44 Gc Ct kt Pg sm own nm cc nL ret cd ix i else false) else (if i.2.1 < 47 then (if i.2.1 = 46 then ev_k46 Gc Ct kt Pg sm own nm cc nL ret cd ix i else false) else (if i.2.1 = 47 then ev_k47 Gc Ct kt Pg sm own nm cc nL ret cd ix i else false)))) else (if i.2.1 < 50 then (if i.2.1 < 49 then (if i.2.1 = 48 then ev_k48 Gc Ct kt Pg sm own nm cc nL ret cd ix i else false) else (if i.2.1 = 49 then ev_k49 Gc Ct kt Pg sm own nm cc nL ret cd ix i else false)) else (if i.2.1 < 51 then (if i.2.1 = 50 then ev_k50 Gc Ct kt Pg sm own nm cc nL ret cd ix i else false) else (if i.2.1 < 52 then (if i.2.1 = 51 then ev_k51 Gc Ct kt Pg sm own nm cc nL ret cd ix i else false) else (if i.2.1 = 52 then ev_k52 Gc Ct kt Pg sm own nm cc nL ret cd ix i else false))))) else (if i.2.1 < 58 then (if i.2.1 < 55 then (if i.2.1 < 54 then (if i.2.1 = 53 then ev_k53 Gc Ct kt Pg sm own nm cc nL ret cd ix i else false) else (if i.2.1 = 54 then ev_k54 Gc Ct kt Pg sm own nm cc nL ret cd ix i else false)) else (if i.2.1 < 56 then (if i.2.1 = 55 then ev_k55 Gc Ct kt Pg sm own nm cc nL ret cd ix i else false) else (if i.2.1 < 57 then (if i.2.1 = 56 then ev_k56 Gc Ct kt Pg sm own nm cc nL ret cd ix i else false) else (if i.2.1 = 57 then ev_k57 Gc Ct kt Pg sm own nm cc nL ret cd ix i else false)))) else (if i.2.1 < 60 then (if i.2.1 < 59 then (if i.2.1 = 58 then ev_k58 Gc Ct kt Pg sm own nm cc nL ret cd ix i else false) else (if i.2.1 = 59 then ev_k59 Gc Ct kt Pg sm own nm cc nL ret cd ix i else false)) else (if i.2.1 < 61 then (if i.2.1 = 60 then ev_k60 Gc Ct kt Pg sm own nm cc nL ret cd ix i else false) else (if i.2.1 < 62 then (if i.2.1 = 61 then ev_k61 Gc Ct kt Pg sm own nm cc nL ret cd ix i else false) else (if i.2.1 = 62 then ev_k62 Gc Ct kt Pg sm own nm cc nL ret cd ix i else false)))))) else (if i.2.1 < 73 then (if i.2.1 < 68 then (if i.2.1 < 65 then (if i.2.1 < 64 then (if i.2.1 = 63 then ev_k63 Gc Ct kt Pg sm own nm cc nL ret cd ix i else false) else (if i.2.1 = 64 then ev_k64 Gc Ct kt Pg sm own nm cc nL ret cd ix i else false)) else (if i.2.1 < 66 then (if i.2.1 = 65 then ev_k65 Gc Ct kt Pg sm own nm cc nL ret cd ix i else false) else (if i.2.1 < 67 then (if i.2.1 = 66 then ev_k66 Gc Ct kt Pg sm own nm cc nL ret cd ix i else false) else (if i.2.1 = 67 then ev_k67 Gc Ct kt Pg sm own nm cc nL ret cd ix i else false)))) else (if i.2.1 < 70 then (if i.2.1 < 69 then (if i.2.1 = 68 then ev_k68 Gc Ct kt Pg sm own nm cc nL ret cd ix i else false) else (if i.2.1 = 69 then ev_k69 Gc Ct kt Pg sm own nm cc nL ret cd ix i else false)) else (if i.2.1 < 71 then (if i.2.1 = 70 then ev_k70 Gc Ct kt Pg sm own nm cc nL ret cd ix i else false) else (if i.2.1 < 72 then (if i.2.1 = 71 then ev_k71 Gc Ct kt Pg sm own nm cc nL ret cd ix i else false) else (if i.2.1 = 72 then ev_k72 Gc Ct kt Pg sm own nm cc nL ret cd ix i else false))))) else (if i.2.1 < 78 then (if i.2.1 < 75 then (if i.2.1 < 74 then (if i.2.1 = 73 then ev_k73 Gc Ct kt Pg sm own nm cc nL ret cd ix i else false) else (if i.2.1 = 74 then ev_k74 Gc Ct kt Pg sm own nm cc nL ret cd ix i else false)) else (if i.2.1 < 76 then (if i.2.1 = 75 then ev_k75 Gc Ct kt Pg sm own nm cc nL ret cd ix i else false) else (if i.2.1 < 77 then (if i.2.1 = 76 then ev_k76 Gc Ct kt Pg sm own nm cc nL ret cd ix i else false) else (if i.2.1 = 77 then ev_k77 Gc Ct kt Pg sm own nm cc nL ret cd ix i else false)))) else (if i.2.1 < 81 then (if i.2.1 < 79 then (if i.2.1 = 78 then ev_k78 Gc Ct kt Pg sm own nm cc nL ret cd ix i else false) else (if i.2.1 < 80 then (if i.2.1 = 79 then ev_k79 Gc Ct kt Pg sm own nm cc nL ret cd ix i else false) else (if i.2.1 = 80 then ev_k80 Gc Ct kt Pg sm own nm cc nL ret cd ix i else false))) else (if i.2.1 < 82 then (if i.2.1 = 81 then ev_k81 Gc Ct kt Pg sm own nm cc nL ret cd ix i else false) else (if i.2.1 < 83 then (if i.2.1 = 82 then ev_k82 Gc Ct kt Pg sm own nm cc nL ret cd ix i else false) else (if i.2.1 = 83 then ev_k83 Gc Ct kt Pg sm own nm cc nL ret cd ix i else false))))))))
/-- what the tables must say of the sorts -/
def ev_okC (Gs : List Cond) (cl : List vw_C) (Ct : List ev_Ct) : Prop := ∀ (k : Nat) (q : ev_Ct), Ct[k]? = some q → (∀ w ∈ u_ws q.1.1 q.1.2.1 q.1.2.2, w ∈ Gs) ∧ cl[k]? = some (q.1.1, q.1.2.1, q.1.2.2) ∧ (∀ k, k < q.1.2.2 → parseFieldDescriptor (q.1.2.1 k).2.2.1 = some (q.2.1 k)) ∧ (∀ a, a < q.1.2.2 → ∀ b, b < q.1.2.2 → a ≠ b → (q.1.2.1 a).2.1 ≠ (q.1.2.1 b).2.1) ∧ Cond.instantiable q.1.1 q.1.2.2 ∈ Gs ∧ Cond.initialized q.1.1 ∈ Gs ∧ (∀ j, j < q.1.2.2 → defaultValue (q.2.1 j) = vp_V (q.2.2.map ev_dv) j) ∧ (∀ v ∈ q.2.2, v = (0, 2147483648, 2147483648) ∨ v = (3, 0, 0) ∨ v = (1, 0, 0))
/-- and each method's code stands in the words -/
def ev_okD (Gs : List Cond) (cl : List vw_C) (Ct : List ev_Ct) (Pg : List ev_Mt) : Prop := ev_okC Gs cl Ct ∧ ∀ (k : Nat) (y : MethodName) (bytes : ByteArray) (maxL : Nat) (rt : Option FieldType) (cd : ev_Cd), Pg[k]? = some ((y, bytes, maxL, rt), cd) → Cond.code y bytes maxL rt ∈ Gs
def ev_SS (p : Program) (l : Launch) (e : Env) (R : Room) (s : State) (m : MethodId) (args : Array Value) (below : List Frame) (meth : Method) (c : Code) (D : va_G) (cl : List vw_C) (dA : Nat → ClassId) (kt : List FieldType) (A : Nat → Prop) (ws0 : va_W) (nL : Nat) (cd : ev_Cd) (st : ev_S) (o : ev_S ⊕ (ev_R ⊕ (ev_S × ev_S × Nat))) : Prop := match o with
  | .inl u => u.2.2.2.2.1 ≤ R.cells → u.2.2.2.2.2 ≤ R.slots → ∀ Q, ev_G p l e R s m args below meth c Q D cl dA A ws0 nL cd u → ev_G p l e R s m args below meth c Q D cl dA A ws0 nL cd st
  | .inr (.inl r) => ∀ (r' : Option (Nat × Nat × Nat)) (w' : List ev_C) (mc ms : Nat), ev_leO r.1 r' = true → ev_leW r.2.1 w' = true → r.2.2.1 ≤ mc → r.2.2.2 ≤ ms → ev_G p l e R s m args below meth c (MQ below (ev_Q D cl dA kt ws0 A r' w') args s mc ms A) D cl dA A ws0 nL cd st
  | .inr (.inr q) => ∀ Q, ev_G p l e R s m args below meth c Q D cl dA A ws0 nL cd q.1 → ev_G p l e R s m args below meth c Q D cl dA A ws0 nL cd q.2.1 → ev_G p l e R s m args below meth c Q D cl dA A ws0 nL cd st
theorem ev_in_0 : ev_in (0, 2147483648, 2147483648) 0 := ⟨by decide +kernel, by decide +kernel⟩
section EV7
variable {p : Program} {l : Launch} {e : Env} {R : Room} {s : State} {m : MethodId} {args : Array Value} {below : List Frame} {meth : Method} {c : Code} {Q : State → Prop}
variable {D : va_G} {cl : List vw_C} {dA : Nat → ClassId} {kt : List FieldType} {A : Nat → Prop} {ws0 : va_W} {Gs : List Cond} {own : String} {cc : ByteArray} {nL : Nat} {cd : ev_Cd}
variable {Gc : List (List Cond)} {Ct : List ev_Ct} {Pg : List ev_Mt} {sm : ev_Sm} {nm : String} {ret : Option FieldType} {d dd : Nat} {call : Nat → List (Nat × Nat × Nat) → List ev_C → Option ev_R}
variable {i : ev_I} {st : ev_S} {o : ev_S ⊕ (ev_R ⊕ (ev_S × ev_S × Nat))}
theorem ev_G_mono {Q Q2 : State → Prop} (h : ∀ t, Q t → Q2 t) (k : ev_G p l e R s m args below meth c Q D cl dA A ws0 nL cd st) : ev_G p l e R s m args below meth c Q2 D cl dA A ws0 nL cd st := by
  intro H locs ls vs lv ws h1 h2 h3 h4 h5 h6 h7 h8 T hT X
  obtain ⟨t, a, b⟩ := k H locs ls vs lv ws h1 h2 h3 h4 h5 h6 h7 h8 T hT X
  exact ⟨t, a, h t b⟩
theorem ev_way_ok {u v : ev_S} {j : Nat} {a b : Bool} (h : ev_way u v j a b = some o) (k : ∀ Q, (a = true → ev_G p l e R s m args below meth c Q D cl dA A ws0 nL cd u) → (b = true → ev_G p l e R s m args below meth c Q D cl dA A ws0 nL cd v) → ev_G p l e R s m args below meth c Q D cl dA A ws0 nL cd st) : ev_SS p l e R s m args below meth c D cl dA kt A ws0 nL cd st o := by
  unfold ev_way at h
  cases a <;> cases b <;> simp at h
  · subst h; exact fun _ _ Q g => k Q (fun q => by cases q) (fun _ => g)
  · subst h; exact fun _ _ Q g => k Q (fun _ => g) (fun q => by cases q)
  · subst h; exact fun Q g1 g2 => k Q (fun _ => g1) (fun _ => g2)
theorem ev_in_0x : ev_in (0, 2147483648, 2147483648) 0 := ⟨by decide +kernel, by decide +kernel⟩
theorem ev_row_icmp (X : ev_X p s m args c D cl dA kt A Gs own cc nL) {t : Nat} {off : Int} {tg ix nc ns : Nat} (hd : decode cc (ev_pc cd ix) = .ok (.if_icmp (ev_cn t) off, 3)) (ht : ((ev_pc cd ix : Nat) : Int) + off = ((ev_pc cd tg : Nat) : Int)) {H : Heap} {locs : List Loc} {ls : Array Slot} {vs : List Value} (i j : Int32) (kt9 : ev_cp t i j → W p l e R s m args below meth c H locs nc ns Q (F0 m (ev_pc cd tg) ls vs)) (kf : ¬ ev_cp t i j → W p l e R s m args below meth c H locs nc ns Q (F0 m (ev_pc cd ix + 3) ls vs)) : W p l e R s m args below meth c H locs nc ns Q (F0 m (ev_pc cd ix) ls (.int j :: .int i :: vs)) := by
  unfold ev_cp at kt9 kf
  unfold ev_cn at hd
  split at hd
  · exact lv_icmp_eq X.1.1 X.1.2.1 hd ht kt9 kf
  · exact lv_icmp_ne X.1.1 X.1.2.1 hd ht kt9 (fun h => kf (fun q => q h))
  · exact lv_icmp_lt X.1.1 X.1.2.1 hd ht kt9 kf
  · exact lv_icmp_ge X.1.1 X.1.2.1 hd ht kt9 kf
  · exact lv_icmp_gt X.1.1 X.1.2.1 hd ht kt9 kf
  · next g0 g1 g2 g3 g4 =>
    refine lv_icmp_le X.1.1 X.1.2.1 hd ht (fun h => kt9 ?_) (fun h => kf ?_)
    · split
      all_goals first | exact h | (exfalso; first | exact g0 rfl | exact g1 rfl | exact g2 rfl | exact g3 rfl | exact g4 rfl)
    · split
      all_goals first | exact h | (exfalso; first | exact g0 rfl | exact g1 rfl | exact g2 rfl | exact g3 rfl | exact g4 rfl)
theorem ev_row_if0 (X : ev_X p s m args c D cl dA kt A Gs own cc nL) {t : Nat} {off : Int} {tg ix nc ns : Nat} (hd : decode cc (ev_pc cd ix) = .ok (.ifCond (ev_cn t) off, 3)) (ht : ((ev_pc cd ix : Nat) : Int) + off = ((ev_pc cd tg : Nat) : Int)) {H : Heap} {locs : List Loc} {ls : Array Slot} {vs : List Value} (i : Int32) (kt9 : ev_cp t i 0 → W p l e R s m args below meth c H locs nc ns Q (F0 m (ev_pc cd tg) ls vs)) (kf : ¬ ev_cp t i 0 → W p l e R s m args below meth c H locs nc ns Q (F0 m (ev_pc cd ix + 3) ls vs)) : W p l e R s m args below meth c H locs nc ns Q (F0 m (ev_pc cd ix) ls (.int i :: vs)) := by
  unfold ev_cp at kt9 kf
  unfold ev_cn at hd
  split at hd
  · exact lv_if_eq X.1.1 X.1.2.1 hd ht kt9 kf
  · exact lv_if_ne X.1.1 X.1.2.1 hd ht kt9 (fun h => kf (fun q => q h))
  · exact lv_if_lt X.1.1 X.1.2.1 hd ht kt9 kf
  · exact lv_if_ge X.1.1 X.1.2.1 hd ht kt9 kf
  · exact lv_if_gt X.1.1 X.1.2.1 hd ht kt9 kf
  · next g0 g1 g2 g3 g4 =>
    refine lv_if_le X.1.1 X.1.2.1 hd ht (fun h => kt9 ?_) (fun h => kf ?_)
    · split
      all_goals first | exact h | (exfalso; first | exact g0 rfl | exact g1 rfl | exact g2 rfl | exact g3 rfl | exact g4 rfl)
    · split
      all_goals first | exact h | (exfalso; first | exact g0 rfl | exact g1 rfl | exact g2 rfl | exact g3 rfl | exact g4 rfl)
theorem ev_p0 (X : ev_X p s m args c D cl dA kt A Gs own cc nL) (hGc : ∀ (h : Nat) (w : Cond), ev_hg Gc h = some w → w ∈ Gs) (hG : ∀ w ∈ Gs, (w.onTables && w.keeps) = true ∨ ∃ ty, w = .arrayClass ty) (hT : ev_okD Gs cl Ct Pg) (hnm : meth.name = nm) (hret : meth.sig.returnType = ret) (hlk : meth.locks = false) (hRf : R.frames = d + 1) (hRl : R.locals = 90 * (d + 1)) (hcl : ∀ (k : Nat) (as : List (Nat × Nat × Nat)) (w : List ev_C) (r : ev_R), call k as w = some r → ∀ (y : MethodName) (bytes : ByteArray) (maxL : Nat) (rt : Option FieldType) (cdm : ev_Cd), Pg[k]? = some ((y, bytes, maxL, rt), cdm) → ev_Met l D cl dA kt Gs y bytes maxL rt d as w r) (hdd : dd = d) (hsm : ∀ q ∈ sm, ∀ (y : MethodName) (bytes : ByteArray) (maxL : Nat) (rt : Option FieldType) (cdm : ev_Cd), Pg[q.1]? = some ((y, bytes, maxL, rt), cdm) → ev_Met l D cl dA kt Gs y bytes maxL rt q.2.1 q.2.2.2.1 q.2.2.2.2.1 q.2.2.2.2.2) (hok : ev_k0 Gc Ct kt Pg sm own nm cc nL ret cd st.1 i = true) (h : ev_o0 Ct ret sm dd call i st = some o) : ev_SS p l e R s m args below meth c D cl dA kt A ws0 nL cd st o := by
  obtain ⟨ix, L, S, w, nc, ns⟩ := st
  unfold ev_k0 at hok
  unfold ev_o0 at h
  simp only [Bool.and_eq_true, decide_eq_true_eq] at hok
  cases h
theorem ev_p1 (X : ev_X p s m args c D cl dA kt A Gs own cc nL) (hGc : ∀ (h : Nat) (w : Cond), ev_hg Gc h = some w → w ∈ Gs) (hG : ∀ w ∈ Gs, (w.onTables && w.keeps) = true ∨ ∃ ty, w = .arrayClass ty) (hT : ev_okD Gs cl Ct Pg) (hnm : meth.name = nm) (hret : meth.sig.returnType = ret) (hlk : meth.locks = false) (hRf : R.frames = d + 1) (hRl : R.locals = 90 * (d + 1)) (hcl : ∀ (k : Nat) (as : List (Nat × Nat × Nat)) (w : List ev_C) (r : ev_R), call k as w = some r → ∀ (y : MethodName) (bytes : ByteArray) (maxL : Nat) (rt : Option FieldType) (cdm : ev_Cd), Pg[k]? = some ((y, bytes, maxL, rt), cdm) → ev_Met l D cl dA kt Gs y bytes maxL rt d as w r) (hdd : dd = d) (hsm : ∀ q ∈ sm, ∀ (y : MethodName) (bytes : ByteArray) (maxL : Nat) (rt : Option FieldType) (cdm : ev_Cd), Pg[q.1]? = some ((y, bytes, maxL, rt), cdm) → ev_Met l D cl dA kt Gs y bytes maxL rt q.2.1 q.2.2.2.1 q.2.2.2.2.1 q.2.2.2.2.2) (hok : ev_k1 Gc Ct kt Pg sm own nm cc nL ret cd st.1 i = true) (h : ev_o1 Ct ret sm dd call i st = some o) : ev_SS p l e R s m args below meth c D cl dA kt A ws0 nL cd st o := by
  obtain ⟨ix, L, S, w, nc, ns⟩ := st
  unfold ev_k1 at hok
  unfold ev_o1 at h
  simp only [Bool.and_eq_true, decide_eq_true_eq] at hok
  obtain rfl := Option.some.inj h
  exact fun _ _ Q k => ev_s_iconst X hok.1.1 hok.2 hok.1.2 k
theorem ev_p2 (X : ev_X p s m args c D cl dA kt A Gs own cc nL) (hGc : ∀ (h : Nat) (w : Cond), ev_hg Gc h = some w → w ∈ Gs) (hG : ∀ w ∈ Gs, (w.onTables && w.keeps) = true ∨ ∃ ty, w = .arrayClass ty) (hT : ev_okD Gs cl Ct Pg) (hnm : meth.name = nm) (hret : meth.sig.returnType = ret) (hlk : meth.locks = false) (hRf : R.frames = d + 1) (hRl : R.locals = 90 * (d + 1)) (hcl : ∀ (k : Nat) (as : List (Nat × Nat × Nat)) (w : List ev_C) (r : ev_R), call k as w = some r → ∀ (y : MethodName) (bytes : ByteArray) (maxL : Nat) (rt : Option FieldType) (cdm : ev_Cd), Pg[k]? = some ((y, bytes, maxL, rt), cdm) → ev_Met l D cl dA kt Gs y bytes maxL rt d as w r) (hdd : dd = d) (hsm : ∀ q ∈ sm, ∀ (y : MethodName) (bytes : ByteArray) (maxL : Nat) (rt : Option FieldType) (cdm : ev_Cd), Pg[q.1]? = some ((y, bytes, maxL, rt), cdm) → ev_Met l D cl dA kt Gs y bytes maxL rt q.2.1 q.2.2.2.1 q.2.2.2.2.1 q.2.2.2.2.2) (hok : ev_k2 Gc Ct kt Pg sm own nm cc nL ret cd st.1 i = true) (h : ev_o2 Ct ret sm dd call i st = some o) : ev_SS p l e R s m args below meth c D cl dA kt A ws0 nL cd st o := by
  obtain ⟨ix, L, S, w, nc, ns⟩ := st
  unfold ev_k2 at hok
  unfold ev_o2 at h
  simp only [Bool.and_eq_true, decide_eq_true_eq] at hok
  obtain rfl := Option.some.inj h
  exact fun _ _ Q k => ev_s_bipush X hok.1.1 hok.2 hok.1.2 k
theorem ev_p3 (X : ev_X p s m args c D cl dA kt A Gs own cc nL) (hGc : ∀ (h : Nat) (w : Cond), ev_hg Gc h = some w → w ∈ Gs) (hG : ∀ w ∈ Gs, (w.onTables && w.keeps) = true ∨ ∃ ty, w = .arrayClass ty) (hT : ev_okD Gs cl Ct Pg) (hnm : meth.name = nm) (hret : meth.sig.returnType = ret) (hlk : meth.locks = false) (hRf : R.frames = d + 1) (hRl : R.locals = 90 * (d + 1)) (hcl : ∀ (k : Nat) (as : List (Nat × Nat × Nat)) (w : List ev_C) (r : ev_R), call k as w = some r → ∀ (y : MethodName) (bytes : ByteArray) (maxL : Nat) (rt : Option FieldType) (cdm : ev_Cd), Pg[k]? = some ((y, bytes, maxL, rt), cdm) → ev_Met l D cl dA kt Gs y bytes maxL rt d as w r) (hdd : dd = d) (hsm : ∀ q ∈ sm, ∀ (y : MethodName) (bytes : ByteArray) (maxL : Nat) (rt : Option FieldType) (cdm : ev_Cd), Pg[q.1]? = some ((y, bytes, maxL, rt), cdm) → ev_Met l D cl dA kt Gs y bytes maxL rt q.2.1 q.2.2.2.1 q.2.2.2.2.1 q.2.2.2.2.2) (hok : ev_k3 Gc Ct kt Pg sm own nm cc nL ret cd st.1 i = true) (h : ev_o3 Ct ret sm dd call i st = some o) : ev_SS p l e R s m args below meth c D cl dA kt A ws0 nL cd st o := by
  obtain ⟨ix, L, S, w, nc, ns⟩ := st
  unfold ev_k3 at hok
  unfold ev_o3 at h
  simp only [Bool.and_eq_true, decide_eq_true_eq] at hok
  obtain rfl := Option.some.inj h
  exact fun _ _ Q k => ev_s_sipush X hok.1.1 hok.2 hok.1.2 k
theorem ev_p4 (X : ev_X p s m args c D cl dA kt A Gs own cc nL) (hGc : ∀ (h : Nat) (w : Cond), ev_hg Gc h = some w → w ∈ Gs) (hG : ∀ w ∈ Gs, (w.onTables && w.keeps) = true ∨ ∃ ty, w = .arrayClass ty) (hT : ev_okD Gs cl Ct Pg) (hnm : meth.name = nm) (hret : meth.sig.returnType = ret) (hlk : meth.locks = false) (hRf : R.frames = d + 1) (hRl : R.locals = 90 * (d + 1)) (hcl : ∀ (k : Nat) (as : List (Nat × Nat × Nat)) (w : List ev_C) (r : ev_R), call k as w = some r → ∀ (y : MethodName) (bytes : ByteArray) (maxL : Nat) (rt : Option FieldType) (cdm : ev_Cd), Pg[k]? = some ((y, bytes, maxL, rt), cdm) → ev_Met l D cl dA kt Gs y bytes maxL rt d as w r) (hdd : dd = d) (hsm : ∀ q ∈ sm, ∀ (y : MethodName) (bytes : ByteArray) (maxL : Nat) (rt : Option FieldType) (cdm : ev_Cd), Pg[q.1]? = some ((y, bytes, maxL, rt), cdm) → ev_Met l D cl dA kt Gs y bytes maxL rt q.2.1 q.2.2.2.1 q.2.2.2.2.1 q.2.2.2.2.2) (hok : ev_k4 Gc Ct kt Pg sm own nm cc nL ret cd st.1 i = true) (h : ev_o4 Ct ret sm dd call i st = some o) : ev_SS p l e R s m args below meth c D cl dA kt A ws0 nL cd st o := by
  obtain ⟨ix, L, S, w, nc, ns⟩ := st
  unfold ev_k4 at hok
  unfold ev_o4 at h
  simp only [Bool.and_eq_true, decide_eq_true_eq] at hok
  obtain rfl := Option.some.inj h
  exact fun _ _ Q k => ev_s_ldc X hok.1.1.1 (hGc _ _ hok.1.2) hok.2 hok.1.1.2 k
theorem ev_p5 (X : ev_X p s m args c D cl dA kt A Gs own cc nL) (hGc : ∀ (h : Nat) (w : Cond), ev_hg Gc h = some w → w ∈ Gs) (hG : ∀ w ∈ Gs, (w.onTables && w.keeps) = true ∨ ∃ ty, w = .arrayClass ty) (hT : ev_okD Gs cl Ct Pg) (hnm : meth.name = nm) (hret : meth.sig.returnType = ret) (hlk : meth.locks = false) (hRf : R.frames = d + 1) (hRl : R.locals = 90 * (d + 1)) (hcl : ∀ (k : Nat) (as : List (Nat × Nat × Nat)) (w : List ev_C) (r : ev_R), call k as w = some r → ∀ (y : MethodName) (bytes : ByteArray) (maxL : Nat) (rt : Option FieldType) (cdm : ev_Cd), Pg[k]? = some ((y, bytes, maxL, rt), cdm) → ev_Met l D cl dA kt Gs y bytes maxL rt d as w r) (hdd : dd = d) (hsm : ∀ q ∈ sm, ∀ (y : MethodName) (bytes : ByteArray) (maxL : Nat) (rt : Option FieldType) (cdm : ev_Cd), Pg[q.1]? = some ((y, bytes, maxL, rt), cdm) → ev_Met l D cl dA kt Gs y bytes maxL rt q.2.1 q.2.2.2.1 q.2.2.2.2.1 q.2.2.2.2.2) (hok : ev_k5 Gc Ct kt Pg sm own nm cc nL ret cd st.1 i = true) (h : ev_o5 Ct ret sm dd call i st = some o) : ev_SS p l e R s m args below meth c D cl dA kt A ws0 nL cd st o := by
  obtain ⟨ix, L, S, w, nc, ns⟩ := st
  unfold ev_k5 at hok
  unfold ev_o5 at h
  simp only [Bool.and_eq_true, decide_eq_true_eq] at hok
  obtain rfl := Option.some.inj h
  exact fun _ _ Q k => ev_s_ldcw X hok.1.1.1 (hGc _ _ hok.1.2) hok.2 hok.1.1.2 k
theorem ev_p6 (X : ev_X p s m args c D cl dA kt A Gs own cc nL) (hGc : ∀ (h : Nat) (w : Cond), ev_hg Gc h = some w → w ∈ Gs) (hG : ∀ w ∈ Gs, (w.onTables && w.keeps) = true ∨ ∃ ty, w = .arrayClass ty) (hT : ev_okD Gs cl Ct Pg) (hnm : meth.name = nm) (hret : meth.sig.returnType = ret) (hlk : meth.locks = false) (hRf : R.frames = d + 1) (hRl : R.locals = 90 * (d + 1)) (hcl : ∀ (k : Nat) (as : List (Nat × Nat × Nat)) (w : List ev_C) (r : ev_R), call k as w = some r → ∀ (y : MethodName) (bytes : ByteArray) (maxL : Nat) (rt : Option FieldType) (cdm : ev_Cd), Pg[k]? = some ((y, bytes, maxL, rt), cdm) → ev_Met l D cl dA kt Gs y bytes maxL rt d as w r) (hdd : dd = d) (hsm : ∀ q ∈ sm, ∀ (y : MethodName) (bytes : ByteArray) (maxL : Nat) (rt : Option FieldType) (cdm : ev_Cd), Pg[q.1]? = some ((y, bytes, maxL, rt), cdm) → ev_Met l D cl dA kt Gs y bytes maxL rt q.2.1 q.2.2.2.1 q.2.2.2.2.1 q.2.2.2.2.2) (hok : ev_k6 Gc Ct kt Pg sm own nm cc nL ret cd st.1 i = true) (h : ev_o6 Ct ret sm dd call i st = some o) : ev_SS p l e R s m args below meth c D cl dA kt A ws0 nL cd st o := by
  obtain ⟨ix, L, S, w, nc, ns⟩ := st
  unfold ev_k6 at hok
  unfold ev_o6 at h
  simp only [Bool.and_eq_true, decide_eq_true_eq] at hok
  split at h
  · next v hg =>
    split at h
    · next hv =>
      obtain rfl := Option.some.inj h
      exact fun _ _ Q k => ev_s_iload_n X hok.1.1 (Nat.mod_eq_of_lt hok.2) hok.1.2 hg hv k
    · cases h
  · cases h
theorem ev_p7 (X : ev_X p s m args c D cl dA kt A Gs own cc nL) (hGc : ∀ (h : Nat) (w : Cond), ev_hg Gc h = some w → w ∈ Gs) (hG : ∀ w ∈ Gs, (w.onTables && w.keeps) = true ∨ ∃ ty, w = .arrayClass ty) (hT : ev_okD Gs cl Ct Pg) (hnm : meth.name = nm) (hret : meth.sig.returnType = ret) (hlk : meth.locks = false) (hRf : R.frames = d + 1) (hRl : R.locals = 90 * (d + 1)) (hcl : ∀ (k : Nat) (as : List (Nat × Nat × Nat)) (w : List ev_C) (r : ev_R), call k as w = some r → ∀ (y : MethodName) (bytes : ByteArray) (maxL : Nat) (rt : Option FieldType) (cdm : ev_Cd), Pg[k]? = some ((y, bytes, maxL, rt), cdm) → ev_Met l D cl dA kt Gs y bytes maxL rt d as w r) (hdd : dd = d) (hsm : ∀ q ∈ sm, ∀ (y : MethodName) (bytes : ByteArray) (maxL : Nat) (rt : Option FieldType) (cdm : ev_Cd), Pg[q.1]? = some ((y, bytes, maxL, rt), cdm) → ev_Met l D cl dA kt Gs y bytes maxL rt q.2.1 q.2.2.2.1 q.2.2.2.2.1 q.2.2.2.2.2) (hok : ev_k7 Gc Ct kt Pg sm own nm cc nL ret cd st.1 i = true) (h : ev_o7 Ct ret sm dd call i st = some o) : ev_SS p l e R s m args below meth c D cl dA kt A ws0 nL cd st o := by
  obtain ⟨ix, L, S, w, nc, ns⟩ := st
  unfold ev_k7 at hok
  unfold ev_o7 at h
  simp only [Bool.and_eq_true, decide_eq_true_eq] at hok
  split at h
  · next v hg =>
    split at h
    · next hv =>
      obtain rfl := Option.some.inj h
      exact fun _ _ Q k => ev_s_iload X hok.1 hok.2 hg hv k
    · cases h
  · cases h
theorem ev_p8 (X : ev_X p s m args c D cl dA kt A Gs own cc nL) (hGc : ∀ (h : Nat) (w : Cond), ev_hg Gc h = some w → w ∈ Gs) (hG : ∀ w ∈ Gs, (w.onTables && w.keeps) = true ∨ ∃ ty, w = .arrayClass ty) (hT : ev_okD Gs cl Ct Pg) (hnm : meth.name = nm) (hret : meth.sig.returnType = ret) (hlk : meth.locks = false) (hRf : R.frames = d + 1) (hRl : R.locals = 90 * (d + 1)) (hcl : ∀ (k : Nat) (as : List (Nat × Nat × Nat)) (w : List ev_C) (r : ev_R), call k as w = some r → ∀ (y : MethodName) (bytes : ByteArray) (maxL : Nat) (rt : Option FieldType) (cdm : ev_Cd), Pg[k]? = some ((y, bytes, maxL, rt), cdm) → ev_Met l D cl dA kt Gs y bytes maxL rt d as w r) (hdd : dd = d) (hsm : ∀ q ∈ sm, ∀ (y : MethodName) (bytes : ByteArray) (maxL : Nat) (rt : Option FieldType) (cdm : ev_Cd), Pg[q.1]? = some ((y, bytes, maxL, rt), cdm) → ev_Met l D cl dA kt Gs y bytes maxL rt q.2.1 q.2.2.2.1 q.2.2.2.2.1 q.2.2.2.2.2) (hok : ev_k8 Gc Ct kt Pg sm own nm cc nL ret cd st.1 i = true) (h : ev_o8 Ct ret sm dd call i st = some o) : ev_SS p l e R s m args below meth c D cl dA kt A ws0 nL cd st o := by
  obtain ⟨ix, L, S, w, nc, ns⟩ := st
  unfold ev_k8 at hok
  unfold ev_o8 at h
  simp only [Bool.and_eq_true, decide_eq_true_eq] at hok
  split at h
  · next v hg =>
    split at h
    · next hv =>
      obtain rfl := Option.some.inj h
      exact fun _ _ Q k => ev_s_aload_n X hok.1.1 (Nat.mod_eq_of_lt hok.2) hok.1.2 hg hv k
    · cases h
  · cases h
theorem ev_p9 (X : ev_X p s m args c D cl dA kt A Gs own cc nL) (hGc : ∀ (h : Nat) (w : Cond), ev_hg Gc h = some w → w ∈ Gs) (hG : ∀ w ∈ Gs, (w.onTables && w.keeps) = true ∨ ∃ ty, w = .arrayClass ty) (hT : ev_okD Gs cl Ct Pg) (hnm : meth.name = nm) (hret : meth.sig.returnType = ret) (hlk : meth.locks = false) (hRf : R.frames = d + 1) (hRl : R.locals = 90 * (d + 1)) (hcl : ∀ (k : Nat) (as : List (Nat × Nat × Nat)) (w : List ev_C) (r : ev_R), call k as w = some r → ∀ (y : MethodName) (bytes : ByteArray) (maxL : Nat) (rt : Option FieldType) (cdm : ev_Cd), Pg[k]? = some ((y, bytes, maxL, rt), cdm) → ev_Met l D cl dA kt Gs y bytes maxL rt d as w r) (hdd : dd = d) (hsm : ∀ q ∈ sm, ∀ (y : MethodName) (bytes : ByteArray) (maxL : Nat) (rt : Option FieldType) (cdm : ev_Cd), Pg[q.1]? = some ((y, bytes, maxL, rt), cdm) → ev_Met l D cl dA kt Gs y bytes maxL rt q.2.1 q.2.2.2.1 q.2.2.2.2.1 q.2.2.2.2.2) (hok : ev_k9 Gc Ct kt Pg sm own nm cc nL ret cd st.1 i = true) (h : ev_o9 Ct ret sm dd call i st = some o) : ev_SS p l e R s m args below meth c D cl dA kt A ws0 nL cd st o := by
  obtain ⟨ix, L, S, w, nc, ns⟩ := st
  unfold ev_k9 at hok
  unfold ev_o9 at h
  simp only [Bool.and_eq_true, decide_eq_true_eq] at hok
  split at h
  · next v hg =>
    split at h
    · next hv =>
      obtain rfl := Option.some.inj h
      exact fun _ _ Q k => ev_s_aload X hok.1 hok.2 hg hv k
    · cases h
  · cases h
theorem ev_p10 (X : ev_X p s m args c D cl dA kt A Gs own cc nL) (hGc : ∀ (h : Nat) (w : Cond), ev_hg Gc h = some w → w ∈ Gs) (hG : ∀ w ∈ Gs, (w.onTables && w.keeps) = true ∨ ∃ ty, w = .arrayClass ty) (hT : ev_okD Gs cl Ct Pg) (hnm : meth.name = nm) (hret : meth.sig.returnType = ret) (hlk : meth.locks = false) (hRf : R.frames = d + 1) (hRl : R.locals = 90 * (d + 1)) (hcl : ∀ (k : Nat) (as : List (Nat × Nat × Nat)) (w : List ev_C) (r : ev_R), call k as w = some r → ∀ (y : MethodName) (bytes : ByteArray) (maxL : Nat) (rt : Option FieldType) (cdm : ev_Cd), Pg[k]? = some ((y, bytes, maxL, rt), cdm) → ev_Met l D cl dA kt Gs y bytes maxL rt d as w r) (hdd : dd = d) (hsm : ∀ q ∈ sm, ∀ (y : MethodName) (bytes : ByteArray) (maxL : Nat) (rt : Option FieldType) (cdm : ev_Cd), Pg[q.1]? = some ((y, bytes, maxL, rt), cdm) → ev_Met l D cl dA kt Gs y bytes maxL rt q.2.1 q.2.2.2.1 q.2.2.2.2.1 q.2.2.2.2.2) (hok : ev_k10 Gc Ct kt Pg sm own nm cc nL ret cd st.1 i = true) (h : ev_o10 Ct ret sm dd call i st = some o) : ev_SS p l e R s m args below meth c D cl dA kt A ws0 nL cd st o := by
  obtain ⟨ix, L, S, w, nc, ns⟩ := st
  unfold ev_k10 at hok
  unfold ev_o10 at h
  simp only [Bool.and_eq_true, decide_eq_true_eq] at hok
  split at h
  · next v S1 hS =>
    have hS : S = v :: S1 := hS
    subst hS
    split at h
    · next hv =>
      obtain rfl := Option.some.inj h
      exact fun _ _ Q k => ev_s_istore_n X hok.1.1.1 (Nat.mod_eq_of_lt hok.1.2) hok.1.1.2 hok.2 hv k
    · cases h
  · cases h
theorem ev_p11 (X : ev_X p s m args c D cl dA kt A Gs own cc nL) (hGc : ∀ (h : Nat) (w : Cond), ev_hg Gc h = some w → w ∈ Gs) (hG : ∀ w ∈ Gs, (w.onTables && w.keeps) = true ∨ ∃ ty, w = .arrayClass ty) (hT : ev_okD Gs cl Ct Pg) (hnm : meth.name = nm) (hret : meth.sig.returnType = ret) (hlk : meth.locks = false) (hRf : R.frames = d + 1) (hRl : R.locals = 90 * (d + 1)) (hcl : ∀ (k : Nat) (as : List (Nat × Nat × Nat)) (w : List ev_C) (r : ev_R), call k as w = some r → ∀ (y : MethodName) (bytes : ByteArray) (maxL : Nat) (rt : Option FieldType) (cdm : ev_Cd), Pg[k]? = some ((y, bytes, maxL, rt), cdm) → ev_Met l D cl dA kt Gs y bytes maxL rt d as w r) (hdd : dd = d) (hsm : ∀ q ∈ sm, ∀ (y : MethodName) (bytes : ByteArray) (maxL : Nat) (rt : Option FieldType) (cdm : ev_Cd), Pg[q.1]? = some ((y, bytes, maxL, rt), cdm) → ev_Met l D cl dA kt Gs y bytes maxL rt q.2.1 q.2.2.2.1 q.2.2.2.2.1 q.2.2.2.2.2) (hok : ev_k11 Gc Ct kt Pg sm own nm cc nL ret cd st.1 i = true) (h : ev_o11 Ct ret sm dd call i st = some o) : ev_SS p l e R s m args below meth c D cl dA kt A ws0 nL cd st o := by
  obtain ⟨ix, L, S, w, nc, ns⟩ := st
  unfold ev_k11 at hok
  unfold ev_o11 at h
  simp only [Bool.and_eq_true, decide_eq_true_eq] at hok
  split at h
  · next v S1 hS =>
    have hS : S = v :: S1 := hS
    subst hS
    split at h
    · next hv =>
      obtain rfl := Option.some.inj h
      exact fun _ _ Q k => ev_s_istore X hok.1.1 hok.1.2 hok.2 hv k
    · cases h
  · cases h
theorem ev_p12 (X : ev_X p s m args c D cl dA kt A Gs own cc nL) (hGc : ∀ (h : Nat) (w : Cond), ev_hg Gc h = some w → w ∈ Gs) (hG : ∀ w ∈ Gs, (w.onTables && w.keeps) = true ∨ ∃ ty, w = .arrayClass ty) (hT : ev_okD Gs cl Ct Pg) (hnm : meth.name = nm) (hret : meth.sig.returnType = ret) (hlk : meth.locks = false) (hRf : R.frames = d + 1) (hRl : R.locals = 90 * (d + 1)) (hcl : ∀ (k : Nat) (as : List (Nat × Nat × Nat)) (w : List ev_C) (r : ev_R), call k as w = some r → ∀ (y : MethodName) (bytes : ByteArray) (maxL : Nat) (rt : Option FieldType) (cdm : ev_Cd), Pg[k]? = some ((y, bytes, maxL, rt), cdm) → ev_Met l D cl dA kt Gs y bytes maxL rt d as w r) (hdd : dd = d) (hsm : ∀ q ∈ sm, ∀ (y : MethodName) (bytes : ByteArray) (maxL : Nat) (rt : Option FieldType) (cdm : ev_Cd), Pg[q.1]? = some ((y, bytes, maxL, rt), cdm) → ev_Met l D cl dA kt Gs y bytes maxL rt q.2.1 q.2.2.2.1 q.2.2.2.2.1 q.2.2.2.2.2) (hok : ev_k12 Gc Ct kt Pg sm own nm cc nL ret cd st.1 i = true) (h : ev_o12 Ct ret sm dd call i st = some o) : ev_SS p l e R s m args below meth c D cl dA kt A ws0 nL cd st o := by
  obtain ⟨ix, L, S, w, nc, ns⟩ := st
  unfold ev_k12 at hok
  unfold ev_o12 at h
  simp only [Bool.and_eq_true, decide_eq_true_eq] at hok
  split at h
  · next v S1 hS =>
    have hS : S = v :: S1 := hS
    subst hS
    split at h
    · next hv =>
      obtain rfl := Option.some.inj h
      exact fun _ _ Q k => ev_s_astore_n X hok.1.1.1 (Nat.mod_eq_of_lt hok.1.2) hok.1.1.2 hok.2 hv k
    · cases h
  · cases h
theorem ev_p13 (X : ev_X p s m args c D cl dA kt A Gs own cc nL) (hGc : ∀ (h : Nat) (w : Cond), ev_hg Gc h = some w → w ∈ Gs) (hG : ∀ w ∈ Gs, (w.onTables && w.keeps) = true ∨ ∃ ty, w = .arrayClass ty) (hT : ev_okD Gs cl Ct Pg) (hnm : meth.name = nm) (hret : meth.sig.returnType = ret) (hlk : meth.locks = false) (hRf : R.frames = d + 1) (hRl : R.locals = 90 * (d + 1)) (hcl : ∀ (k : Nat) (as : List (Nat × Nat × Nat)) (w : List ev_C) (r : ev_R), call k as w = some r → ∀ (y : MethodName) (bytes : ByteArray) (maxL : Nat) (rt : Option FieldType) (cdm : ev_Cd), Pg[k]? = some ((y, bytes, maxL, rt), cdm) → ev_Met l D cl dA kt Gs y bytes maxL rt d as w r) (hdd : dd = d) (hsm : ∀ q ∈ sm, ∀ (y : MethodName) (bytes : ByteArray) (maxL : Nat) (rt : Option FieldType) (cdm : ev_Cd), Pg[q.1]? = some ((y, bytes, maxL, rt), cdm) → ev_Met l D cl dA kt Gs y bytes maxL rt q.2.1 q.2.2.2.1 q.2.2.2.2.1 q.2.2.2.2.2) (hok : ev_k13 Gc Ct kt Pg sm own nm cc nL ret cd st.1 i = true) (h : ev_o13 Ct ret sm dd call i st = some o) : ev_SS p l e R s m args below meth c D cl dA kt A ws0 nL cd st o := by
  obtain ⟨ix, L, S, w, nc, ns⟩ := st
  unfold ev_k13 at hok
  unfold ev_o13 at h
  simp only [Bool.and_eq_true, decide_eq_true_eq] at hok
  split at h
  · next v S1 hS =>
    have hS : S = v :: S1 := hS
    subst hS
    split at h
    · next hv =>
      obtain rfl := Option.some.inj h
      exact fun _ _ Q k => ev_s_astore X hok.1.1 hok.1.2 hok.2 hv k
    · cases h
  · cases h
theorem ev_p14 (X : ev_X p s m args c D cl dA kt A Gs own cc nL) (hGc : ∀ (h : Nat) (w : Cond), ev_hg Gc h = some w → w ∈ Gs) (hG : ∀ w ∈ Gs, (w.onTables && w.keeps) = true ∨ ∃ ty, w = .arrayClass ty) (hT : ev_okD Gs cl Ct Pg) (hnm : meth.name = nm) (hret : meth.sig.returnType = ret) (hlk : meth.locks = false) (hRf : R.frames = d + 1) (hRl : R.locals = 90 * (d + 1)) (hcl : ∀ (k : Nat) (as : List (Nat × Nat × Nat)) (w : List ev_C) (r : ev_R), call k as w = some r → ∀ (y : MethodName) (bytes : ByteArray) (maxL : Nat) (rt : Option FieldType) (cdm : ev_Cd), Pg[k]? = some ((y, bytes, maxL, rt), cdm) → ev_Met l D cl dA kt Gs y bytes maxL rt d as w r) (hdd : dd = d) (hsm : ∀ q ∈ sm, ∀ (y : MethodName) (bytes : ByteArray) (maxL : Nat) (rt : Option FieldType) (cdm : ev_Cd), Pg[q.1]? = some ((y, bytes, maxL, rt), cdm) → ev_Met l D cl dA kt Gs y bytes maxL rt q.2.1 q.2.2.2.1 q.2.2.2.2.1 q.2.2.2.2.2) (hok : ev_k14 Gc Ct kt Pg sm own nm cc nL ret cd st.1 i = true) (h : ev_o14 Ct ret sm dd call i st = some o) : ev_SS p l e R s m args below meth c D cl dA kt A ws0 nL cd st o := by
  obtain ⟨ix, L, S, w, nc, ns⟩ := st
  unfold ev_k14 at hok
  unfold ev_o14 at h
  simp only [Bool.and_eq_true, decide_eq_true_eq] at hok
  split at h
  · next v hg =>
    split at h
    · next hv =>
      obtain rfl := Option.some.inj h
      exact fun _ _ Q k => ev_s_iinc X hok.1.1.1 (ev_in_eq hok.1.2) hok.1.1.2 hok.2 hg hv.1 hv.2 k
    · cases h
  · cases h
theorem ev_p15 (X : ev_X p s m args c D cl dA kt A Gs own cc nL) (hGc : ∀ (h : Nat) (w : Cond), ev_hg Gc h = some w → w ∈ Gs) (hG : ∀ w ∈ Gs, (w.onTables && w.keeps) = true ∨ ∃ ty, w = .arrayClass ty) (hT : ev_okD Gs cl Ct Pg) (hnm : meth.name = nm) (hret : meth.sig.returnType = ret) (hlk : meth.locks = false) (hRf : R.frames = d + 1) (hRl : R.locals = 90 * (d + 1)) (hcl : ∀ (k : Nat) (as : List (Nat × Nat × Nat)) (w : List ev_C) (r : ev_R), call k as w = some r → ∀ (y : MethodName) (bytes : ByteArray) (maxL : Nat) (rt : Option FieldType) (cdm : ev_Cd), Pg[k]? = some ((y, bytes, maxL, rt), cdm) → ev_Met l D cl dA kt Gs y bytes maxL rt d as w r) (hdd : dd = d) (hsm : ∀ q ∈ sm, ∀ (y : MethodName) (bytes : ByteArray) (maxL : Nat) (rt : Option FieldType) (cdm : ev_Cd), Pg[q.1]? = some ((y, bytes, maxL, rt), cdm) → ev_Met l D cl dA kt Gs y bytes maxL rt q.2.1 q.2.2.2.1 q.2.2.2.2.1 q.2.2.2.2.2) (hok : ev_k15 Gc Ct kt Pg sm own nm cc nL ret cd st.1 i = true) (h : ev_o15 Ct ret sm dd call i st = some o) : ev_SS p l e R s m args below meth c D cl dA kt A ws0 nL cd st o := by
  obtain ⟨ix, L, S, w, nc, ns⟩ := st
  unfold ev_k15 at hok
  unfold ev_o15 at h
  simp only [Bool.and_eq_true, decide_eq_true_eq] at hok
  split at h
  · next y x S1 hS =>
    have hS : S = y :: x :: S1 := hS
    subst hS
    split at h
    · next hv =>
      obtain rfl := Option.some.inj h
      exact fun _ _ Q k => ev_s_bin hv.1 hv.2.1 hv.2.2 (fun _ _ a b => ev_fadd_in a b) hok.2 (fun i j k9 => lv_iadd X.1.1 X.1.2.1 hok.1 k9) k
    · cases h
  · cases h
theorem ev_p16 (X : ev_X p s m args c D cl dA kt A Gs own cc nL) (hGc : ∀ (h : Nat) (w : Cond), ev_hg Gc h = some w → w ∈ Gs) (hG : ∀ w ∈ Gs, (w.onTables && w.keeps) = true ∨ ∃ ty, w = .arrayClass ty) (hT : ev_okD Gs cl Ct Pg) (hnm : meth.name = nm) (hret : meth.sig.returnType = ret) (hlk : meth.locks = false) (hRf : R.frames = d + 1) (hRl : R.locals = 90 * (d + 1)) (hcl : ∀ (k : Nat) (as : List (Nat × Nat × Nat)) (w : List ev_C) (r : ev_R), call k as w = some r → ∀ (y : MethodName) (bytes : ByteArray) (maxL : Nat) (rt : Option FieldType) (cdm : ev_Cd), Pg[k]? = some ((y, bytes, maxL, rt), cdm) → ev_Met l D cl dA kt Gs y bytes maxL rt d as w r) (hdd : dd = d) (hsm : ∀ q ∈ sm, ∀ (y : MethodName) (bytes : ByteArray) (maxL : Nat) (rt : Option FieldType) (cdm : ev_Cd), Pg[q.1]? = some ((y, bytes, maxL, rt), cdm) → ev_Met l D cl dA kt Gs y bytes maxL rt q.2.1 q.2.2.2.1 q.2.2.2.2.1 q.2.2.2.2.2) (hok : ev_k16 Gc Ct kt Pg sm own nm cc nL ret cd st.1 i = true) (h : ev_o16 Ct ret sm dd call i st = some o) : ev_SS p l e R s m args below meth c D cl dA kt A ws0 nL cd st o := by
  obtain ⟨ix, L, S, w, nc, ns⟩ := st
  unfold ev_k16 at hok
  unfold ev_o16 at h
  simp only [Bool.and_eq_true, decide_eq_true_eq] at hok
  split at h
  · next y x S1 hS =>
    have hS : S = y :: x :: S1 := hS
    subst hS
    split at h
    · next hv =>
      obtain rfl := Option.some.inj h
      exact fun _ _ Q k => ev_s_bin hv.1 hv.2.1 hv.2.2 (fun _ _ a b => ev_fsub_in a b) hok.2 (fun i j k9 => lv_isub X.1.1 X.1.2.1 hok.1 k9) k
    · cases h
  · cases h
theorem ev_p17 (X : ev_X p s m args c D cl dA kt A Gs own cc nL) (hGc : ∀ (h : Nat) (w : Cond), ev_hg Gc h = some w → w ∈ Gs) (hG : ∀ w ∈ Gs, (w.onTables && w.keeps) = true ∨ ∃ ty, w = .arrayClass ty) (hT : ev_okD Gs cl Ct Pg) (hnm : meth.name = nm) (hret : meth.sig.returnType = ret) (hlk : meth.locks = false) (hRf : R.frames = d + 1) (hRl : R.locals = 90 * (d + 1)) (hcl : ∀ (k : Nat) (as : List (Nat × Nat × Nat)) (w : List ev_C) (r : ev_R), call k as w = some r → ∀ (y : MethodName) (bytes : ByteArray) (maxL : Nat) (rt : Option FieldType) (cdm : ev_Cd), Pg[k]? = some ((y, bytes, maxL, rt), cdm) → ev_Met l D cl dA kt Gs y bytes maxL rt d as w r) (hdd : dd = d) (hsm : ∀ q ∈ sm, ∀ (y : MethodName) (bytes : ByteArray) (maxL : Nat) (rt : Option FieldType) (cdm : ev_Cd), Pg[q.1]? = some ((y, bytes, maxL, rt), cdm) → ev_Met l D cl dA kt Gs y bytes maxL rt q.2.1 q.2.2.2.1 q.2.2.2.2.1 q.2.2.2.2.2) (hok : ev_k17 Gc Ct kt Pg sm own nm cc nL ret cd st.1 i = true) (h : ev_o17 Ct ret sm dd call i st = some o) : ev_SS p l e R s m args below meth c D cl dA kt A ws0 nL cd st o := by
  obtain ⟨ix, L, S, w, nc, ns⟩ := st
  unfold ev_k17 at hok
  unfold ev_o17 at h
  simp only [Bool.and_eq_true, decide_eq_true_eq] at hok
  split at h
  · next y x S1 hS =>
    have hS : S = y :: x :: S1 := hS
    subst hS
    split at h
    · next hv =>
      obtain rfl := Option.some.inj h
      exact fun _ _ Q k => ev_s_bin hv.1 hv.2.1 hv.2.2 (fun _ _ a b => ev_fmul_in a b) hok.2 (fun i j k9 => lv_imul X.1.1 X.1.2.1 hok.1 k9) k
    · cases h
  · cases h
theorem ev_p18 (X : ev_X p s m args c D cl dA kt A Gs own cc nL) (hGc : ∀ (h : Nat) (w : Cond), ev_hg Gc h = some w → w ∈ Gs) (hG : ∀ w ∈ Gs, (w.onTables && w.keeps) = true ∨ ∃ ty, w = .arrayClass ty) (hT : ev_okD Gs cl Ct Pg) (hnm : meth.name = nm) (hret : meth.sig.returnType = ret) (hlk : meth.locks = false) (hRf : R.frames = d + 1) (hRl : R.locals = 90 * (d + 1)) (hcl : ∀ (k : Nat) (as : List (Nat × Nat × Nat)) (w : List ev_C) (r : ev_R), call k as w = some r → ∀ (y : MethodName) (bytes : ByteArray) (maxL : Nat) (rt : Option FieldType) (cdm : ev_Cd), Pg[k]? = some ((y, bytes, maxL, rt), cdm) → ev_Met l D cl dA kt Gs y bytes maxL rt d as w r) (hdd : dd = d) (hsm : ∀ q ∈ sm, ∀ (y : MethodName) (bytes : ByteArray) (maxL : Nat) (rt : Option FieldType) (cdm : ev_Cd), Pg[q.1]? = some ((y, bytes, maxL, rt), cdm) → ev_Met l D cl dA kt Gs y bytes maxL rt q.2.1 q.2.2.2.1 q.2.2.2.2.1 q.2.2.2.2.2) (hok : ev_k18 Gc Ct kt Pg sm own nm cc nL ret cd st.1 i = true) (h : ev_o18 Ct ret sm dd call i st = some o) : ev_SS p l e R s m args below meth c D cl dA kt A ws0 nL cd st o := by
  obtain ⟨ix, L, S, w, nc, ns⟩ := st
  unfold ev_k18 at hok
  unfold ev_o18 at h
  simp only [Bool.and_eq_true, decide_eq_true_eq] at hok
  split at h
  · next y x S1 hS =>
    have hS : S = y :: x :: S1 := hS
    subst hS
    split at h
    · next hv =>
      obtain rfl := Option.some.inj h
      exact fun _ _ Q k => ev_s_bin hv.1 hv.2.1 hv.2.2 (fun _ _ a b => ev_fand_in a b) hok.2 (fun i j k9 => lv_iand X.1.1 X.1.2.1 hok.1 k9) k
    · cases h
  · cases h
theorem ev_p19 (X : ev_X p s m args c D cl dA kt A Gs own cc nL) (hGc : ∀ (h : Nat) (w : Cond), ev_hg Gc h = some w → w ∈ Gs) (hG : ∀ w ∈ Gs, (w.onTables && w.keeps) = true ∨ ∃ ty, w = .arrayClass ty) (hT : ev_okD Gs cl Ct Pg) (hnm : meth.name = nm) (hret : meth.sig.returnType = ret) (hlk : meth.locks = false) (hRf : R.frames = d + 1) (hRl : R.locals = 90 * (d + 1)) (hcl : ∀ (k : Nat) (as : List (Nat × Nat × Nat)) (w : List ev_C) (r : ev_R), call k as w = some r → ∀ (y : MethodName) (bytes : ByteArray) (maxL : Nat) (rt : Option FieldType) (cdm : ev_Cd), Pg[k]? = some ((y, bytes, maxL, rt), cdm) → ev_Met l D cl dA kt Gs y bytes maxL rt d as w r) (hdd : dd = d) (hsm : ∀ q ∈ sm, ∀ (y : MethodName) (bytes : ByteArray) (maxL : Nat) (rt : Option FieldType) (cdm : ev_Cd), Pg[q.1]? = some ((y, bytes, maxL, rt), cdm) → ev_Met l D cl dA kt Gs y bytes maxL rt q.2.1 q.2.2.2.1 q.2.2.2.2.1 q.2.2.2.2.2) (hok : ev_k19 Gc Ct kt Pg sm own nm cc nL ret cd st.1 i = true) (h : ev_o19 Ct ret sm dd call i st = some o) : ev_SS p l e R s m args below meth c D cl dA kt A ws0 nL cd st o := by
  obtain ⟨ix, L, S, w, nc, ns⟩ := st
  unfold ev_k19 at hok
  unfold ev_o19 at h
  simp only [Bool.and_eq_true, decide_eq_true_eq] at hok
  split at h
  · next y x S1 hS =>
    have hS : S = y :: x :: S1 := hS
    subst hS
    split at h
    · next hv =>
      obtain rfl := Option.some.inj h
      exact fun _ _ Q k => ev_s_bin hv.1 hv.2 rfl (fun _ _ _ _ => ev_full_in _) hok.2 (fun i j k9 => lv_ior X.1.1 X.1.2.1 hok.1 k9) k
    · cases h
  · cases h
theorem ev_p20 (X : ev_X p s m args c D cl dA kt A Gs own cc nL) (hGc : ∀ (h : Nat) (w : Cond), ev_hg Gc h = some w → w ∈ Gs) (hG : ∀ w ∈ Gs, (w.onTables && w.keeps) = true ∨ ∃ ty, w = .arrayClass ty) (hT : ev_okD Gs cl Ct Pg) (hnm : meth.name = nm) (hret : meth.sig.returnType = ret) (hlk : meth.locks = false) (hRf : R.frames = d + 1) (hRl : R.locals = 90 * (d + 1)) (hcl : ∀ (k : Nat) (as : List (Nat × Nat × Nat)) (w : List ev_C) (r : ev_R), call k as w = some r → ∀ (y : MethodName) (bytes : ByteArray) (maxL : Nat) (rt : Option FieldType) (cdm : ev_Cd), Pg[k]? = some ((y, bytes, maxL, rt), cdm) → ev_Met l D cl dA kt Gs y bytes maxL rt d as w r) (hdd : dd = d) (hsm : ∀ q ∈ sm, ∀ (y : MethodName) (bytes : ByteArray) (maxL : Nat) (rt : Option FieldType) (cdm : ev_Cd), Pg[q.1]? = some ((y, bytes, maxL, rt), cdm) → ev_Met l D cl dA kt Gs y bytes maxL rt q.2.1 q.2.2.2.1 q.2.2.2.2.1 q.2.2.2.2.2) (hok : ev_k20 Gc Ct kt Pg sm own nm cc nL ret cd st.1 i = true) (h : ev_o20 Ct ret sm dd call i st = some o) : ev_SS p l e R s m args below meth c D cl dA kt A ws0 nL cd st o := by
  obtain ⟨ix, L, S, w, nc, ns⟩ := st
  unfold ev_k20 at hok
  unfold ev_o20 at h
  simp only [Bool.and_eq_true, decide_eq_true_eq] at hok
  split at h
  · next y x S1 hS =>
    have hS : S = y :: x :: S1 := hS
    subst hS
    split at h
    · next hv =>
      obtain rfl := Option.some.inj h
      exact fun _ _ Q k => ev_s_bin hv.1 hv.2 rfl (fun _ _ _ _ => ev_full_in _) hok.2 (fun i j k9 => lv_ixor X.1.1 X.1.2.1 hok.1 k9) k
    · cases h
  · cases h
theorem ev_p21 (X : ev_X p s m args c D cl dA kt A Gs own cc nL) (hGc : ∀ (h : Nat) (w : Cond), ev_hg Gc h = some w → w ∈ Gs) (hG : ∀ w ∈ Gs, (w.onTables && w.keeps) = true ∨ ∃ ty, w = .arrayClass ty) (hT : ev_okD Gs cl Ct Pg) (hnm : meth.name = nm) (hret : meth.sig.returnType = ret) (hlk : meth.locks = false) (hRf : R.frames = d + 1) (hRl : R.locals = 90 * (d + 1)) (hcl : ∀ (k : Nat) (as : List (Nat × Nat × Nat)) (w : List ev_C) (r : ev_R), call k as w = some r → ∀ (y : MethodName) (bytes : ByteArray) (maxL : Nat) (rt : Option FieldType) (cdm : ev_Cd), Pg[k]? = some ((y, bytes, maxL, rt), cdm) → ev_Met l D cl dA kt Gs y bytes maxL rt d as w r) (hdd : dd = d) (hsm : ∀ q ∈ sm, ∀ (y : MethodName) (bytes : ByteArray) (maxL : Nat) (rt : Option FieldType) (cdm : ev_Cd), Pg[q.1]? = some ((y, bytes, maxL, rt), cdm) → ev_Met l D cl dA kt Gs y bytes maxL rt q.2.1 q.2.2.2.1 q.2.2.2.2.1 q.2.2.2.2.2) (hok : ev_k21 Gc Ct kt Pg sm own nm cc nL ret cd st.1 i = true) (h : ev_o21 Ct ret sm dd call i st = some o) : ev_SS p l e R s m args below meth c D cl dA kt A ws0 nL cd st o := by
  obtain ⟨ix, L, S, w, nc, ns⟩ := st
  unfold ev_k21 at hok
  unfold ev_o21 at h
  simp only [Bool.and_eq_true, decide_eq_true_eq] at hok
  split at h
  · next y x S1 hS =>
    have hS : S = y :: x :: S1 := hS
    subst hS
    split at h
    · next hv =>
      obtain rfl := Option.some.inj h
      exact fun _ _ Q k => ev_s_bin hv.1 hv.2 rfl (fun _ _ _ _ => ev_full_in _) hok.2 (fun i j k9 => lv_ishl X.1.1 X.1.2.1 hok.1 k9) k
    · cases h
  · cases h
theorem ev_p22 (X : ev_X p s m args c D cl dA kt A Gs own cc nL) (hGc : ∀ (h : Nat) (w : Cond), ev_hg Gc h = some w → w ∈ Gs) (hG : ∀ w ∈ Gs, (w.onTables && w.keeps) = true ∨ ∃ ty, w = .arrayClass ty) (hT : ev_okD Gs cl Ct Pg) (hnm : meth.name = nm) (hret : meth.sig.returnType = ret) (hlk : meth.locks = false) (hRf : R.frames = d + 1) (hRl : R.locals = 90 * (d + 1)) (hcl : ∀ (k : Nat) (as : List (Nat × Nat × Nat)) (w : List ev_C) (r : ev_R), call k as w = some r → ∀ (y : MethodName) (bytes : ByteArray) (maxL : Nat) (rt : Option FieldType) (cdm : ev_Cd), Pg[k]? = some ((y, bytes, maxL, rt), cdm) → ev_Met l D cl dA kt Gs y bytes maxL rt d as w r) (hdd : dd = d) (hsm : ∀ q ∈ sm, ∀ (y : MethodName) (bytes : ByteArray) (maxL : Nat) (rt : Option FieldType) (cdm : ev_Cd), Pg[q.1]? = some ((y, bytes, maxL, rt), cdm) → ev_Met l D cl dA kt Gs y bytes maxL rt q.2.1 q.2.2.2.1 q.2.2.2.2.1 q.2.2.2.2.2) (hok : ev_k22 Gc Ct kt Pg sm own nm cc nL ret cd st.1 i = true) (h : ev_o22 Ct ret sm dd call i st = some o) : ev_SS p l e R s m args below meth c D cl dA kt A ws0 nL cd st o := by
  obtain ⟨ix, L, S, w, nc, ns⟩ := st
  unfold ev_k22 at hok
  unfold ev_o22 at h
  simp only [Bool.and_eq_true, decide_eq_true_eq] at hok
  split at h
  · next v S1 hS =>
    have hS : S = v :: S1 := hS
    subst hS
    split at h
    · next hv =>
      obtain rfl := Option.some.inj h
      exact fun _ _ Q k => ev_s_dup X hok.1 hok.2 hv k
    · cases h
  · cases h
theorem ev_p23 (X : ev_X p s m args c D cl dA kt A Gs own cc nL) (hGc : ∀ (h : Nat) (w : Cond), ev_hg Gc h = some w → w ∈ Gs) (hG : ∀ w ∈ Gs, (w.onTables && w.keeps) = true ∨ ∃ ty, w = .arrayClass ty) (hT : ev_okD Gs cl Ct Pg) (hnm : meth.name = nm) (hret : meth.sig.returnType = ret) (hlk : meth.locks = false) (hRf : R.frames = d + 1) (hRl : R.locals = 90 * (d + 1)) (hcl : ∀ (k : Nat) (as : List (Nat × Nat × Nat)) (w : List ev_C) (r : ev_R), call k as w = some r → ∀ (y : MethodName) (bytes : ByteArray) (maxL : Nat) (rt : Option FieldType) (cdm : ev_Cd), Pg[k]? = some ((y, bytes, maxL, rt), cdm) → ev_Met l D cl dA kt Gs y bytes maxL rt d as w r) (hdd : dd = d) (hsm : ∀ q ∈ sm, ∀ (y : MethodName) (bytes : ByteArray) (maxL : Nat) (rt : Option FieldType) (cdm : ev_Cd), Pg[q.1]? = some ((y, bytes, maxL, rt), cdm) → ev_Met l D cl dA kt Gs y bytes maxL rt q.2.1 q.2.2.2.1 q.2.2.2.2.1 q.2.2.2.2.2) (hok : ev_k23 Gc Ct kt Pg sm own nm cc nL ret cd st.1 i = true) (h : ev_o23 Ct ret sm dd call i st = some o) : ev_SS p l e R s m args below meth c D cl dA kt A ws0 nL cd st o := by
  obtain ⟨ix, L, S, w, nc, ns⟩ := st
  unfold ev_k23 at hok
  unfold ev_o23 at h
  simp only [Bool.and_eq_true, decide_eq_true_eq] at hok
  split at h
  · next v S1 hS =>
    have hS : S = v :: S1 := hS
    subst hS
    split at h
    · next hv =>
      obtain rfl := Option.some.inj h
      exact fun _ _ Q k => ev_s_pop X hok.1 hok.2 hv k
    · cases h
  · cases h
theorem ev_p24 (X : ev_X p s m args c D cl dA kt A Gs own cc nL) (hGc : ∀ (h : Nat) (w : Cond), ev_hg Gc h = some w → w ∈ Gs) (hG : ∀ w ∈ Gs, (w.onTables && w.keeps) = true ∨ ∃ ty, w = .arrayClass ty) (hT : ev_okD Gs cl Ct Pg) (hnm : meth.name = nm) (hret : meth.sig.returnType = ret) (hlk : meth.locks = false) (hRf : R.frames = d + 1) (hRl : R.locals = 90 * (d + 1)) (hcl : ∀ (k : Nat) (as : List (Nat × Nat × Nat)) (w : List ev_C) (r : ev_R), call k as w = some r → ∀ (y : MethodName) (bytes : ByteArray) (maxL : Nat) (rt : Option FieldType) (cdm : ev_Cd), Pg[k]? = some ((y, bytes, maxL, rt), cdm) → ev_Met l D cl dA kt Gs y bytes maxL rt d as w r) (hdd : dd = d) (hsm : ∀ q ∈ sm, ∀ (y : MethodName) (bytes : ByteArray) (maxL : Nat) (rt : Option FieldType) (cdm : ev_Cd), Pg[q.1]? = some ((y, bytes, maxL, rt), cdm) → ev_Met l D cl dA kt Gs y bytes maxL rt q.2.1 q.2.2.2.1 q.2.2.2.2.1 q.2.2.2.2.2) (hok : ev_k24 Gc Ct kt Pg sm own nm cc nL ret cd st.1 i = true) (h : ev_o24 Ct ret sm dd call i st = some o) : ev_SS p l e R s m args below meth c D cl dA kt A ws0 nL cd st o := by
  obtain ⟨ix, L, S, w, nc, ns⟩ := st
  unfold ev_k24 at hok
  unfold ev_o24 at h
  simp only [Bool.and_eq_true, decide_eq_true_eq] at hok
  split at h
  · next u v S1 hS =>
    have hS : S = u :: v :: S1 := hS
    subst hS
    split at h
    · next hv =>
      obtain rfl := Option.some.inj h
      exact fun _ _ Q k => ev_s_dup2 X hok.1 hok.2 hv.1 hv.2 k
    · cases h
  · cases h
theorem ev_p25 (X : ev_X p s m args c D cl dA kt A Gs own cc nL) (hGc : ∀ (h : Nat) (w : Cond), ev_hg Gc h = some w → w ∈ Gs) (hG : ∀ w ∈ Gs, (w.onTables && w.keeps) = true ∨ ∃ ty, w = .arrayClass ty) (hT : ev_okD Gs cl Ct Pg) (hnm : meth.name = nm) (hret : meth.sig.returnType = ret) (hlk : meth.locks = false) (hRf : R.frames = d + 1) (hRl : R.locals = 90 * (d + 1)) (hcl : ∀ (k : Nat) (as : List (Nat × Nat × Nat)) (w : List ev_C) (r : ev_R), call k as w = some r → ∀ (y : MethodName) (bytes : ByteArray) (maxL : Nat) (rt : Option FieldType) (cdm : ev_Cd), Pg[k]? = some ((y, bytes, maxL, rt), cdm) → ev_Met l D cl dA kt Gs y bytes maxL rt d as w r) (hdd : dd = d) (hsm : ∀ q ∈ sm, ∀ (y : MethodName) (bytes : ByteArray) (maxL : Nat) (rt : Option FieldType) (cdm : ev_Cd), Pg[q.1]? = some ((y, bytes, maxL, rt), cdm) → ev_Met l D cl dA kt Gs y bytes maxL rt q.2.1 q.2.2.2.1 q.2.2.2.2.1 q.2.2.2.2.2) (hok : ev_k25 Gc Ct kt Pg sm own nm cc nL ret cd st.1 i = true) (h : ev_o25 Ct ret sm dd call i st = some o) : ev_SS p l e R s m args below meth c D cl dA kt A ws0 nL cd st o := by
  obtain ⟨ix, L, S, w, nc, ns⟩ := st
  unfold ev_k25 at hok
  unfold ev_o25 at h
  simp only [Bool.and_eq_true, decide_eq_true_eq] at hok
  obtain rfl := Option.some.inj h
  exact fun _ _ Q k => ev_s_goto X hok.1 hok.2 k
theorem ev_p26 (X : ev_X p s m args c D cl dA kt A Gs own cc nL) (hGc : ∀ (h : Nat) (w : Cond), ev_hg Gc h = some w → w ∈ Gs) (hG : ∀ w ∈ Gs, (w.onTables && w.keeps) = true ∨ ∃ ty, w = .arrayClass ty) (hT : ev_okD Gs cl Ct Pg) (hnm : meth.name = nm) (hret : meth.sig.returnType = ret) (hlk : meth.locks = false) (hRf : R.frames = d + 1) (hRl : R.locals = 90 * (d + 1)) (hcl : ∀ (k : Nat) (as : List (Nat × Nat × Nat)) (w : List ev_C) (r : ev_R), call k as w = some r → ∀ (y : MethodName) (bytes : ByteArray) (maxL : Nat) (rt : Option FieldType) (cdm : ev_Cd), Pg[k]? = some ((y, bytes, maxL, rt), cdm) → ev_Met l D cl dA kt Gs y bytes maxL rt d as w r) (hdd : dd = d) (hsm : ∀ q ∈ sm, ∀ (y : MethodName) (bytes : ByteArray) (maxL : Nat) (rt : Option FieldType) (cdm : ev_Cd), Pg[q.1]? = some ((y, bytes, maxL, rt), cdm) → ev_Met l D cl dA kt Gs y bytes maxL rt q.2.1 q.2.2.2.1 q.2.2.2.2.1 q.2.2.2.2.2) (hok : ev_k26 Gc Ct kt Pg sm own nm cc nL ret cd st.1 i = true) (h : ev_o26 Ct ret sm dd call i st = some o) : ev_SS p l e R s m args below meth c D cl dA kt A ws0 nL cd st o := by
  obtain ⟨ix, L, S, w, nc, ns⟩ := st
  unfold ev_k26 at hok
  unfold ev_o26 at h
  simp only [Bool.and_eq_true, decide_eq_true_eq] at hok
  split at h
  · next y x S1 hS =>
    have hS : S = y :: x :: S1 := hS
    subst hS
    split at h
    · next hv =>
      exact ev_way_ok h (fun Q kt kf => ev_s_icmp (P := ev_cp i.2.2.2.2.2.1) (t := i.2.2.1) hv.1 hv.2 hok.1.2 (ev_row_icmp X hok.1.1 hok.2) (fun q => kt (by obtain ⟨a, b, ha, hb, hp⟩ := q; exact ev_ct_ok ha hb hp)) (fun q => kf (by obtain ⟨a, b, ha, hb, hp⟩ := q; exact ev_cf_ok ha hb hp)))
    · cases h
  · cases h
theorem ev_p27 (X : ev_X p s m args c D cl dA kt A Gs own cc nL) (hGc : ∀ (h : Nat) (w : Cond), ev_hg Gc h = some w → w ∈ Gs) (hG : ∀ w ∈ Gs, (w.onTables && w.keeps) = true ∨ ∃ ty, w = .arrayClass ty) (hT : ev_okD Gs cl Ct Pg) (hnm : meth.name = nm) (hret : meth.sig.returnType = ret) (hlk : meth.locks = false) (hRf : R.frames = d + 1) (hRl : R.locals = 90 * (d + 1)) (hcl : ∀ (k : Nat) (as : List (Nat × Nat × Nat)) (w : List ev_C) (r : ev_R), call k as w = some r → ∀ (y : MethodName) (bytes : ByteArray) (maxL : Nat) (rt : Option FieldType) (cdm : ev_Cd), Pg[k]? = some ((y, bytes, maxL, rt), cdm) → ev_Met l D cl dA kt Gs y bytes maxL rt d as w r) (hdd : dd = d) (hsm : ∀ q ∈ sm, ∀ (y : MethodName) (bytes : ByteArray) (maxL : Nat) (rt : Option FieldType) (cdm : ev_Cd), Pg[q.1]? = some ((y, bytes, maxL, rt), cdm) → ev_Met l D cl dA kt Gs y bytes maxL rt q.2.1 q.2.2.2.1 q.2.2.2.2.1 q.2.2.2.2.2) (hok : ev_k27 Gc Ct kt Pg sm own nm cc nL ret cd st.1 i = true) (h : ev_o27 Ct ret sm dd call i st = some o) : ev_SS p l e R s m args below meth c D cl dA kt A ws0 nL cd st o := by
  obtain ⟨ix, L, S, w, nc, ns⟩ := st
  unfold ev_k27 at hok
  unfold ev_o27 at h
  simp only [Bool.and_eq_true, decide_eq_true_eq] at hok
  split at h
  · next x S1 hS =>
    have hS : S = x :: S1 := hS
    subst hS
    split at h
    · next hv =>
      exact ev_way_ok h (fun Q kt kf => ev_s_if0 (P := fun i9 => ev_cp i.2.2.2.2.2.1 i9 0) (t := i.2.2.1) hv hok.1.2 (ev_row_if0 X hok.1.1 hok.2) (fun q => kt (by obtain ⟨a, ha, hp⟩ := q; exact ev_ct_ok ha ev_in_0 hp)) (fun q => kf (by obtain ⟨a, ha, hp⟩ := q; exact ev_cf_ok ha ev_in_0 hp)))
    · cases h
  · cases h
theorem ev_p28 (X : ev_X p s m args c D cl dA kt A Gs own cc nL) (hGc : ∀ (h : Nat) (w : Cond), ev_hg Gc h = some w → w ∈ Gs) (hG : ∀ w ∈ Gs, (w.onTables && w.keeps) = true ∨ ∃ ty, w = .arrayClass ty) (hT : ev_okD Gs cl Ct Pg) (hnm : meth.name = nm) (hret : meth.sig.returnType = ret) (hlk : meth.locks = false) (hRf : R.frames = d + 1) (hRl : R.locals = 90 * (d + 1)) (hcl : ∀ (k : Nat) (as : List (Nat × Nat × Nat)) (w : List ev_C) (r : ev_R), call k as w = some r → ∀ (y : MethodName) (bytes : ByteArray) (maxL : Nat) (rt : Option FieldType) (cdm : ev_Cd), Pg[k]? = some ((y, bytes, maxL, rt), cdm) → ev_Met l D cl dA kt Gs y bytes maxL rt d as w r) (hdd : dd = d) (hsm : ∀ q ∈ sm, ∀ (y : MethodName) (bytes : ByteArray) (maxL : Nat) (rt : Option FieldType) (cdm : ev_Cd), Pg[q.1]? = some ((y, bytes, maxL, rt), cdm) → ev_Met l D cl dA kt Gs y bytes maxL rt q.2.1 q.2.2.2.1 q.2.2.2.2.1 q.2.2.2.2.2) (hok : ev_k28 Gc Ct kt Pg sm own nm cc nL ret cd st.1 i = true) (h : ev_o28 Ct ret sm dd call i st = some o) : ev_SS p l e R s m args below meth c D cl dA kt A ws0 nL cd st o := by
  obtain ⟨ix, L, S, w, nc, ns⟩ := st
  unfold ev_k28 at hok
  unfold ev_o28 at h
  simp only [Bool.and_eq_true, decide_eq_true_eq] at hok
  split at h
  · next k z9 S1 hS =>
    have hS : S = (2, k, z9) :: S1 := hS
    subst hS
    split at h
    · next ci z fs hw =>
      split at h
      · next hci =>
        subst hci
        split at h
        · next v hf =>
          obtain rfl := Option.some.inj h
          obtain ⟨⟨hd, hn⟩, hq⟩ := hok
          cases hC : Ct[i.2.2.2.1]? with
          | none => rw [hC] at hq; cases hq
          | some q =>
            rw [hC] at hq
            simp only [Bool.and_eq_true, decide_eq_true_eq] at hq
            exact fun _ _ Q k9 => ev_s_getf X (hT.1 _ _ hC).1 (hT.1 _ _ hC).2.1 hq.1 (hGc _ _ hq.2) hd hn hw hf k9
        · cases h
      · cases h
    · cases h
  · cases h
theorem ev_p29 (X : ev_X p s m args c D cl dA kt A Gs own cc nL) (hGc : ∀ (h : Nat) (w : Cond), ev_hg Gc h = some w → w ∈ Gs) (hG : ∀ w ∈ Gs, (w.onTables && w.keeps) = true ∨ ∃ ty, w = .arrayClass ty) (hT : ev_okD Gs cl Ct Pg) (hnm : meth.name = nm) (hret : meth.sig.returnType = ret) (hlk : meth.locks = false) (hRf : R.frames = d + 1) (hRl : R.locals = 90 * (d + 1)) (hcl : ∀ (k : Nat) (as : List (Nat × Nat × Nat)) (w : List ev_C) (r : ev_R), call k as w = some r → ∀ (y : MethodName) (bytes : ByteArray) (maxL : Nat) (rt : Option FieldType) (cdm : ev_Cd), Pg[k]? = some ((y, bytes, maxL, rt), cdm) → ev_Met l D cl dA kt Gs y bytes maxL rt d as w r) (hdd : dd = d) (hsm : ∀ q ∈ sm, ∀ (y : MethodName) (bytes : ByteArray) (maxL : Nat) (rt : Option FieldType) (cdm : ev_Cd), Pg[q.1]? = some ((y, bytes, maxL, rt), cdm) → ev_Met l D cl dA kt Gs y bytes maxL rt q.2.1 q.2.2.2.1 q.2.2.2.2.1 q.2.2.2.2.2) (hok : ev_k29 Gc Ct kt Pg sm own nm cc nL ret cd st.1 i = true) (h : ev_o29 Ct ret sm dd call i st = some o) : ev_SS p l e R s m args below meth c D cl dA kt A ws0 nL cd st o := by
  obtain ⟨ix, L, S, w, nc, ns⟩ := st
  unfold ev_k29 at hok
  unfold ev_o29 at h
  simp only [Bool.and_eq_true, decide_eq_true_eq] at hok
  split at h
  · next v k z9 S1 hS =>
    have hS : S = v :: (2, k, z9) :: S1 := hS
    subst hS
    split at h
    · next ci z fs hw =>
      split at h
      · next hci =>
        obtain ⟨rfl, hlen, hfit⟩ := id hci
        obtain rfl := Option.some.inj h
        obtain ⟨⟨hd, hn⟩, hq⟩ := hok
        cases hC : Ct[i.2.2.2.1]? with
        | none => rw [hC] at hq; cases hq
        | some q =>
          unfold ev_ft at hfit
          rw [hC] at hq hfit
          simp only [Bool.and_eq_true, decide_eq_true_eq] at hq
          exact fun _ _ Q k9 => ev_s_putf X (hT.1 _ _ hC).1 q.2.1 (hT.1 _ _ hC).2.2.1 (hT.1 _ _ hC).2.2.2.1 (hT.1 _ _ hC).2.1 hq.1.1 (hGc _ _ hq.1.2) hq.2 hd hn hw hlen hfit k9
      · cases h
    · cases h
  · cases h
theorem ev_p30 (X : ev_X p s m args c D cl dA kt A Gs own cc nL) (hGc : ∀ (h : Nat) (w : Cond), ev_hg Gc h = some w → w ∈ Gs) (hG : ∀ w ∈ Gs, (w.onTables && w.keeps) = true ∨ ∃ ty, w = .arrayClass ty) (hT : ev_okD Gs cl Ct Pg) (hnm : meth.name = nm) (hret : meth.sig.returnType = ret) (hlk : meth.locks = false) (hRf : R.frames = d + 1) (hRl : R.locals = 90 * (d + 1)) (hcl : ∀ (k : Nat) (as : List (Nat × Nat × Nat)) (w : List ev_C) (r : ev_R), call k as w = some r → ∀ (y : MethodName) (bytes : ByteArray) (maxL : Nat) (rt : Option FieldType) (cdm : ev_Cd), Pg[k]? = some ((y, bytes, maxL, rt), cdm) → ev_Met l D cl dA kt Gs y bytes maxL rt d as w r) (hdd : dd = d) (hsm : ∀ q ∈ sm, ∀ (y : MethodName) (bytes : ByteArray) (maxL : Nat) (rt : Option FieldType) (cdm : ev_Cd), Pg[q.1]? = some ((y, bytes, maxL, rt), cdm) → ev_Met l D cl dA kt Gs y bytes maxL rt q.2.1 q.2.2.2.1 q.2.2.2.2.1 q.2.2.2.2.2) (hok : ev_k30 Gc Ct kt Pg sm own nm cc nL ret cd st.1 i = true) (h : ev_o30 Ct ret sm dd call i st = some o) : ev_SS p l e R s m args below meth c D cl dA kt A ws0 nL cd st o := by
  obtain ⟨ix, L, S, w, nc, ns⟩ := st
  unfold ev_k30 at hok
  unfold ev_o30 at h
  simp only [Bool.and_eq_true, decide_eq_true_eq] at hok
  split at h
  · next v k z9 S1 hS =>
    have hS : S = v :: (2, k, z9) :: S1 := hS
    subst hS
    split at h
    · next ci z fs hw =>
      split at h
      · next hci =>
        obtain ⟨rfl, hlen, hfit⟩ := id hci
        obtain rfl := Option.some.inj h
        obtain ⟨⟨hd, hn⟩, hq⟩ := hok
        cases hC : Ct[i.2.2.2.1]? with
        | none => rw [hC] at hq; cases hq
        | some q =>
          unfold ev_ft at hfit
          rw [hC] at hq hfit
          simp only [Bool.and_eq_true, decide_eq_true_eq] at hq
          exact fun _ _ Q k9 => ev_s_putF X (hT.1 _ _ hC).1 q.2.1 (hT.1 _ _ hC).2.2.1 (hT.1 _ _ hC).2.2.2.1 (hT.1 _ _ hC).2.1 hq.1.1.1.1 (hGc _ _ hq.1.1.1.2) hq.1.1.2 (by rw [hnm]; exact hq.1.2) hq.2 hd hn hw hlen hfit k9
      · cases h
    · cases h
  · cases h
theorem ev_p31 (X : ev_X p s m args c D cl dA kt A Gs own cc nL) (hGc : ∀ (h : Nat) (w : Cond), ev_hg Gc h = some w → w ∈ Gs) (hG : ∀ w ∈ Gs, (w.onTables && w.keeps) = true ∨ ∃ ty, w = .arrayClass ty) (hT : ev_okD Gs cl Ct Pg) (hnm : meth.name = nm) (hret : meth.sig.returnType = ret) (hlk : meth.locks = false) (hRf : R.frames = d + 1) (hRl : R.locals = 90 * (d + 1)) (hcl : ∀ (k : Nat) (as : List (Nat × Nat × Nat)) (w : List ev_C) (r : ev_R), call k as w = some r → ∀ (y : MethodName) (bytes : ByteArray) (maxL : Nat) (rt : Option FieldType) (cdm : ev_Cd), Pg[k]? = some ((y, bytes, maxL, rt), cdm) → ev_Met l D cl dA kt Gs y bytes maxL rt d as w r) (hdd : dd = d) (hsm : ∀ q ∈ sm, ∀ (y : MethodName) (bytes : ByteArray) (maxL : Nat) (rt : Option FieldType) (cdm : ev_Cd), Pg[q.1]? = some ((y, bytes, maxL, rt), cdm) → ev_Met l D cl dA kt Gs y bytes maxL rt q.2.1 q.2.2.2.1 q.2.2.2.2.1 q.2.2.2.2.2) (hok : ev_k31 Gc Ct kt Pg sm own nm cc nL ret cd st.1 i = true) (h : ev_o31 Ct ret sm dd call i st = some o) : ev_SS p l e R s m args below meth c D cl dA kt A ws0 nL cd st o := by
  obtain ⟨ix, L, S, w, nc, ns⟩ := st
  unfold ev_k31 at hok
  unfold ev_o31 at h
  simp only [Bool.and_eq_true, decide_eq_true_eq] at hok
  split at h
  · next q hC =>
    obtain rfl := Option.some.inj h
    obtain ⟨⟨hd, hn⟩, hq⟩ := hok
    rw [hC] at hq
    have hq := hGc _ _ (of_decide_eq_true hq)
    exact fun r1 r2 Q k9 => ev_s_new X (hT.1 _ _ hC).1 q.2.1 (hT.1 _ _ hC).2.2.1 (hT.1 _ _ hC).2.1 hq (hT.1 _ _ hC).2.2.2.2.1 (hT.1 _ _ hC).2.2.2.2.2.1 (hT.1 _ _ hC).2.2.2.2.2.2.1 (hT.1 _ _ hC).2.2.2.2.2.2.2 hd hn r1 r2 k9
  · cases h
theorem ev_p32 (X : ev_X p s m args c D cl dA kt A Gs own cc nL) (hGc : ∀ (h : Nat) (w : Cond), ev_hg Gc h = some w → w ∈ Gs) (hG : ∀ w ∈ Gs, (w.onTables && w.keeps) = true ∨ ∃ ty, w = .arrayClass ty) (hT : ev_okD Gs cl Ct Pg) (hnm : meth.name = nm) (hret : meth.sig.returnType = ret) (hlk : meth.locks = false) (hRf : R.frames = d + 1) (hRl : R.locals = 90 * (d + 1)) (hcl : ∀ (k : Nat) (as : List (Nat × Nat × Nat)) (w : List ev_C) (r : ev_R), call k as w = some r → ∀ (y : MethodName) (bytes : ByteArray) (maxL : Nat) (rt : Option FieldType) (cdm : ev_Cd), Pg[k]? = some ((y, bytes, maxL, rt), cdm) → ev_Met l D cl dA kt Gs y bytes maxL rt d as w r) (hdd : dd = d) (hsm : ∀ q ∈ sm, ∀ (y : MethodName) (bytes : ByteArray) (maxL : Nat) (rt : Option FieldType) (cdm : ev_Cd), Pg[q.1]? = some ((y, bytes, maxL, rt), cdm) → ev_Met l D cl dA kt Gs y bytes maxL rt q.2.1 q.2.2.2.1 q.2.2.2.2.1 q.2.2.2.2.2) (hok : ev_k32 Gc Ct kt Pg sm own nm cc nL ret cd st.1 i = true) (h : ev_o32 Ct ret sm dd call i st = some o) : ev_SS p l e R s m args below meth c D cl dA kt A ws0 nL cd st o := by
  obtain ⟨ix, L, S, w, nc, ns⟩ := st
  unfold ev_k32 at hok
  unfold ev_o32 at h
  simp only [Bool.and_eq_true, decide_eq_true_eq] at hok
  split at h
  · next x y S1 hS =>
    have hS : S = (0, x, y) :: S1 := hS
    subst hS
    split at h
    · next hx =>
      obtain ⟨rfl, h1, h2⟩ := hx
      obtain rfl := Option.some.inj h
      obtain ⟨⟨hd, hn⟩, hq⟩ := hok
      cases hK : kt[i.2.2.1]? with
      | none => rw [hK] at hq; cases hq
      | some ty =>
        rw [hK] at hq
        simp only [Bool.and_eq_true, decide_eq_true_eq] at hq
        have hm : (x - 2147483648) * componentBytes ty ≤ (x - 2147483648) * 4 := Nat.mul_le_mul_left _ hq.1.2
        obtain ⟨n, rfl⟩ : ∃ n, x = n + 2147483648 := ⟨x - 2147483648, by omega⟩
        rw [Nat.add_sub_cancel] at hm ⊢
        exact fun r1 r2 Q k9 => ev_s_newaI X hq.1.1.1 hK hq.1.1.2 (hGc _ _ hq.2) (by omega) (by omega) hd hn r1 r2 k9
    · cases h
  · cases h
theorem ev_p33 (X : ev_X p s m args c D cl dA kt A Gs own cc nL) (hGc : ∀ (h : Nat) (w : Cond), ev_hg Gc h = some w → w ∈ Gs) (hG : ∀ w ∈ Gs, (w.onTables && w.keeps) = true ∨ ∃ ty, w = .arrayClass ty) (hT : ev_okD Gs cl Ct Pg) (hnm : meth.name = nm) (hret : meth.sig.returnType = ret) (hlk : meth.locks = false) (hRf : R.frames = d + 1) (hRl : R.locals = 90 * (d + 1)) (hcl : ∀ (k : Nat) (as : List (Nat × Nat × Nat)) (w : List ev_C) (r : ev_R), call k as w = some r → ∀ (y : MethodName) (bytes : ByteArray) (maxL : Nat) (rt : Option FieldType) (cdm : ev_Cd), Pg[k]? = some ((y, bytes, maxL, rt), cdm) → ev_Met l D cl dA kt Gs y bytes maxL rt d as w r) (hdd : dd = d) (hsm : ∀ q ∈ sm, ∀ (y : MethodName) (bytes : ByteArray) (maxL : Nat) (rt : Option FieldType) (cdm : ev_Cd), Pg[q.1]? = some ((y, bytes, maxL, rt), cdm) → ev_Met l D cl dA kt Gs y bytes maxL rt q.2.1 q.2.2.2.1 q.2.2.2.2.1 q.2.2.2.2.2) (hok : ev_k33 Gc Ct kt Pg sm own nm cc nL ret cd st.1 i = true) (h : ev_o33 Ct ret sm dd call i st = some o) : ev_SS p l e R s m args below meth c D cl dA kt A ws0 nL cd st o := by
  obtain ⟨ix, L, S, w, nc, ns⟩ := st
  unfold ev_k33 at hok
  unfold ev_o33 at h
  simp only [Bool.and_eq_true, decide_eq_true_eq] at hok
  split at h
  · next x y S1 hS =>
    have hS : S = (0, x, y) :: S1 := hS
    subst hS
    split at h
    · next hx =>
      obtain ⟨rfl, h1, h2⟩ := hx
      obtain rfl := Option.some.inj h
      obtain ⟨⟨⟨⟨hd, hn⟩, hq1⟩, hq2⟩, hq3⟩ := hok
      obtain ⟨n, rfl⟩ : ∃ n, x = n + 2147483648 := ⟨x - 2147483648, by omega⟩
      rw [Nat.add_sub_cancel]
      exact fun r1 r2 Q k9 => ev_s_newaL X hq1 hq2 (hGc _ _ hq3) (by omega) (by show n * 8 ≤ _; omega) hd hn r1 r2 k9
    · cases h
  · cases h
theorem ev_p34 (X : ev_X p s m args c D cl dA kt A Gs own cc nL) (hGc : ∀ (h : Nat) (w : Cond), ev_hg Gc h = some w → w ∈ Gs) (hG : ∀ w ∈ Gs, (w.onTables && w.keeps) = true ∨ ∃ ty, w = .arrayClass ty) (hT : ev_okD Gs cl Ct Pg) (hnm : meth.name = nm) (hret : meth.sig.returnType = ret) (hlk : meth.locks = false) (hRf : R.frames = d + 1) (hRl : R.locals = 90 * (d + 1)) (hcl : ∀ (k : Nat) (as : List (Nat × Nat × Nat)) (w : List ev_C) (r : ev_R), call k as w = some r → ∀ (y : MethodName) (bytes : ByteArray) (maxL : Nat) (rt : Option FieldType) (cdm : ev_Cd), Pg[k]? = some ((y, bytes, maxL, rt), cdm) → ev_Met l D cl dA kt Gs y bytes maxL rt d as w r) (hdd : dd = d) (hsm : ∀ q ∈ sm, ∀ (y : MethodName) (bytes : ByteArray) (maxL : Nat) (rt : Option FieldType) (cdm : ev_Cd), Pg[q.1]? = some ((y, bytes, maxL, rt), cdm) → ev_Met l D cl dA kt Gs y bytes maxL rt q.2.1 q.2.2.2.1 q.2.2.2.2.1 q.2.2.2.2.2) (hok : ev_k34 Gc Ct kt Pg sm own nm cc nL ret cd st.1 i = true) (h : ev_o34 Ct ret sm dd call i st = some o) : ev_SS p l e R s m args below meth c D cl dA kt A ws0 nL cd st o := by
  obtain ⟨ix, L, S, w, nc, ns⟩ := st
  unfold ev_k34 at hok
  unfold ev_o34 at h
  simp only [Bool.and_eq_true, decide_eq_true_eq] at hok
  split at h
  · next x y S1 hS =>
    have hS : S = (0, x, y) :: S1 := hS
    subst hS
    split at h
    · next hx =>
      obtain ⟨rfl, h1, h2⟩ := hx
      obtain rfl := Option.some.inj h
      obtain ⟨⟨hd, hn⟩, hq⟩ := hok
      split at hq
      · next C hK =>
        have hq := hGc _ _ (of_decide_eq_true hq)
        obtain ⟨n, rfl⟩ : ∃ n, x = n + 2147483648 := ⟨x - 2147483648, by omega⟩
        rw [Nat.add_sub_cancel]
        exact fun r1 r2 Q k9 => ev_s_newq X hK hq (X.2.1.2.1 _ C hK) (by omega) (by omega) hd hn r1 r2 k9
      · cases hq
    · cases h
  · cases h
theorem ev_p35 (X : ev_X p s m args c D cl dA kt A Gs own cc nL) (hGc : ∀ (h : Nat) (w : Cond), ev_hg Gc h = some w → w ∈ Gs) (hG : ∀ w ∈ Gs, (w.onTables && w.keeps) = true ∨ ∃ ty, w = .arrayClass ty) (hT : ev_okD Gs cl Ct Pg) (hnm : meth.name = nm) (hret : meth.sig.returnType = ret) (hlk : meth.locks = false) (hRf : R.frames = d + 1) (hRl : R.locals = 90 * (d + 1)) (hcl : ∀ (k : Nat) (as : List (Nat × Nat × Nat)) (w : List ev_C) (r : ev_R), call k as w = some r → ∀ (y : MethodName) (bytes : ByteArray) (maxL : Nat) (rt : Option FieldType) (cdm : ev_Cd), Pg[k]? = some ((y, bytes, maxL, rt), cdm) → ev_Met l D cl dA kt Gs y bytes maxL rt d as w r) (hdd : dd = d) (hsm : ∀ q ∈ sm, ∀ (y : MethodName) (bytes : ByteArray) (maxL : Nat) (rt : Option FieldType) (cdm : ev_Cd), Pg[q.1]? = some ((y, bytes, maxL, rt), cdm) → ev_Met l D cl dA kt Gs y bytes maxL rt q.2.1 q.2.2.2.1 q.2.2.2.2.1 q.2.2.2.2.2) (hok : ev_k35 Gc Ct kt Pg sm own nm cc nL ret cd st.1 i = true) (h : ev_o35 Ct ret sm dd call i st = some o) : ev_SS p l e R s m args below meth c D cl dA kt A ws0 nL cd st o := by
  obtain ⟨ix, L, S, w, nc, ns⟩ := st
  unfold ev_k35 at hok
  unfold ev_o35 at h
  simp only [Bool.and_eq_true, decide_eq_true_eq] at hok
  split at h
  · next x y x2 y2 S1 hS =>
    have hS : S = (0, x, y) :: (0, x2, y2) :: S1 := hS
    subst hS
    split at h
    · next hx =>
      obtain ⟨rfl, rfl, h1, h2, h3, h4⟩ := hx
      obtain rfl := Option.some.inj h
      obtain ⟨⟨⟨⟨⟨hd, hn⟩, hq1⟩, hq2⟩, hq3⟩, hq4⟩ := hok
      have hq3 := hGc _ _ hq3
      have hq4 := hGc _ _ hq4
      obtain ⟨k, rfl⟩ : ∃ k, x = k + 2147483648 := ⟨x - 2147483648, by omega⟩
      obtain ⟨n, rfl⟩ : ∃ n, x2 = n + 2147483648 := ⟨x2 - 2147483648, by omega⟩
      simp only [Nat.add_sub_cancel]
      have hty : ev_ty i.2.2.2.2.2.1 = .byte ∨ ev_ty i.2.2.2.2.2.1 = .int ∨ ev_ty i.2.2.2.2.2.1 = .long := by
        unfold ev_ty
        split
        · exact Or.inl rfl
        · exact Or.inr (Or.inl rfl)
        · exact Or.inr (Or.inr rfl)
      generalize ev_ty i.2.2.2.2.2.1 = ty at hty hq1 hq2 hq3 hq4 ⊢
      rcases hty with rfl | rfl | rfl
      · exact fun r1 r2 Q k9 => ev_s_mna (z := (k, .inl (fun _ => 0))) X hq1 hq2 (fun C q => by cases q) rfl hq3 hq4 (by omega) (by omega) (by omega) (by show k * 1 ≤ _; omega) (by omega) rfl rfl (fun c9 => by rw [vp_cell_i, ← arrV_new]; rfl) (fun ad => Or.inr (Or.inr (Or.inl ⟨rfl, _, rfl, fun v hv j => by obtain rfl : (0, 2147483648, 2147483648) = v := Option.some.inj hv; exact ev_in_0⟩))) (by simp [ev_ci]) hd hn r1 r2 k9
      · exact fun r1 r2 Q k9 => ev_s_mna (z := (k, .inl (fun _ => 0))) X hq1 hq2 (fun C q => by cases q) rfl hq3 hq4 (by omega) (by omega) (by omega) (by show k * 4 ≤ _; omega) (by omega) rfl rfl (fun c9 => by rw [vp_cell_i, ← arrV_new]; rfl) (fun ad => Or.inr (Or.inr (Or.inl ⟨rfl, _, rfl, fun v hv j => by obtain rfl : (0, 2147483648, 2147483648) = v := Option.some.inj hv; exact ev_in_0⟩))) (by simp [ev_ci]) hd hn r1 r2 k9
      · exact fun r1 r2 Q k9 => ev_s_mna (z := (k, .inr (.inl (fun _ => 0)))) X hq1 hq2 (fun C q => by cases q) rfl hq3 hq4 (by omega) (by omega) (by omega) (by show k * 8 ≤ _; omega) (by omega) rfl rfl (fun c9 => by rw [vp_cell_l, ← arrV_new]; rfl) (fun ad => Or.inr (Or.inr (Or.inr (Or.inl ⟨rfl, _, rfl⟩)))) (by simp [ev_ci]) hd hn r1 r2 k9
    · cases h
  · cases h
theorem ev_p36 (X : ev_X p s m args c D cl dA kt A Gs own cc nL) (hGc : ∀ (h : Nat) (w : Cond), ev_hg Gc h = some w → w ∈ Gs) (hG : ∀ w ∈ Gs, (w.onTables && w.keeps) = true ∨ ∃ ty, w = .arrayClass ty) (hT : ev_okD Gs cl Ct Pg) (hnm : meth.name = nm) (hret : meth.sig.returnType = ret) (hlk : meth.locks = false) (hRf : R.frames = d + 1) (hRl : R.locals = 90 * (d + 1)) (hcl : ∀ (k : Nat) (as : List (Nat × Nat × Nat)) (w : List ev_C) (r : ev_R), call k as w = some r → ∀ (y : MethodName) (bytes : ByteArray) (maxL : Nat) (rt : Option FieldType) (cdm : ev_Cd), Pg[k]? = some ((y, bytes, maxL, rt), cdm) → ev_Met l D cl dA kt Gs y bytes maxL rt d as w r) (hdd : dd = d) (hsm : ∀ q ∈ sm, ∀ (y : MethodName) (bytes : ByteArray) (maxL : Nat) (rt : Option FieldType) (cdm : ev_Cd), Pg[q.1]? = some ((y, bytes, maxL, rt), cdm) → ev_Met l D cl dA kt Gs y bytes maxL rt q.2.1 q.2.2.2.1 q.2.2.2.2.1 q.2.2.2.2.2) (hok : ev_k36 Gc Ct kt Pg sm own nm cc nL ret cd st.1 i = true) (h : ev_o36 Ct ret sm dd call i st = some o) : ev_SS p l e R s m args below meth c D cl dA kt A ws0 nL cd st o := by
  obtain ⟨ix, L, S, w, nc, ns⟩ := st
  unfold ev_k36 at hok
  unfold ev_o36 at h
  simp only [Bool.and_eq_true, decide_eq_true_eq] at hok
  split at h
  · next v hg =>
    split at h
    · next hv =>
      obtain rfl := Option.some.inj h
      exact fun _ _ Q k => ev_s_lload_n X hok.1.1 (Nat.mod_eq_of_lt hok.2) hok.1.2 hg hv k
    · cases h
  · cases h
theorem ev_p37 (X : ev_X p s m args c D cl dA kt A Gs own cc nL) (hGc : ∀ (h : Nat) (w : Cond), ev_hg Gc h = some w → w ∈ Gs) (hG : ∀ w ∈ Gs, (w.onTables && w.keeps) = true ∨ ∃ ty, w = .arrayClass ty) (hT : ev_okD Gs cl Ct Pg) (hnm : meth.name = nm) (hret : meth.sig.returnType = ret) (hlk : meth.locks = false) (hRf : R.frames = d + 1) (hRl : R.locals = 90 * (d + 1)) (hcl : ∀ (k : Nat) (as : List (Nat × Nat × Nat)) (w : List ev_C) (r : ev_R), call k as w = some r → ∀ (y : MethodName) (bytes : ByteArray) (maxL : Nat) (rt : Option FieldType) (cdm : ev_Cd), Pg[k]? = some ((y, bytes, maxL, rt), cdm) → ev_Met l D cl dA kt Gs y bytes maxL rt d as w r) (hdd : dd = d) (hsm : ∀ q ∈ sm, ∀ (y : MethodName) (bytes : ByteArray) (maxL : Nat) (rt : Option FieldType) (cdm : ev_Cd), Pg[q.1]? = some ((y, bytes, maxL, rt), cdm) → ev_Met l D cl dA kt Gs y bytes maxL rt q.2.1 q.2.2.2.1 q.2.2.2.2.1 q.2.2.2.2.2) (hok : ev_k37 Gc Ct kt Pg sm own nm cc nL ret cd st.1 i = true) (h : ev_o37 Ct ret sm dd call i st = some o) : ev_SS p l e R s m args below meth c D cl dA kt A ws0 nL cd st o := by
  obtain ⟨ix, L, S, w, nc, ns⟩ := st
  unfold ev_k37 at hok
  unfold ev_o37 at h
  simp only [Bool.and_eq_true, decide_eq_true_eq] at hok
  split at h
  · next v hg =>
    split at h
    · next hv =>
      obtain rfl := Option.some.inj h
      exact fun _ _ Q k => ev_s_lload X hok.1 hok.2 hg hv k
    · cases h
  · cases h
theorem ev_p38 (X : ev_X p s m args c D cl dA kt A Gs own cc nL) (hGc : ∀ (h : Nat) (w : Cond), ev_hg Gc h = some w → w ∈ Gs) (hG : ∀ w ∈ Gs, (w.onTables && w.keeps) = true ∨ ∃ ty, w = .arrayClass ty) (hT : ev_okD Gs cl Ct Pg) (hnm : meth.name = nm) (hret : meth.sig.returnType = ret) (hlk : meth.locks = false) (hRf : R.frames = d + 1) (hRl : R.locals = 90 * (d + 1)) (hcl : ∀ (k : Nat) (as : List (Nat × Nat × Nat)) (w : List ev_C) (r : ev_R), call k as w = some r → ∀ (y : MethodName) (bytes : ByteArray) (maxL : Nat) (rt : Option FieldType) (cdm : ev_Cd), Pg[k]? = some ((y, bytes, maxL, rt), cdm) → ev_Met l D cl dA kt Gs y bytes maxL rt d as w r) (hdd : dd = d) (hsm : ∀ q ∈ sm, ∀ (y : MethodName) (bytes : ByteArray) (maxL : Nat) (rt : Option FieldType) (cdm : ev_Cd), Pg[q.1]? = some ((y, bytes, maxL, rt), cdm) → ev_Met l D cl dA kt Gs y bytes maxL rt q.2.1 q.2.2.2.1 q.2.2.2.2.1 q.2.2.2.2.2) (hok : ev_k38 Gc Ct kt Pg sm own nm cc nL ret cd st.1 i = true) (h : ev_o38 Ct ret sm dd call i st = some o) : ev_SS p l e R s m args below meth c D cl dA kt A ws0 nL cd st o := by
  obtain ⟨ix, L, S, w, nc, ns⟩ := st
  unfold ev_k38 at hok
  unfold ev_o38 at h
  simp only [Bool.and_eq_true, decide_eq_true_eq] at hok
  split at h
  · next v S1 hS =>
    have hS : S = v :: S1 := hS
    subst hS
    split at h
    · next hv =>
      obtain rfl := Option.some.inj h
      exact fun _ _ Q k => ev_s_lstore_n X hok.1.1.1 (Nat.mod_eq_of_lt hok.1.2) hok.1.1.2 hok.2 hv k
    · cases h
  · cases h
theorem ev_p39 (X : ev_X p s m args c D cl dA kt A Gs own cc nL) (hGc : ∀ (h : Nat) (w : Cond), ev_hg Gc h = some w → w ∈ Gs) (hG : ∀ w ∈ Gs, (w.onTables && w.keeps) = true ∨ ∃ ty, w = .arrayClass ty) (hT : ev_okD Gs cl Ct Pg) (hnm : meth.name = nm) (hret : meth.sig.returnType = ret) (hlk : meth.locks = false) (hRf : R.frames = d + 1) (hRl : R.locals = 90 * (d + 1)) (hcl : ∀ (k : Nat) (as : List (Nat × Nat × Nat)) (w : List ev_C) (r : ev_R), call k as w = some r → ∀ (y : MethodName) (bytes : ByteArray) (maxL : Nat) (rt : Option FieldType) (cdm : ev_Cd), Pg[k]? = some ((y, bytes, maxL, rt), cdm) → ev_Met l D cl dA kt Gs y bytes maxL rt d as w r) (hdd : dd = d) (hsm : ∀ q ∈ sm, ∀ (y : MethodName) (bytes : ByteArray) (maxL : Nat) (rt : Option FieldType) (cdm : ev_Cd), Pg[q.1]? = some ((y, bytes, maxL, rt), cdm) → ev_Met l D cl dA kt Gs y bytes maxL rt q.2.1 q.2.2.2.1 q.2.2.2.2.1 q.2.2.2.2.2) (hok : ev_k39 Gc Ct kt Pg sm own nm cc nL ret cd st.1 i = true) (h : ev_o39 Ct ret sm dd call i st = some o) : ev_SS p l e R s m args below meth c D cl dA kt A ws0 nL cd st o := by
  obtain ⟨ix, L, S, w, nc, ns⟩ := st
  unfold ev_k39 at hok
  unfold ev_o39 at h
  simp only [Bool.and_eq_true, decide_eq_true_eq] at hok
  split at h
  · next v S1 hS =>
    have hS : S = v :: S1 := hS
    subst hS
    split at h
    · next hv =>
      obtain rfl := Option.some.inj h
      exact fun _ _ Q k => ev_s_lstore X hok.1.1 hok.1.2 hok.2 hv k
    · cases h
  · cases h
theorem ev_p40 (X : ev_X p s m args c D cl dA kt A Gs own cc nL) (hGc : ∀ (h : Nat) (w : Cond), ev_hg Gc h = some w → w ∈ Gs) (hG : ∀ w ∈ Gs, (w.onTables && w.keeps) = true ∨ ∃ ty, w = .arrayClass ty) (hT : ev_okD Gs cl Ct Pg) (hnm : meth.name = nm) (hret : meth.sig.returnType = ret) (hlk : meth.locks = false) (hRf : R.frames = d + 1) (hRl : R.locals = 90 * (d + 1)) (hcl : ∀ (k : Nat) (as : List (Nat × Nat × Nat)) (w : List ev_C) (r : ev_R), call k as w = some r → ∀ (y : MethodName) (bytes : ByteArray) (maxL : Nat) (rt : Option FieldType) (cdm : ev_Cd), Pg[k]? = some ((y, bytes, maxL, rt), cdm) → ev_Met l D cl dA kt Gs y bytes maxL rt d as w r) (hdd : dd = d) (hsm : ∀ q ∈ sm, ∀ (y : MethodName) (bytes : ByteArray) (maxL : Nat) (rt : Option FieldType) (cdm : ev_Cd), Pg[q.1]? = some ((y, bytes, maxL, rt), cdm) → ev_Met l D cl dA kt Gs y bytes maxL rt q.2.1 q.2.2.2.1 q.2.2.2.2.1 q.2.2.2.2.2) (hok : ev_k40 Gc Ct kt Pg sm own nm cc nL ret cd st.1 i = true) (h : ev_o40 Ct ret sm dd call i st = some o) : ev_SS p l e R s m args below meth c D cl dA kt A ws0 nL cd st o := by
  obtain ⟨ix, L, S, w, nc, ns⟩ := st
  unfold ev_k40 at hok
  unfold ev_o40 at h
  simp only [Bool.and_eq_true, decide_eq_true_eq] at hok
  split at h
  · next k z9 S1 hS =>
    have hS : S = (2, k, z9) :: S1 := hS
    subst hS
    split at h
    · next tg kd n z hw =>
      split at h
      · next hx =>
        obtain ⟨x1, x2, x3, rfl⟩ := hx
        obtain rfl := Option.some.inj h
        obtain ⟨⟨hd, hn⟩, hq⟩ := hok
        cases hK : kt[i.2.2.1]? with
        | none => rw [hK] at hq; cases hq
        | some ty => exact fun r1 r2 Q k9 => ev_s_alen X hK hd hn hw ⟨x1, x2⟩ x3 k9
      · cases h
    · cases h
  · cases h
theorem ev_p42 (X : ev_X p s m args c D cl dA kt A Gs own cc nL) (hGc : ∀ (h : Nat) (w : Cond), ev_hg Gc h = some w → w ∈ Gs) (hG : ∀ w ∈ Gs, (w.onTables && w.keeps) = true ∨ ∃ ty, w = .arrayClass ty) (hT : ev_okD Gs cl Ct Pg) (hnm : meth.name = nm) (hret : meth.sig.returnType = ret) (hlk : meth.locks = false) (hRf : R.frames = d + 1) (hRl : R.locals = 90 * (d + 1)) (hcl : ∀ (k : Nat) (as : List (Nat × Nat × Nat)) (w : List ev_C) (r : ev_R), call k as w = some r → ∀ (y : MethodName) (bytes : ByteArray) (maxL : Nat) (rt : Option FieldType) (cdm : ev_Cd), Pg[k]? = some ((y, bytes, maxL, rt), cdm) → ev_Met l D cl dA kt Gs y bytes maxL rt d as w r) (hdd : dd = d) (hsm : ∀ q ∈ sm, ∀ (y : MethodName) (bytes : ByteArray) (maxL : Nat) (rt : Option FieldType) (cdm : ev_Cd), Pg[q.1]? = some ((y, bytes, maxL, rt), cdm) → ev_Met l D cl dA kt Gs y bytes maxL rt q.2.1 q.2.2.2.1 q.2.2.2.2.1 q.2.2.2.2.2) (hok : ev_k42 Gc Ct kt Pg sm own nm cc nL ret cd st.1 i = true) (h : ev_o42 Ct ret sm dd call i st = some o) : ev_SS p l e R s m args below meth c D cl dA kt A ws0 nL cd st o := by
  obtain ⟨ix, L, S, w, nc, ns⟩ := st
  unfold ev_k42 at hok
  unfold ev_o42 at h
  simp only [Bool.and_eq_true, decide_eq_true_eq] at hok
  split at h
  · next x y k z9 S1 hS =>
    have hS : S = (0, x, y) :: (2, k, z9) :: S1 := hS
    subst hS
    split at h
    · next kd n es hw =>
      split at h
      · next hx =>
        obtain ⟨rfl, h1, h2, h3, rfl⟩ := hx
        split at h
        · next v hv =>
          obtain rfl := Option.some.inj h
          obtain ⟨⟨hd, hn⟩, hq⟩ := hok
          cases hK : kt[i.2.2.1]? with
          | none => rw [hK] at hq; cases hq
          | some ty =>
            rw [hK] at hq
            obtain ⟨j, rfl⟩ : ∃ j, x = j + 2147483648 := ⟨x - 2147483648, by omega⟩
            rw [Nat.add_sub_cancel] at h2 hv
            exact fun r1 r2 Q k9 => ev_s_aald X hK hq hd hn hw h2 h3 hv k9
        · cases h
      · cases h
    · cases h
  · cases h
theorem ev_p43 (X : ev_X p s m args c D cl dA kt A Gs own cc nL) (hGc : ∀ (h : Nat) (w : Cond), ev_hg Gc h = some w → w ∈ Gs) (hG : ∀ w ∈ Gs, (w.onTables && w.keeps) = true ∨ ∃ ty, w = .arrayClass ty) (hT : ev_okD Gs cl Ct Pg) (hnm : meth.name = nm) (hret : meth.sig.returnType = ret) (hlk : meth.locks = false) (hRf : R.frames = d + 1) (hRl : R.locals = 90 * (d + 1)) (hcl : ∀ (k : Nat) (as : List (Nat × Nat × Nat)) (w : List ev_C) (r : ev_R), call k as w = some r → ∀ (y : MethodName) (bytes : ByteArray) (maxL : Nat) (rt : Option FieldType) (cdm : ev_Cd), Pg[k]? = some ((y, bytes, maxL, rt), cdm) → ev_Met l D cl dA kt Gs y bytes maxL rt d as w r) (hdd : dd = d) (hsm : ∀ q ∈ sm, ∀ (y : MethodName) (bytes : ByteArray) (maxL : Nat) (rt : Option FieldType) (cdm : ev_Cd), Pg[q.1]? = some ((y, bytes, maxL, rt), cdm) → ev_Met l D cl dA kt Gs y bytes maxL rt q.2.1 q.2.2.2.1 q.2.2.2.2.1 q.2.2.2.2.2) (hok : ev_k43 Gc Ct kt Pg sm own nm cc nL ret cd st.1 i = true) (h : ev_o43 Ct ret sm dd call i st = some o) : ev_SS p l e R s m args below meth c D cl dA kt A ws0 nL cd st o := by
  obtain ⟨ix, L, S, w, nc, ns⟩ := st
  unfold ev_k43 at hok
  unfold ev_o43 at h
  simp only [Bool.and_eq_true, decide_eq_true_eq] at hok
  split at h
  · next o z8 x y k z9 S1 hS =>
    have hS : S = (2, o, z8) :: (0, x, y) :: (2, k, z9) :: S1 := hS
    subst hS
    split at h
    · next kd n es hw =>
      split at h
      · next ci z fs ho =>
        split at h
        · next hx =>
          obtain ⟨rfl, h1, h2, h3, rfl, rfl⟩ := hx
          obtain rfl := Option.some.inj h
          obtain ⟨⟨hd, hn⟩, hq⟩ := hok
          cases hC : Ct[i.2.2.2.1]? with
          | none => rw [hC] at hq; cases hq
          | some q =>
            rw [hC] at hq
            have hq := of_decide_eq_true hq
            obtain ⟨j, rfl⟩ : ∃ j, x = j + 2147483648 := ⟨x - 2147483648, by omega⟩
            rw [Nat.add_sub_cancel] at h2 ⊢
            exact fun r1 r2 Q k9 => ev_s_aast X hq (hT.1 _ _ hC).2.1 hd hn hw ho h2 h3 k9
        · cases h
      · cases h
    · cases h
  · cases h
theorem ev_p44 (X : ev_X p s m args c D cl dA kt A Gs own cc nL) (hGc : ∀ (h : Nat) (w : Cond), ev_hg Gc h = some w → w ∈ Gs) (hG : ∀ w ∈ Gs, (w.onTables && w.keeps) = true ∨ ∃ ty, w = .arrayClass ty) (hT : ev_okD Gs cl Ct Pg) (hnm : meth.name = nm) (hret : meth.sig.returnType = ret) (hlk : meth.locks = false) (hRf : R.frames = d + 1) (hRl : R.locals = 90 * (d + 1)) (hcl : ∀ (k : Nat) (as : List (Nat × Nat × Nat)) (w : List ev_C) (r : ev_R), call k as w = some r → ∀ (y : MethodName) (bytes : ByteArray) (maxL : Nat) (rt : Option FieldType) (cdm : ev_Cd), Pg[k]? = some ((y, bytes, maxL, rt), cdm) → ev_Met l D cl dA kt Gs y bytes maxL rt d as w r) (hdd : dd = d) (hsm : ∀ q ∈ sm, ∀ (y : MethodName) (bytes : ByteArray) (maxL : Nat) (rt : Option FieldType) (cdm : ev_Cd), Pg[q.1]? = some ((y, bytes, maxL, rt), cdm) → ev_Met l D cl dA kt Gs y bytes maxL rt q.2.1 q.2.2.2.1 q.2.2.2.2.1 q.2.2.2.2.2) (hok : ev_k44 Gc Ct kt Pg sm own nm cc nL ret cd st.1 i = true) (h : ev_o44 Ct ret sm dd call i st = some o) : ev_SS p l e R s m args below meth c D cl dA kt A ws0 nL cd st o := by
  obtain ⟨ix, L, S, w, nc, ns⟩ := st
  unfold ev_k44 at hok
  unfold ev_o44 at h
  simp only [Bool.and_eq_true, decide_eq_true_eq] at hok
  obtain rfl := Option.some.inj h
  exact fun _ _ Q k => ev_s_lconst X hok.1 hok.2 k
theorem ev_p46 (X : ev_X p s m args c D cl dA kt A Gs own cc nL) (hGc : ∀ (h : Nat) (w : Cond), ev_hg Gc h = some w → w ∈ Gs) (hG : ∀ w ∈ Gs, (w.onTables && w.keeps) = true ∨ ∃ ty, w = .arrayClass ty) (hT : ev_okD Gs cl Ct Pg) (hnm : meth.name = nm) (hret : meth.sig.returnType = ret) (hlk : meth.locks = false) (hRf : R.frames = d + 1) (hRl : R.locals = 90 * (d + 1)) (hcl : ∀ (k : Nat) (as : List (Nat × Nat × Nat)) (w : List ev_C) (r : ev_R), call k as w = some r → ∀ (y : MethodName) (bytes : ByteArray) (maxL : Nat) (rt : Option FieldType) (cdm : ev_Cd), Pg[k]? = some ((y, bytes, maxL, rt), cdm) → ev_Met l D cl dA kt Gs y bytes maxL rt d as w r) (hdd : dd = d) (hsm : ∀ q ∈ sm, ∀ (y : MethodName) (bytes : ByteArray) (maxL : Nat) (rt : Option FieldType) (cdm : ev_Cd), Pg[q.1]? = some ((y, bytes, maxL, rt), cdm) → ev_Met l D cl dA kt Gs y bytes maxL rt q.2.1 q.2.2.2.1 q.2.2.2.2.1 q.2.2.2.2.2) (hok : ev_k46 Gc Ct kt Pg sm own nm cc nL ret cd st.1 i = true) (h : ev_o46 Ct ret sm dd call i st = some o) : ev_SS p l e R s m args below meth c D cl dA kt A ws0 nL cd st o := by
  obtain ⟨ix, L, S, w, nc, ns⟩ := st
  unfold ev_k46 at hok
  unfold ev_o46 at h
  simp only [Bool.and_eq_true, decide_eq_true_eq] at hok
  split at h
  · next k z9 S1 hS =>
    have hS : S = (2, k, z9) :: S1 := hS
    subst hS
    split at h
    · next hcs =>
      obtain rfl := Option.some.inj h
      obtain ⟨⟨⟨⟨hd, hn⟩, h1⟩, h2⟩, h3⟩ := hok
      exact fun _ _ Q k9 => ev_s_obj X (hGc _ _ h1) (hGc _ _ h2) (hGc _ _ h3) (by omega) (by omega) hcs hd hn k9
    · cases h
  · cases h
theorem ev_p47 (X : ev_X p s m args c D cl dA kt A Gs own cc nL) (hGc : ∀ (h : Nat) (w : Cond), ev_hg Gc h = some w → w ∈ Gs) (hG : ∀ w ∈ Gs, (w.onTables && w.keeps) = true ∨ ∃ ty, w = .arrayClass ty) (hT : ev_okD Gs cl Ct Pg) (hnm : meth.name = nm) (hret : meth.sig.returnType = ret) (hlk : meth.locks = false) (hRf : R.frames = d + 1) (hRl : R.locals = 90 * (d + 1)) (hcl : ∀ (k : Nat) (as : List (Nat × Nat × Nat)) (w : List ev_C) (r : ev_R), call k as w = some r → ∀ (y : MethodName) (bytes : ByteArray) (maxL : Nat) (rt : Option FieldType) (cdm : ev_Cd), Pg[k]? = some ((y, bytes, maxL, rt), cdm) → ev_Met l D cl dA kt Gs y bytes maxL rt d as w r) (hdd : dd = d) (hsm : ∀ q ∈ sm, ∀ (y : MethodName) (bytes : ByteArray) (maxL : Nat) (rt : Option FieldType) (cdm : ev_Cd), Pg[q.1]? = some ((y, bytes, maxL, rt), cdm) → ev_Met l D cl dA kt Gs y bytes maxL rt q.2.1 q.2.2.2.1 q.2.2.2.2.1 q.2.2.2.2.2) (hok : ev_k47 Gc Ct kt Pg sm own nm cc nL ret cd st.1 i = true) (h : ev_o47 Ct ret sm dd call i st = some o) : ev_SS p l e R s m args below meth c D cl dA kt A ws0 nL cd st o := by
  obtain ⟨ix, L, S, w, nc, ns⟩ := st
  unfold ev_k47 at hok
  unfold ev_o47 at h
  simp only [Bool.and_eq_true, decide_eq_true_eq] at hok
  obtain rfl := Option.some.inj h
  exact fun _ _ Q k => ev_s_ldc2 X hok.1.1 (hGc _ _ hok.2) hok.1.2 k
theorem ev_p48 (X : ev_X p s m args c D cl dA kt A Gs own cc nL) (hGc : ∀ (h : Nat) (w : Cond), ev_hg Gc h = some w → w ∈ Gs) (hG : ∀ w ∈ Gs, (w.onTables && w.keeps) = true ∨ ∃ ty, w = .arrayClass ty) (hT : ev_okD Gs cl Ct Pg) (hnm : meth.name = nm) (hret : meth.sig.returnType = ret) (hlk : meth.locks = false) (hRf : R.frames = d + 1) (hRl : R.locals = 90 * (d + 1)) (hcl : ∀ (k : Nat) (as : List (Nat × Nat × Nat)) (w : List ev_C) (r : ev_R), call k as w = some r → ∀ (y : MethodName) (bytes : ByteArray) (maxL : Nat) (rt : Option FieldType) (cdm : ev_Cd), Pg[k]? = some ((y, bytes, maxL, rt), cdm) → ev_Met l D cl dA kt Gs y bytes maxL rt d as w r) (hdd : dd = d) (hsm : ∀ q ∈ sm, ∀ (y : MethodName) (bytes : ByteArray) (maxL : Nat) (rt : Option FieldType) (cdm : ev_Cd), Pg[q.1]? = some ((y, bytes, maxL, rt), cdm) → ev_Met l D cl dA kt Gs y bytes maxL rt q.2.1 q.2.2.2.1 q.2.2.2.2.1 q.2.2.2.2.2) (hok : ev_k48 Gc Ct kt Pg sm own nm cc nL ret cd st.1 i = true) (h : ev_o48 Ct ret sm dd call i st = some o) : ev_SS p l e R s m args below meth c D cl dA kt A ws0 nL cd st o := by
  obtain ⟨ix, L, S, w, nc, ns⟩ := st
  unfold ev_k48 at hok
  unfold ev_o48 at h
  simp only [Bool.and_eq_true, decide_eq_true_eq] at hok
  split at h
  · next v hS =>
    have hS : S = [v] := hS
    subst hS
    split at h
    · next hv =>
      obtain rfl := Option.some.inj h
      obtain ⟨hv0, hv⟩ := hv
      intro r' w' mc ms e1 e2 e3 e4
      refine ev_G_mono (fun t ht => ?_) (ev_s_lret X (hret.trans hv) hv0 hlk hok e3 e4)
      obtain ⟨o, a1, a2, a3, a4⟩ := ht
      exact ⟨o, a1, a2, ev_Q_weak e1 e2 a3, a4⟩
    · cases h
  · cases h
theorem ev_p49 (X : ev_X p s m args c D cl dA kt A Gs own cc nL) (hGc : ∀ (h : Nat) (w : Cond), ev_hg Gc h = some w → w ∈ Gs) (hG : ∀ w ∈ Gs, (w.onTables && w.keeps) = true ∨ ∃ ty, w = .arrayClass ty) (hT : ev_okD Gs cl Ct Pg) (hnm : meth.name = nm) (hret : meth.sig.returnType = ret) (hlk : meth.locks = false) (hRf : R.frames = d + 1) (hRl : R.locals = 90 * (d + 1)) (hcl : ∀ (k : Nat) (as : List (Nat × Nat × Nat)) (w : List ev_C) (r : ev_R), call k as w = some r → ∀ (y : MethodName) (bytes : ByteArray) (maxL : Nat) (rt : Option FieldType) (cdm : ev_Cd), Pg[k]? = some ((y, bytes, maxL, rt), cdm) → ev_Met l D cl dA kt Gs y bytes maxL rt d as w r) (hdd : dd = d) (hsm : ∀ q ∈ sm, ∀ (y : MethodName) (bytes : ByteArray) (maxL : Nat) (rt : Option FieldType) (cdm : ev_Cd), Pg[q.1]? = some ((y, bytes, maxL, rt), cdm) → ev_Met l D cl dA kt Gs y bytes maxL rt q.2.1 q.2.2.2.1 q.2.2.2.2.1 q.2.2.2.2.2) (hok : ev_k49 Gc Ct kt Pg sm own nm cc nL ret cd st.1 i = true) (h : ev_o49 Ct ret sm dd call i st = some o) : ev_SS p l e R s m args below meth c D cl dA kt A ws0 nL cd st o := by
  obtain ⟨ix, L, S, w, nc, ns⟩ := st
  unfold ev_k49 at hok
  unfold ev_o49 at h
  simp only [Bool.and_eq_true, decide_eq_true_eq] at hok
  split at h
  · next hS =>
    have hS : S = [] := hS
    subst hS
    obtain rfl := Option.some.inj h
    intro r' w' mc ms e1 e2 e3 e4
    refine ev_G_mono (fun t ht => ?_) (ev_s_vret X (hret.trans hok.2) hlk hok.1 e3 e4)
    obtain ⟨o, a1, a2, a3, a4⟩ := ht
    exact ⟨o, a1, a2, ev_Q_weak e1 e2 a3, a4⟩
  · cases h
theorem ev_p50 (X : ev_X p s m args c D cl dA kt A Gs own cc nL) (hGc : ∀ (h : Nat) (w : Cond), ev_hg Gc h = some w → w ∈ Gs) (hG : ∀ w ∈ Gs, (w.onTables && w.keeps) = true ∨ ∃ ty, w = .arrayClass ty) (hT : ev_okD Gs cl Ct Pg) (hnm : meth.name = nm) (hret : meth.sig.returnType = ret) (hlk : meth.locks = false) (hRf : R.frames = d + 1) (hRl : R.locals = 90 * (d + 1)) (hcl : ∀ (k : Nat) (as : List (Nat × Nat × Nat)) (w : List ev_C) (r : ev_R), call k as w = some r → ∀ (y : MethodName) (bytes : ByteArray) (maxL : Nat) (rt : Option FieldType) (cdm : ev_Cd), Pg[k]? = some ((y, bytes, maxL, rt), cdm) → ev_Met l D cl dA kt Gs y bytes maxL rt d as w r) (hdd : dd = d) (hsm : ∀ q ∈ sm, ∀ (y : MethodName) (bytes : ByteArray) (maxL : Nat) (rt : Option FieldType) (cdm : ev_Cd), Pg[q.1]? = some ((y, bytes, maxL, rt), cdm) → ev_Met l D cl dA kt Gs y bytes maxL rt q.2.1 q.2.2.2.1 q.2.2.2.2.1 q.2.2.2.2.2) (hok : ev_k50 Gc Ct kt Pg sm own nm cc nL ret cd st.1 i = true) (h : ev_o50 Ct ret sm dd call i st = some o) : ev_SS p l e R s m args below meth c D cl dA kt A ws0 nL cd st o := by
  obtain ⟨ix, L, S, w, nc, ns⟩ := st
  unfold ev_k50 at hok
  unfold ev_o50 at h
  simp only [Bool.and_eq_true, decide_eq_true_eq] at hok
  split at h
  · next v hS =>
    have hS : S = [v] := hS
    subst hS
    split at h
    · next hv =>
      obtain rfl := Option.some.inj h
      obtain ⟨hv0, hv⟩ := hv
      intro r' w' mc ms e1 e2 e3 e4
      unfold ev_fr at hv
      cases hrt : ret with
      | none => rw [hrt] at hv; cases hv
      | some ty =>
        rw [hrt] at hv
        refine ev_G_mono (fun t ht => ?_) (ev_s_iret X (hret.trans hrt) hv0 hv hlk hok e3 e4)
        obtain ⟨o, a1, a2, a3, a4⟩ := ht
        exact ⟨o, a1, a2, ev_Q_weak e1 e2 a3, a4⟩
    · cases h
  · cases h
theorem ev_p51 (X : ev_X p s m args c D cl dA kt A Gs own cc nL) (hGc : ∀ (h : Nat) (w : Cond), ev_hg Gc h = some w → w ∈ Gs) (hG : ∀ w ∈ Gs, (w.onTables && w.keeps) = true ∨ ∃ ty, w = .arrayClass ty) (hT : ev_okD Gs cl Ct Pg) (hnm : meth.name = nm) (hret : meth.sig.returnType = ret) (hlk : meth.locks = false) (hRf : R.frames = d + 1) (hRl : R.locals = 90 * (d + 1)) (hcl : ∀ (k : Nat) (as : List (Nat × Nat × Nat)) (w : List ev_C) (r : ev_R), call k as w = some r → ∀ (y : MethodName) (bytes : ByteArray) (maxL : Nat) (rt : Option FieldType) (cdm : ev_Cd), Pg[k]? = some ((y, bytes, maxL, rt), cdm) → ev_Met l D cl dA kt Gs y bytes maxL rt d as w r) (hdd : dd = d) (hsm : ∀ q ∈ sm, ∀ (y : MethodName) (bytes : ByteArray) (maxL : Nat) (rt : Option FieldType) (cdm : ev_Cd), Pg[q.1]? = some ((y, bytes, maxL, rt), cdm) → ev_Met l D cl dA kt Gs y bytes maxL rt q.2.1 q.2.2.2.1 q.2.2.2.2.1 q.2.2.2.2.2) (hok : ev_k51 Gc Ct kt Pg sm own nm cc nL ret cd st.1 i = true) (h : ev_o51 Ct ret sm dd call i st = some o) : ev_SS p l e R s m args below meth c D cl dA kt A ws0 nL cd st o := by
  obtain ⟨ix, L, S, w, nc, ns⟩ := st
  unfold ev_k51 at hok
  unfold ev_o51 at h
  simp only [Bool.and_eq_true, decide_eq_true_eq] at hok
  split at h
  · next x k z9 S1 hS =>
    have hS : S = x :: (2, k, z9) :: S1 := hS
    subst hS
    split at h
    · next kd n b z hw =>
      split at h
      · next hx =>
        obtain ⟨rfl, x1, x2, x3, x4⟩ := hx
        obtain rfl := Option.some.inj h
        exact fun r1 r2 Q k9 => ev_s_iald X hok.2 hok.1.1 hok.1.2 hw rfl x1 x2 x3 x4 k9
      · cases h
    · cases h
  · cases h
theorem ev_p52 (X : ev_X p s m args c D cl dA kt A Gs own cc nL) (hGc : ∀ (h : Nat) (w : Cond), ev_hg Gc h = some w → w ∈ Gs) (hG : ∀ w ∈ Gs, (w.onTables && w.keeps) = true ∨ ∃ ty, w = .arrayClass ty) (hT : ev_okD Gs cl Ct Pg) (hnm : meth.name = nm) (hret : meth.sig.returnType = ret) (hlk : meth.locks = false) (hRf : R.frames = d + 1) (hRl : R.locals = 90 * (d + 1)) (hcl : ∀ (k : Nat) (as : List (Nat × Nat × Nat)) (w : List ev_C) (r : ev_R), call k as w = some r → ∀ (y : MethodName) (bytes : ByteArray) (maxL : Nat) (rt : Option FieldType) (cdm : ev_Cd), Pg[k]? = some ((y, bytes, maxL, rt), cdm) → ev_Met l D cl dA kt Gs y bytes maxL rt d as w r) (hdd : dd = d) (hsm : ∀ q ∈ sm, ∀ (y : MethodName) (bytes : ByteArray) (maxL : Nat) (rt : Option FieldType) (cdm : ev_Cd), Pg[q.1]? = some ((y, bytes, maxL, rt), cdm) → ev_Met l D cl dA kt Gs y bytes maxL rt q.2.1 q.2.2.2.1 q.2.2.2.2.1 q.2.2.2.2.2) (hok : ev_k52 Gc Ct kt Pg sm own nm cc nL ret cd st.1 i = true) (h : ev_o52 Ct ret sm dd call i st = some o) : ev_SS p l e R s m args below meth c D cl dA kt A ws0 nL cd st o := by
  obtain ⟨ix, L, S, w, nc, ns⟩ := st
  unfold ev_k52 at hok
  unfold ev_o52 at h
  simp only [Bool.and_eq_true, decide_eq_true_eq] at hok
  split at h
  · next x k z9 S1 hS =>
    have hS : S = x :: (2, k, z9) :: S1 := hS
    subst hS
    split at h
    · next tg kd n b z hw =>
      split at h
      · next hx =>
        obtain ⟨x0, rfl, x1, x2, x3, x4⟩ := hx
        obtain rfl := Option.some.inj h
        exact fun r1 r2 Q k9 => ev_s_bald X hok.2 hok.1.1 hok.1.2 x0 hw rfl x1 x2 x3 x4 k9
      · cases h
    · cases h
  · cases h
theorem ev_p53 (X : ev_X p s m args c D cl dA kt A Gs own cc nL) (hGc : ∀ (h : Nat) (w : Cond), ev_hg Gc h = some w → w ∈ Gs) (hG : ∀ w ∈ Gs, (w.onTables && w.keeps) = true ∨ ∃ ty, w = .arrayClass ty) (hT : ev_okD Gs cl Ct Pg) (hnm : meth.name = nm) (hret : meth.sig.returnType = ret) (hlk : meth.locks = false) (hRf : R.frames = d + 1) (hRl : R.locals = 90 * (d + 1)) (hcl : ∀ (k : Nat) (as : List (Nat × Nat × Nat)) (w : List ev_C) (r : ev_R), call k as w = some r → ∀ (y : MethodName) (bytes : ByteArray) (maxL : Nat) (rt : Option FieldType) (cdm : ev_Cd), Pg[k]? = some ((y, bytes, maxL, rt), cdm) → ev_Met l D cl dA kt Gs y bytes maxL rt d as w r) (hdd : dd = d) (hsm : ∀ q ∈ sm, ∀ (y : MethodName) (bytes : ByteArray) (maxL : Nat) (rt : Option FieldType) (cdm : ev_Cd), Pg[q.1]? = some ((y, bytes, maxL, rt), cdm) → ev_Met l D cl dA kt Gs y bytes maxL rt q.2.1 q.2.2.2.1 q.2.2.2.2.1 q.2.2.2.2.2) (hok : ev_k53 Gc Ct kt Pg sm own nm cc nL ret cd st.1 i = true) (h : ev_o53 Ct ret sm dd call i st = some o) : ev_SS p l e R s m args below meth c D cl dA kt A ws0 nL cd st o := by
  obtain ⟨ix, L, S, w, nc, ns⟩ := st
  unfold ev_k53 at hok
  unfold ev_o53 at h
  simp only [Bool.and_eq_true, decide_eq_true_eq] at hok
  split at h
  · next x k z9 S1 hS =>
    have hS : S = x :: (2, k, z9) :: S1 := hS
    subst hS
    split at h
    · next kd n b z hw =>
      split at h
      · next hx =>
        obtain ⟨rfl, x1, x2, x3, x4⟩ := hx
        obtain rfl := Option.some.inj h
        exact fun r1 r2 Q k9 => ev_s_zald X hok.2 hok.1.1 hok.1.2 hw rfl x1 x2 x3 x4 k9
      · cases h
    · cases h
  · cases h
theorem ev_p54 (X : ev_X p s m args c D cl dA kt A Gs own cc nL) (hGc : ∀ (h : Nat) (w : Cond), ev_hg Gc h = some w → w ∈ Gs) (hG : ∀ w ∈ Gs, (w.onTables && w.keeps) = true ∨ ∃ ty, w = .arrayClass ty) (hT : ev_okD Gs cl Ct Pg) (hnm : meth.name = nm) (hret : meth.sig.returnType = ret) (hlk : meth.locks = false) (hRf : R.frames = d + 1) (hRl : R.locals = 90 * (d + 1)) (hcl : ∀ (k : Nat) (as : List (Nat × Nat × Nat)) (w : List ev_C) (r : ev_R), call k as w = some r → ∀ (y : MethodName) (bytes : ByteArray) (maxL : Nat) (rt : Option FieldType) (cdm : ev_Cd), Pg[k]? = some ((y, bytes, maxL, rt), cdm) → ev_Met l D cl dA kt Gs y bytes maxL rt d as w r) (hdd : dd = d) (hsm : ∀ q ∈ sm, ∀ (y : MethodName) (bytes : ByteArray) (maxL : Nat) (rt : Option FieldType) (cdm : ev_Cd), Pg[q.1]? = some ((y, bytes, maxL, rt), cdm) → ev_Met l D cl dA kt Gs y bytes maxL rt q.2.1 q.2.2.2.1 q.2.2.2.2.1 q.2.2.2.2.2) (hok : ev_k54 Gc Ct kt Pg sm own nm cc nL ret cd st.1 i = true) (h : ev_o54 Ct ret sm dd call i st = some o) : ev_SS p l e R s m args below meth c D cl dA kt A ws0 nL cd st o := by
  obtain ⟨ix, L, S, w, nc, ns⟩ := st
  unfold ev_k54 at hok
  unfold ev_o54 at h
  simp only [Bool.and_eq_true, decide_eq_true_eq] at hok
  split at h
  · next x k z9 S1 hS =>
    have hS : S = x :: (2, k, z9) :: S1 := hS
    subst hS
    split at h
    · next kd n z hw =>
      split at h
      · next hx =>
        obtain ⟨rfl, x2, x3, x4⟩ := hx
        obtain rfl := Option.some.inj h
        exact fun r1 r2 Q k9 => ev_s_lald X hok.2 hok.1.1 hok.1.2 hw x2 x3 x4 k9
      · cases h
    · cases h
  · cases h
theorem ev_p55 (X : ev_X p s m args c D cl dA kt A Gs own cc nL) (hGc : ∀ (h : Nat) (w : Cond), ev_hg Gc h = some w → w ∈ Gs) (hG : ∀ w ∈ Gs, (w.onTables && w.keeps) = true ∨ ∃ ty, w = .arrayClass ty) (hT : ev_okD Gs cl Ct Pg) (hnm : meth.name = nm) (hret : meth.sig.returnType = ret) (hlk : meth.locks = false) (hRf : R.frames = d + 1) (hRl : R.locals = 90 * (d + 1)) (hcl : ∀ (k : Nat) (as : List (Nat × Nat × Nat)) (w : List ev_C) (r : ev_R), call k as w = some r → ∀ (y : MethodName) (bytes : ByteArray) (maxL : Nat) (rt : Option FieldType) (cdm : ev_Cd), Pg[k]? = some ((y, bytes, maxL, rt), cdm) → ev_Met l D cl dA kt Gs y bytes maxL rt d as w r) (hdd : dd = d) (hsm : ∀ q ∈ sm, ∀ (y : MethodName) (bytes : ByteArray) (maxL : Nat) (rt : Option FieldType) (cdm : ev_Cd), Pg[q.1]? = some ((y, bytes, maxL, rt), cdm) → ev_Met l D cl dA kt Gs y bytes maxL rt q.2.1 q.2.2.2.1 q.2.2.2.2.1 q.2.2.2.2.2) (hok : ev_k55 Gc Ct kt Pg sm own nm cc nL ret cd st.1 i = true) (h : ev_o55 Ct ret sm dd call i st = some o) : ev_SS p l e R s m args below meth c D cl dA kt A ws0 nL cd st o := by
  obtain ⟨ix, L, S, w, nc, ns⟩ := st
  unfold ev_k55 at hok
  unfold ev_o55 at h
  simp only [Bool.and_eq_true, decide_eq_true_eq] at hok
  split at h
  · next k z S2 hS =>
    have hS : S.drop i.2.2.2.1 = (2, k, z) :: S2 := hS
    split at h
    · next w1 mc ms hr =>
      split at h
      · next hx =>
        obtain rfl := Option.some.inj h
        obtain ⟨⟨hd, hn⟩, hq⟩ := hok
        obtain ⟨q, hqm, hmi, is, x1, x2, x3, x4, x5, x8, x9⟩ := ev_att_ok hr
        split at hq
        · next y bytes maxL rt cdm hP =>
          simp only [Bool.and_eq_true, decide_eq_true_eq] at hq
          obtain ⟨⟨⟨⟨⟨⟨⟨q1, q2⟩, q3⟩, q4⟩, q5⟩, q6⟩, q7⟩, q8⟩ := hq
          subst q6
          have hM := hsm q hqm _ _ _ _ _ (by rw [hmi]; exact hP)
          obtain ⟨qk, qd, qp, qa, qw, qr, q1', qm, qs⟩ := q
          dsimp only at x2 x3 x4 x5 x8 x9 hM
          obtain ⟨y1, y2, y3, y4⟩ : none = qr.map (ev_rnV is w.length) ∧ w1 = ev_up ev_c0 w (ev_mix w qw q1' is) is ∧ mc = qm ∧ ms = qs := by
            have z1 := congrArg Prod.fst x9
            have z2 := congrArg (fun r => r.2.1) x9
            have z3 := congrArg (fun r => r.2.2.1) x9
            have z4 := congrArg (fun r => r.2.2.2) x9
            exact ⟨z1, z2, z3, z4⟩
          cases qr with
          | some v => cases y1
          | none =>
            subst y2 y3 y4
            have hSS : S = S.take i.2.2.2.1 ++ (2, k, z) :: S2 := by rw [← hS, List.take_append_drop]
            intro r1 r2 Q k9
            show ev_G p l e R s m args below meth c Q D cl dA A ws0 nL cd (ix, L, S, w, nc, ns)
            rw [hSS]
            have hRd : qd + 1 ≤ R.frames ∧ 8 + (maxL + 11) + 90 * qd ≤ R.locals := ⟨by omega, by omega⟩
            exact ev_s_fI X hG hM x1 x2 x3 x4 x5 hx.1 (hT.2 _ _ _ _ _ _ hP) (hGc _ _ q3) (hGc _ _ q1) (hGc _ _ q4) q5 q7 hRd hx.2 ⟨r1, r2⟩ hd hn k9
        · cases hq
      · cases h
    · cases h
  · cases h
theorem ev_p56 (X : ev_X p s m args c D cl dA kt A Gs own cc nL) (hGc : ∀ (h : Nat) (w : Cond), ev_hg Gc h = some w → w ∈ Gs) (hG : ∀ w ∈ Gs, (w.onTables && w.keeps) = true ∨ ∃ ty, w = .arrayClass ty) (hT : ev_okD Gs cl Ct Pg) (hnm : meth.name = nm) (hret : meth.sig.returnType = ret) (hlk : meth.locks = false) (hRf : R.frames = d + 1) (hRl : R.locals = 90 * (d + 1)) (hcl : ∀ (k : Nat) (as : List (Nat × Nat × Nat)) (w : List ev_C) (r : ev_R), call k as w = some r → ∀ (y : MethodName) (bytes : ByteArray) (maxL : Nat) (rt : Option FieldType) (cdm : ev_Cd), Pg[k]? = some ((y, bytes, maxL, rt), cdm) → ev_Met l D cl dA kt Gs y bytes maxL rt d as w r) (hdd : dd = d) (hsm : ∀ q ∈ sm, ∀ (y : MethodName) (bytes : ByteArray) (maxL : Nat) (rt : Option FieldType) (cdm : ev_Cd), Pg[q.1]? = some ((y, bytes, maxL, rt), cdm) → ev_Met l D cl dA kt Gs y bytes maxL rt q.2.1 q.2.2.2.1 q.2.2.2.2.1 q.2.2.2.2.2) (hok : ev_k56 Gc Ct kt Pg sm own nm cc nL ret cd st.1 i = true) (h : ev_o56 Ct ret sm dd call i st = some o) : ev_SS p l e R s m args below meth c D cl dA kt A ws0 nL cd st o := by
  obtain ⟨ix, L, S, w, nc, ns⟩ := st
  unfold ev_k56 at hok
  unfold ev_o56 at h
  simp only [Bool.and_eq_true, decide_eq_true_eq] at hok
  split at h
  · next k z S2 hS =>
    have hS : S.drop i.2.2.2.1 = (2, k, z) :: S2 := hS
    split at h
    · next ci z8 fs hw =>
      split at h
      · next r w1 mc ms hr =>
        split at h
        · next hx =>
          obtain ⟨hx1, hx2, rfl⟩ := hx
          obtain rfl := Option.some.inj h
          obtain ⟨⟨hd, hn⟩, hq⟩ := hok
          obtain ⟨q, hqm, hmi, is, x1, x2, x3, x4, x5, x8, x9⟩ := ev_att_ok hr
          split at hq
          · next y bytes maxL rt cdm hP =>
            simp only [Bool.and_eq_true, decide_eq_true_eq] at hq
            obtain ⟨⟨⟨⟨⟨⟨⟨q1, q2⟩, q3⟩, q4⟩, q5⟩, q6⟩, q7⟩, q8⟩ := hq
            cases hC : Ct[i.2.2.2.2.2.2 % 64]? with
            | none => rw [hC] at q6; cases q6
            | some qc =>
              rw [hC] at q6
              have q6 := of_decide_eq_true q6
              have hM := hsm q hqm _ _ _ _ _ (by rw [hmi]; exact hP)
              obtain ⟨qk, qd, qp, qa, qw, qr, q1', qm, qs⟩ := q
              dsimp only at x2 x3 x4 x5 x8 x9 hM
              obtain ⟨y1, y2, y3, y4⟩ : r = qr.map (ev_rnV is w.length) ∧ w1 = ev_up ev_c0 w (ev_mix w qw q1' is) is ∧ mc = qm ∧ ms = qs := by
                have z1 := congrArg Prod.fst x9
                have z2 := congrArg (fun r => r.2.1) x9
                have z3 := congrArg (fun r => r.2.2.1) x9
                have z4 := congrArg (fun r => r.2.2.2) x9
                exact ⟨z1, z2, z3, z4⟩
              subst y1 y2 y3 y4
              have hSS : S = S.take i.2.2.2.1 ++ (2, k, z) :: S2 := by rw [← hS, List.take_append_drop]
              intro r1 r2 Q k9
              show ev_G p l e R s m args below meth c Q D cl dA A ws0 nL cd (ix, L, S, w, nc, ns)
              rw [hSS]
              have hRd : qd + 1 ≤ R.frames ∧ 8 + (maxL + 11) + 90 * qd ≤ R.locals := ⟨by omega, by omega⟩
              exact ev_s_fV X hG hM x1 x2 x3 x4 x5 hx1 hw (hT.1 _ _ hC).2.1 q6 (hT.2 _ _ _ _ _ _ hP) (hGc _ _ q3) (hGc _ _ q1) (hGc _ _ q4) (hGc _ _ q5) q7 hRd hx2 ⟨r1, r2⟩ hd hn k9
          · cases hq
        · cases h
      · cases h
    · cases h
  · cases h
theorem ev_p57 (X : ev_X p s m args c D cl dA kt A Gs own cc nL) (hGc : ∀ (h : Nat) (w : Cond), ev_hg Gc h = some w → w ∈ Gs) (hG : ∀ w ∈ Gs, (w.onTables && w.keeps) = true ∨ ∃ ty, w = .arrayClass ty) (hT : ev_okD Gs cl Ct Pg) (hnm : meth.name = nm) (hret : meth.sig.returnType = ret) (hlk : meth.locks = false) (hRf : R.frames = d + 1) (hRl : R.locals = 90 * (d + 1)) (hcl : ∀ (k : Nat) (as : List (Nat × Nat × Nat)) (w : List ev_C) (r : ev_R), call k as w = some r → ∀ (y : MethodName) (bytes : ByteArray) (maxL : Nat) (rt : Option FieldType) (cdm : ev_Cd), Pg[k]? = some ((y, bytes, maxL, rt), cdm) → ev_Met l D cl dA kt Gs y bytes maxL rt d as w r) (hdd : dd = d) (hsm : ∀ q ∈ sm, ∀ (y : MethodName) (bytes : ByteArray) (maxL : Nat) (rt : Option FieldType) (cdm : ev_Cd), Pg[q.1]? = some ((y, bytes, maxL, rt), cdm) → ev_Met l D cl dA kt Gs y bytes maxL rt q.2.1 q.2.2.2.1 q.2.2.2.2.1 q.2.2.2.2.2) (hok : ev_k57 Gc Ct kt Pg sm own nm cc nL ret cd st.1 i = true) (h : ev_o57 Ct ret sm dd call i st = some o) : ev_SS p l e R s m args below meth c D cl dA kt A ws0 nL cd st o := by
  obtain ⟨ix, L, S, w, nc, ns⟩ := st
  unfold ev_k57 at hok
  unfold ev_o57 at h
  simp only [Bool.and_eq_true, decide_eq_true_eq] at hok
  split at h
  · next r w1 mc ms hr =>
    split at h
    · next hx =>
      obtain ⟨hx1, hx2⟩ := hx
      obtain rfl := Option.some.inj h
      obtain ⟨⟨hd, hn⟩, hq⟩ := hok
      obtain ⟨q, hqm, hmi, is, x1, x2, x3, x4, x5, x8, x9⟩ := ev_att_ok hr
      split at hq
      · next y bytes maxL rt cdm hP =>
        simp only [Bool.and_eq_true, decide_eq_true_eq] at hq
        obtain ⟨⟨⟨⟨⟨q1, q2⟩, q3⟩, q4⟩, q7⟩, q8⟩ := hq
        have hM := hsm q hqm _ _ _ _ _ (by rw [hmi]; exact hP)
        obtain ⟨qk, qd, qp, qa, qw, qr, q1', qm, qs⟩ := q
        dsimp only at x2 x3 x4 x5 x8 x9 hM
        obtain ⟨y1, y2, y3, y4⟩ : r = qr.map (ev_rnV is w.length) ∧ w1 = ev_up ev_c0 w (ev_mix w qw q1' is) is ∧ mc = qm ∧ ms = qs := by
          have z1 := congrArg Prod.fst x9
          have z2 := congrArg (fun r => r.2.1) x9
          have z3 := congrArg (fun r => r.2.2.1) x9
          have z4 := congrArg (fun r => r.2.2.2) x9
          exact ⟨z1, z2, z3, z4⟩
        subst y1 y2 y3 y4
        have hSS : S = S.take i.2.2.2.1 ++ S.drop i.2.2.2.1 := (List.take_append_drop _ _).symm
        intro r1 r2 Q k9
        show ev_G p l e R s m args below meth c Q D cl dA A ws0 nL cd (ix, L, S, w, nc, ns)
        have hRd : qd + 1 ≤ R.frames ∧ 8 + (maxL + 11) + 90 * qd ≤ R.locals := ⟨by omega, by omega⟩
        have k0 := ev_s_fS (S1 := S.take i.2.2.2.1) (S2 := S.drop i.2.2.2.1) X hG hM x1 x2 x3 x4 x5 hx1 (hT.2 _ _ _ _ _ _ hP) (hGc _ _ q3) (hGc _ _ q1) (hGc _ _ q4) q7 hRd hx2 ⟨r1, r2⟩ hd hn k9
        rw [← hSS] at k0
        exact k0
      · cases hq
    · cases h
  · cases h
theorem ev_p58 (X : ev_X p s m args c D cl dA kt A Gs own cc nL) (hGc : ∀ (h : Nat) (w : Cond), ev_hg Gc h = some w → w ∈ Gs) (hG : ∀ w ∈ Gs, (w.onTables && w.keeps) = true ∨ ∃ ty, w = .arrayClass ty) (hT : ev_okD Gs cl Ct Pg) (hnm : meth.name = nm) (hret : meth.sig.returnType = ret) (hlk : meth.locks = false) (hRf : R.frames = d + 1) (hRl : R.locals = 90 * (d + 1)) (hcl : ∀ (k : Nat) (as : List (Nat × Nat × Nat)) (w : List ev_C) (r : ev_R), call k as w = some r → ∀ (y : MethodName) (bytes : ByteArray) (maxL : Nat) (rt : Option FieldType) (cdm : ev_Cd), Pg[k]? = some ((y, bytes, maxL, rt), cdm) → ev_Met l D cl dA kt Gs y bytes maxL rt d as w r) (hdd : dd = d) (hsm : ∀ q ∈ sm, ∀ (y : MethodName) (bytes : ByteArray) (maxL : Nat) (rt : Option FieldType) (cdm : ev_Cd), Pg[q.1]? = some ((y, bytes, maxL, rt), cdm) → ev_Met l D cl dA kt Gs y bytes maxL rt q.2.1 q.2.2.2.1 q.2.2.2.2.1 q.2.2.2.2.2) (hok : ev_k58 Gc Ct kt Pg sm own nm cc nL ret cd st.1 i = true) (h : ev_o58 Ct ret sm dd call i st = some o) : ev_SS p l e R s m args below meth c D cl dA kt A ws0 nL cd st o := by
  obtain ⟨ix, L, S, w, nc, ns⟩ := st
  unfold ev_k58 at hok
  unfold ev_o58 at h
  simp only [Bool.and_eq_true, decide_eq_true_eq] at hok
  split at h
  · next r w1 mc ms hr =>
    split at h
    · next hx =>
      obtain ⟨hx1, hx2, hx3⟩ := hx
      obtain rfl := Option.some.inj h
      obtain ⟨⟨hd, hn⟩, hq⟩ := hok
      split at hq
      · next y bytes maxL rt cdm hP =>
        simp only [Bool.and_eq_true, decide_eq_true_eq] at hq
        obtain ⟨⟨⟨⟨⟨q1, q2⟩, q3⟩, q4⟩, q7⟩, q8⟩ := hq
        have hM := hcl _ _ _ _ hr _ _ _ _ _ hP
        have hSS : S = S.take i.2.2.2.1 ++ S.drop i.2.2.2.1 := (List.take_append_drop _ _).symm
        intro r1 r2 Q k9
        show ev_G p l e R s m args below meth c Q D cl dA A ws0 nL cd (ix, L, S, w, nc, ns)
        have hRd : d + 1 ≤ R.frames ∧ 8 + (maxL + 11) + 90 * d ≤ R.locals := ⟨by omega, by omega⟩
        have k0 := ev_s_invS (S1 := S.take i.2.2.2.1) (S2 := S.drop i.2.2.2.1) X hG hM hx3 hx1 (hT.2 _ _ _ _ _ _ hP) (hGc _ _ q3) (hGc _ _ q1) (hGc _ _ q4) q7 hRd hx2 ⟨r1, r2⟩ hd hn k9
        rw [← hSS] at k0
        exact k0
      · cases hq
    · cases h
  · cases h
theorem ev_p59 (X : ev_X p s m args c D cl dA kt A Gs own cc nL) (hGc : ∀ (h : Nat) (w : Cond), ev_hg Gc h = some w → w ∈ Gs) (hG : ∀ w ∈ Gs, (w.onTables && w.keeps) = true ∨ ∃ ty, w = .arrayClass ty) (hT : ev_okD Gs cl Ct Pg) (hnm : meth.name = nm) (hret : meth.sig.returnType = ret) (hlk : meth.locks = false) (hRf : R.frames = d + 1) (hRl : R.locals = 90 * (d + 1)) (hcl : ∀ (k : Nat) (as : List (Nat × Nat × Nat)) (w : List ev_C) (r : ev_R), call k as w = some r → ∀ (y : MethodName) (bytes : ByteArray) (maxL : Nat) (rt : Option FieldType) (cdm : ev_Cd), Pg[k]? = some ((y, bytes, maxL, rt), cdm) → ev_Met l D cl dA kt Gs y bytes maxL rt d as w r) (hdd : dd = d) (hsm : ∀ q ∈ sm, ∀ (y : MethodName) (bytes : ByteArray) (maxL : Nat) (rt : Option FieldType) (cdm : ev_Cd), Pg[q.1]? = some ((y, bytes, maxL, rt), cdm) → ev_Met l D cl dA kt Gs y bytes maxL rt q.2.1 q.2.2.2.1 q.2.2.2.2.1 q.2.2.2.2.2) (hok : ev_k59 Gc Ct kt Pg sm own nm cc nL ret cd st.1 i = true) (h : ev_o59 Ct ret sm dd call i st = some o) : ev_SS p l e R s m args below meth c D cl dA kt A ws0 nL cd st o := by
  obtain ⟨ix, L, S, w, nc, ns⟩ := st
  unfold ev_k59 at hok
  unfold ev_o59 at h
  simp only [Bool.and_eq_true, decide_eq_true_eq] at hok
  split at h
  · next v x k z9 S1 hS =>
    have hS : S = v :: x :: (2, k, z9) :: S1 := hS
    subst hS
    split at h
    · next kd n b z hw =>
      split at h
      · next hx =>
        obtain ⟨rfl, x1, x2, x3, x4⟩ := hx
        obtain rfl := Option.some.inj h
        exact fun r1 r2 Q k9 => ev_s_iast X hok.2 hok.1.1 hok.1.2 hw rfl x2 x3 x4 x1 k9
      · cases h
    · cases h
  · cases h
theorem ev_p60 (X : ev_X p s m args c D cl dA kt A Gs own cc nL) (hGc : ∀ (h : Nat) (w : Cond), ev_hg Gc h = some w → w ∈ Gs) (hG : ∀ w ∈ Gs, (w.onTables && w.keeps) = true ∨ ∃ ty, w = .arrayClass ty) (hT : ev_okD Gs cl Ct Pg) (hnm : meth.name = nm) (hret : meth.sig.returnType = ret) (hlk : meth.locks = false) (hRf : R.frames = d + 1) (hRl : R.locals = 90 * (d + 1)) (hcl : ∀ (k : Nat) (as : List (Nat × Nat × Nat)) (w : List ev_C) (r : ev_R), call k as w = some r → ∀ (y : MethodName) (bytes : ByteArray) (maxL : Nat) (rt : Option FieldType) (cdm : ev_Cd), Pg[k]? = some ((y, bytes, maxL, rt), cdm) → ev_Met l D cl dA kt Gs y bytes maxL rt d as w r) (hdd : dd = d) (hsm : ∀ q ∈ sm, ∀ (y : MethodName) (bytes : ByteArray) (maxL : Nat) (rt : Option FieldType) (cdm : ev_Cd), Pg[q.1]? = some ((y, bytes, maxL, rt), cdm) → ev_Met l D cl dA kt Gs y bytes maxL rt q.2.1 q.2.2.2.1 q.2.2.2.2.1 q.2.2.2.2.2) (hok : ev_k60 Gc Ct kt Pg sm own nm cc nL ret cd st.1 i = true) (h : ev_o60 Ct ret sm dd call i st = some o) : ev_SS p l e R s m args below meth c D cl dA kt A ws0 nL cd st o := by
  obtain ⟨ix, L, S, w, nc, ns⟩ := st
  unfold ev_k60 at hok
  unfold ev_o60 at h
  simp only [Bool.and_eq_true, decide_eq_true_eq] at hok
  split at h
  · next v x k z9 S1 hS =>
    have hS : S = v :: x :: (2, k, z9) :: S1 := hS
    subst hS
    split at h
    · next kd n b z hw =>
      split at h
      · next hx =>
        obtain ⟨rfl, x1, x2, x3, x4⟩ := hx
        obtain rfl := Option.some.inj h
        exact fun r1 r2 Q k9 => ev_s_bast X hok.2 hok.1.1 hok.1.2 hw rfl x2 x3 x4 x1 k9
      · cases h
    · cases h
  · cases h
theorem ev_p61 (X : ev_X p s m args c D cl dA kt A Gs own cc nL) (hGc : ∀ (h : Nat) (w : Cond), ev_hg Gc h = some w → w ∈ Gs) (hG : ∀ w ∈ Gs, (w.onTables && w.keeps) = true ∨ ∃ ty, w = .arrayClass ty) (hT : ev_okD Gs cl Ct Pg) (hnm : meth.name = nm) (hret : meth.sig.returnType = ret) (hlk : meth.locks = false) (hRf : R.frames = d + 1) (hRl : R.locals = 90 * (d + 1)) (hcl : ∀ (k : Nat) (as : List (Nat × Nat × Nat)) (w : List ev_C) (r : ev_R), call k as w = some r → ∀ (y : MethodName) (bytes : ByteArray) (maxL : Nat) (rt : Option FieldType) (cdm : ev_Cd), Pg[k]? = some ((y, bytes, maxL, rt), cdm) → ev_Met l D cl dA kt Gs y bytes maxL rt d as w r) (hdd : dd = d) (hsm : ∀ q ∈ sm, ∀ (y : MethodName) (bytes : ByteArray) (maxL : Nat) (rt : Option FieldType) (cdm : ev_Cd), Pg[q.1]? = some ((y, bytes, maxL, rt), cdm) → ev_Met l D cl dA kt Gs y bytes maxL rt q.2.1 q.2.2.2.1 q.2.2.2.2.1 q.2.2.2.2.2) (hok : ev_k61 Gc Ct kt Pg sm own nm cc nL ret cd st.1 i = true) (h : ev_o61 Ct ret sm dd call i st = some o) : ev_SS p l e R s m args below meth c D cl dA kt A ws0 nL cd st o := by
  obtain ⟨ix, L, S, w, nc, ns⟩ := st
  unfold ev_k61 at hok
  unfold ev_o61 at h
  simp only [Bool.and_eq_true, decide_eq_true_eq] at hok
  split at h
  · next v x k z9 S1 hS =>
    have hS : S = v :: x :: (2, k, z9) :: S1 := hS
    subst hS
    split at h
    · next kd n b z hw =>
      split at h
      · next hx =>
        obtain ⟨rfl, x1, x2, x3, x4⟩ := hx
        obtain rfl := Option.some.inj h
        exact fun r1 r2 Q k9 => ev_s_zast X hok.2 hok.1.1 hok.1.2 hw rfl x2 x3 x4 x1 k9
      · cases h
    · cases h
  · cases h
theorem ev_p62 (X : ev_X p s m args c D cl dA kt A Gs own cc nL) (hGc : ∀ (h : Nat) (w : Cond), ev_hg Gc h = some w → w ∈ Gs) (hG : ∀ w ∈ Gs, (w.onTables && w.keeps) = true ∨ ∃ ty, w = .arrayClass ty) (hT : ev_okD Gs cl Ct Pg) (hnm : meth.name = nm) (hret : meth.sig.returnType = ret) (hlk : meth.locks = false) (hRf : R.frames = d + 1) (hRl : R.locals = 90 * (d + 1)) (hcl : ∀ (k : Nat) (as : List (Nat × Nat × Nat)) (w : List ev_C) (r : ev_R), call k as w = some r → ∀ (y : MethodName) (bytes : ByteArray) (maxL : Nat) (rt : Option FieldType) (cdm : ev_Cd), Pg[k]? = some ((y, bytes, maxL, rt), cdm) → ev_Met l D cl dA kt Gs y bytes maxL rt d as w r) (hdd : dd = d) (hsm : ∀ q ∈ sm, ∀ (y : MethodName) (bytes : ByteArray) (maxL : Nat) (rt : Option FieldType) (cdm : ev_Cd), Pg[q.1]? = some ((y, bytes, maxL, rt), cdm) → ev_Met l D cl dA kt Gs y bytes maxL rt q.2.1 q.2.2.2.1 q.2.2.2.2.1 q.2.2.2.2.2) (hok : ev_k62 Gc Ct kt Pg sm own nm cc nL ret cd st.1 i = true) (h : ev_o62 Ct ret sm dd call i st = some o) : ev_SS p l e R s m args below meth c D cl dA kt A ws0 nL cd st o := by
  obtain ⟨ix, L, S, w, nc, ns⟩ := st
  unfold ev_k62 at hok
  unfold ev_o62 at h
  simp only [Bool.and_eq_true, decide_eq_true_eq] at hok
  split at h
  · next v x k z9 S1 hS =>
    have hS : S = v :: x :: (2, k, z9) :: S1 := hS
    subst hS
    split at h
    · next kd n z hw =>
      split at h
      · next hx =>
        obtain ⟨rfl, x1, x2, x3, x4⟩ := hx
        obtain rfl := Option.some.inj h
        exact fun r1 r2 Q k9 => ev_s_last X hok.2 hok.1.1 hok.1.2 hw x2 x3 x4 x1 k9
      · cases h
    · cases h
  · cases h
theorem ev_p63 (X : ev_X p s m args c D cl dA kt A Gs own cc nL) (hGc : ∀ (h : Nat) (w : Cond), ev_hg Gc h = some w → w ∈ Gs) (hG : ∀ w ∈ Gs, (w.onTables && w.keeps) = true ∨ ∃ ty, w = .arrayClass ty) (hT : ev_okD Gs cl Ct Pg) (hnm : meth.name = nm) (hret : meth.sig.returnType = ret) (hlk : meth.locks = false) (hRf : R.frames = d + 1) (hRl : R.locals = 90 * (d + 1)) (hcl : ∀ (k : Nat) (as : List (Nat × Nat × Nat)) (w : List ev_C) (r : ev_R), call k as w = some r → ∀ (y : MethodName) (bytes : ByteArray) (maxL : Nat) (rt : Option FieldType) (cdm : ev_Cd), Pg[k]? = some ((y, bytes, maxL, rt), cdm) → ev_Met l D cl dA kt Gs y bytes maxL rt d as w r) (hdd : dd = d) (hsm : ∀ q ∈ sm, ∀ (y : MethodName) (bytes : ByteArray) (maxL : Nat) (rt : Option FieldType) (cdm : ev_Cd), Pg[q.1]? = some ((y, bytes, maxL, rt), cdm) → ev_Met l D cl dA kt Gs y bytes maxL rt q.2.1 q.2.2.2.1 q.2.2.2.2.1 q.2.2.2.2.2) (hok : ev_k63 Gc Ct kt Pg sm own nm cc nL ret cd st.1 i = true) (h : ev_o63 Ct ret sm dd call i st = some o) : ev_SS p l e R s m args below meth c D cl dA kt A ws0 nL cd st o := by
  obtain ⟨ix, L, S, w, nc, ns⟩ := st
  unfold ev_k63 at hok
  unfold ev_o63 at h
  simp only [Bool.and_eq_true, decide_eq_true_eq] at hok
  split at h
  · next nn dp k1 y9 sp k0 y8 S1 hS =>
    have hS : S = nn :: dp :: (2, k1, y9) :: sp :: (2, k0, y8) :: S1 := hS
    subst hS
    split at h
    · next tg kd n0 b0 z0 kd1 n1 b1 z1 hw0 hw1 =>
      split at h
      · next hx =>
        obtain ⟨x0, rfl, rfl, x1, x2, x3, x4, x5, x6, x7, x8, x9, x10⟩ := hx
        obtain rfl := Option.some.inj h
        obtain ⟨⟨⟨⟨⟨⟨⟨hd, hn⟩, q1⟩, q2⟩, q3⟩, q4⟩, q5⟩, q6⟩ := hok
        exact fun r1 r2 Q k9 => ev_s_copy X q1 (hGc _ _ q3) (hGc _ _ q4) (hGc _ _ q5) (hGc _ _ q6) x0 hw0 hw1 rfl rfl x1 q2 x2 x3 x4 x5 x6 x7 x8 x9 (by omega) (by omega) x10 hd hn k9
      · cases h
    · cases h
  · cases h
theorem ev_p64 (X : ev_X p s m args c D cl dA kt A Gs own cc nL) (hGc : ∀ (h : Nat) (w : Cond), ev_hg Gc h = some w → w ∈ Gs) (hG : ∀ w ∈ Gs, (w.onTables && w.keeps) = true ∨ ∃ ty, w = .arrayClass ty) (hT : ev_okD Gs cl Ct Pg) (hnm : meth.name = nm) (hret : meth.sig.returnType = ret) (hlk : meth.locks = false) (hRf : R.frames = d + 1) (hRl : R.locals = 90 * (d + 1)) (hcl : ∀ (k : Nat) (as : List (Nat × Nat × Nat)) (w : List ev_C) (r : ev_R), call k as w = some r → ∀ (y : MethodName) (bytes : ByteArray) (maxL : Nat) (rt : Option FieldType) (cdm : ev_Cd), Pg[k]? = some ((y, bytes, maxL, rt), cdm) → ev_Met l D cl dA kt Gs y bytes maxL rt d as w r) (hdd : dd = d) (hsm : ∀ q ∈ sm, ∀ (y : MethodName) (bytes : ByteArray) (maxL : Nat) (rt : Option FieldType) (cdm : ev_Cd), Pg[q.1]? = some ((y, bytes, maxL, rt), cdm) → ev_Met l D cl dA kt Gs y bytes maxL rt q.2.1 q.2.2.2.1 q.2.2.2.2.1 q.2.2.2.2.2) (hok : ev_k64 Gc Ct kt Pg sm own nm cc nL ret cd st.1 i = true) (h : ev_o64 Ct ret sm dd call i st = some o) : ev_SS p l e R s m args below meth c D cl dA kt A ws0 nL cd st o := by
  obtain ⟨ix, L, S, w, nc, ns⟩ := st
  unfold ev_k64 at hok
  unfold ev_o64 at h
  simp only [Bool.and_eq_true, decide_eq_true_eq] at hok
  split at h
  · next v hg =>
    split at h
    · next hv =>
      obtain rfl := Option.some.inj h
      obtain ⟨⟨⟨⟨⟨q1, q2⟩, q3⟩, q4⟩, q5⟩, q6⟩ := hok
      exact fun _ _ Q k => ev_s_tab X (List.mem_of_getElem? (ev_getD_some (d0 := ("", "", 0)) q5)) (hGc _ _ q6) q1 q2 q3 q4 hg hv.1 hv.2.1 hv.2.2 k
    · cases h
  · cases h
theorem ev_p65 (X : ev_X p s m args c D cl dA kt A Gs own cc nL) (hGc : ∀ (h : Nat) (w : Cond), ev_hg Gc h = some w → w ∈ Gs) (hG : ∀ w ∈ Gs, (w.onTables && w.keeps) = true ∨ ∃ ty, w = .arrayClass ty) (hT : ev_okD Gs cl Ct Pg) (hnm : meth.name = nm) (hret : meth.sig.returnType = ret) (hlk : meth.locks = false) (hRf : R.frames = d + 1) (hRl : R.locals = 90 * (d + 1)) (hcl : ∀ (k : Nat) (as : List (Nat × Nat × Nat)) (w : List ev_C) (r : ev_R), call k as w = some r → ∀ (y : MethodName) (bytes : ByteArray) (maxL : Nat) (rt : Option FieldType) (cdm : ev_Cd), Pg[k]? = some ((y, bytes, maxL, rt), cdm) → ev_Met l D cl dA kt Gs y bytes maxL rt d as w r) (hdd : dd = d) (hsm : ∀ q ∈ sm, ∀ (y : MethodName) (bytes : ByteArray) (maxL : Nat) (rt : Option FieldType) (cdm : ev_Cd), Pg[q.1]? = some ((y, bytes, maxL, rt), cdm) → ev_Met l D cl dA kt Gs y bytes maxL rt q.2.1 q.2.2.2.1 q.2.2.2.2.1 q.2.2.2.2.2) (hok : ev_k65 Gc Ct kt Pg sm own nm cc nL ret cd st.1 i = true) (h : ev_o65 Ct ret sm dd call i st = some o) : ev_SS p l e R s m args below meth c D cl dA kt A ws0 nL cd st o := by
  obtain ⟨ix, L, S, w, nc, ns⟩ := st
  unfold ev_k65 at hok
  unfold ev_o65 at h
  simp only [Bool.and_eq_true, decide_eq_true_eq] at hok
  split at h
  · next o z9 hg =>
    split at h
    · next ci z fs hw =>
      split at h
      · next k1 y9 hf =>
        split at h
        · next kd n1 z1 hw1 =>
          split at h
          · next hx =>
            obtain ⟨rfl, rfl, x1, x2⟩ := hx
            obtain rfl := Option.some.inj h
            obtain ⟨⟨⟨⟨⟨⟨⟨⟨⟨⟨⟨⟨⟨q1, q2⟩, q3⟩, q4⟩, q5⟩, q6⟩, q7⟩, q8⟩, q9⟩, q10⟩, q11⟩, q12⟩, q13⟩, ⟨⟨q14, q15⟩, q16⟩, q17⟩ := hok
            cases hC : Ct[i.2.2.2.2.2.1 / 65536]? with
            | none => rw [hC] at q13; cases q13
            | some q =>
              rw [hC] at q13
              simp only [Bool.and_eq_true, decide_eq_true_eq] at q13
              exact fun _ _ Q k => ev_s_tcp X (List.mem_of_getElem? (ev_getD_some (d0 := ("", "", 0)) q9)) (hGc _ _ q12) (hT.1 _ _ hC).1 (hT.1 _ _ hC).2.1 q13.1 (hGc _ _ q13.2) q11 (hGc _ _ q14) (hGc _ _ q15) (hGc _ _ q16) (hGc _ _ q17) q1 q2 q3 q4 q5 q6 q7 q8 q10.1 q10.2 x1 hg hw hf hw1 (by omega) (by omega) x2 k
          · cases h
        · cases h
      · cases h
    · cases h
  · cases h
theorem ev_p66 (X : ev_X p s m args c D cl dA kt A Gs own cc nL) (hGc : ∀ (h : Nat) (w : Cond), ev_hg Gc h = some w → w ∈ Gs) (hG : ∀ w ∈ Gs, (w.onTables && w.keeps) = true ∨ ∃ ty, w = .arrayClass ty) (hT : ev_okD Gs cl Ct Pg) (hnm : meth.name = nm) (hret : meth.sig.returnType = ret) (hlk : meth.locks = false) (hRf : R.frames = d + 1) (hRl : R.locals = 90 * (d + 1)) (hcl : ∀ (k : Nat) (as : List (Nat × Nat × Nat)) (w : List ev_C) (r : ev_R), call k as w = some r → ∀ (y : MethodName) (bytes : ByteArray) (maxL : Nat) (rt : Option FieldType) (cdm : ev_Cd), Pg[k]? = some ((y, bytes, maxL, rt), cdm) → ev_Met l D cl dA kt Gs y bytes maxL rt d as w r) (hdd : dd = d) (hsm : ∀ q ∈ sm, ∀ (y : MethodName) (bytes : ByteArray) (maxL : Nat) (rt : Option FieldType) (cdm : ev_Cd), Pg[q.1]? = some ((y, bytes, maxL, rt), cdm) → ev_Met l D cl dA kt Gs y bytes maxL rt q.2.1 q.2.2.2.1 q.2.2.2.2.1 q.2.2.2.2.2) (hok : ev_k66 Gc Ct kt Pg sm own nm cc nL ret cd st.1 i = true) (h : ev_o66 Ct ret sm dd call i st = some o) : ev_SS p l e R s m args below meth c D cl dA kt A ws0 nL cd st o := by
  obtain ⟨ix, L, S, w, nc, ns⟩ := st
  unfold ev_k66 at hok
  unfold ev_o66 at h
  simp only [Bool.and_eq_true, decide_eq_true_eq] at hok
  split at h
  · next y x S1 hS =>
    have hS : S = y :: x :: S1 := hS
    subst hS
    split at h
    · next hv =>
      obtain rfl := Option.some.inj h
      exact fun _ _ Q k => ev_s_l2 hv.1 hv.2 hok.2 (fun i j k9 => lv_ladd X.1.1 X.1.2.1 hok.1 k9) k
    · cases h
  · cases h
theorem ev_p67 (X : ev_X p s m args c D cl dA kt A Gs own cc nL) (hGc : ∀ (h : Nat) (w : Cond), ev_hg Gc h = some w → w ∈ Gs) (hG : ∀ w ∈ Gs, (w.onTables && w.keeps) = true ∨ ∃ ty, w = .arrayClass ty) (hT : ev_okD Gs cl Ct Pg) (hnm : meth.name = nm) (hret : meth.sig.returnType = ret) (hlk : meth.locks = false) (hRf : R.frames = d + 1) (hRl : R.locals = 90 * (d + 1)) (hcl : ∀ (k : Nat) (as : List (Nat × Nat × Nat)) (w : List ev_C) (r : ev_R), call k as w = some r → ∀ (y : MethodName) (bytes : ByteArray) (maxL : Nat) (rt : Option FieldType) (cdm : ev_Cd), Pg[k]? = some ((y, bytes, maxL, rt), cdm) → ev_Met l D cl dA kt Gs y bytes maxL rt d as w r) (hdd : dd = d) (hsm : ∀ q ∈ sm, ∀ (y : MethodName) (bytes : ByteArray) (maxL : Nat) (rt : Option FieldType) (cdm : ev_Cd), Pg[q.1]? = some ((y, bytes, maxL, rt), cdm) → ev_Met l D cl dA kt Gs y bytes maxL rt q.2.1 q.2.2.2.1 q.2.2.2.2.1 q.2.2.2.2.2) (hok : ev_k67 Gc Ct kt Pg sm own nm cc nL ret cd st.1 i = true) (h : ev_o67 Ct ret sm dd call i st = some o) : ev_SS p l e R s m args below meth c D cl dA kt A ws0 nL cd st o := by
  obtain ⟨ix, L, S, w, nc, ns⟩ := st
  unfold ev_k67 at hok
  unfold ev_o67 at h
  simp only [Bool.and_eq_true, decide_eq_true_eq] at hok
  split at h
  · next y x S1 hS =>
    have hS : S = y :: x :: S1 := hS
    subst hS
    split at h
    · next hv =>
      obtain rfl := Option.some.inj h
      exact fun _ _ Q k => ev_s_l2 hv.1 hv.2 hok.2 (fun i j k9 => lv_lsub X.1.1 X.1.2.1 hok.1 k9) k
    · cases h
  · cases h
theorem ev_p68 (X : ev_X p s m args c D cl dA kt A Gs own cc nL) (hGc : ∀ (h : Nat) (w : Cond), ev_hg Gc h = some w → w ∈ Gs) (hG : ∀ w ∈ Gs, (w.onTables && w.keeps) = true ∨ ∃ ty, w = .arrayClass ty) (hT : ev_okD Gs cl Ct Pg) (hnm : meth.name = nm) (hret : meth.sig.returnType = ret) (hlk : meth.locks = false) (hRf : R.frames = d + 1) (hRl : R.locals = 90 * (d + 1)) (hcl : ∀ (k : Nat) (as : List (Nat × Nat × Nat)) (w : List ev_C) (r : ev_R), call k as w = some r → ∀ (y : MethodName) (bytes : ByteArray) (maxL : Nat) (rt : Option FieldType) (cdm : ev_Cd), Pg[k]? = some ((y, bytes, maxL, rt), cdm) → ev_Met l D cl dA kt Gs y bytes maxL rt d as w r) (hdd : dd = d) (hsm : ∀ q ∈ sm, ∀ (y : MethodName) (bytes : ByteArray) (maxL : Nat) (rt : Option FieldType) (cdm : ev_Cd), Pg[q.1]? = some ((y, bytes, maxL, rt), cdm) → ev_Met l D cl dA kt Gs y bytes maxL rt q.2.1 q.2.2.2.1 q.2.2.2.2.1 q.2.2.2.2.2) (hok : ev_k68 Gc Ct kt Pg sm own nm cc nL ret cd st.1 i = true) (h : ev_o68 Ct ret sm dd call i st = some o) : ev_SS p l e R s m args below meth c D cl dA kt A ws0 nL cd st o := by
  obtain ⟨ix, L, S, w, nc, ns⟩ := st
  unfold ev_k68 at hok
  unfold ev_o68 at h
  simp only [Bool.and_eq_true, decide_eq_true_eq] at hok
  split at h
  · next y x S1 hS =>
    have hS : S = y :: x :: S1 := hS
    subst hS
    split at h
    · next hv =>
      obtain rfl := Option.some.inj h
      exact fun _ _ Q k => ev_s_l2 hv.1 hv.2 hok.2 (fun i j k9 => lv_lmul X.1.1 X.1.2.1 hok.1 k9) k
    · cases h
  · cases h
theorem ev_p69 (X : ev_X p s m args c D cl dA kt A Gs own cc nL) (hGc : ∀ (h : Nat) (w : Cond), ev_hg Gc h = some w → w ∈ Gs) (hG : ∀ w ∈ Gs, (w.onTables && w.keeps) = true ∨ ∃ ty, w = .arrayClass ty) (hT : ev_okD Gs cl Ct Pg) (hnm : meth.name = nm) (hret : meth.sig.returnType = ret) (hlk : meth.locks = false) (hRf : R.frames = d + 1) (hRl : R.locals = 90 * (d + 1)) (hcl : ∀ (k : Nat) (as : List (Nat × Nat × Nat)) (w : List ev_C) (r : ev_R), call k as w = some r → ∀ (y : MethodName) (bytes : ByteArray) (maxL : Nat) (rt : Option FieldType) (cdm : ev_Cd), Pg[k]? = some ((y, bytes, maxL, rt), cdm) → ev_Met l D cl dA kt Gs y bytes maxL rt d as w r) (hdd : dd = d) (hsm : ∀ q ∈ sm, ∀ (y : MethodName) (bytes : ByteArray) (maxL : Nat) (rt : Option FieldType) (cdm : ev_Cd), Pg[q.1]? = some ((y, bytes, maxL, rt), cdm) → ev_Met l D cl dA kt Gs y bytes maxL rt q.2.1 q.2.2.2.1 q.2.2.2.2.1 q.2.2.2.2.2) (hok : ev_k69 Gc Ct kt Pg sm own nm cc nL ret cd st.1 i = true) (h : ev_o69 Ct ret sm dd call i st = some o) : ev_SS p l e R s m args below meth c D cl dA kt A ws0 nL cd st o := by
  obtain ⟨ix, L, S, w, nc, ns⟩ := st
  unfold ev_k69 at hok
  unfold ev_o69 at h
  simp only [Bool.and_eq_true, decide_eq_true_eq] at hok
  split at h
  · next y x S1 hS =>
    have hS : S = y :: x :: S1 := hS
    subst hS
    split at h
    · next hv =>
      obtain rfl := Option.some.inj h
      exact fun _ _ Q k => ev_s_l2 hv.1 hv.2 hok.2 (fun i j k9 => lv_land X.1.1 X.1.2.1 hok.1 k9) k
    · cases h
  · cases h
theorem ev_p70 (X : ev_X p s m args c D cl dA kt A Gs own cc nL) (hGc : ∀ (h : Nat) (w : Cond), ev_hg Gc h = some w → w ∈ Gs) (hG : ∀ w ∈ Gs, (w.onTables && w.keeps) = true ∨ ∃ ty, w = .arrayClass ty) (hT : ev_okD Gs cl Ct Pg) (hnm : meth.name = nm) (hret : meth.sig.returnType = ret) (hlk : meth.locks = false) (hRf : R.frames = d + 1) (hRl : R.locals = 90 * (d + 1)) (hcl : ∀ (k : Nat) (as : List (Nat × Nat × Nat)) (w : List ev_C) (r : ev_R), call k as w = some r → ∀ (y : MethodName) (bytes : ByteArray) (maxL : Nat) (rt : Option FieldType) (cdm : ev_Cd), Pg[k]? = some ((y, bytes, maxL, rt), cdm) → ev_Met l D cl dA kt Gs y bytes maxL rt d as w r) (hdd : dd = d) (hsm : ∀ q ∈ sm, ∀ (y : MethodName) (bytes : ByteArray) (maxL : Nat) (rt : Option FieldType) (cdm : ev_Cd), Pg[q.1]? = some ((y, bytes, maxL, rt), cdm) → ev_Met l D cl dA kt Gs y bytes maxL rt q.2.1 q.2.2.2.1 q.2.2.2.2.1 q.2.2.2.2.2) (hok : ev_k70 Gc Ct kt Pg sm own nm cc nL ret cd st.1 i = true) (h : ev_o70 Ct ret sm dd call i st = some o) : ev_SS p l e R s m args below meth c D cl dA kt A ws0 nL cd st o := by
  obtain ⟨ix, L, S, w, nc, ns⟩ := st
  unfold ev_k70 at hok
  unfold ev_o70 at h
  simp only [Bool.and_eq_true, decide_eq_true_eq] at hok
  split at h
  · next y x S1 hS =>
    have hS : S = y :: x :: S1 := hS
    subst hS
    split at h
    · next hv =>
      obtain rfl := Option.some.inj h
      exact fun _ _ Q k => ev_s_l2 hv.1 hv.2 hok.2 (fun i j k9 => lv_lor X.1.1 X.1.2.1 hok.1 k9) k
    · cases h
  · cases h
theorem ev_p71 (X : ev_X p s m args c D cl dA kt A Gs own cc nL) (hGc : ∀ (h : Nat) (w : Cond), ev_hg Gc h = some w → w ∈ Gs) (hG : ∀ w ∈ Gs, (w.onTables && w.keeps) = true ∨ ∃ ty, w = .arrayClass ty) (hT : ev_okD Gs cl Ct Pg) (hnm : meth.name = nm) (hret : meth.sig.returnType = ret) (hlk : meth.locks = false) (hRf : R.frames = d + 1) (hRl : R.locals = 90 * (d + 1)) (hcl : ∀ (k : Nat) (as : List (Nat × Nat × Nat)) (w : List ev_C) (r : ev_R), call k as w = some r → ∀ (y : MethodName) (bytes : ByteArray) (maxL : Nat) (rt : Option FieldType) (cdm : ev_Cd), Pg[k]? = some ((y, bytes, maxL, rt), cdm) → ev_Met l D cl dA kt Gs y bytes maxL rt d as w r) (hdd : dd = d) (hsm : ∀ q ∈ sm, ∀ (y : MethodName) (bytes : ByteArray) (maxL : Nat) (rt : Option FieldType) (cdm : ev_Cd), Pg[q.1]? = some ((y, bytes, maxL, rt), cdm) → ev_Met l D cl dA kt Gs y bytes maxL rt q.2.1 q.2.2.2.1 q.2.2.2.2.1 q.2.2.2.2.2) (hok : ev_k71 Gc Ct kt Pg sm own nm cc nL ret cd st.1 i = true) (h : ev_o71 Ct ret sm dd call i st = some o) : ev_SS p l e R s m args below meth c D cl dA kt A ws0 nL cd st o := by
  obtain ⟨ix, L, S, w, nc, ns⟩ := st
  unfold ev_k71 at hok
  unfold ev_o71 at h
  simp only [Bool.and_eq_true, decide_eq_true_eq] at hok
  split at h
  · next y x S1 hS =>
    have hS : S = y :: x :: S1 := hS
    subst hS
    split at h
    · next hv =>
      obtain rfl := Option.some.inj h
      exact fun _ _ Q k => ev_s_l2 hv.1 hv.2 hok.2 (fun i j k9 => lv_lxor X.1.1 X.1.2.1 hok.1 k9) k
    · cases h
  · cases h
theorem ev_p72 (X : ev_X p s m args c D cl dA kt A Gs own cc nL) (hGc : ∀ (h : Nat) (w : Cond), ev_hg Gc h = some w → w ∈ Gs) (hG : ∀ w ∈ Gs, (w.onTables && w.keeps) = true ∨ ∃ ty, w = .arrayClass ty) (hT : ev_okD Gs cl Ct Pg) (hnm : meth.name = nm) (hret : meth.sig.returnType = ret) (hlk : meth.locks = false) (hRf : R.frames = d + 1) (hRl : R.locals = 90 * (d + 1)) (hcl : ∀ (k : Nat) (as : List (Nat × Nat × Nat)) (w : List ev_C) (r : ev_R), call k as w = some r → ∀ (y : MethodName) (bytes : ByteArray) (maxL : Nat) (rt : Option FieldType) (cdm : ev_Cd), Pg[k]? = some ((y, bytes, maxL, rt), cdm) → ev_Met l D cl dA kt Gs y bytes maxL rt d as w r) (hdd : dd = d) (hsm : ∀ q ∈ sm, ∀ (y : MethodName) (bytes : ByteArray) (maxL : Nat) (rt : Option FieldType) (cdm : ev_Cd), Pg[q.1]? = some ((y, bytes, maxL, rt), cdm) → ev_Met l D cl dA kt Gs y bytes maxL rt q.2.1 q.2.2.2.1 q.2.2.2.2.1 q.2.2.2.2.2) (hok : ev_k72 Gc Ct kt Pg sm own nm cc nL ret cd st.1 i = true) (h : ev_o72 Ct ret sm dd call i st = some o) : ev_SS p l e R s m args below meth c D cl dA kt A ws0 nL cd st o := by
  obtain ⟨ix, L, S, w, nc, ns⟩ := st
  unfold ev_k72 at hok
  unfold ev_o72 at h
  simp only [Bool.and_eq_true, decide_eq_true_eq] at hok
  split at h
  · next y x S1 hS =>
    have hS : S = y :: x :: S1 := hS
    subst hS
    split at h
    · next hv =>
      obtain rfl := Option.some.inj h
      exact fun _ _ Q k => ev_s_li hv.1 hv.2 hok.2 (fun i j k9 => lv_lshl X.1.1 X.1.2.1 hok.1 rfl k9) k
    · cases h
  · cases h
theorem ev_p73 (X : ev_X p s m args c D cl dA kt A Gs own cc nL) (hGc : ∀ (h : Nat) (w : Cond), ev_hg Gc h = some w → w ∈ Gs) (hG : ∀ w ∈ Gs, (w.onTables && w.keeps) = true ∨ ∃ ty, w = .arrayClass ty) (hT : ev_okD Gs cl Ct Pg) (hnm : meth.name = nm) (hret : meth.sig.returnType = ret) (hlk : meth.locks = false) (hRf : R.frames = d + 1) (hRl : R.locals = 90 * (d + 1)) (hcl : ∀ (k : Nat) (as : List (Nat × Nat × Nat)) (w : List ev_C) (r : ev_R), call k as w = some r → ∀ (y : MethodName) (bytes : ByteArray) (maxL : Nat) (rt : Option FieldType) (cdm : ev_Cd), Pg[k]? = some ((y, bytes, maxL, rt), cdm) → ev_Met l D cl dA kt Gs y bytes maxL rt d as w r) (hdd : dd = d) (hsm : ∀ q ∈ sm, ∀ (y : MethodName) (bytes : ByteArray) (maxL : Nat) (rt : Option FieldType) (cdm : ev_Cd), Pg[q.1]? = some ((y, bytes, maxL, rt), cdm) → ev_Met l D cl dA kt Gs y bytes maxL rt q.2.1 q.2.2.2.1 q.2.2.2.2.1 q.2.2.2.2.2) (hok : ev_k73 Gc Ct kt Pg sm own nm cc nL ret cd st.1 i = true) (h : ev_o73 Ct ret sm dd call i st = some o) : ev_SS p l e R s m args below meth c D cl dA kt A ws0 nL cd st o := by
  obtain ⟨ix, L, S, w, nc, ns⟩ := st
  unfold ev_k73 at hok
  unfold ev_o73 at h
  simp only [Bool.and_eq_true, decide_eq_true_eq] at hok
  split at h
  · next y x S1 hS =>
    have hS : S = y :: x :: S1 := hS
    subst hS
    split at h
    · next hv =>
      obtain rfl := Option.some.inj h
      exact fun _ _ Q k => ev_s_li hv.1 hv.2 hok.2 (fun i j k9 => lv_lshr X.1.1 X.1.2.1 hok.1 rfl k9) k
    · cases h
  · cases h
theorem ev_p74 (X : ev_X p s m args c D cl dA kt A Gs own cc nL) (hGc : ∀ (h : Nat) (w : Cond), ev_hg Gc h = some w → w ∈ Gs) (hG : ∀ w ∈ Gs, (w.onTables && w.keeps) = true ∨ ∃ ty, w = .arrayClass ty) (hT : ev_okD Gs cl Ct Pg) (hnm : meth.name = nm) (hret : meth.sig.returnType = ret) (hlk : meth.locks = false) (hRf : R.frames = d + 1) (hRl : R.locals = 90 * (d + 1)) (hcl : ∀ (k : Nat) (as : List (Nat × Nat × Nat)) (w : List ev_C) (r : ev_R), call k as w = some r → ∀ (y : MethodName) (bytes : ByteArray) (maxL : Nat) (rt : Option FieldType) (cdm : ev_Cd), Pg[k]? = some ((y, bytes, maxL, rt), cdm) → ev_Met l D cl dA kt Gs y bytes maxL rt d as w r) (hdd : dd = d) (hsm : ∀ q ∈ sm, ∀ (y : MethodName) (bytes : ByteArray) (maxL : Nat) (rt : Option FieldType) (cdm : ev_Cd), Pg[q.1]? = some ((y, bytes, maxL, rt), cdm) → ev_Met l D cl dA kt Gs y bytes maxL rt q.2.1 q.2.2.2.1 q.2.2.2.2.1 q.2.2.2.2.2) (hok : ev_k74 Gc Ct kt Pg sm own nm cc nL ret cd st.1 i = true) (h : ev_o74 Ct ret sm dd call i st = some o) : ev_SS p l e R s m args below meth c D cl dA kt A ws0 nL cd st o := by
  obtain ⟨ix, L, S, w, nc, ns⟩ := st
  unfold ev_k74 at hok
  unfold ev_o74 at h
  simp only [Bool.and_eq_true, decide_eq_true_eq] at hok
  split at h
  · next y x S1 hS =>
    have hS : S = y :: x :: S1 := hS
    subst hS
    split at h
    · next hv =>
      obtain rfl := Option.some.inj h
      exact fun _ _ Q k => ev_s_li hv.1 hv.2 hok.2 (fun i j k9 => lv_lushr X.1.1 X.1.2.1 hok.1 rfl k9) k
    · cases h
  · cases h
theorem ev_p75 (X : ev_X p s m args c D cl dA kt A Gs own cc nL) (hGc : ∀ (h : Nat) (w : Cond), ev_hg Gc h = some w → w ∈ Gs) (hG : ∀ w ∈ Gs, (w.onTables && w.keeps) = true ∨ ∃ ty, w = .arrayClass ty) (hT : ev_okD Gs cl Ct Pg) (hnm : meth.name = nm) (hret : meth.sig.returnType = ret) (hlk : meth.locks = false) (hRf : R.frames = d + 1) (hRl : R.locals = 90 * (d + 1)) (hcl : ∀ (k : Nat) (as : List (Nat × Nat × Nat)) (w : List ev_C) (r : ev_R), call k as w = some r → ∀ (y : MethodName) (bytes : ByteArray) (maxL : Nat) (rt : Option FieldType) (cdm : ev_Cd), Pg[k]? = some ((y, bytes, maxL, rt), cdm) → ev_Met l D cl dA kt Gs y bytes maxL rt d as w r) (hdd : dd = d) (hsm : ∀ q ∈ sm, ∀ (y : MethodName) (bytes : ByteArray) (maxL : Nat) (rt : Option FieldType) (cdm : ev_Cd), Pg[q.1]? = some ((y, bytes, maxL, rt), cdm) → ev_Met l D cl dA kt Gs y bytes maxL rt q.2.1 q.2.2.2.1 q.2.2.2.2.1 q.2.2.2.2.2) (hok : ev_k75 Gc Ct kt Pg sm own nm cc nL ret cd st.1 i = true) (h : ev_o75 Ct ret sm dd call i st = some o) : ev_SS p l e R s m args below meth c D cl dA kt A ws0 nL cd st o := by
  obtain ⟨ix, L, S, w, nc, ns⟩ := st
  unfold ev_k75 at hok
  unfold ev_o75 at h
  simp only [Bool.and_eq_true, decide_eq_true_eq] at hok
  split at h
  · next y x S1 hS =>
    have hS : S = y :: x :: S1 := hS
    subst hS
    split at h
    · next hv =>
      obtain rfl := Option.some.inj h
      exact fun _ _ Q k => ev_s_lcmp X hv.1 hv.2 hok.1 hok.2 k
    · cases h
  · cases h
theorem ev_p76 (X : ev_X p s m args c D cl dA kt A Gs own cc nL) (hGc : ∀ (h : Nat) (w : Cond), ev_hg Gc h = some w → w ∈ Gs) (hG : ∀ w ∈ Gs, (w.onTables && w.keeps) = true ∨ ∃ ty, w = .arrayClass ty) (hT : ev_okD Gs cl Ct Pg) (hnm : meth.name = nm) (hret : meth.sig.returnType = ret) (hlk : meth.locks = false) (hRf : R.frames = d + 1) (hRl : R.locals = 90 * (d + 1)) (hcl : ∀ (k : Nat) (as : List (Nat × Nat × Nat)) (w : List ev_C) (r : ev_R), call k as w = some r → ∀ (y : MethodName) (bytes : ByteArray) (maxL : Nat) (rt : Option FieldType) (cdm : ev_Cd), Pg[k]? = some ((y, bytes, maxL, rt), cdm) → ev_Met l D cl dA kt Gs y bytes maxL rt d as w r) (hdd : dd = d) (hsm : ∀ q ∈ sm, ∀ (y : MethodName) (bytes : ByteArray) (maxL : Nat) (rt : Option FieldType) (cdm : ev_Cd), Pg[q.1]? = some ((y, bytes, maxL, rt), cdm) → ev_Met l D cl dA kt Gs y bytes maxL rt q.2.1 q.2.2.2.1 q.2.2.2.2.1 q.2.2.2.2.2) (hok : ev_k76 Gc Ct kt Pg sm own nm cc nL ret cd st.1 i = true) (h : ev_o76 Ct ret sm dd call i st = some o) : ev_SS p l e R s m args below meth c D cl dA kt A ws0 nL cd st o := by
  obtain ⟨ix, L, S, w, nc, ns⟩ := st
  unfold ev_k76 at hok
  unfold ev_o76 at h
  simp only [Bool.and_eq_true, decide_eq_true_eq] at hok
  split at h
  · next x S1 hS =>
    have hS : S = x :: S1 := hS
    subst hS
    split at h
    · next hv =>
      obtain rfl := Option.some.inj h
      exact fun _ _ Q k => ev_s_i2l X hv hok.1 hok.2 k
    · cases h
  · cases h
theorem ev_p77 (X : ev_X p s m args c D cl dA kt A Gs own cc nL) (hGc : ∀ (h : Nat) (w : Cond), ev_hg Gc h = some w → w ∈ Gs) (hG : ∀ w ∈ Gs, (w.onTables && w.keeps) = true ∨ ∃ ty, w = .arrayClass ty) (hT : ev_okD Gs cl Ct Pg) (hnm : meth.name = nm) (hret : meth.sig.returnType = ret) (hlk : meth.locks = false) (hRf : R.frames = d + 1) (hRl : R.locals = 90 * (d + 1)) (hcl : ∀ (k : Nat) (as : List (Nat × Nat × Nat)) (w : List ev_C) (r : ev_R), call k as w = some r → ∀ (y : MethodName) (bytes : ByteArray) (maxL : Nat) (rt : Option FieldType) (cdm : ev_Cd), Pg[k]? = some ((y, bytes, maxL, rt), cdm) → ev_Met l D cl dA kt Gs y bytes maxL rt d as w r) (hdd : dd = d) (hsm : ∀ q ∈ sm, ∀ (y : MethodName) (bytes : ByteArray) (maxL : Nat) (rt : Option FieldType) (cdm : ev_Cd), Pg[q.1]? = some ((y, bytes, maxL, rt), cdm) → ev_Met l D cl dA kt Gs y bytes maxL rt q.2.1 q.2.2.2.1 q.2.2.2.2.1 q.2.2.2.2.2) (hok : ev_k77 Gc Ct kt Pg sm own nm cc nL ret cd st.1 i = true) (h : ev_o77 Ct ret sm dd call i st = some o) : ev_SS p l e R s m args below meth c D cl dA kt A ws0 nL cd st o := by
  obtain ⟨ix, L, S, w, nc, ns⟩ := st
  unfold ev_k77 at hok
  unfold ev_o77 at h
  simp only [Bool.and_eq_true, decide_eq_true_eq] at hok
  split at h
  · next x S1 hS =>
    have hS : S = x :: S1 := hS
    subst hS
    split at h
    · next hv =>
      obtain rfl := Option.some.inj h
      exact fun _ _ Q k => ev_s_l2i X hv hok.1 hok.2 k
    · cases h
  · cases h
theorem ev_p78 (X : ev_X p s m args c D cl dA kt A Gs own cc nL) (hGc : ∀ (h : Nat) (w : Cond), ev_hg Gc h = some w → w ∈ Gs) (hG : ∀ w ∈ Gs, (w.onTables && w.keeps) = true ∨ ∃ ty, w = .arrayClass ty) (hT : ev_okD Gs cl Ct Pg) (hnm : meth.name = nm) (hret : meth.sig.returnType = ret) (hlk : meth.locks = false) (hRf : R.frames = d + 1) (hRl : R.locals = 90 * (d + 1)) (hcl : ∀ (k : Nat) (as : List (Nat × Nat × Nat)) (w : List ev_C) (r : ev_R), call k as w = some r → ∀ (y : MethodName) (bytes : ByteArray) (maxL : Nat) (rt : Option FieldType) (cdm : ev_Cd), Pg[k]? = some ((y, bytes, maxL, rt), cdm) → ev_Met l D cl dA kt Gs y bytes maxL rt d as w r) (hdd : dd = d) (hsm : ∀ q ∈ sm, ∀ (y : MethodName) (bytes : ByteArray) (maxL : Nat) (rt : Option FieldType) (cdm : ev_Cd), Pg[q.1]? = some ((y, bytes, maxL, rt), cdm) → ev_Met l D cl dA kt Gs y bytes maxL rt q.2.1 q.2.2.2.1 q.2.2.2.2.1 q.2.2.2.2.2) (hok : ev_k78 Gc Ct kt Pg sm own nm cc nL ret cd st.1 i = true) (h : ev_o78 Ct ret sm dd call i st = some o) : ev_SS p l e R s m args below meth c D cl dA kt A ws0 nL cd st o := by
  obtain ⟨ix, L, S, w, nc, ns⟩ := st
  unfold ev_k78 at hok
  unfold ev_o78 at h
  simp only [Bool.and_eq_true, decide_eq_true_eq] at hok
  split at h
  · next x S1 hS =>
    have hS : S = x :: S1 := hS
    subst hS
    split at h
    · next hv =>
      obtain rfl := Option.some.inj h
      exact fun _ _ Q k => ev_s_un hv rfl (fun i9 _ => ev_i2b_in i9) hok.2 (fun i9 k9 => lv_i2b X.1.1 X.1.2.1 hok.1 rfl k9) k
    · cases h
  · cases h
theorem ev_p79 (X : ev_X p s m args c D cl dA kt A Gs own cc nL) (hGc : ∀ (h : Nat) (w : Cond), ev_hg Gc h = some w → w ∈ Gs) (hG : ∀ w ∈ Gs, (w.onTables && w.keeps) = true ∨ ∃ ty, w = .arrayClass ty) (hT : ev_okD Gs cl Ct Pg) (hnm : meth.name = nm) (hret : meth.sig.returnType = ret) (hlk : meth.locks = false) (hRf : R.frames = d + 1) (hRl : R.locals = 90 * (d + 1)) (hcl : ∀ (k : Nat) (as : List (Nat × Nat × Nat)) (w : List ev_C) (r : ev_R), call k as w = some r → ∀ (y : MethodName) (bytes : ByteArray) (maxL : Nat) (rt : Option FieldType) (cdm : ev_Cd), Pg[k]? = some ((y, bytes, maxL, rt), cdm) → ev_Met l D cl dA kt Gs y bytes maxL rt d as w r) (hdd : dd = d) (hsm : ∀ q ∈ sm, ∀ (y : MethodName) (bytes : ByteArray) (maxL : Nat) (rt : Option FieldType) (cdm : ev_Cd), Pg[q.1]? = some ((y, bytes, maxL, rt), cdm) → ev_Met l D cl dA kt Gs y bytes maxL rt q.2.1 q.2.2.2.1 q.2.2.2.2.1 q.2.2.2.2.2) (hok : ev_k79 Gc Ct kt Pg sm own nm cc nL ret cd st.1 i = true) (h : ev_o79 Ct ret sm dd call i st = some o) : ev_SS p l e R s m args below meth c D cl dA kt A ws0 nL cd st o := by
  obtain ⟨ix, L, S, w, nc, ns⟩ := st
  unfold ev_k79 at hok
  unfold ev_o79 at h
  simp only [Bool.and_eq_true, decide_eq_true_eq] at hok
  split at h
  · next y x S1 hS =>
    have hS : S = y :: x :: S1 := hS
    subst hS
    split at h
    · next hv =>
      obtain rfl := Option.some.inj h
      exact fun _ _ Q k => ev_s_idiv X hv.1 hv.2.1 hv.2.2.1 hv.2.2.2 hok.1 hok.2 k
    · cases h
  · cases h
theorem ev_p80 (X : ev_X p s m args c D cl dA kt A Gs own cc nL) (hGc : ∀ (h : Nat) (w : Cond), ev_hg Gc h = some w → w ∈ Gs) (hG : ∀ w ∈ Gs, (w.onTables && w.keeps) = true ∨ ∃ ty, w = .arrayClass ty) (hT : ev_okD Gs cl Ct Pg) (hnm : meth.name = nm) (hret : meth.sig.returnType = ret) (hlk : meth.locks = false) (hRf : R.frames = d + 1) (hRl : R.locals = 90 * (d + 1)) (hcl : ∀ (k : Nat) (as : List (Nat × Nat × Nat)) (w : List ev_C) (r : ev_R), call k as w = some r → ∀ (y : MethodName) (bytes : ByteArray) (maxL : Nat) (rt : Option FieldType) (cdm : ev_Cd), Pg[k]? = some ((y, bytes, maxL, rt), cdm) → ev_Met l D cl dA kt Gs y bytes maxL rt d as w r) (hdd : dd = d) (hsm : ∀ q ∈ sm, ∀ (y : MethodName) (bytes : ByteArray) (maxL : Nat) (rt : Option FieldType) (cdm : ev_Cd), Pg[q.1]? = some ((y, bytes, maxL, rt), cdm) → ev_Met l D cl dA kt Gs y bytes maxL rt q.2.1 q.2.2.2.1 q.2.2.2.2.1 q.2.2.2.2.2) (hok : ev_k80 Gc Ct kt Pg sm own nm cc nL ret cd st.1 i = true) (h : ev_o80 Ct ret sm dd call i st = some o) : ev_SS p l e R s m args below meth c D cl dA kt A ws0 nL cd st o := by
  obtain ⟨ix, L, S, w, nc, ns⟩ := st
  unfold ev_k80 at hok
  unfold ev_o80 at h
  simp only [Bool.and_eq_true, decide_eq_true_eq] at hok
  split at h
  · next y x S1 hS =>
    have hS : S = y :: x :: S1 := hS
    subst hS
    split at h
    · next hv =>
      obtain rfl := Option.some.inj h
      exact fun _ _ Q k => ev_s_irem X hv.1 hv.2.1 hv.2.2.1 hv.2.2.2 hok.1 hok.2 k
    · cases h
  · cases h
theorem ev_p81 (X : ev_X p s m args c D cl dA kt A Gs own cc nL) (hGc : ∀ (h : Nat) (w : Cond), ev_hg Gc h = some w → w ∈ Gs) (hG : ∀ w ∈ Gs, (w.onTables && w.keeps) = true ∨ ∃ ty, w = .arrayClass ty) (hT : ev_okD Gs cl Ct Pg) (hnm : meth.name = nm) (hret : meth.sig.returnType = ret) (hlk : meth.locks = false) (hRf : R.frames = d + 1) (hRl : R.locals = 90 * (d + 1)) (hcl : ∀ (k : Nat) (as : List (Nat × Nat × Nat)) (w : List ev_C) (r : ev_R), call k as w = some r → ∀ (y : MethodName) (bytes : ByteArray) (maxL : Nat) (rt : Option FieldType) (cdm : ev_Cd), Pg[k]? = some ((y, bytes, maxL, rt), cdm) → ev_Met l D cl dA kt Gs y bytes maxL rt d as w r) (hdd : dd = d) (hsm : ∀ q ∈ sm, ∀ (y : MethodName) (bytes : ByteArray) (maxL : Nat) (rt : Option FieldType) (cdm : ev_Cd), Pg[q.1]? = some ((y, bytes, maxL, rt), cdm) → ev_Met l D cl dA kt Gs y bytes maxL rt q.2.1 q.2.2.2.1 q.2.2.2.2.1 q.2.2.2.2.2) (hok : ev_k81 Gc Ct kt Pg sm own nm cc nL ret cd st.1 i = true) (h : ev_o81 Ct ret sm dd call i st = some o) : ev_SS p l e R s m args below meth c D cl dA kt A ws0 nL cd st o := by
  obtain ⟨ix, L, S, w, nc, ns⟩ := st
  unfold ev_k81 at hok
  unfold ev_o81 at h
  simp only [Bool.and_eq_true, decide_eq_true_eq] at hok
  split at h
  · next y x S1 hS =>
    have hS : S = y :: x :: S1 := hS
    subst hS
    split at h
    · next hv =>
      obtain rfl := Option.some.inj h
      exact fun _ _ Q k => ev_s_bin hv.1 hv.2 rfl (fun _ _ _ _ => ev_full_in _) hok.2 (fun i j k9 => lv_ishr X.1.1 X.1.2.1 hok.1 k9) k
    · cases h
  · cases h
theorem ev_p82 (X : ev_X p s m args c D cl dA kt A Gs own cc nL) (hGc : ∀ (h : Nat) (w : Cond), ev_hg Gc h = some w → w ∈ Gs) (hG : ∀ w ∈ Gs, (w.onTables && w.keeps) = true ∨ ∃ ty, w = .arrayClass ty) (hT : ev_okD Gs cl Ct Pg) (hnm : meth.name = nm) (hret : meth.sig.returnType = ret) (hlk : meth.locks = false) (hRf : R.frames = d + 1) (hRl : R.locals = 90 * (d + 1)) (hcl : ∀ (k : Nat) (as : List (Nat × Nat × Nat)) (w : List ev_C) (r : ev_R), call k as w = some r → ∀ (y : MethodName) (bytes : ByteArray) (maxL : Nat) (rt : Option FieldType) (cdm : ev_Cd), Pg[k]? = some ((y, bytes, maxL, rt), cdm) → ev_Met l D cl dA kt Gs y bytes maxL rt d as w r) (hdd : dd = d) (hsm : ∀ q ∈ sm, ∀ (y : MethodName) (bytes : ByteArray) (maxL : Nat) (rt : Option FieldType) (cdm : ev_Cd), Pg[q.1]? = some ((y, bytes, maxL, rt), cdm) → ev_Met l D cl dA kt Gs y bytes maxL rt q.2.1 q.2.2.2.1 q.2.2.2.2.1 q.2.2.2.2.2) (hok : ev_k82 Gc Ct kt Pg sm own nm cc nL ret cd st.1 i = true) (h : ev_o82 Ct ret sm dd call i st = some o) : ev_SS p l e R s m args below meth c D cl dA kt A ws0 nL cd st o := by
  obtain ⟨ix, L, S, w, nc, ns⟩ := st
  unfold ev_k82 at hok
  unfold ev_o82 at h
  simp only [Bool.and_eq_true, decide_eq_true_eq] at hok
  split at h
  · next y x S1 hS =>
    have hS : S = y :: x :: S1 := hS
    subst hS
    split at h
    · next hv =>
      obtain rfl := Option.some.inj h
      exact fun _ _ Q k => ev_s_bin hv.1 hv.2 rfl (fun _ _ _ _ => ev_full_in _) hok.2 (fun i j k9 => lv_iushr X.1.1 X.1.2.1 hok.1 rfl k9) k
    · cases h
  · cases h
theorem ev_p83 (X : ev_X p s m args c D cl dA kt A Gs own cc nL) (hGc : ∀ (h : Nat) (w : Cond), ev_hg Gc h = some w → w ∈ Gs) (hG : ∀ w ∈ Gs, (w.onTables && w.keeps) = true ∨ ∃ ty, w = .arrayClass ty) (hT : ev_okD Gs cl Ct Pg) (hnm : meth.name = nm) (hret : meth.sig.returnType = ret) (hlk : meth.locks = false) (hRf : R.frames = d + 1) (hRl : R.locals = 90 * (d + 1)) (hcl : ∀ (k : Nat) (as : List (Nat × Nat × Nat)) (w : List ev_C) (r : ev_R), call k as w = some r → ∀ (y : MethodName) (bytes : ByteArray) (maxL : Nat) (rt : Option FieldType) (cdm : ev_Cd), Pg[k]? = some ((y, bytes, maxL, rt), cdm) → ev_Met l D cl dA kt Gs y bytes maxL rt d as w r) (hdd : dd = d) (hsm : ∀ q ∈ sm, ∀ (y : MethodName) (bytes : ByteArray) (maxL : Nat) (rt : Option FieldType) (cdm : ev_Cd), Pg[q.1]? = some ((y, bytes, maxL, rt), cdm) → ev_Met l D cl dA kt Gs y bytes maxL rt q.2.1 q.2.2.2.1 q.2.2.2.2.1 q.2.2.2.2.2) (hok : ev_k83 Gc Ct kt Pg sm own nm cc nL ret cd st.1 i = true) (h : ev_o83 Ct ret sm dd call i st = some o) : ev_SS p l e R s m args below meth c D cl dA kt A ws0 nL cd st o := by
  obtain ⟨ix, L, S, w, nc, ns⟩ := st
  unfold ev_k83 at hok
  unfold ev_o83 at h
  simp only [Bool.and_eq_true, decide_eq_true_eq] at hok
  split at h
  · next v hg =>
    split at h
    · next hv =>
      obtain rfl := Option.some.inj h
      exact fun _ _ Q k => ev_s_iincw X hok.1.1.1 (ev_in_eq hok.1.2) hok.1.1.2 hok.2 hg hv.1 hv.2 k
    · cases h
  · cases h
theorem ev_op_ok (X : ev_X p s m args c D cl dA kt A Gs own cc nL) (hGc : ∀ (h : Nat) (w : Cond), ev_hg Gc h = some w → w ∈ Gs) (hG : ∀ w ∈ Gs, (w.onTables && w.keeps) = true ∨ ∃ ty, w = .arrayClass ty) (hT : ev_okD Gs cl Ct Pg) (hnm : meth.name = nm) (hret : meth.sig.returnType = ret) (hlk : meth.locks = false) (hRf : R.frames = d + 1) (hRl : R.locals = 90 * (d + 1)) (hcl : ∀ (k : Nat) (as : List (Nat × Nat × Nat)) (w : List ev_C) (r : ev_R), call k as w = some r → ∀ (y : MethodName) (bytes : ByteArray) (maxL : Nat) (rt : Option FieldType) (cdm : ev_Cd), Pg[k]? = some ((y, bytes, maxL, rt), cdm) → ev_Met l D cl dA kt Gs y bytes maxL rt d as w r) (hdd : dd = d) (hsm : ∀ q ∈ sm, ∀ (y : MethodName) (bytes : ByteArray) (maxL : Nat) (rt : Option FieldType) (cdm : ev_Cd), Pg[q.1]? = some ((y, bytes, maxL, rt), cdm) → ev_Met l D cl dA kt Gs y bytes maxL rt q.2.1 q.2.2.2.1 q.2.2.2.2.1 q.2.2.2.2.2) (hok : ev_ok Gc Ct kt Pg sm own nm cc nL ret cd st.1 i = true) (h : ev_op Ct ret sm dd call i st = some o) : ev_SS p l e R s m args below meth c D cl dA kt A ws0 nL cd st o := by
  unfold ev_op at h
  unfold ev_ok at hok
  by_cases hlt : i.2.1 < 42
  · rw [if_pos hlt] at h hok
    by_cases hlt : i.2.1 < 20
    · rw [if_pos hlt] at h hok
      by_cases hlt : i.2.1 < 10
      · rw [if_pos hlt] at h hok
        by_cases hlt : i.2.1 < 5
        · rw [if_pos hlt] at h hok
          by_cases hlt : i.2.1 < 2
          · rw [if_pos hlt] at h hok
            by_cases hlt : i.2.1 < 1
            · rw [if_pos hlt] at h hok
              by_cases hop : i.2.1 = 0
              · rw [if_pos hop] at h hok
                exact ev_p0 X hGc hG hT hnm hret hlk hRf hRl hcl hdd hsm hok h
              · rw [if_neg hop] at h
                cases h
            · rw [if_neg hlt] at h hok
              by_cases hop : i.2.1 = 1
              · rw [if_pos hop] at h hok
                exact ev_p1 X hGc hG hT hnm hret hlk hRf hRl hcl hdd hsm hok h
              · rw [if_neg hop] at h
                cases h
          · rw [if_neg hlt] at h hok
            by_cases hlt : i.2.1 < 3
            · rw [if_pos hlt] at h hok
              by_cases hop : i.2.1 = 2
              · rw [if_pos hop] at h hok
                exact ev_p2 X hGc hG hT hnm hret hlk hRf hRl hcl hdd hsm hok h
              · rw [if_neg hop] at h
                cases h
            · rw [if_neg hlt] at h hok
              by_cases hlt : i.2.1 < 4
              · rw [if_pos hlt] at h hok
                by_cases hop : i.2.1 = 3
                · rw [if_pos hop] at h hok
                  exact ev_p3 X hGc hG hT hnm hret hlk hRf hRl hcl hdd hsm hok h
                · rw [if_neg hop] at h
                  cases h
              · rw [if_neg hlt] at h hok
                by_cases hop : i.2.1 = 4
                · rw [if_pos hop] at h hok
                  exact ev_p4 X hGc hG hT hnm hret hlk hRf hRl hcl hdd hsm hok h
                · rw [if_neg hop] at h
                  cases h
        · rw [if_neg hlt] at h hok
          by_cases hlt : i.2.1 < 7
          · rw [if_pos hlt] at h hok
            by_cases hlt : i.2.1 < 6
            · rw [if_pos hlt] at h hok
              by_cases hop : i.2.1 = 5
              · rw [if_pos hop] at h hok
                exact ev_p5 X hGc hG hT hnm hret hlk hRf hRl hcl hdd hsm hok h
              · rw [if_neg hop] at h
                cases h
            · rw [if_neg hlt] at h hok
              by_cases hop : i.2.1 = 6
              · rw [if_pos hop] at h hok
                exact ev_p6 X hGc hG hT hnm hret hlk hRf hRl hcl hdd hsm hok h
              · rw [if_neg hop] at h
                cases h
          · rw [if_neg hlt] at h hok
            by_cases hlt : i.2.1 < 8
            · rw [if_pos hlt] at h hok
              by_cases hop : i.2.1 = 7
              · rw [if_pos hop] at h hok
                exact ev_p7 X hGc hG hT hnm hret hlk hRf hRl hcl hdd hsm hok h
              · rw [if_neg hop] at h
                cases h
            · rw [if_neg hlt] at h hok
              by_cases hlt : i.2.1 < 9
              · rw [if_pos hlt] at h hok
                by_cases hop : i.2.1 = 8
                · rw [if_pos hop] at h hok
                  exact ev_p8 X hGc hG hT hnm hret hlk hRf hRl hcl hdd hsm hok h
                · rw [if_neg hop] at h
                  cases h
              · rw [if_neg hlt] at h hok
                by_cases hop : i.2.1 = 9
                · rw [if_pos hop] at h hok
                  exact ev_p9 X hGc hG hT hnm hret hlk hRf hRl hcl hdd hsm hok h
                · rw [if_neg hop] at h
                  cases h
      · rw [if_neg hlt] at h hok
        by_cases hlt : i.2.1 < 15
        · rw [if_pos hlt] at h hok
          by_cases hlt : i.2.1 < 12
          · rw [if_pos hlt] at h hok
            by_cases hlt : i.2.1 < 11
            · rw [if_pos hlt] at h hok
              by_cases hop : i.2.1 = 10
              · rw [if_pos hop] at h hok
                exact ev_p10 X hGc hG hT hnm hret hlk hRf hRl hcl hdd hsm hok h
              · rw [if_neg hop] at h
                cases h
            · rw [if_neg hlt] at h hok
              by_cases hop : i.2.1 = 11
              · rw [if_pos hop] at h hok
                exact ev_p11 X hGc hG hT hnm hret hlk hRf hRl hcl hdd hsm hok h
              · rw [if_neg hop] at h
                cases h
          · rw [if_neg hlt] at h hok
            by_cases hlt : i.2.1 < 13
            · rw [if_pos hlt] at h hok
              by_cases hop : i.2.1 = 12
              · rw [if_pos hop] at h hok
                exact ev_p12 X hGc hG hT hnm hret hlk hRf hRl hcl hdd hsm hok h
              · rw [if_neg hop] at h
                cases h
            · rw [if_neg hlt] at h hok
              by_cases hlt : i.2.1 < 14
              · rw [if_pos hlt] at h hok
                by_cases hop : i.2.1 = 13
                · rw [if_pos hop] at h hok
                  exact ev_p13 X hGc hG hT hnm hret hlk hRf hRl hcl hdd hsm hok h
                · rw [if_neg hop] at h
                  cases h
              · rw [if_neg hlt] at h hok
                by_cases hop : i.2.1 = 14
                · rw [if_pos hop] at h hok
                  exact ev_p14 X hGc hG hT hnm hret hlk hRf hRl hcl hdd hsm hok h
                · rw [if_neg hop] at h
                  cases h
        · rw [if_neg hlt] at h hok
          by_cases hlt : i.2.1 < 17
          · rw [if_pos hlt] at h hok
            by_cases hlt : i.2.1 < 16
            · rw [if_pos hlt] at h hok
              by_cases hop : i.2.1 = 15
              · rw [if_pos hop] at h hok
                exact ev_p15 X hGc hG hT hnm hret hlk hRf hRl hcl hdd hsm hok h
              · rw [if_neg hop] at h
                cases h
            · rw [if_neg hlt] at h hok
              by_cases hop : i.2.1 = 16
              · rw [if_pos hop] at h hok
                exact ev_p16 X hGc hG hT hnm hret hlk hRf hRl hcl hdd hsm hok h
              · rw [if_neg hop] at h
                cases h
          · rw [if_neg hlt] at h hok
            by_cases hlt : i.2.1 < 18
            · rw [if_pos hlt] at h hok
              by_cases hop : i.2.1 = 17
              · rw [if_pos hop] at h hok
                exact ev_p17 X hGc hG hT hnm hret hlk hRf hRl hcl hdd hsm hok h
              · rw [if_neg hop] at h
                cases h
            · rw [if_neg hlt] at h hok
              by_cases hlt : i.2.1 < 19
              · rw [if_pos hlt] at h hok
                by_cases hop : i.2.1 = 18
                · rw [if_pos hop] at h hok
                  exact ev_p18 X hGc hG hT hnm hret hlk hRf hRl hcl hdd hsm hok h
                · rw [if_neg hop] at h
                  cases h
              · rw [if_neg hlt] at h hok
                by_cases hop : i.2.1 = 19
                · rw [if_pos hop] at h hok
                  exact ev_p19 X hGc hG hT hnm hret hlk hRf hRl hcl hdd hsm hok h
                · rw [if_neg hop] at h
                  cases h
    · rw [if_neg hlt] at h hok
      by_cases hlt : i.2.1 < 30
      · rw [if_pos hlt] at h hok
        by_cases hlt : i.2.1 < 25
        · rw [if_pos hlt] at h hok
          by_cases hlt : i.2.1 < 22
          · rw [if_pos hlt] at h hok
            by_cases hlt : i.2.1 < 21
            · rw [if_pos hlt] at h hok
              by_cases hop : i.2.1 = 20
              · rw [if_pos hop] at h hok
                exact ev_p20 X hGc hG hT hnm hret hlk hRf hRl hcl hdd hsm hok h
              · rw [if_neg hop] at h
                cases h
            · rw [if_neg hlt] at h hok
              by_cases hop : i.2.1 = 21
              · rw [if_pos hop] at h hok
                exact ev_p21 X hGc hG hT hnm hret hlk hRf hRl hcl hdd hsm hok h
              · rw [if_neg hop] at h
                cases h
          · rw [if_neg hlt] at h hok
            by_cases hlt : i.2.1 < 23
            · rw [if_pos hlt] at h hok
              by_cases hop : i.2.1 = 22
              · rw [if_pos hop] at h hok
                exact ev_p22 X hGc hG hT hnm hret hlk hRf hRl hcl hdd hsm hok h
              · rw [if_neg hop] at h
                cases h
            · rw [if_neg hlt] at h hok
              by_cases hlt : i.2.1 < 24
              · rw [if_pos hlt] at h hok
                by_cases hop : i.2.1 = 23
                · rw [if_pos hop] at h hok
                  exact ev_p23 X hGc hG hT hnm hret hlk hRf hRl hcl hdd hsm hok h
                · rw [if_neg hop] at h
                  cases h
              · rw [if_neg hlt] at h hok
                by_cases hop : i.2.1 = 24
                · rw [if_pos hop] at h hok
                  exact ev_p24 X hGc hG hT hnm hret hlk hRf hRl hcl hdd hsm hok h
                · rw [if_neg hop] at h
                  cases h
        · rw [if_neg hlt] at h hok
          by_cases hlt : i.2.1 < 27
          · rw [if_pos hlt] at h hok
            by_cases hlt : i.2.1 < 26
            · rw [if_pos hlt] at h hok
              by_cases hop : i.2.1 = 25
              · rw [if_pos hop] at h hok
                exact ev_p25 X hGc hG hT hnm hret hlk hRf hRl hcl hdd hsm hok h
              · rw [if_neg hop] at h
                cases h
            · rw [if_neg hlt] at h hok
              by_cases hop : i.2.1 = 26
              · rw [if_pos hop] at h hok
                exact ev_p26 X hGc hG hT hnm hret hlk hRf hRl hcl hdd hsm hok h
              · rw [if_neg hop] at h
                cases h
          · rw [if_neg hlt] at h hok
            by_cases hlt : i.2.1 < 28
            · rw [if_pos hlt] at h hok
              by_cases hop : i.2.1 = 27
              · rw [if_pos hop] at h hok
                exact ev_p27 X hGc hG hT hnm hret hlk hRf hRl hcl hdd hsm hok h
              · rw [if_neg hop] at h
                cases h
            · rw [if_neg hlt] at h hok
              by_cases hlt : i.2.1 < 29
              · rw [if_pos hlt] at h hok
                by_cases hop : i.2.1 = 28
                · rw [if_pos hop] at h hok
                  exact ev_p28 X hGc hG hT hnm hret hlk hRf hRl hcl hdd hsm hok h
                · rw [if_neg hop] at h
                  cases h
              · rw [if_neg hlt] at h hok
                by_cases hop : i.2.1 = 29
                · rw [if_pos hop] at h hok
                  exact ev_p29 X hGc hG hT hnm hret hlk hRf hRl hcl hdd hsm hok h
                · rw [if_neg hop] at h
                  cases h
      · rw [if_neg hlt] at h hok
        by_cases hlt : i.2.1 < 35
        · rw [if_pos hlt] at h hok
          by_cases hlt : i.2.1 < 32
          · rw [if_pos hlt] at h hok
            by_cases hlt : i.2.1 < 31
            · rw [if_pos hlt] at h hok
              by_cases hop : i.2.1 = 30
              · rw [if_pos hop] at h hok
                exact ev_p30 X hGc hG hT hnm hret hlk hRf hRl hcl hdd hsm hok h
              · rw [if_neg hop] at h
                cases h
            · rw [if_neg hlt] at h hok
              by_cases hop : i.2.1 = 31
              · rw [if_pos hop] at h hok
                exact ev_p31 X hGc hG hT hnm hret hlk hRf hRl hcl hdd hsm hok h
              · rw [if_neg hop] at h
                cases h
          · rw [if_neg hlt] at h hok
            by_cases hlt : i.2.1 < 33
            · rw [if_pos hlt] at h hok
              by_cases hop : i.2.1 = 32
              · rw [if_pos hop] at h hok
                exact ev_p32 X hGc hG hT hnm hret hlk hRf hRl hcl hdd hsm hok h
              · rw [if_neg hop] at h
                cases h
            · rw [if_neg hlt] at h hok
              by_cases hlt : i.2.1 < 34
              · rw [if_pos hlt] at h hok
                by_cases hop : i.2.1 = 33
                · rw [if_pos hop] at h hok
                  exact ev_p33 X hGc hG hT hnm hret hlk hRf hRl hcl hdd hsm hok h
                · rw [if_neg hop] at h
                  cases h
              · rw [if_neg hlt] at h hok
                by_cases hop : i.2.1 = 34
                · rw [if_pos hop] at h hok
                  exact ev_p34 X hGc hG hT hnm hret hlk hRf hRl hcl hdd hsm hok h
                · rw [if_neg hop] at h
                  cases h
        · rw [if_neg hlt] at h hok
          by_cases hlt : i.2.1 < 38
          · rw [if_pos hlt] at h hok
            by_cases hlt : i.2.1 < 36
            · rw [if_pos hlt] at h hok
              by_cases hop : i.2.1 = 35
              · rw [if_pos hop] at h hok
                exact ev_p35 X hGc hG hT hnm hret hlk hRf hRl hcl hdd hsm hok h
              · rw [if_neg hop] at h
                cases h
            · rw [if_neg hlt] at h hok
              by_cases hlt : i.2.1 < 37
              · rw [if_pos hlt] at h hok
                by_cases hop : i.2.1 = 36
                · rw [if_pos hop] at h hok
                  exact ev_p36 X hGc hG hT hnm hret hlk hRf hRl hcl hdd hsm hok h
                · rw [if_neg hop] at h
                  cases h
              · rw [if_neg hlt] at h hok
                by_cases hop : i.2.1 = 37
                · rw [if_pos hop] at h hok
                  exact ev_p37 X hGc hG hT hnm hret hlk hRf hRl hcl hdd hsm hok h
                · rw [if_neg hop] at h
                  cases h
          · rw [if_neg hlt] at h hok
            by_cases hlt : i.2.1 < 39
            · rw [if_pos hlt] at h hok
              by_cases hop : i.2.1 = 38
              · rw [if_pos hop] at h hok
                exact ev_p38 X hGc hG hT hnm hret hlk hRf hRl hcl hdd hsm hok h
              · rw [if_neg hop] at h
                cases h
            · rw [if_neg hlt] at h hok
              by_cases hlt : i.2.1 < 40
              · rw [if_pos hlt] at h hok
                by_cases hop : i.2.1 = 39
                · rw [if_pos hop] at h hok
                  exact ev_p39 X hGc hG hT hnm hret hlk hRf hRl hcl hdd hsm hok h
                · rw [if_neg hop] at h
                  cases h
              · rw [if_neg hlt] at h hok
                by_cases hop : i.2.1 = 40
                · rw [if_pos hop] at h hok
                  exact ev_p40 X hGc hG hT hnm hret hlk hRf hRl hcl hdd hsm hok h
                · rw [if_neg hop] at h
                  cases h
  · rw [if_neg hlt] at h hok
    by_cases hlt : i.2.1 < 63
    · rw [if_pos hlt] at h hok
      by_cases hlt : i.2.1 < 53
      · rw [if_pos hlt] at h hok
        by_cases hlt : i.2.1 < 48
        · rw [if_pos hlt] at h hok
          by_cases hlt : i.2.1 < 44
          · rw [if_pos hlt] at h hok
            by_cases hlt : i.2.1 < 43
            · rw [if_pos hlt] at h hok
              by_cases hop : i.2.1 = 42
              · rw [if_pos hop] at h hok
                exact ev_p42 X hGc hG hT hnm hret hlk hRf hRl hcl hdd hsm hok h
              · rw [if_neg hop] at h
                cases h
            · rw [if_neg hlt] at h hok
              by_cases hop : i.2.1 = 43
              · rw [if_pos hop] at h hok
                exact ev_p43 X hGc hG hT hnm hret hlk hRf hRl hcl hdd hsm hok h
              · rw [if_neg hop] at h
                cases h
          · rw [if_neg hlt] at h hok
            by_cases hlt : i.2.1 < 46
            · rw [if_pos hlt] at h hok
              by_cases hop : i.2.1 = 44
              · rw [if_pos hop] at h hok
                exact ev_p44 X hGc hG hT hnm hret hlk hRf hRl hcl hdd hsm hok h
              · rw [if_neg hop] at h
                cases h
            · rw [if_neg hlt] at h hok
              by_cases hlt : i.2.1 < 47
              · rw [if_pos hlt] at h hok
                by_cases hop : i.2.1 = 46
                · rw [if_pos hop] at h hok
                  exact ev_p46 X hGc hG hT hnm hret hlk hRf hRl hcl hdd hsm hok h
                · rw [if_neg hop] at h
                  cases h
              · rw [if_neg hlt] at h hok
                by_cases hop : i.2.1 = 47
                · rw [if_pos hop] at h hok
                  exact ev_p47 X hGc hG hT hnm hret hlk hRf hRl hcl hdd hsm hok h
                · rw [if_neg hop] at h
                  cases h
        · rw [if_neg hlt] at h hok
          by_cases hlt : i.2.1 < 50
          · rw [if_pos hlt] at h hok
            by_cases hlt : i.2.1 < 49
            · rw [if_pos hlt] at h hok
              by_cases hop : i.2.1 = 48
              · rw [if_pos hop] at h hok
                exact ev_p48 X hGc hG hT hnm hret hlk hRf hRl hcl hdd hsm hok h
              · rw [if_neg hop] at h
                cases h
            · rw [if_neg hlt] at h hok
              by_cases hop : i.2.1 = 49
              · rw [if_pos hop] at h hok
                exact ev_p49 X hGc hG hT hnm hret hlk hRf hRl hcl hdd hsm hok h
              · rw [if_neg hop] at h
                cases h
          · rw [if_neg hlt] at h hok
            by_cases hlt : i.2.1 < 51
            · rw [if_pos hlt] at h hok
              by_cases hop : i.2.1 = 50
              · rw [if_pos hop] at h hok
                exact ev_p50 X hGc hG hT hnm hret hlk hRf hRl hcl hdd hsm hok h
              · rw [if_neg hop] at h
                cases h
            · rw [if_neg hlt] at h hok
              by_cases hlt : i.2.1 < 52
              · rw [if_pos hlt] at h hok
                by_cases hop : i.2.1 = 51
                · rw [if_pos hop] at h hok
                  exact ev_p51 X hGc hG hT hnm hret hlk hRf hRl hcl hdd hsm hok h
                · rw [if_neg hop] at h
                  cases h
              · rw [if_neg hlt] at h hok
                by_cases hop : i.2.1 = 52
                · rw [if_pos hop] at h hok
                  exact ev_p52 X hGc hG hT hnm hret hlk hRf hRl hcl hdd hsm hok h
                · rw [if_neg hop] at h
                  cases h
      · rw [if_neg hlt] at h hok
        by_cases hlt : i.2.1 < 58
        · rw [if_pos hlt] at h hok
          by_cases hlt : i.2.1 < 55
          · rw [if_pos hlt] at h hok
            by_cases hlt : i.2.1 < 54
            · rw [if_pos hlt] at h hok
              by_cases hop : i.2.1 = 53
              · rw [if_pos hop] at h hok
                exact ev_p53 X hGc hG hT hnm hret hlk hRf hRl hcl hdd hsm hok h
              · rw [if_neg hop] at h
                cases h
            · rw [if_neg hlt] at h hok
              by_cases hop : i.2.1 = 54
              · rw [if_pos hop] at h hok
                exact ev_p54 X hGc hG hT hnm hret hlk hRf hRl hcl hdd hsm hok h
              · rw [if_neg hop] at h
                cases h
          · rw [if_neg hlt] at h hok
            by_cases hlt : i.2.1 < 56
            · rw [if_pos hlt] at h hok
              by_cases hop : i.2.1 = 55
              · rw [if_pos hop] at h hok
                exact ev_p55 X hGc hG hT hnm hret hlk hRf hRl hcl hdd hsm hok h
              · rw [if_neg hop] at h
                cases h
            · rw [if_neg hlt] at h hok
              by_cases hlt : i.2.1 < 57
              · rw [if_pos hlt] at h hok
                by_cases hop : i.2.1 = 56
                · rw [if_pos hop] at h hok
                  exact ev_p56 X hGc hG hT hnm hret hlk hRf hRl hcl hdd hsm hok h
                · rw [if_neg hop] at h
                  cases h
              · rw [if_neg hlt] at h hok
                by_cases hop : i.2.1 = 57
                · rw [if_pos hop] at h hok
                  exact ev_p57 X hGc hG hT hnm hret hlk hRf hRl hcl hdd hsm hok h
                · rw [if_neg hop] at h
                  cases h
        · rw [if_neg hlt] at h hok
          by_cases hlt : i.2.1 < 60
          · rw [if_pos hlt] at h hok
            by_cases hlt : i.2.1 < 59
            · rw [if_pos hlt] at h hok
              by_cases hop : i.2.1 = 58
              · rw [if_pos hop] at h hok
                exact ev_p58 X hGc hG hT hnm hret hlk hRf hRl hcl hdd hsm hok h
              · rw [if_neg hop] at h
                cases h
            · rw [if_neg hlt] at h hok
              by_cases hop : i.2.1 = 59
              · rw [if_pos hop] at h hok
                exact ev_p59 X hGc hG hT hnm hret hlk hRf hRl hcl hdd hsm hok h
              · rw [if_neg hop] at h
                cases h
          · rw [if_neg hlt] at h hok
            by_cases hlt : i.2.1 < 61
            · rw [if_pos hlt] at h hok
              by_cases hop : i.2.1 = 60
              · rw [if_pos hop] at h hok
                exact ev_p60 X hGc hG hT hnm hret hlk hRf hRl hcl hdd hsm hok h
              · rw [if_neg hop] at h
                cases h
            · rw [if_neg hlt] at h hok
              by_cases hlt : i.2.1 < 62
              · rw [if_pos hlt] at h hok
                by_cases hop : i.2.1 = 61
                · rw [if_pos hop] at h hok
                  exact ev_p61 X hGc hG hT hnm hret hlk hRf hRl hcl hdd hsm hok h
                · rw [if_neg hop] at h
                  cases h
              · rw [if_neg hlt] at h hok
                by_cases hop : i.2.1 = 62
                · rw [if_pos hop] at h hok
                  exact ev_p62 X hGc hG hT hnm hret hlk hRf hRl hcl hdd hsm hok h
                · rw [if_neg hop] at h
                  cases h
    · rw [if_neg hlt] at h hok
      by_cases hlt : i.2.1 < 73
      · rw [if_pos hlt] at h hok
        by_cases hlt : i.2.1 < 68
        · rw [if_pos hlt] at h hok
          by_cases hlt : i.2.1 < 65
          · rw [if_pos hlt] at h hok
            by_cases hlt : i.2.1 < 64
            · rw [if_pos hlt] at h hok
              by_cases hop : i.2.1 = 63
              · rw [if_pos hop] at h hok
                exact ev_p63 X hGc hG hT hnm hret hlk hRf hRl hcl hdd hsm hok h
              · rw [if_neg hop] at h
                cases h
            · rw [if_neg hlt] at h hok
              by_cases hop : i.2.1 = 64
              · rw [if_pos hop] at h hok
                exact ev_p64 X hGc hG hT hnm hret hlk hRf hRl hcl hdd hsm hok h
              · rw [if_neg hop] at h
                cases h
          · rw [if_neg hlt] at h hok
            by_cases hlt : i.2.1 < 66
            · rw [if_pos hlt] at h hok
              by_cases hop : i.2.1 = 65
              · rw [if_pos hop] at h hok
                exact ev_p65 X hGc hG hT hnm hret hlk hRf hRl hcl hdd hsm hok h
              · rw [if_neg hop] at h
                cases h
            · rw [if_neg hlt] at h hok
              by_cases hlt : i.2.1 < 67
              · rw [if_pos hlt] at h hok
                by_cases hop : i.2.1 = 66
                · rw [if_pos hop] at h hok
                  exact ev_p66 X hGc hG hT hnm hret hlk hRf hRl hcl hdd hsm hok h
                · rw [if_neg hop] at h
                  cases h
              · rw [if_neg hlt] at h hok
                by_cases hop : i.2.1 = 67
                · rw [if_pos hop] at h hok
                  exact ev_p67 X hGc hG hT hnm hret hlk hRf hRl hcl hdd hsm hok h
                · rw [if_neg hop] at h
                  cases h
        · rw [if_neg hlt] at h hok
          by_cases hlt : i.2.1 < 70
          · rw [if_pos hlt] at h hok
            by_cases hlt : i.2.1 < 69
            · rw [if_pos hlt] at h hok
              by_cases hop : i.2.1 = 68
              · rw [if_pos hop] at h hok
                exact ev_p68 X hGc hG hT hnm hret hlk hRf hRl hcl hdd hsm hok h
              · rw [if_neg hop] at h
                cases h
            · rw [if_neg hlt] at h hok
              by_cases hop : i.2.1 = 69
              · rw [if_pos hop] at h hok
                exact ev_p69 X hGc hG hT hnm hret hlk hRf hRl hcl hdd hsm hok h
              · rw [if_neg hop] at h
                cases h
          · rw [if_neg hlt] at h hok
            by_cases hlt : i.2.1 < 71
            · rw [if_pos hlt] at h hok
              by_cases hop : i.2.1 = 70
              · rw [if_pos hop] at h hok
                exact ev_p70 X hGc hG hT hnm hret hlk hRf hRl hcl hdd hsm hok h
              · rw [if_neg hop] at h
                cases h
            · rw [if_neg hlt] at h hok
              by_cases hlt : i.2.1 < 72
              · rw [if_pos hlt] at h hok
                by_cases hop : i.2.1 = 71
                · rw [if_pos hop] at h hok
                  exact ev_p71 X hGc hG hT hnm hret hlk hRf hRl hcl hdd hsm hok h
                · rw [if_neg hop] at h
                  cases h
              · rw [if_neg hlt] at h hok
                by_cases hop : i.2.1 = 72
                · rw [if_pos hop] at h hok
                  exact ev_p72 X hGc hG hT hnm hret hlk hRf hRl hcl hdd hsm hok h
                · rw [if_neg hop] at h
                  cases h
      · rw [if_neg hlt] at h hok
        by_cases hlt : i.2.1 < 78
        · rw [if_pos hlt] at h hok
          by_cases hlt : i.2.1 < 75
          · rw [if_pos hlt] at h hok
            by_cases hlt : i.2.1 < 74
            · rw [if_pos hlt] at h hok
              by_cases hop : i.2.1 = 73
              · rw [if_pos hop] at h hok
                exact ev_p73 X hGc hG hT hnm hret hlk hRf hRl hcl hdd hsm hok h
              · rw [if_neg hop] at h
                cases h
            · rw [if_neg hlt] at h hok
              by_cases hop : i.2.1 = 74
              · rw [if_pos hop] at h hok
                exact ev_p74 X hGc hG hT hnm hret hlk hRf hRl hcl hdd hsm hok h
              · rw [if_neg hop] at h
                cases h
          · rw [if_neg hlt] at h hok
            by_cases hlt : i.2.1 < 76
            · rw [if_pos hlt] at h hok
              by_cases hop : i.2.1 = 75
              · rw [if_pos hop] at h hok
                exact ev_p75 X hGc hG hT hnm hret hlk hRf hRl hcl hdd hsm hok h
              · rw [if_neg hop] at h
                cases h
            · rw [if_neg hlt] at h hok
              by_cases hlt : i.2.1 < 77
              · rw [if_pos hlt] at h hok
                by_cases hop : i.2.1 = 76
                · rw [if_pos hop] at h hok
                  exact ev_p76 X hGc hG hT hnm hret hlk hRf hRl hcl hdd hsm hok h
                · rw [if_neg hop] at h
                  cases h
              · rw [if_neg hlt] at h hok
                by_cases hop : i.2.1 = 77
                · rw [if_pos hop] at h hok
                  exact ev_p77 X hGc hG hT hnm hret hlk hRf hRl hcl hdd hsm hok h
                · rw [if_neg hop] at h
                  cases h
        · rw [if_neg hlt] at h hok
          by_cases hlt : i.2.1 < 81
          · rw [if_pos hlt] at h hok
            by_cases hlt : i.2.1 < 79
            · rw [if_pos hlt] at h hok
              by_cases hop : i.2.1 = 78
              · rw [if_pos hop] at h hok
                exact ev_p78 X hGc hG hT hnm hret hlk hRf hRl hcl hdd hsm hok h
              · rw [if_neg hop] at h
                cases h
            · rw [if_neg hlt] at h hok
              by_cases hlt : i.2.1 < 80
              · rw [if_pos hlt] at h hok
                by_cases hop : i.2.1 = 79
                · rw [if_pos hop] at h hok
                  exact ev_p79 X hGc hG hT hnm hret hlk hRf hRl hcl hdd hsm hok h
                · rw [if_neg hop] at h
                  cases h
              · rw [if_neg hlt] at h hok
                by_cases hop : i.2.1 = 80
                · rw [if_pos hop] at h hok
                  exact ev_p80 X hGc hG hT hnm hret hlk hRf hRl hcl hdd hsm hok h
                · rw [if_neg hop] at h
                  cases h
          · rw [if_neg hlt] at h hok
            by_cases hlt : i.2.1 < 82
            · rw [if_pos hlt] at h hok
              by_cases hop : i.2.1 = 81
              · rw [if_pos hop] at h hok
                exact ev_p81 X hGc hG hT hnm hret hlk hRf hRl hcl hdd hsm hok h
              · rw [if_neg hop] at h
                cases h
            · rw [if_neg hlt] at h hok
              by_cases hlt : i.2.1 < 83
              · rw [if_pos hlt] at h hok
                by_cases hop : i.2.1 = 82
                · rw [if_pos hop] at h hok
                  exact ev_p82 X hGc hG hT hnm hret hlk hRf hRl hcl hdd hsm hok h
                · rw [if_neg hop] at h
                  cases h
              · rw [if_neg hlt] at h hok
                by_cases hop : i.2.1 = 83
                · rw [if_pos hop] at h hok
                  exact ev_p83 X hGc hG hT hnm hret hlk hRf hRl hcl hdd hsm hok h
                · rw [if_neg hop] at h
                  cases h
end EV7
