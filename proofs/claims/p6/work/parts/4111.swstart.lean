/-! The start as the second machine sees it: what holds of it. Written by a program (wip/start/gen4111.py). -/
def sw_nd : List Nat → Bool
  | [] => true
  | a :: l => l.all (fun b => !(Nat.beq a b)) && sw_nd l
theorem sw_nd_ok : ∀ {l : List Nat}, sw_nd l = true → ∀ (i j x : Nat), l[i]? = some x → l[j]? = some x → i = j
  | [], _, i, j, x, h, _ => by simp at h
  | a :: l, hn, i, j, x, hi, hj => by
    unfold sw_nd at hn
    rw [Bool.and_eq_true] at hn
    have hne : ∀ b ∈ l, a ≠ b := fun b hb => by
      have := List.all_eq_true.mp hn.1 b hb
      intro e
      subst e
      simp at this
    cases i with
    | zero => cases j with
      | zero => rfl
      | succ j =>
        obtain rfl : a = x := Option.some.inj hi
        exact absurd rfl (hne a (List.mem_of_getElem? hj))
    | succ i => cases j with
      | zero =>
        obtain rfl : a = x := Option.some.inj hj
        exact absurd rfl (hne a (List.mem_of_getElem? hi))
      | succ j => rw [sw_nd_ok hn.2 i j x hi hj]
def sw_key (q : Nat × Nat) : Nat := q.1 * 2000 + q.2
set_option maxRecDepth 100000 in
theorem sw_ndk : sw_nd (sw_kd.map sw_key) = true := by decide +kernel
theorem sw_sg : sx_Sg sw_kd := fun q i j hi hj => sw_nd_ok sw_ndk i j (sw_key q) (by rw [List.getElem?_map, hi]; rfl) (by rw [List.getElem?_map, hj]; rfl)
set_option maxRecDepth 100000 in
theorem sw_ck : sw_go sz_T sw_kd sw_kd ct_lw = true := by decide +kernel
def sw_za (k : Nat) : List (Nat × Nat) → List ev_C → Bool
  | [], _ => true
  | q :: qs, w :: ws => (!(q.1 == k) || (decide (w.1 = 2) && (match w.2.2.2[0]? with
    | some v => decide (v = (0, 2147483648, 2147483648))
    | none => false))) && sw_za k qs ws
  | q :: qs, [] => !(q.1 == k) && sw_za k qs []
theorem sw_za_ok {k : Nat} {f : Int} : ∀ {qs : List (Nat × Nat)} {ws : List ev_C}, sw_za k qs ws = true → sw_zk k f qs ws = true
  | [], _, _ => rfl
  | q :: qs, w :: ws, h => by
    unfold sw_za at h
    rw [Bool.and_eq_true] at h
    unfold sw_zk
    rw [Bool.and_eq_true]
    refine ⟨?_, sw_za_ok h.2⟩
    have h1 := h.1
    rw [Bool.or_eq_true] at h1 ⊢
    refine h1.imp id (fun h1 => ?_)
    unfold sw_z
    rw [Bool.or_eq_true]
    exact Or.inr h1
  | q :: qs, [], h => by
    unfold sw_za at h
    rw [Bool.and_eq_true] at h
    unfold sw_zk
    rw [Bool.and_eq_true]
    exact ⟨h.1, sw_za_ok h.2⟩
/-- what holds between calls -/
def sw_I (hh : sx_H) : Prop := zJS hh ∧ zJA hh ∧ zPS hh ∧ zFO hh ∧ zLS hh ∧ zPR hh
set_option maxRecDepth 100000 in
theorem sw_z1 : sw_zk 88 6 sw_kd ct_lw = true := by decide +kernel
set_option maxRecDepth 100000 in
theorem sw_z2 : sw_zk 88 2 sw_kd ct_lw = true := by decide +kernel
set_option maxRecDepth 100000 in
theorem sw_z3 : sw_zk 87 6 sw_kd ct_lw = true := by decide +kernel
set_option maxRecDepth 100000 in
theorem sw_z4 : sw_za 15 sw_kd ct_lw = true := by decide +kernel
set_option maxRecDepth 100000 in
theorem sw_z5 : sw_za 26 sw_kd ct_lw = true := by decide +kernel
set_option maxRecDepth 100000 in
theorem sw_z6 : sw_za 122 sw_kd ct_lw = true := by decide +kernel
set_option maxRecDepth 100000 in
theorem sw_z7 : sw_za 119 sw_kd ct_lw = true := by decide +kernel
theorem sw_I0 {hp : sx_H} (h : ∀ (k : Nat) (f : Int), sw_zk k f sw_kd ct_lw = true → ∀ c : Int, hp k c f = 0) : sw_I hp := by
  have a1 := h 88 6 sw_z1
  have a2 := h 88 2 sw_z2
  have a3 := h 87 6 sw_z3
  have a4 : ∀ c f : Int, hp 15 c f = 0 := fun c f => h 15 f (sw_za_ok sw_z4) c
  have a5 : ∀ c f : Int, hp 26 c f = 0 := fun c f => h 26 f (sw_za_ok sw_z5) c
  have a6 : ∀ c f : Int, hp 122 c f = 0 := fun c f => h 122 f (sw_za_ok sw_z6) c
  have a7 : ∀ c f : Int, hp 119 c f = 0 := fun c f => h 119 f (sw_za_ok sw_z7) c
  refine ⟨⟨?_, ?_, ?_, ?_, ?_, ?_⟩, ?_, ?_, ?_, ?_, ?_⟩
  · intro s i _ _ h3 h4
    rw [a1] at h4
    omega
  · intro s i j _ _ h3 h4 h5
    rw [a1] at h5
    omega
  · intro s i _ _ h3 h4
    rw [a1] at h4
    omega
  · intro s _ _ h3
    rw [a2] at h3
    omega
  · intro s _ _ h3
    rw [a1] at h3
    omega
  · exact ⟨a1 0, by rw [a2]; omega⟩
  · intro z hz
    rw [a3] at hz
    omega
  · intro s k h4
    rw [a4] at h4
    omega
  · intro b hb
    rw [a5] at hb
    omega
  · intro s l h1 _ h3
    rw [a6] at h3
    omega
  · intro s hs
    rw [a7] at hs
    omega
/-- what holds goes on over a contract -/
def sw_iv (q : sx_C) (id : Nat) : Bool := q.2.2.2.2.2.2.2.2.2.all (fun o => o.2.2.2.2.contains (id, [])) || sx_kp (sz_su id) q.2.2.2.2.2.2.2.2.1
def sw_ids : List Nat := [0, 11, 14, 16, 34, 36]
