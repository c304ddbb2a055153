/-! A call over some of the cells: the others stay as they are -/
def ev_ixo : List Nat → Nat → Nat → Option Nat
  | [], _, _ => none
  | i :: is, k, j => if i = k then some j else ev_ixo is k (j + 1)
theorem ev_ixo_some : ∀ {is : List Nat} {k j0 j : Nat}, ev_ixo is k j0 = some j → j0 ≤ j ∧ is[j - j0]? = some k
  | [], _, _, _, h => by cases h
  | i :: is, k, j0, j, h => by
    unfold ev_ixo at h
    split at h
    · next hi =>
      obtain rfl := Option.some.inj h
      exact ⟨Nat.le_refl _, by rw [Nat.sub_self, hi]; rfl⟩
    · obtain ⟨h1, h2⟩ := ev_ixo_some h
      refine ⟨by omega, ?_⟩
      rw [show j - j0 = (j - (j0 + 1)) + 1 by omega, List.getElem?_cons_succ]
      exact h2
theorem ev_ixo_none : ∀ {is : List Nat} {k j0 : Nat}, ev_ixo is k j0 = none → ∀ j : Nat, is[j]? ≠ some k
  | [], _, _, _, j => by simp
  | i :: is, k, j0, h, j => by
    unfold ev_ixo at h
    split at h
    · cases h
    · next hi =>
      cases j with
      | zero => simpa using hi
      | succ j => rw [List.getElem?_cons_succ]; exact ev_ixo_none h j
theorem ev_ixo_at : ∀ {is : List Nat} {k j0 j : Nat}, (∀ a b : Nat, is[a]? = some k → is[b]? = some k → a = b) → is[j]? = some k → ev_ixo is k j0 = some (j0 + j)
  | [], _, _, _, _, h => by simp at h
  | i :: is, k, j0, j, hd, h => by
    unfold ev_ixo
    split
    · next hi =>
      have : j = 0 := hd j 0 h (by rw [hi]; rfl)
      rw [this]; rfl
    · next hi =>
      cases j with
      | zero => exact absurd (by simpa using h) hi
      | succ j =>
        rw [ev_ixo_at (is := is) (k := k) (j0 := j0 + 1) (j := j) (fun a b ha hb => by have := hd (a + 1) (b + 1) (by rw [List.getElem?_cons_succ]; exact ha) (by rw [List.getElem?_cons_succ]; exact hb); omega) (by rw [List.getElem?_cons_succ] at h; exact h)]
        congr 1
        omega
/-- the row ws, with ul's first in the places is, and ul's others behind -/
def ev_pick {α : Type} (d0 : α) (ws ul : List α) (is : List Nat) (k : Nat) : α := if k < ws.length then (match ev_ixo is k 0 with
  | some j => ul.getD j d0
  | none => ws.getD k d0) else ul.getD (is.length + (k - ws.length)) d0
def ev_up {α : Type} (d0 : α) (ws ul : List α) (is : List Nat) : List α := (List.range (ws.length + (ul.length - is.length))).map (ev_pick d0 ws ul is)
theorem ev_up_at {α : Type} {d0 : α} {ws ul : List α} {is : List Nat} {k : Nat} (h : k < ws.length + (ul.length - is.length)) : (ev_up d0 ws ul is)[k]? = some (ev_pick d0 ws ul is k) := by
  unfold ev_up
  rw [List.getElem?_map, List.getElem?_range h]
  rfl
theorem ev_up_len {α : Type} {d0 : α} {ws ul : List α} {is : List Nat} : (ev_up d0 ws ul is).length = ws.length + (ul.length - is.length) := by
  unfold ev_up
  rw [List.length_map, List.length_range]
theorem ev_getD {α : Type} {d0 x : α} {l : List α} {k : Nat} (h : l[k]? = some x) : l.getD k d0 = x := by
  rw [List.getD_eq_getElem?_getD, h]
  rfl
theorem ev_getD_some {α : Type} {d0 : α} {l : List α} {k : Nat} (h : k < l.length) : l[k]? = some (l.getD k d0) := by
  rw [List.getD_eq_getElem?_getD, List.getElem?_eq_getElem h]
  rfl
/-- where a cell of the callee's lies in the caller's row -/
def ev_rn (is : List Nat) (n k : Nat) : Nat := match is[k]? with
  | some a => a
  | none => n + (k - is.length)
def ev_rnV (is : List Nat) (n : Nat) (v : ev_V) : ev_V := if v.1 = 2 then (2, ev_rn is n v.2.1, 0) else v
def ev_rnC (is : List Nat) (n : Nat) (c : ev_C) : ev_C := (c.1, c.2.1, c.2.2.1, c.2.2.2.map (ev_rnV is n))
theorem ev_rnV_r {is : List Nat} {n : Nat} {adL adG : List Nat} (h : ∀ k a : Nat, adL[k]? = some a → adG[ev_rn is n k]? = some a) {v : ev_V} {x : Value} (hx : ev_vr adL v x) : ev_vr adG (ev_rnV is n v) x := by
  unfold ev_rnV
  rcases hx with ⟨h0, i, rfl, hi⟩ | ⟨h0, j, rfl⟩ | ⟨h0, a, ha, rfl⟩ | ⟨h0, rfl⟩
  · rw [if_neg (by omega)]; exact Or.inl ⟨h0, i, rfl, hi⟩
  · rw [if_neg (by omega)]; exact Or.inr (Or.inl ⟨h0, j, rfl⟩)
  · rw [if_pos h0]; exact ev_vr.rf (h _ _ ha)
  · rw [if_neg (by omega)]; exact Or.inr (Or.inr (Or.inr ⟨h0, rfl⟩))
theorem ev_rnS_r {is : List Nat} {n : Nat} {adL adG : List Nat} (h : ∀ k a : Nat, adL[k]? = some a → adG[ev_rn is n k]? = some a) : ∀ {vs : List (Nat × Nat × Nat)} {xs : List Value}, ev_sr adL vs xs → ev_sr adG (vs.map (ev_rnV is n)) xs
  | [], [], _ => trivial
  | [], _ :: _, q => q.elim
  | _ :: _, [], q => q.elim
  | _ :: _, _ :: _, q => ⟨ev_rnV_r h q.1, ev_rnS_r h q.2⟩
theorem ev_rnV_in {is : List Nat} {n : Nat} {v : ev_V} {i : Int32} (h0 : v.1 ≠ 2) (h : ev_in v i) : ev_in (ev_rnV is n v) i := by
  unfold ev_rnV
  rw [if_neg h0]
  exact h
theorem ev_rnC_r {is : List Nat} {n : Nat} {adL adG : List Nat} {dA : Nat → ClassId} (h : ∀ k a : Nat, adL[k]? = some a → adG[ev_rn is n k]? = some a) {c : ev_C} {E : va_E} (hn : c.1 = 2 → ∀ v, c.2.2.2[0]? = some v → v.1 ≠ 2) (hc : ev_cr adL dA c E) : ev_cr adG dA (ev_rnC is n c) E := by
  rcases hc with ⟨h0, fs, rfl, hs⟩ | ⟨h0, f, rfl, hs⟩ | ⟨h0, f, rfl, hs⟩ | ⟨h0, f, rfl⟩ | h0
  · exact Or.inl ⟨h0, fs, rfl, ev_rnS_r h hs⟩
  · refine Or.inr (Or.inl ⟨h0, f, rfl, fun k v hk => ?_⟩)
    have hk : (c.2.2.2.map (ev_rnV is n))[k]? = some v := hk
    rw [List.getElem?_map] at hk
    cases hu : c.2.2.2[k]? with
    | none => rw [hu] at hk; cases hk
    | some u => rw [hu] at hk; obtain rfl := Option.some.inj hk; exact ev_rnV_r h (hs k u hu)
  · refine Or.inr (Or.inr (Or.inl ⟨h0, f, rfl, fun v hk j => ?_⟩))
    have hk : (c.2.2.2.map (ev_rnV is n))[0]? = some v := hk
    rw [List.getElem?_map] at hk
    cases hu : c.2.2.2[0]? with
    | none => rw [hu] at hk; cases hk
    | some u => rw [hu] at hk; obtain rfl := Option.some.inj hk; exact ev_rnV_in (hn h0 u hu) (hs u hu j)
  · exact Or.inr (Or.inr (Or.inr (Or.inl ⟨h0, f, rfl⟩)))
  · refine Or.inr (Or.inr (Or.inr (Or.inr ⟨h0.1, fun v hk => ?_⟩)))
    have hk : (c.2.2.2.map (ev_rnV is n))[0]? = some v := hk
    rw [List.getElem?_map] at hk
    cases hu : c.2.2.2[0]? with
    | none => rw [hu] at hk; cases hk
    | some u =>
      rw [hu] at hk
      obtain rfl := Option.some.inj hk
      obtain ⟨e0, f, hf, hj⟩ := h0.2 u hu
      have e1 : ev_rnV is n u = u := by
        unfold ev_rnV
        rw [if_neg (by omega)]
      rw [e1]
      exact ⟨e0, f, hf, hj⟩
/-- a caller's value under a callee's view of it: places go by is -/
def ev_ler (is : List Nat) (u v : ev_V) : Bool := if v.1 = 2 then decide (u.1 = 2 ∧ is[v.2.1]? = some u.2.1) else ev_le u v
theorem ev_ler_r {is ad adL : List Nat} (h : ∀ k g a : Nat, is[k]? = some g → ad[g]? = some a → adL[k]? = some a) {u v : ev_V} {x : Value} (hl : ev_ler is u v = true) (hx : ev_vr ad u x) : ev_vr adL v x := by
  unfold ev_ler at hl
  split at hl
  · next hv =>
    obtain ⟨h1, h2⟩ := of_decide_eq_true hl
    obtain ⟨a, ha, rfl⟩ := hx.ref h1
    exact Or.inr (Or.inr (Or.inl ⟨hv, a, h _ _ _ h2 ha, rfl⟩))
  · next hv =>
    have hx2 := ev_le_r hl hx
    rcases hx2 with q | q | ⟨q, -⟩ | q
    · exact Or.inl q
    · exact Or.inr (Or.inl q)
    · exact absurd q hv
    · exact Or.inr (Or.inr (Or.inr q))
def ev_lerS (is : List Nat) : List (Nat × Nat × Nat) → List (Nat × Nat × Nat) → Bool
  | [], [] => true
  | u :: us, v :: vs => ev_ler is u v && ev_lerS is us vs
  | _, _ => false
theorem ev_lerS_r {is ad adL : List Nat} (h : ∀ k g a : Nat, is[k]? = some g → ad[g]? = some a → adL[k]? = some a) : ∀ {us vs : List (Nat × Nat × Nat)} {xs : List Value}, ev_lerS is us vs = true → ev_sr ad us xs → ev_sr adL vs xs
  | [], [], [], _, _ => trivial
  | [], [], _ :: _, _, q => q.elim
  | [], _ :: _, _, q, _ => by simp [ev_lerS] at q
  | _ :: _, [], _, q, _ => by simp [ev_lerS] at q
  | _ :: _, _ :: _, [], _, q => q.elim
  | u :: us, v :: vs, x :: xs, hl, hx => by
    simp only [ev_lerS, Bool.and_eq_true] at hl
    exact ⟨ev_ler_r h hl.1 hx.1, ev_lerS_r h hl.2 hx.2⟩
theorem ev_lerS_at {is : List Nat} : ∀ {us vs : List (Nat × Nat × Nat)} {k : Nat} {v : ev_V}, ev_lerS is us vs = true → vs[k]? = some v → ∃ u, us[k]? = some u ∧ ev_ler is u v = true
  | [], [], _, _, _, h => by simp at h
  | [], _ :: _, _, _, h, _ => by simp [ev_lerS] at h
  | _ :: _, [], _, _, h, _ => by simp [ev_lerS] at h
  | u :: us, v :: vs, 0, x, h, hk => by
    simp only [ev_lerS, Bool.and_eq_true] at h
    simp at hk
    subst hk
    exact ⟨u, by simp, h.1⟩
  | u :: us, v :: vs, k + 1, x, h, hk => by
    simp only [ev_lerS, Bool.and_eq_true] at h
    simp at hk
    obtain ⟨y, h1, h2⟩ := ev_lerS_at h.2 hk
    exact ⟨y, by simpa using h1, h2⟩
def ev_lerC (is : List Nat) (c c' : ev_C) : Bool := if c'.1 = 9 then (match c'.2.2.2[0]? with
  | none => true
  | some v => decide ((c.1 = 2 ∨ c.1 = 9) ∧ c.2.1 = c'.2.1 ∧ c.2.2.1 = c'.2.2.1 ∧ v.1 = 0) && (match c.2.2.2[0]? with
    | none => false
    | some u => ev_le u v && decide (u.1 = 0))) else decide (c.1 = c'.1 ∧ c.2.1 = c'.2.1 ∧ c.2.2.1 = c'.2.2.1) && (if c.1 = 2 then (match c'.2.2.2[0]? with
  | none => true
  | some v => (match c.2.2.2[0]? with
    | none => false
    | some u => ev_le u v && decide (u.1 = 0))) else if c.1 = 3 then true else ev_lerS is c.2.2.2 c'.2.2.2)
theorem ev_lerC_r {is ad adL : List Nat} {dA : Nat → ClassId} (h : ∀ k g a : Nat, is[k]? = some g → ad[g]? = some a → adL[k]? = some a) {c c' : ev_C} {E : va_E} (hl : ev_lerC is c c' = true) (hc : ev_cr ad dA c E) : ev_cr adL dA c' E := by
  unfold ev_lerC at hl
  split at hl
  case isTrue h9 =>
    refine Or.inr (Or.inr (Or.inr (Or.inr ⟨h9, fun v hv => ?_⟩)))
    rw [hv] at hl
    simp only [Bool.and_eq_true] at hl
    obtain ⟨h0, hl⟩ := hl
    obtain ⟨t1, t2, t3, t4⟩ := of_decide_eq_true h0
    cases hu : c.2.2.2[0]? with
    | none => rw [hu] at hl; cases hl
    | some u =>
      rw [hu] at hl
      simp only [Bool.and_eq_true] at hl
      obtain ⟨f, hf, hj⟩ := ev_cr.ints (tg := c.1) (kd := c.2.1) (n := c.2.2.1) (z := c.2.2.2) hc t1 hu
      exact ⟨t4, f, by rw [hf, t2, t3], fun j => ev_le_in hl.1 (of_decide_eq_true hl.2) (hj j)⟩
  rw [Bool.and_eq_true] at hl
  obtain ⟨h0, hl⟩ := hl
  obtain ⟨e1, e2, e3⟩ := of_decide_eq_true h0
  rcases hc with ⟨h1, fs, rfl, hs⟩ | ⟨h1, f, rfl, hs⟩ | ⟨h1, f, rfl, hs⟩ | ⟨h1, f, rfl⟩ | h1
  · rw [if_neg (by omega), if_neg (by omega)] at hl
    exact Or.inl ⟨by omega, fs, by rw [e2], ev_lerS_r h hl hs⟩
  · rw [if_neg (by omega), if_neg (by omega)] at hl
    refine Or.inr (Or.inl ⟨by omega, f, by rw [e2, e3], fun k v hk => ?_⟩)
    obtain ⟨u, hu, huv⟩ := ev_lerS_at hl hk
    exact ev_ler_r h huv (hs k u hu)
  · rw [if_pos h1] at hl
    refine Or.inr (Or.inr (Or.inl ⟨by omega, f, by rw [e2, e3], fun v hv j => ?_⟩))
    rw [hv] at hl
    cases hu : c.2.2.2[0]? with
    | none => rw [hu] at hl; cases hl
    | some u =>
      rw [hu] at hl
      simp only [Bool.and_eq_true] at hl
      exact ev_le_in hl.1 (of_decide_eq_true hl.2) (hs u hu j)
  · exact Or.inr (Or.inr (Or.inr (Or.inl ⟨by omega, f, by rw [e2, e3]⟩)))
  · exact absurd h1.1 (by omega)
