/-! The caller's row behind a call, in a form that is reckoned fast -/
def ev_sets {α : Type} (d0 : α) (ws ul : List α) : List Nat → Nat → List α
  | [], _ => ws
  | k :: ks, j => (ev_sets d0 ws ul ks (j + 1)).set k (ul.getD j d0)
theorem ev_sets_len {α : Type} {d0 : α} {ws ul : List α} : ∀ {is : List Nat} {j : Nat}, (ev_sets d0 ws ul is j).length = ws.length
  | [], _ => rfl
  | k :: ks, j => by
    unfold ev_sets
    rw [List.length_set, ev_sets_len]
theorem ev_sets_at {α : Type} {d0 : α} {ws ul : List α} : ∀ {is : List Nat} {j k : Nat}, k < ws.length → (ev_sets d0 ws ul is j)[k]? = some (match ev_ixo is k j with
    | some i => ul.getD i d0
    | none => ws.getD k d0)
  | [], j, k, hk => by
    unfold ev_sets ev_ixo
    exact ev_getD_some hk
  | g :: gs, j, k, hk => by
    unfold ev_sets ev_ixo
    by_cases hg : g = k
    · subst hg
      rw [if_pos rfl, List.getElem?_set_self (by rw [ev_sets_len]; exact hk)]
    · rw [if_neg hg, List.getElem?_set_ne hg]
      exact ev_sets_at hk
def ev_upf {α : Type} (d0 : α) (ws ul : List α) (is : List Nat) : List α := ev_sets d0 ws ul is 0 ++ ul.drop is.length
theorem ev_upf_eq {α : Type} {d0 : α} {ws ul : List α} {is : List Nat} (h : is.length ≤ ul.length) : ev_upf d0 ws ul is = ev_up d0 ws ul is := by
  apply List.ext_getElem?
  intro k
  unfold ev_upf
  by_cases hk : k < ws.length + (ul.length - is.length)
  · rw [ev_up_at hk]
    unfold ev_pick
    by_cases hlt : k < ws.length
    · rw [if_pos hlt, List.getElem?_append_left (by rw [ev_sets_len]; exact hlt), ev_sets_at hlt]
      cases ev_ixo is k 0 <;> rfl
    · rw [if_neg hlt, List.getElem?_append_right (by rw [ev_sets_len]; omega), ev_sets_len, List.getElem?_drop]
      exact ev_getD_some (by omega)
  · rw [List.getElem?_eq_none (by rw [List.length_append, ev_sets_len, List.length_drop]; omega), List.getElem?_eq_none (by rw [ev_up_len]; omega)]
def ev_mixf (w : List ev_C) (is0 : List Nat) (n : Nat) : List ev_C → List Nat → List ev_C → List ev_C
  | c :: wL, k :: is, d :: w1 => (if c.1 = 9 then w.getD k ev_c0 else ev_rnC is0 n d) :: ev_mixf w is0 n wL is w1
  | _, _, w1 => w1.map (ev_rnC is0 n)
theorem ev_mixf_len {w : List ev_C} {is0 : List Nat} {n : Nat} : ∀ {wL : List ev_C} {is : List Nat} {w1 : List ev_C}, (ev_mixf w is0 n wL is w1).length = w1.length
  | c :: wL, k :: is, d :: w1 => by
    unfold ev_mixf
    rw [List.length_cons, List.length_cons, ev_mixf_len]
  | [], _, w1 => by simp [ev_mixf]
  | _ :: _, [], w1 => by simp [ev_mixf]
  | _ :: _, _ :: _, [] => by simp [ev_mixf]
theorem ev_mixf_at {w : List ev_C} {is0 : List Nat} {n : Nat} : ∀ {wL : List ev_C} {is : List Nat} {w1 : List ev_C} {j : Nat}, is.length = wL.length → j < w1.length → (ev_mixf w is0 n wL is w1)[j]? = some (if (wL.getD j ev_c0).1 = 9 then w.getD (is.getD j 0) ev_c0 else ev_rnC is0 n (w1.getD j ev_c0))
  | c :: wL, k :: is, d :: w1, 0, _, _ => by
    unfold ev_mixf
    rfl
  | c :: wL, k :: is, d :: w1, j + 1, hl, hj => by
    unfold ev_mixf
    rw [List.getElem?_cons_succ]
    exact ev_mixf_at (by simpa using hl) (by simpa using hj)
  | [], is, w1, j, _, hj => by
    have e : ev_mixf w is0 n [] is w1 = w1.map (ev_rnC is0 n) := by simp [ev_mixf]
    rw [e, List.getElem?_map, ev_getD_some (d0 := ev_c0) hj, if_neg (by simp [ev_c0])]
    rfl
  | _ :: _, [], w1, j, hl, _ => by simp at hl
  | _ :: _, _ :: _, [], j, _, hj => by simp at hj
theorem ev_mixf_eq {w wL w1 : List ev_C} {is : List Nat} (hl : is.length = wL.length) : ev_mixf w is w.length wL is w1 = ev_mix w wL w1 is := by
  apply List.ext_getElem?
  intro k
  by_cases hk : k < w1.length
  · rw [ev_mixf_at hl hk, ← ev_mix_at hk, ← ev_getD_some (by rw [ev_mix_len]; exact hk)]
  · rw [List.getElem?_eq_none (by rw [ev_mixf_len]; omega), List.getElem?_eq_none (by rw [ev_mix_len]; omega)]
