/-! The small machine, faster: codes in rows of sixteen; calls over all the cells at once -/
def ev_lk (cs : List ev_Cd) (ix : Nat) : Option ev_I := match cs[ix / 16]? with
  | some c => c[ix % 16]?
  | none => none
/-- all rows but the last have sixteen -/
def ev_ck : List ev_Cd → Bool
  | [] => true
  | [_] => true
  | c :: cs => c.length == 16 && ev_ck cs
theorem ev_lk_r : ∀ {cs : List ev_Cd} {ix : Nat} {i : ev_I}, ev_ck cs = true → ev_lk cs ix = some i → cs.flatten[ix]? = some i
  | [], ix, i, _, h => by simp [ev_lk] at h
  | [c], ix, i, _, h => by
    unfold ev_lk at h
    by_cases hx : ix / 16 = 0
    · rw [hx] at h
      have h : c[ix % 16]? = some i := h
      have : ix % 16 = ix := Nat.mod_eq_of_lt (by omega)
      rw [this] at h
      simpa using h
    · rw [List.getElem?_eq_none (by simp; omega)] at h
      cases h
  | c :: d :: cs, ix, i, hc, h => by
    have hc : (c.length == 16 && ev_ck (d :: cs)) = true := hc
    rw [Bool.and_eq_true] at hc
    have hl : c.length = 16 := eq_of_beq hc.1
    rw [List.flatten_cons]
    by_cases hx : ix < 16
    · unfold ev_lk at h
      rw [Nat.div_eq_of_lt hx, Nat.mod_eq_of_lt hx] at h
      have h : c[ix]? = some i := h
      rw [List.getElem?_append_left (by omega)]
      exact h
    · rw [List.getElem?_append_right (by omega), hl]
      refine ev_lk_r hc.2 ?_
      unfold ev_lk at h ⊢
      have e1 : ix / 16 = (ix - 16) / 16 + 1 := by omega
      have e2 : ix % 16 = (ix - 16) % 16 := by omega
      rw [e1, e2, List.getElem?_cons_succ] at h
      exact h
def ev_eqI : ev_Cd → ev_Cd → Bool
  | [], [] => true
  | (a1, a2, a3, a4, a5, a6, a7) :: as, (b1, b2, b3, b4, b5, b6, b7) :: bs => (Nat.beq a1 b1 && (Nat.beq a2 b2 && (Nat.beq a3 b3 && (Nat.beq a4 b4 && (Nat.beq a5 b5 && (Nat.beq a6 b6 && Nat.beq a7 b7)))))) && ev_eqI as bs
  | _, _ => false
theorem ev_eqI_r : ∀ {a b : ev_Cd}, ev_eqI a b = true → a = b
  | [], [], _ => rfl
  | [], _ :: _, h => by simp [ev_eqI] at h
  | _ :: _, [], h => by simp [ev_eqI] at h
  | (a1, a2, a3, a4, a5, a6, a7) :: as, (b1, b2, b3, b4, b5, b6, b7) :: bs, h => by
    simp only [ev_eqI, Bool.and_eq_true, Nat.beq_eq_true_eq] at h
    obtain ⟨⟨h1, h2, h3, h4, h5, h6, h7⟩, h⟩ := h
    rw [Nat.eq_of_beq_eq_true h1, Nat.eq_of_beq_eq_true h2, Nat.eq_of_beq_eq_true h3, Nat.eq_of_beq_eq_true h4, Nat.eq_of_beq_eq_true h5, Nat.eq_of_beq_eq_true h6, Nat.eq_of_beq_eq_true h7, ev_eqI_r h]
def ev_okK (Pg : List ev_Mt) (Ck : List (List ev_Cd)) : Prop := ∀ (k : Nat) (q : ev_Mt) (cs : List ev_Cd), Pg[k]? = some q → Ck[k]? = some cs → ∀ (ix : Nat) (i : ev_I), ev_lk cs ix = some i → q.2[ix]? = some i
def ev_okQ : List ev_Mt → List (List ev_Cd) → Bool
  | q :: Pg, cs :: Ck => ev_ck cs && (ev_eqI cs.flatten q.2 && ev_okQ Pg Ck)
  | _, _ => true
theorem ev_okQ_r : ∀ {Pg : List ev_Mt} {Ck : List (List ev_Cd)}, ev_okQ Pg Ck = true → ev_okK Pg Ck
  | [], _, _, k, q, cs, hq, _, _, _, _ => by simp at hq
  | _ :: _, [], _, k, q, cs, _, hc, _, _, _ => by simp at hc
  | q0 :: Pg, c0 :: Ck, h, k, q, cs, hq, hc, ix, i, hi => by
    simp only [ev_okQ, Bool.and_eq_true] at h
    cases k with
    | zero =>
      rw [List.getElem?_cons_zero] at hq hc
      obtain rfl := Option.some.inj hq
      obtain rfl := Option.some.inj hc
      rw [← ev_eqI_r h.2.1]
      exact ev_lk_r h.1 hi
    | succ k =>
      rw [List.getElem?_cons_succ] at hq hc
      exact ev_okQ_r h.2.2 k q cs hq hc ix i hi
