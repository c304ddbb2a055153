/-! Less may be said: what the small machine knows may be made wider -/
def ev_le (u v : ev_V) : Bool := if u.1 = 0 then decide (v.1 = 0 ∧ v.2.1 ≤ u.2.1 ∧ u.2.2 ≤ v.2.2) else if u.1 = 1 then decide (v.1 = 1) else if u.1 = 2 then decide (v.1 = 2 ∧ v.2.1 = u.2.1) else decide (v.1 = 3)
theorem ev_le_r {ad : List Nat} {u v : ev_V} {x : Value} (h : ev_le u v = true) (hx : ev_vr ad u x) : ev_vr ad v x := by
  unfold ev_le at h
  rcases hx with ⟨h0, i, rfl, hi⟩ | ⟨h0, j, rfl⟩ | ⟨h0, a, ha, rfl⟩ | ⟨h0, rfl⟩
  · rw [if_pos h0] at h
    have h := of_decide_eq_true h
    exact ev_vr.it h.1 ⟨Nat.le_trans h.2.1 hi.1, Nat.le_trans hi.2 h.2.2⟩
  · rw [if_neg (by omega), if_pos h0] at h
    exact Or.inr (Or.inl ⟨of_decide_eq_true h, j, rfl⟩)
  · rw [if_neg (by omega), if_neg (by omega), if_pos h0] at h
    have h := of_decide_eq_true h
    exact Or.inr (Or.inr (Or.inl ⟨h.1, a, by rw [h.2]; exact ha, rfl⟩))
  · rw [if_neg (by omega), if_neg (by omega), if_neg (by omega)] at h
    exact Or.inr (Or.inr (Or.inr ⟨of_decide_eq_true h, rfl⟩))
theorem ev_le_in {u v : ev_V} {i : Int32} (h : ev_le u v = true) (h0 : u.1 = 0) (hi : ev_in u i) : ev_in v i := by
  unfold ev_le at h
  rw [if_pos h0] at h
  have h := of_decide_eq_true h
  exact ⟨Nat.le_trans h.2.1 hi.1, Nat.le_trans hi.2 h.2.2⟩
def ev_leS : List (Nat × Nat × Nat) → List (Nat × Nat × Nat) → Bool
  | [], [] => true
  | u :: us, v :: vs => ev_le u v && ev_leS us vs
  | _, _ => false
theorem ev_leS_r {ad : List Nat} : ∀ {us vs : List (Nat × Nat × Nat)} {xs : List Value}, ev_leS us vs = true → ev_sr ad us xs → ev_sr ad vs xs
  | [], [], [], _, _ => trivial
  | [], [], _ :: _, _, h => h.elim
  | [], _ :: _, _, h, _ => by simp [ev_leS] at h
  | _ :: _, [], _, h, _ => by simp [ev_leS] at h
  | _ :: _, _ :: _, [], _, h => h.elim
  | u :: us, v :: vs, x :: xs, h, hx => by
    simp only [ev_leS, Bool.and_eq_true] at h
    exact ⟨ev_le_r h.1 hx.1, ev_leS_r h.2 hx.2⟩
theorem ev_leS_at : ∀ {us vs : List (Nat × Nat × Nat)} {k : Nat} {v : ev_V}, ev_leS us vs = true → vs[k]? = some v → ∃ u, us[k]? = some u ∧ ev_le u v = true
  | [], [], _, _, _, h => by simp at h
  | [], _ :: _, _, _, h, _ => by simp [ev_leS] at h
  | _ :: _, [], _, _, h, _ => by simp [ev_leS] at h
  | u :: us, v :: vs, 0, x, h, hk => by
    simp only [ev_leS, Bool.and_eq_true] at h
    simp at hk
    subst hk
    exact ⟨u, by simp, h.1⟩
  | u :: us, v :: vs, k + 1, x, h, hk => by
    simp only [ev_leS, Bool.and_eq_true] at h
    simp at hk
    obtain ⟨y, h1, h2⟩ := ev_leS_at h.2 hk
    exact ⟨y, by simpa using h1, h2⟩
def ev_leL (L L' : List (Nat × (Nat × Nat × Nat))) : Bool := L'.all (fun q => match ev_get L q.1 with
  | some v => ev_le v q.2
  | none => false)
theorem ev_leL_r {ad : List Nat} {L : List (Nat × (Nat × Nat × Nat))} {lv : List (Nat × Value)} {ls : Array Slot} {nL : Nat} (hl : lv_has ls nL lv) (hr : ev_lr ad L lv) : ∀ {L' : List (Nat × (Nat × Nat × Nat))}, ev_leL L L' = true → ∃ lv' : List (Nat × Value), lv_has ls nL lv' ∧ ev_lr ad L' lv'
  | [], _ => ⟨[], ⟨hl.1, hl.2.1, fun q h => by cases h⟩, trivial⟩
  | q :: L', h => by
    unfold ev_leL at h
    rw [List.all_cons, Bool.and_eq_true] at h
    obtain ⟨h1, h2⟩ := h
    obtain ⟨lv', g1, g2⟩ := ev_leL_r hl hr (L' := L') (by unfold ev_leL; exact h2)
    cases hg : ev_get L q.1 with
    | none => rw [hg] at h1; cases h1
    | some v =>
      rw [hg] at h1
      obtain ⟨k, x, hk, hx⟩ := hr.get hg
      refine ⟨(q.1, x) :: lv', ⟨hl.1, hl.2.1, fun p hp => ?_⟩, rfl, ev_le_r h1 hx, g2⟩
      rcases List.mem_cons.mp hp with rfl | hp
      · exact lv_at hl k hk
      · exact g1.2.2 p hp
def ev_leC (c c' : ev_C) : Bool := decide (c.1 = c'.1 ∧ c.2.1 = c'.2.1 ∧ c.2.2.1 = c'.2.2.1) && (if c.1 = 2 then (match c'.2.2.2[0]? with
  | none => true
  | some v => (match c.2.2.2[0]? with
    | none => false
    | some u => ev_le u v && decide (u.1 = 0))) else if c.1 = 3 then true else ev_leS c.2.2.2 c'.2.2.2)
theorem ev_leC_r {ad : List Nat} {dA : Nat → ClassId} {c c' : ev_C} {E : va_E} (h : ev_leC c c' = true) (hc : ev_cr ad dA c E) : ev_cr ad dA c' E := by
  unfold ev_leC at h
  rw [Bool.and_eq_true] at h
  obtain ⟨h0, h⟩ := h
  obtain ⟨e1, e2, e3⟩ := of_decide_eq_true h0
  rcases hc with ⟨h1, fs, rfl, hs⟩ | ⟨h1, f, rfl, hs⟩ | ⟨h1, f, rfl, hs⟩ | ⟨h1, f, rfl⟩ | hc
  · rw [if_neg (by omega), if_neg (by omega)] at h
    exact Or.inl ⟨by omega, fs, by rw [e2], ev_leS_r h hs⟩
  · rw [if_neg (by omega), if_neg (by omega)] at h
    refine Or.inr (Or.inl ⟨by omega, f, by rw [e2, e3], fun k v hk => ?_⟩)
    obtain ⟨u, hu, huv⟩ := ev_leS_at h hk
    exact ev_le_r huv (hs k u hu)
  · rw [if_pos h1] at h
    refine Or.inr (Or.inr (Or.inl ⟨by omega, f, by rw [e2, e3], fun v hv j => ?_⟩))
    rw [hv] at h
    cases hu : c.2.2.2[0]? with
    | none => rw [hu] at h; cases h
    | some u =>
      rw [hu] at h
      simp only [Bool.and_eq_true] at h
      exact ev_le_in h.1 (of_decide_eq_true h.2) (hs u hu j)
  · exact Or.inr (Or.inr (Or.inr (Or.inl ⟨by omega, f, by rw [e2, e3]⟩)))
  · have h9 := hc.1
    rw [if_neg (by omega), if_neg (by omega)] at h
    refine Or.inr (Or.inr (Or.inr (Or.inr ⟨by omega, fun v hv => ?_⟩)))
    obtain ⟨u, hu, huv⟩ := ev_leS_at h hv
    obtain ⟨h0, f, hf, hj⟩ := hc.2 u hu
    refine ⟨?_, f, by rw [hf, e2, e3], fun j => ev_le_in huv h0 (hj j)⟩
    unfold ev_le at huv
    rw [if_pos h0] at huv
    exact (of_decide_eq_true huv).1
def ev_leW : List ev_C → List ev_C → Bool
  | [], [] => true
  | c :: cs, d :: ds => ev_leC c d && ev_leW cs ds
  | _, _ => false
theorem ev_leW_len : ∀ {w w' : List ev_C}, ev_leW w w' = true → w.length = w'.length
  | [], [], _ => rfl
  | [], _ :: _, h => by simp [ev_leW] at h
  | _ :: _, [], h => by simp [ev_leW] at h
  | _ :: _, _ :: _, h => by
    simp only [ev_leW, Bool.and_eq_true] at h
    simp [ev_leW_len h.2]
theorem ev_leW_at : ∀ {w w' : List ev_C} {k : Nat} {c' : ev_C}, ev_leW w w' = true → w'[k]? = some c' → ∃ c, w[k]? = some c ∧ ev_leC c c' = true
  | [], [], _, _, _, h => by simp at h
  | [], _ :: _, _, _, h, _ => by simp [ev_leW] at h
  | _ :: _, [], _, _, h, _ => by simp [ev_leW] at h
  | u :: us, v :: vs, 0, x, h, hk => by
    simp only [ev_leW, Bool.and_eq_true] at h
    simp at hk
    subst hk
    exact ⟨u, by simp, h.1⟩
  | u :: us, v :: vs, k + 1, x, h, hk => by
    simp only [ev_leW, Bool.and_eq_true] at h
    simp at hk
    obtain ⟨y, h1, h2⟩ := ev_leW_at h.2 hk
    exact ⟨y, by simpa using h1, h2⟩
theorem ev_leW_r {dA : Nat → ClassId} {w w' : List ev_C} {ws : va_W} (h : ev_leW w w' = true) (hw : ev_wr dA w ws) : ev_wr dA w' ws := by
  refine ⟨by rw [← ev_leW_len h]; exact hw.1, fun k c' hk => ?_⟩
  obtain ⟨c, hc, hle⟩ := ev_leW_at h hk
  obtain ⟨q, h1, h2⟩ := hw.2 k c hc
  exact ⟨q, h1, ev_leC_r hle h2⟩
theorem ev_E.weak {ws0 ws : va_W} {w w' : List ev_C} (h : ev_E ws0 w ws) (hw : ev_leW w w' = true) : ev_E ws0 w' ws := by
  refine ⟨h.1, fun j c hj h9 => ?_⟩
  obtain ⟨d, hd, hle⟩ := ev_leW_at hw hj
  refine h.2 j d hd ?_
  unfold ev_leC at hle
  rw [Bool.and_eq_true] at hle
  have := (of_decide_eq_true hle.1).1
  omega
section EV5
variable {p : Program} {l : Launch} {e : Env} {R : Room} {s : State} {m : MethodId} {args : Array Value} {below : List Frame} {meth : Method} {c : Code} {Q : State → Prop}
variable {D : va_G} {cl : List vw_C} {dA : Nat → ClassId} {kt : List FieldType} {A : Nat → Prop} {ws0 : va_W} {Gs : List Cond} {own : String} {cc : ByteArray} {nL : Nat} {cd : ev_Cd}
variable {ix nc ns : Nat} {L : List (Nat × (Nat × Nat × Nat))} {S : List (Nat × Nat × Nat)} {w : List ev_C}
theorem ev_s_weak {L' : List (Nat × (Nat × Nat × Nat))} {S' : List (Nat × Nat × Nat)} {w' : List ev_C} {nc' ns' : Nat} (hL : ev_leL L L' = true) (hS : ev_leS S S' = true) (hw : ev_leW w w' = true) (hnc : nc ≤ nc') (hns : ns ≤ ns') (k : ev_G p l e R s m args below meth c Q D cl dA A ws0 nL cd (ix, L', S', w', nc', ns')) : ev_G p l e R s m args below meth c Q D cl dA A ws0 nL cd (ix, L, S, w, nc, ns) := by
  intro H locs ls vs lv ws h1 h2 h3 h4 h5 h6 h7 h8
  obtain ⟨lv', g1, g2⟩ := ev_leL_r h1 h2 hL
  exact W.widen hnc hns (k H locs ls vs lv' ws g1 g2 (ev_leS_r hS h3) (ev_leW_r hw h4) (h5.weak hw) h6 h7 h8)
end EV5
def ev_leO (r r' : Option (Nat × Nat × Nat)) : Bool := match r, r' with
  | none, none => true
  | some u, some v => ev_le u v
  | _, _ => false
theorem ev_leO_r {ad : List Nat} {r r' : Option (Nat × Nat × Nat)} {x : Option Value} (h : ev_leO r r' = true) (hx : ev_rr ad r x) : ev_rr ad r' x := by
  cases r <;> cases r' <;> cases x <;> simp [ev_leO, ev_rr] at h hx ⊢
  exact ev_le_r h hx
/-- an answer may be told wider, too -/
theorem ev_Q_weak {D : va_G} {cl : List vw_C} {dA : Nat → ClassId} {kt : List FieldType} {ws0 : va_W} {A : Nat → Prop} {r r' : Option (Nat × Nat × Nat)} {w w' : List ev_C} (hr : ev_leO r r' = true) (hw : ev_leW w w' = true) {a : Array Value} {st t : State} {oc : Outcome} (h : ev_Q D cl dA kt ws0 A r w a st oc t) : ev_Q D cl dA kt ws0 A r' w' a st oc t := by
  obtain ⟨⟨rv, u, b0, b1, b2, b3, b4, b5, b6⟩, hF⟩ := h
  exact ⟨⟨rv, u, b0, ev_leO_r hr b1, b2.weak hw, ev_leW_r hw b3, b4, b5, b6⟩, hF⟩
