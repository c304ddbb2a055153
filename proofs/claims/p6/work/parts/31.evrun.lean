/-! The small machine's run, and the contract that it gives -/
def ev_mgV (u v : ev_V) : ev_V := if u.1 = 0 ∧ v.1 = 0 then ev_hull u v else u
def ev_mgS : List (Nat × Nat × Nat) → List (Nat × Nat × Nat) → List (Nat × Nat × Nat)
  | u :: us, v :: vs => ev_mgV u v :: ev_mgS us vs
  | _, _ => []
def ev_mgL (L L' : List (Nat × (Nat × Nat × Nat))) : List (Nat × (Nat × Nat × Nat)) := L.filterMap (fun q => match ev_get L' q.1 with
  | some v => if q.2.1 = v.1 then some (q.1, ev_mgV q.2 v) else none
  | none => none)
def ev_mgW : List ev_C → List ev_C → List ev_C
  | c :: cs, d :: ds => (c.1, c.2.1, c.2.2.1, ev_mgS c.2.2.2 d.2.2.2) :: ev_mgW cs ds
  | _, _ => []
def ev_mgT (u v : ev_S) : ev_S := (u.1, ev_mgL u.2.1 v.2.1, ev_mgS u.2.2.1 v.2.2.1, ev_mgW u.2.2.2.1 v.2.2.2.1, max u.2.2.2.2.1 v.2.2.2.2.1, max u.2.2.2.2.2 v.2.2.2.2.2)
def ev_mgO (r r' : Option (Nat × Nat × Nat)) : Option (Nat × Nat × Nat) := match r, r' with
  | some u, some v => some (ev_mgV u v)
  | _, _ => r
def ev_mgR (r r' : ev_R) : ev_R := (ev_mgO r.1 r'.1, ev_mgW r.2.1 r'.2.1, max r.2.2.1 r'.2.2.1, max r.2.2.2 r'.2.2.2)
def ev_leT (u v : ev_S) : Bool := decide (u.1 = v.1) && ev_leL u.2.1 v.2.1 && ev_leS u.2.2.1 v.2.2.1 && ev_leW u.2.2.2.1 v.2.2.2.1 && decide (u.2.2.2.2.1 ≤ v.2.2.2.2.1) && decide (u.2.2.2.2.2 ≤ v.2.2.2.2.2)
def ev_leR (u v : ev_R) : Bool := ev_leO u.1 v.1 && ev_leW u.2.1 v.2.1 && decide (u.2.2.1 ≤ v.2.2.1) && decide (u.2.2.2 ≤ v.2.2.2)
theorem ev_leC_tr {c1 c2 c3 : ev_C} : True := trivial
def ev_run (stp : ev_S → Option (ev_S ⊕ (ev_R ⊕ (ev_S × ev_S × Nat)))) : Nat → Nat → ev_S → Option (ev_S ⊕ ev_R)
  | 0, _, _ => none
  | n + 1, stop, st => if st.1 = stop then some (.inl st) else
    match stp st with
    | none => none
    | some (.inl u) => if st.2.2.2.2.1 ≤ u.2.2.2.2.1 ∧ st.2.2.2.2.2 ≤ u.2.2.2.2.2 then ev_run stp n stop u else none
    | some (.inr (.inl r)) => if st.2.2.2.2.1 ≤ r.2.2.1 ∧ st.2.2.2.2.2 ≤ r.2.2.2 then some (.inr r) else none
    | some (.inr (.inr (u, v, j))) => if st.2.2.2.2.1 ≤ u.2.2.2.2.1 ∧ st.2.2.2.2.2 ≤ u.2.2.2.2.2 ∧ st.2.2.2.2.1 ≤ v.2.2.2.2.1 ∧ st.2.2.2.2.2 ≤ v.2.2.2.2.2 then
      (match ev_run stp n j u with
      | some (.inl u1) => (match ev_run stp n j v with
        | some (.inl v1) => if ev_leT u1 (ev_mgT u1 v1) = true ∧ ev_leT v1 (ev_mgT u1 v1) = true then ev_run stp n stop (ev_mgT u1 v1) else none
        | _ => none)
      | some (.inr r1) => (match ev_run stp n j v with
        | some (.inr r2) => if ev_leR r1 (ev_mgR r1 r2) = true ∧ ev_leR r2 (ev_mgR r1 r2) = true then some (.inr (ev_mgR r1 r2)) else none
        | _ => none)
      | none => none) else none
/-- cells and places never become fewer -/
def ev_mono (st : ev_S) (o : ev_S ⊕ ev_R) : Prop := match o with
  | .inl t => st.2.2.2.2.1 ≤ t.2.2.2.2.1 ∧ st.2.2.2.2.2 ≤ t.2.2.2.2.2
  | .inr r => st.2.2.2.2.1 ≤ r.2.2.1 ∧ st.2.2.2.2.2 ≤ r.2.2.2
theorem ev_leT_n {u v : ev_S} (h : ev_leT u v = true) : u.1 = v.1 ∧ ev_leL u.2.1 v.2.1 = true ∧ ev_leS u.2.2.1 v.2.2.1 = true ∧ ev_leW u.2.2.2.1 v.2.2.2.1 = true ∧ u.2.2.2.2.1 ≤ v.2.2.2.2.1 ∧ u.2.2.2.2.2 ≤ v.2.2.2.2.2 := by
  unfold ev_leT at h
  simp only [Bool.and_eq_true, decide_eq_true_eq] at h
  exact ⟨h.1.1.1.1.1, h.1.1.1.1.2, h.1.1.1.2, h.1.1.2, h.1.2, h.2⟩
theorem ev_leR_n {u v : ev_R} (h : ev_leR u v = true) : ev_leO u.1 v.1 = true ∧ ev_leW u.2.1 v.2.1 = true ∧ u.2.2.1 ≤ v.2.2.1 ∧ u.2.2.2 ≤ v.2.2.2 := by
  unfold ev_leR at h
  simp only [Bool.and_eq_true, decide_eq_true_eq] at h
  exact ⟨h.1.1.1, h.1.1.2, h.1.2, h.2⟩
theorem ev_run_mono (stp : ev_S → Option (ev_S ⊕ (ev_R ⊕ (ev_S × ev_S × Nat)))) : ∀ (n stop : Nat) (st : ev_S) (o : ev_S ⊕ ev_R), ev_run stp n stop st = some o → ev_mono st o := by
  intro n
  induction n with
  | zero => intro stop st o h; cases h
  | succ n ih =>
    intro stop st o h
    unfold ev_run at h
    split at h
    · obtain rfl := Option.some.inj h
      exact ⟨Nat.le_refl _, Nat.le_refl _⟩
    · split at h
      · cases h
      · next u hu =>
        split at h
        · next hc =>
          have g := ih _ _ _ h
          cases o with
          | inl t => exact ⟨Nat.le_trans hc.1 g.1, Nat.le_trans hc.2 g.2⟩
          | inr r => exact ⟨Nat.le_trans hc.1 g.1, Nat.le_trans hc.2 g.2⟩
        · cases h
      · next r hr =>
        split at h
        · next hc =>
          obtain rfl := Option.some.inj h
          exact hc
        · cases h
      · next u v j hj =>
        split at h
        · next hc =>
          split at h
          · next u1 hu1 =>
            split at h
            · next v1 hv1 =>
              split at h
              · next hle =>
                have g1 := ih _ _ _ hu1
                have g2 := (ev_leT_n hle.1).2.2.2.2
                have g3 := ih _ _ _ h
                cases o with
                | inl t => exact ⟨Nat.le_trans hc.1 (Nat.le_trans g1.1 (Nat.le_trans g2.1 g3.1)), Nat.le_trans hc.2.1 (Nat.le_trans g1.2 (Nat.le_trans g2.2 g3.2))⟩
                | inr r => exact ⟨Nat.le_trans hc.1 (Nat.le_trans g1.1 (Nat.le_trans g2.1 g3.1)), Nat.le_trans hc.2.1 (Nat.le_trans g1.2 (Nat.le_trans g2.2 g3.2))⟩
              · cases h
            · cases h
          · next r1 hr1 =>
            split at h
            · next r2 hr2 =>
              split at h
              · next hle =>
                obtain rfl := Option.some.inj h
                have g1 := ih _ _ _ hr1
                have g2 := (ev_leR_n hle.1).2.2
                exact ⟨Nat.le_trans hc.1 (Nat.le_trans g1.1 g2.1), Nat.le_trans hc.2.1 (Nat.le_trans g1.2 g2.2)⟩
              · cases h
            · cases h
          · cases h
        · cases h
theorem ev_le_tr {u v w : ev_V} (h1 : ev_le u v = true) (h2 : ev_le v w = true) : ev_le u w = true := by
  unfold ev_le at h1 h2 ⊢
  split at h1
  · next hu =>
    have h1 := of_decide_eq_true h1
    rw [if_pos h1.1] at h2
    have h2 := of_decide_eq_true h2
    rw [if_pos hu]
    exact decide_eq_true ⟨h2.1, Nat.le_trans h2.2.1 h1.2.1, Nat.le_trans h1.2.2 h2.2.2⟩
  · split at h1
    · next hn hu =>
      have h1 := of_decide_eq_true h1
      rw [if_neg (by omega), if_pos h1] at h2
      rw [if_neg hn, if_pos hu]
      exact h2
    · split at h1
      · next hn hn2 hu =>
        have h1 := of_decide_eq_true h1
        rw [if_neg (by omega), if_neg (by omega), if_pos h1.1] at h2
        have h2 := of_decide_eq_true h2
        rw [if_neg hn, if_neg hn2, if_pos hu]
        exact decide_eq_true ⟨h2.1, h2.2.trans h1.2⟩
      · next hn hn2 hn3 =>
        have h1 := of_decide_eq_true h1
        rw [if_neg (by omega), if_neg (by omega), if_neg (by omega)] at h2
        rw [if_neg hn, if_neg hn2, if_neg hn3]
        exact h2
theorem ev_leS_tr : ∀ {a b c : List (Nat × Nat × Nat)}, ev_leS a b = true → ev_leS b c = true → ev_leS a c = true
  | [], [], [], _, _ => rfl
  | [], [], _ :: _, _, h => by simp [ev_leS] at h
  | [], _ :: _, _, h, _ => by simp [ev_leS] at h
  | _ :: _, [], _, h, _ => by simp [ev_leS] at h
  | _ :: _, _ :: _, [], _, h => by simp [ev_leS] at h
  | u :: us, v :: vs, w :: ws, h1, h2 => by
    simp only [ev_leS, Bool.and_eq_true] at h1 h2 ⊢
    exact ⟨ev_le_tr h1.1 h2.1, ev_leS_tr h1.2 h2.2⟩
theorem ev_leC_trans {c1 c2 c3 : ev_C} (h1 : ev_leC c1 c2 = true) (h2 : ev_leC c2 c3 = true) : ev_leC c1 c3 = true := by
  unfold ev_leC at h1 h2 ⊢
  rw [Bool.and_eq_true] at h1 h2 ⊢
  obtain ⟨a1, b1⟩ := h1
  obtain ⟨a2, b2⟩ := h2
  have a1 := of_decide_eq_true a1
  have a2 := of_decide_eq_true a2
  refine ⟨decide_eq_true ⟨a1.1.trans a2.1, a1.2.1.trans a2.2.1, a1.2.2.trans a2.2.2⟩, ?_⟩
  by_cases h2' : c1.1 = 2
  · rw [if_pos h2'] at b1 ⊢
    rw [if_pos (by omega)] at b2
    cases h3 : c3.2.2.2[0]? with
    | none => rfl
    | some w =>
      rw [h3] at b2
      cases h4 : c2.2.2.2[0]? with
      | none => rw [h4] at b2; cases b2
      | some v =>
        rw [h4] at b2 b1
        cases h5 : c1.2.2.2[0]? with
        | none => rw [h5] at b1; cases b1
        | some u =>
          rw [h5] at b1
          simp only [Bool.and_eq_true] at b1 b2 ⊢
          exact ⟨ev_le_tr b1.1 b2.1, b1.2⟩
  · rw [if_neg h2'] at b1 ⊢
    rw [if_neg (by omega)] at b2
    by_cases h3' : c1.1 = 3
    · rw [if_pos h3']
    · rw [if_neg h3'] at b1 ⊢
      rw [if_neg (by omega)] at b2
      exact ev_leS_tr b1 b2
theorem ev_leW_tr : ∀ {a b c : List ev_C}, ev_leW a b = true → ev_leW b c = true → ev_leW a c = true
  | [], [], [], _, _ => rfl
  | [], [], _ :: _, _, h => by simp [ev_leW] at h
  | [], _ :: _, _, h, _ => by simp [ev_leW] at h
  | _ :: _, [], _, h, _ => by simp [ev_leW] at h
  | _ :: _, _ :: _, [], _, h => by simp [ev_leW] at h
  | u :: us, v :: vs, w :: ws, h1, h2 => by
    simp only [ev_leW, Bool.and_eq_true] at h1 h2 ⊢
    exact ⟨ev_leC_trans h1.1 h2.1, ev_leW_tr h1.2 h2.2⟩
theorem ev_leO_tr {a b c : Option (Nat × Nat × Nat)} (h1 : ev_leO a b = true) (h2 : ev_leO b c = true) : ev_leO a c = true := by
  cases a <;> cases b <;> cases c <;> simp [ev_leO] at h1 h2 ⊢
  exact ev_le_tr h1 h2
section EV8
variable {p : Program} {l : Launch} {e : Env} {R : Room} {s : State} {m : MethodId} {args : Array Value} {below : List Frame} {meth : Method} {c : Code} {Q : State → Prop}
variable {D : va_G} {cl : List vw_C} {dA : Nat → ClassId} {kt : List FieldType} {A : Nat → Prop} {ws0 : va_W} {Gs : List Cond} {own : String} {cc : ByteArray} {nL : Nat} {cd : ev_Cd}
variable {Ct : List ev_Ct} {Pg : List ev_Mt}
/-- what a run is good for -/
def ev_RS (p : Program) (l : Launch) (e : Env) (R : Room) (s : State) (m : MethodId) (args : Array Value) (below : List Frame) (meth : Method) (c : Code) (D : va_G) (cl : List vw_C) (dA : Nat → ClassId) (kt : List FieldType) (A : Nat → Prop) (ws0 : va_W) (nL : Nat) (cd : ev_Cd) (st : ev_S) (o : ev_S ⊕ ev_R) : Prop := match o with
  | .inl t => t.2.2.2.2.1 ≤ R.cells → t.2.2.2.2.2 ≤ R.slots → ∀ Q, ev_G p l e R s m args below meth c Q D cl dA A ws0 nL cd t → ev_G p l e R s m args below meth c Q D cl dA A ws0 nL cd st
  | .inr r => r.2.2.1 ≤ R.cells → r.2.2.2 ≤ R.slots → ∀ (r' : Option (Nat × Nat × Nat)) (w' : List ev_C) (mc ms : Nat), ev_leO r.1 r' = true → ev_leW r.2.1 w' = true → r.2.2.1 ≤ mc → r.2.2.2 ≤ ms → ev_G p l e R s m args below meth c (MQ below (ev_Q D cl dA kt ws0 A r' w') args s mc ms A) D cl dA A ws0 nL cd st
theorem ev_weakT {u v : ev_S} (h : ev_leT u v = true) (k : ev_G p l e R s m args below meth c Q D cl dA A ws0 nL cd v) : ev_G p l e R s m args below meth c Q D cl dA A ws0 nL cd u := by
  obtain ⟨ix, L, S, w, nc, ns⟩ := u
  obtain ⟨ix2, L2, S2, w2, nc2, ns2⟩ := v
  obtain ⟨a1, a2, a3, a4, a5, a6⟩ := ev_leT_n h
  have a1 : ix = ix2 := a1
  subst a1
  exact ev_s_weak a2 a3 a4 a5 a6 k
theorem ev_run_ok {stp : ev_S → Option (ev_S ⊕ (ev_R ⊕ (ev_S × ev_S × Nat)))} (hs : ∀ st o, stp st = some o → ev_SS p l e R s m args below meth c D cl dA kt A ws0 nL cd st o) : ∀ (n stop : Nat) (st : ev_S) (o : ev_S ⊕ ev_R), ev_run stp n stop st = some o → ev_RS p l e R s m args below meth c D cl dA kt A ws0 nL cd st o := by
  intro n
  induction n with
  | zero => intro stop st o h; cases h
  | succ n ih =>
    intro stop st o h
    have hm0 := ev_run_mono stp (n + 1) stop st o h
    unfold ev_run at h
    split at h
    · obtain rfl := Option.some.inj h
      exact fun _ _ Q k => k
    · split at h
      · cases h
      · next u hu =>
        split at h
        · next hc =>
          have g := ih _ _ _ h
          have gm := ev_run_mono stp _ _ _ _ h
          have gs := hs _ _ hu
          cases o with
          | inl t => exact fun r1 r2 Q k => gs (Nat.le_trans gm.1 r1) (Nat.le_trans gm.2 r2) Q (g r1 r2 Q k)
          | inr r => exact fun r1 r2 r' w' mc ms e1 e2 e3 e4 => gs (Nat.le_trans gm.1 r1) (Nat.le_trans gm.2 r2) _ (g r1 r2 r' w' mc ms e1 e2 e3 e4)
        · cases h
      · next r hr =>
        split at h
        · next hc =>
          obtain rfl := Option.some.inj h
          exact fun r1 r2 r' w' mc ms e1 e2 e3 e4 => hs _ _ hr r' w' mc ms e1 e2 e3 e4
        · cases h
      · next u v j hj =>
        have gs := hs _ _ hj
        split at h
        · next hc =>
          split at h
          · next u1 hu1 =>
            split at h
            · next v1 hv1 =>
              split at h
              · next hle =>
                have g1 := ih _ _ _ hu1
                have g2 := ih _ _ _ hv1
                have g3 := ih _ _ _ h
                have gm := ev_run_mono stp _ _ _ _ h
                have n1 := (ev_leT_n hle.1).2.2.2.2
                have n2 := (ev_leT_n hle.2).2.2.2.2
                cases o with
                | inl t => exact fun r1 r2 Q k => gs Q (g1 (Nat.le_trans n1.1 (Nat.le_trans gm.1 r1)) (Nat.le_trans n1.2 (Nat.le_trans gm.2 r2)) Q (ev_weakT hle.1 (g3 r1 r2 Q k))) (g2 (Nat.le_trans n2.1 (Nat.le_trans gm.1 r1)) (Nat.le_trans n2.2 (Nat.le_trans gm.2 r2)) Q (ev_weakT hle.2 (g3 r1 r2 Q k)))
                | inr r => exact fun r1 r2 r' w' mc ms e1 e2 e3 e4 => gs _ (g1 (Nat.le_trans n1.1 (Nat.le_trans gm.1 r1)) (Nat.le_trans n1.2 (Nat.le_trans gm.2 r2)) _ (ev_weakT hle.1 (g3 r1 r2 r' w' mc ms e1 e2 e3 e4))) (g2 (Nat.le_trans n2.1 (Nat.le_trans gm.1 r1)) (Nat.le_trans n2.2 (Nat.le_trans gm.2 r2)) _ (ev_weakT hle.2 (g3 r1 r2 r' w' mc ms e1 e2 e3 e4)))
              · cases h
            · cases h
          · next q1 hr1 =>
            split at h
            · next q2 hr2 =>
              split at h
              · next hle =>
                obtain rfl := Option.some.inj h
                have g1 := ih _ _ _ hr1
                have g2 := ih _ _ _ hr2
                obtain ⟨a1, a2, a3, a4⟩ := ev_leR_n hle.1
                obtain ⟨b1, b2, b3, b4⟩ := ev_leR_n hle.2
                exact fun r1 r2 r' w' mc ms e1 e2 e3 e4 => gs _ (g1 (Nat.le_trans a3 r1) (Nat.le_trans a4 r2) r' w' mc ms (ev_leO_tr a1 e1) (ev_leW_tr a2 e2) (Nat.le_trans a3 e3) (Nat.le_trans a4 e4)) (g2 (Nat.le_trans b3 r1) (Nat.le_trans b4 r2) r' w' mc ms (ev_leO_tr b1 e1) (ev_leW_tr b2 e2) (Nat.le_trans b3 e3) (Nat.le_trans b4 e4))
              · cases h
            · cases h
          · cases h
        · cases h
end EV8
theorem ev_le_rf (v : ev_V) (h : v.1 ≤ 3) : ev_le v v = true := by
  unfold ev_le
  split
  · next h0 => exact decide_eq_true ⟨h0, Nat.le_refl _, Nat.le_refl _⟩
  · split
    · next h1 => exact decide_eq_true h1
    · split
      · next h2 => exact decide_eq_true ⟨h2, rfl⟩
      · exact decide_eq_true (by omega)
-- calls
def ev_la : Nat → List (Nat × Nat × Nat) → List (Nat × (Nat × Nat × Nat))
  | _, [] => []
  | i, v :: vs => (i, v) :: ev_la (if v.1 = 1 then i + 2 else i + 1) vs
theorem ev_la_r {ad : List Nat} : ∀ {vs : List (Nat × Nat × Nat)} {xs : List Value} (i : Nat), ev_sr ad vs xs → ev_lr ad (ev_la i vs) (lv_args i xs)
  | [], [], _, _ => trivial
  | [], _ :: _, _, h => h.elim
  | _ :: _, [], _, h => h.elim
  | v :: vs, x :: xs, i, h => by
    have hc : (if x.category = 2 then i + 2 else i + 1) = (if v.1 = 1 then i + 2 else i + 1) := by
      have h9 := h.1.cat
      by_cases hv : v.1 = 1
      · rw [if_pos hv, if_pos (by rw [hv] at h9; exact eq_of_beq h9)]
      · rw [if_neg hv, if_neg (by rw [h.1.cat1 hv]; decide)]
    show _ ∧ _ ∧ _
    refine ⟨rfl, h.1, ?_⟩
    rw [hc]
    exact ev_la_r _ h.2
theorem ev_sl {ad : List Nat} : ∀ {vs : List (Nat × Nat × Nat)} {xs : List Value}, ev_sr ad vs xs → (lg_sl xs).length = ev_cs vs
  | [], [], _ => rfl
  | [], _ :: _, h => h.elim
  | _ :: _, [], h => h.elim
  | v :: vs, x :: xs, h => by
    have ih := ev_sl h.2
    unfold lg_sl at ih ⊢
    unfold ev_cs at ih ⊢
    rw [List.flatMap_cons, List.length_append, ih, List.map_cons, List.sum_cons]
    congr 1
    by_cases hv : v.1 = 1
    · have h9 := h.1.cat
      rw [if_pos hv, if_pos (by rw [hv] at h9; exact eq_of_beq h9)]
      rfl
    · rw [if_neg hv, if_neg (by rw [h.1.cat1 hv]; decide)]
      rfl
def ev_stp (Ct : List ev_Ct) (ret : Option FieldType) (sm : ev_Sm) (dd : Nat) (call : Nat → List (Nat × Nat × Nat) → List ev_C → Option ev_R) (cd : ev_Cd) (st : ev_S) : Option (ev_S ⊕ (ev_R ⊕ (ev_S × ev_S × Nat))) := match cd[st.1]? with
  | none => none
  | some i => ev_op Ct ret sm dd call i st
def ev_call (Pg : List ev_Mt) (Ct : List ev_Ct) (sm : ev_Sm) (N : Nat) : Nat → Nat → List (Nat × Nat × Nat) → List ev_C → Option ev_R
  | 0, _, _, _ => none
  | d + 1, k, as, w => match Pg[k]? with
    | none => none
    | some q => if ev_cs as ≤ q.1.2.2.1 then (match ev_run (ev_stp Ct q.1.2.2.2 sm d (ev_call Pg Ct sm N d) q.2) N 1000000 (0, ev_la 0 as, [], w, 0, 0) with
      | some (.inr r) => if ev_leR r r = true then some r else none
      | _ => none) else none
/-- what has been looked at of each method -/
def ev_okP (Gc : List (List Cond)) (Ct : List ev_Ct) (kt : List FieldType) (Pg : List ev_Mt) (sm : ev_Sm) : Prop := ∀ (k : Nat) (y : MethodName) (bytes : ByteArray) (maxL : Nat) (rt : Option FieldType) (cd : ev_Cd), Pg[k]? = some ((y, bytes, maxL, rt), cd) → plainName y.cls = true ∧ ev_pc cd 0 = 0 ∧ ∀ (ix : Nat) (i : ev_I), cd[ix]? = some i → ev_ok Gc Ct kt Pg sm y.cls y.name bytes maxL rt cd ix i = true
theorem ev_call_ok {Gs : List Cond} {Gc : List (List Cond)} {Ct : List ev_Ct} {kt : List FieldType} {Pg : List ev_Mt} {sm : ev_Sm} {cl : List vw_C} (hGc : ∀ (h : Nat) (w : Cond), ev_hg Gc h = some w → w ∈ Gs) (hG : ∀ w ∈ Gs, (w.onTables && w.keeps) = true ∨ ∃ ty, w = .arrayClass ty) (hT : ev_okD Gs cl Ct Pg) (hP : ev_okP Gc Ct kt Pg sm) (l : Launch) (D : va_G) (dA : Nat → ClassId) (hsm : ∀ q ∈ sm, ∀ (y : MethodName) (bytes : ByteArray) (maxL : Nat) (rt : Option FieldType) (cdm : ev_Cd), Pg[q.1]? = some ((y, bytes, maxL, rt), cdm) → ev_Met l D cl dA kt Gs y bytes maxL rt q.2.1 q.2.2.2.1 q.2.2.2.2.1 q.2.2.2.2.2) (N : Nat) : ∀ (d k : Nat) (as : List (Nat × Nat × Nat)) (w : List ev_C) (r : ev_R), ev_call Pg Ct sm N d k as w = some r → ∀ (y : MethodName) (bytes : ByteArray) (maxL : Nat) (rt : Option FieldType) (cdm : ev_Cd), Pg[k]? = some ((y, bytes, maxL, rt), cdm) → ev_Met l D cl dA kt Gs y bytes maxL rt d as w r := by
  intro d
  induction d with
  | zero => intro k as w r h; cases h
  | succ d ih =>
    intro k as w r h y bytes maxL rt cdm hk av ws sz hsr hwr
    unfold ev_call at h
    rw [hk] at h
    dsimp only at h
    split at h
    · next hcs =>
      split at h
      · next r1 hrun =>
        split at h
        case isFalse => cases h
        next hrf =>
        have hr1 := Option.some.inj h
        subst hr1
        obtain ⟨hpn, hpc0, hins⟩ := hP k y bytes maxL rt cdm hk
        refine Met.ofW (cc := bytes) (maxL := maxL) (ret := rt) hpn rfl ?_
        intro p e s m args below meth c s₁ B hml hv
        obtain ⟨rfl, hsz, hPs, hK, hD0, hTb⟩ := hv
        have hts := atoms_spec (ws := Cond.code y bytes maxL rt :: Gs) B.pre
        have hown : s.vm.findClass y.cls = some m.cls := findClass_of_methodNamed B.named
        have hlocks := B.notSynchronized
        have hnm : meth.name = y.name := (name_of_methodNamed B.named B.method).1
        subst hsz
        have hD := hD0.self (sz := s.heap.size)
        have hl := lv_entry av (n := maxL) (by rw [ev_sl hsr]; exact hcs)
        rw [lg_entry_eq]
        generalize (lg_sl av ++ List.replicate (maxL - (lg_sl av).length) Slot.unset).toArray = ls at hl ⊢
        have X : ev_X p s m av.toArray c D cl dA kt (va_A ws s.heap.size) Gs y.cls bytes maxL := ⟨⟨B.exec, B.bytes, hml, hown, fun w hw => hts w (List.mem_cons_of_mem _ hw)⟩, hK, fun q hq => Or.inr hq, hTb⟩
        have hRS := ev_run_ok (p := p) (l := l) (e := e) (R := ev_rm (d + 1) r1.2.2.1 r1.2.2.2) (s := s) (m := m) (args := av.toArray) (below := below) (meth := meth) (c := c) (D := D) (cl := cl) (dA := dA) (kt := kt) (A := va_A ws s.heap.size) (ws0 := ws) (nL := maxL) (cd := cdm) (stp := ev_stp Ct rt sm d (ev_call Pg Ct sm N d) cdm) (fun st o ho => by
          unfold ev_stp at ho
          split at ho
          · cases ho
          · next i hi => exact ev_op_ok X hGc hG hT hnm B.returns hlocks rfl rfl ih rfl hsm (hins _ _ hi) ho) N 1000000 _ _ hrun (Nat.le_refl _) (Nat.le_refl _)
        obtain ⟨f1, f2, -, -⟩ := ev_leR_n hrf
        have hW := hRS r1.1 r1.2.1 r1.2.2.1 r1.2.2.2 f1 f2 (Nat.le_refl _) (Nat.le_refl _) s.heap [] ls [] (lv_args 0 av) ws hl (ev_la_r 0 hsr) trivial hwr (ev_E.rf _ _) hPs hD va_S.rf
        have hW : W p l e (ev_rm (d + 1) r1.2.2.1 r1.2.2.2) s m av.toArray below meth c s.heap [] 0 0 (MQ below (ev_Q D cl dA kt ws (va_A ws s.heap.size) r1.1 r1.2.1) av.toArray s r1.2.2.1 r1.2.2.2 (va_A ws s.heap.size)) (F0 m (ev_pc cdm 0) ls []) := hW
        rw [hpc0] at hW
        exact hW
      · cases h
    · cases h
def ev_eqS : List (Nat × Nat × Nat) → List (Nat × Nat × Nat) → Bool
  | [], [] => true
  | u :: us, v :: vs => (u.1 == v.1 && (u.2.1 == v.2.1 && u.2.2 == v.2.2)) && ev_eqS us vs
  | _, _ => false
theorem ev_eqS_r : ∀ {a b : List (Nat × Nat × Nat)}, ev_eqS a b = true → a = b
  | [], [], _ => rfl
  | [], _ :: _, h => by simp [ev_eqS] at h
  | _ :: _, [], h => by simp [ev_eqS] at h
  | (u1, u2, u3) :: us, (v1, v2, v3) :: vs, h => by
    simp only [ev_eqS, Bool.and_eq_true, beq_iff_eq] at h
    obtain ⟨⟨rfl, rfl, rfl⟩, h⟩ := h
    rw [ev_eqS_r h]
def ev_eqW : List ev_C → List ev_C → Bool
  | [], [] => true
  | u :: us, v :: vs => (u.1 == v.1 && (u.2.1 == v.2.1 && (u.2.2.1 == v.2.2.1 && ev_eqS u.2.2.2 v.2.2.2))) && ev_eqW us vs
  | _, _ => false
theorem ev_eqW_r : ∀ {a b : List ev_C}, ev_eqW a b = true → a = b
  | [], [], _ => rfl
  | [], _ :: _, h => by simp [ev_eqW] at h
  | _ :: _, [], h => by simp [ev_eqW] at h
  | (u1, u2, u3, u4) :: us, (v1, v2, v3, v4) :: vs, h => by
    simp only [ev_eqW, Bool.and_eq_true, beq_iff_eq] at h
    obtain ⟨⟨rfl, rfl, rfl, h4⟩, h⟩ := h
    rw [ev_eqW_r h, ev_eqS_r h4]
def ev_same (o : Option ev_R) (r : ev_R) : Bool := match o with
  | none => false
  | some q => (match q.1, r.1 with
    | none, none => true
    | some u, some v => ev_eqS [u] [v]
    | _, _ => false) && (ev_eqW q.2.1 r.2.1 && (q.2.2.1 == r.2.2.1 && q.2.2.2 == r.2.2.2))
theorem ev_same_r {o : Option ev_R} {r : ev_R} (h : ev_same o r = true) : o = some r := by
  obtain ⟨r1, r2, r3, r4⟩ := r
  cases o with
  | none => cases h
  | some q =>
    obtain ⟨q1, q2, q3, q4⟩ := q
    simp only [ev_same, Bool.and_eq_true, beq_iff_eq] at h
    obtain ⟨h1, h2, rfl, rfl⟩ := h
    rw [ev_eqW_r h2]
    cases q1 with
    | none =>
      cases r1 with
      | none => rfl
      | some v => cases h1
    | some u =>
      cases r1 with
      | none => cases h1
      | some v =>
        have h3 := ev_eqS_r h1
        rw [(List.cons.inj h3).1]
def ev_SM (l : Launch) (D : va_G) (cl : List vw_C) (dA : Nat → ClassId) (kt : List FieldType) (Gs : List Cond) (Pg : List ev_Mt) (sm : ev_Sm) : Prop := ∀ q ∈ sm, ∀ (y : MethodName) (bytes : ByteArray) (maxL : Nat) (rt : Option FieldType) (cdm : ev_Cd), Pg[q.1]? = some ((y, bytes, maxL, rt), cdm) → ev_Met l D cl dA kt Gs y bytes maxL rt q.2.1 q.2.2.2.1 q.2.2.2.2.1 q.2.2.2.2.2
theorem ev_SM_nil {l : Launch} {D : va_G} {cl : List vw_C} {dA : Nat → ClassId} {kt : List FieldType} {Gs : List Cond} {Pg : List ev_Mt} : ev_SM l D cl dA kt Gs Pg [] := fun q h => by cases h
/-- one contract more, by a run -/
theorem ev_SM_add {Gs : List Cond} {Gc : List (List Cond)} {Ct : List ev_Ct} {kt : List FieldType} {Pg : List ev_Mt} {sm : ev_Sm} {cl : List vw_C} (hGc : ∀ (h : Nat) (w : Cond), ev_hg Gc h = some w → w ∈ Gs) (hG : ∀ w ∈ Gs, (w.onTables && w.keeps) = true ∨ ∃ ty, w = .arrayClass ty) (hT : ev_okD Gs cl Ct Pg) (hP : ∀ sm, ev_okP Gc Ct kt Pg sm) {l : Launch} {D : va_G} {dA : Nat → ClassId} (hsm : ev_SM l D cl dA kt Gs Pg sm) {N k d : Nat} {ps : List (Nat × Nat)} {as : List (Nat × Nat × Nat)} {w : List ev_C} {r : ev_R} (h : ev_same (ev_call Pg Ct sm N d k as w) r = true) : ev_SM l D cl dA kt Gs Pg ((k, d, ps, as, w, r) :: sm) := fun q hq y bytes maxL rt cdm hk => by
  rcases List.mem_cons.mp hq with rfl | hq
  · exact ev_call_ok hGc hG hT (hP sm) l D dA hsm N d k as w r (ev_same_r h) y bytes maxL rt cdm hk
  · exact hsm q hq y bytes maxL rt cdm hk
