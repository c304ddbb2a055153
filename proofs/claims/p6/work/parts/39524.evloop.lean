/-! Runs and loops under pinned locals -/
theorem ev_lr.mem {ad : List Nat} {q : Nat × (Nat × Nat × Nat)} : ∀ {L : List (Nat × (Nat × Nat × Nat))} {lv : List (Nat × Value)}, ev_lr ad L lv → q ∈ L → ∃ (k : Nat) (x : Value), lv[k]? = some (q.1, x) ∧ ev_vr ad q.2 x
  | [], _, _, h => by cases h
  | _ :: _, [], h, _ => h.elim
  | y :: L, z :: lv, h, hq => by
    rcases List.mem_cons.mp hq with rfl | hq
    · exact ⟨0, z.2, by rw [h.1]; rfl, h.2.1⟩
    · obtain ⟨k, x, h1, h2⟩ := ev_lr.mem h.2.2 hq
      exact ⟨k + 1, x, by simpa using h1, h2⟩
/-- each local of L2 stands in L, as narrow at least -/
def ev_leM (L L2 : List (Nat × (Nat × Nat × Nat))) : Prop := ∀ q ∈ L2, ∃ y ∈ L, y.1 = q.1 ∧ ev_le y.2 q.2 = true
theorem ev_leM_r {ad : List Nat} {L : List (Nat × (Nat × Nat × Nat))} {lv : List (Nat × Value)} {ls : Array Slot} {nL : Nat} (hl : lv_has ls nL lv) (hr : ev_lr ad L lv) : ∀ {L2 : List (Nat × (Nat × Nat × Nat))}, ev_leM L L2 → ∃ lv2 : List (Nat × Value), lv_has ls nL lv2 ∧ ev_lr ad L2 lv2
  | [], _ => ⟨[], ⟨hl.1, hl.2.1, fun q h => by cases h⟩, trivial⟩
  | q :: L2, h => by
    obtain ⟨lv2, g1, g2⟩ := ev_leM_r hl hr (L2 := L2) (fun x hx => h x (List.mem_cons_of_mem _ hx))
    obtain ⟨y, hy, e1, e2⟩ := h q List.mem_cons_self
    obtain ⟨k, x, hk, hx⟩ := hr.mem hy
    refine ⟨(q.1, x) :: lv2, ⟨hl.1, hl.2.1, fun p hp => ?_⟩, rfl, ev_le_r e2 hx, g2⟩
    rcases List.mem_cons.mp hp with rfl | hp
    · rw [e1] at hk
      exact lv_at hl k hk
    · exact g1.2.2 p hp
theorem ev_le_self {v : ev_V} (h : v.1 = 0) : ev_le v v = true := ev_le_rf v (by omega)
section EVP
variable {p : Program} {l : Launch} {e : Env} {R : Room} {s : State} {m : MethodId} {args : Array Value} {below : List Frame} {meth : Method} {c : Code} {Q : State → Prop}
variable {D : va_G} {cl : List vw_C} {dA : Nat → ClassId} {kt : List FieldType} {A : Nat → Prop} {ws0 : va_W} {Gs : List Cond} {own : String} {cc : ByteArray} {nL : Nat} {cd : ev_Cd}
variable {Gc : List (List Cond)} {Ct : List ev_Ct} {Pg : List ev_Mt} {sm : ev_Sm} {nm : String} {ret : Option FieldType} {d dd : Nat} {call : Nat → List (Nat × Nat × Nat) → List ev_C → Option ev_R}
variable {i : ev_I} {st u : ev_S} {F : List (Nat × (Nat × Nat × Nat))}
theorem ev_s_weakM {ix nc ns : Nat} {L L2 : List (Nat × (Nat × Nat × Nat))} {S S2 : List (Nat × Nat × Nat)} {w w2 : List ev_C} (hL : ev_leM L L2) (hS : ev_leS S S2 = true) (hw : ev_leW w w2 = true) (k : ev_G p l e R s m args below meth c Q D cl dA A ws0 nL cd (ix, L2, S2, w2, nc, ns)) : ev_G p l e R s m args below meth c Q D cl dA A ws0 nL cd (ix, L, S, w, nc, ns) := by
  intro H locs ls vs lv ws h1 h2 h3 h4 h5 h6 h7 h8
  obtain ⟨lv', g1, g2⟩ := ev_leM_r h1 h2 hL
  exact k H locs ls vs lv' ws g1 g2 (ev_leS_r hS h3) (ev_leW_r hw h4) (h5.weak hw) h6 h7 h8
theorem ev_opx_okF (X : ev_X p s m args c D cl dA kt A Gs own cc nL) (hGc : ∀ (h : Nat) (w : Cond), ev_hg Gc h = some w → w ∈ Gs) (hG : ∀ w ∈ Gs, (w.onTables && w.keeps) = true ∨ ∃ ty, w = .arrayClass ty) (hT : ev_okD Gs cl Ct Pg) (hnm : meth.name = nm) (hret : meth.sig.returnType = ret) (hlk : meth.locks = false) (hRf : R.frames = d + 1) (hRl : R.locals = 90 * (d + 1)) (hcl : ∀ (k : Nat) (as : List (Nat × Nat × Nat)) (w : List ev_C) (r : ev_R), call k as w = some r → ∀ (y : MethodName) (bytes : ByteArray) (maxL : Nat) (rt : Option FieldType) (cdm : ev_Cd), Pg[k]? = some ((y, bytes, maxL, rt), cdm) → ev_Met l D cl dA kt Gs y bytes maxL rt d as w r) (hdd : dd = d) (hsm : ∀ q ∈ sm, ∀ (y : MethodName) (bytes : ByteArray) (maxL : Nat) (rt : Option FieldType) (cdm : ev_Cd), Pg[q.1]? = some ((y, bytes, maxL, rt), cdm) → ev_Met l D cl dA kt Gs y bytes maxL rt q.2.1 q.2.2.2.1 q.2.2.2.2.1 q.2.2.2.2.2) {Ks : List Nat} (hF : ev_pin Ks F) (hsafe : ev_safe Ks i = true) (hok : ev_ok Gc Ct kt Pg sm own nm cc nL ret cd st.1 i = true) (h : ev_opx Ct ret sm dd call i st = some (.inl u)) : ev_SF p l e R s m args below meth c D cl dA A ws0 nL cd F st u := by
  unfold ev_opx at h
  split at h
  · next hop =>
    split at h
    · next u9 hu =>
      have h9 := Sum.inl.inj (Option.some.inj h)
      subst h9
      have hk : ev_k56 Gc Ct kt Pg sm own nm cc nL ret cd st.1 i = true := by
        unfold ev_ok at hok
        simpa [hop] using hok
      obtain ⟨ix, L, S, w, nc, ns⟩ := st
      unfold ev_dir at hu
      split at hu
      · next k z S2 hS =>
        have hS : S.drop i.2.2.2.1 = (2, k, z) :: S2 := hS
        split at hu
        · next ci z8 fs hw =>
          split at hu
          · next r w1 mc ms hr =>
            split at hu
            · next hx =>
              obtain ⟨hx1, hx2, rfl⟩ := hx
              obtain rfl := Option.some.inj hu
              obtain ⟨q, hqm, hqa⟩ := List.exists_of_findSome?_eq_some hr
              unfold ev_att2 at hqa
              split at hqa
              case isFalse => cases hqa
              next hmi =>
              split at hqa
              case isFalse => cases hqa
              next hy =>
              obtain ⟨y1, y2, y3, y4⟩ := hy
              have hqr := Option.some.inj hqa
              unfold ev_k56 at hk
              simp only [Bool.and_eq_true, decide_eq_true_eq] at hk
              obtain ⟨⟨hd, hn⟩, hq⟩ := hk
              split at hq
              · next y bytes maxL rt cdm hP =>
                simp only [Bool.and_eq_true, decide_eq_true_eq] at hq
                obtain ⟨⟨⟨⟨⟨⟨⟨q1, q2⟩, q3⟩, q4⟩, q5⟩, q6⟩, q7⟩, q8⟩ := hq
                cases hC : Ct[i.2.2.2.2.2.2 % 64]? with
                | none => rw [hC] at q6; cases q6
                | some qc =>
                  rw [hC] at q6
                  have q6 := of_decide_eq_true q6
                  have hM0 := hsm q hqm _ _ _ _ _ (by rw [hmi]; exact hP)
                  rw [hqr] at hM0 y4
                  have hM := ev_Met_weak hM0 y2 y3
                  have hSS : S = S.take i.2.2.2.1 ++ (2, k, z) :: S2 := by rw [← hS, List.take_append_drop]
                  intro r1 r2 Q k9
                  show ev_G p l e R s m args below meth c Q D cl dA A ws0 nL cd (ix, L ++ F, S, w, nc, ns)
                  rw [hSS]
                  have hRd : q.2.1 + 1 ≤ R.frames ∧ 8 + (maxL + 11) + 90 * q.2.1 ≤ R.locals := ⟨by omega, by omega⟩
                  exact ev_s_invV X hG hM y4 hx1 hw (hT.1 _ _ hC).2.1 q6 (hT.2 _ _ _ _ _ _ hP) (hGc _ _ q3) (hGc _ _ q1) (hGc _ _ q4) (hGc _ _ q5) q7 hRd hx2 ⟨r1, r2⟩ hd hn k9
              · cases hq
            · cases hu
          · cases hu
        · cases hu
      · cases hu
    · exact ev_op_okF X hGc hG hT hnm hret hlk hRf hRl hcl hdd hsm hF hsafe hok h
  · exact ev_op_okF X hGc hG hT hnm hret hlk hRf hRl hcl hdd hsm hF hsafe hok h
end EVP
/-- n steps, none of which writes a local of Ks, or goes two ways -/
def ev_goF (Ct : List ev_Ct) (ret : Option FieldType) (sm : ev_Sm) (dd : Nat) (call : Nat → List (Nat × Nat × Nat) → List ev_C → Option ev_R) (cs : List ev_Cd) (Ks : List Nat) : Nat → ev_S → Option ev_S
  | 0, st => some st
  | n + 1, st => match ev_lk cs st.1 with
    | none => none
    | some i => if ev_safe Ks i = true then (match ev_opx Ct ret sm dd call i st with
      | some (.inl u) => if st.2.2.2.2.1 ≤ u.2.2.2.2.1 ∧ st.2.2.2.2.2 ≤ u.2.2.2.2.2 then ev_goF Ct ret sm dd call cs Ks n u else none
      | _ => none) else none
/-- from st the machine comes to t, whatever the pinned locals hold -/
def ev_rF (l : Launch) (D : va_G) (cl : List vw_C) (dA : Nat → ClassId) (kt : List FieldType) (Gs : List Cond) (own nm : String) (bytes : ByteArray) (maxL : Nat) (rt : Option FieldType) (cdm : ev_Cd) (d : Nat) (Ks : List Nat) (st t : ev_S) : Prop :=
  (st.2.2.2.2.1 ≤ t.2.2.2.2.1 ∧ st.2.2.2.2.2 ≤ t.2.2.2.2.2) ∧ ∀ (p : Program) (e : Env) (R : Room) (s : State) (m : MethodId) (args : Array Value) (below : List Frame) (meth : Method) (c : Code) (A : Nat → Prop) (ws0 : va_W), ev_X p s m args c D cl dA kt A Gs own bytes maxL → meth.name = nm → meth.sig.returnType = rt → meth.locks = false → R.frames = d + 1 → R.locals = 90 * (d + 1) → ∀ F, ev_pin Ks F → t.2.2.2.2.1 ≤ R.cells → t.2.2.2.2.2 ≤ R.slots → ∀ Q, ev_G p l e R s m args below meth c Q D cl dA A ws0 maxL cdm (ev_pf F t) → ev_G p l e R s m args below meth c Q D cl dA A ws0 maxL cdm (ev_pf F st)
section EVR
variable {l : Launch} {D : va_G} {cl : List vw_C} {dA : Nat → ClassId} {kt : List FieldType} {Gs : List Cond} {own nm : String} {bytes : ByteArray} {maxL : Nat} {rt : Option FieldType} {cdm : ev_Cd} {d : Nat} {Ks : List Nat} {st t u : ev_S}
theorem ev_rF.tr (h1 : ev_rF l D cl dA kt Gs own nm bytes maxL rt cdm d Ks st t) (h2 : ev_rF l D cl dA kt Gs own nm bytes maxL rt cdm d Ks t u) : ev_rF l D cl dA kt Gs own nm bytes maxL rt cdm d Ks st u := ⟨⟨Nat.le_trans h1.1.1 h2.1.1, Nat.le_trans h1.1.2 h2.1.2⟩, fun p e R s m args below meth c A ws0 X a1 a2 a3 a4 a5 F hF r1 r2 Q k => h1.2 p e R s m args below meth c A ws0 X a1 a2 a3 a4 a5 F hF (Nat.le_trans h2.1.1 r1) (Nat.le_trans h2.1.2 r2) Q (h2.2 p e R s m args below meth c A ws0 X a1 a2 a3 a4 a5 F hF r1 r2 Q k)⟩
theorem ev_rF.rf (st : ev_S) : ev_rF l D cl dA kt Gs own nm bytes maxL rt cdm d Ks st st := ⟨⟨Nat.le_refl _, Nat.le_refl _⟩, fun _ _ _ _ _ _ _ _ _ _ _ _ _ _ _ _ _ _ _ _ _ _ k => k⟩
theorem ev_rF.weak {ix nc ns : Nat} {L L2 : List (Nat × (Nat × Nat × Nat))} {S S2 : List (Nat × Nat × Nat)} {w w2 : List ev_C} (hL : ev_leM L L2) (hS : ev_leS S S2 = true) (hw : ev_leW w w2 = true) : ev_rF l D cl dA kt Gs own nm bytes maxL rt cdm d Ks (ix, L, S, w, nc, ns) (ix, L2, S2, w2, nc, ns) := ⟨⟨Nat.le_refl _, Nat.le_refl _⟩, fun p e R s m args below meth c A ws0 X a1 a2 a3 a4 a5 F hF r1 r2 Q k => ev_s_weakM (fun q hq => by
    rcases List.mem_append.mp hq with h | h
    · obtain ⟨y, hy, e1, e2⟩ := hL q h
      exact ⟨y, List.mem_append_left _ hy, e1, e2⟩
    · exact ⟨q, List.mem_append_right _ h, rfl, ev_le_self (hF q h).2⟩) hS hw k⟩
/-- a loop that counts up: the body, with the counter within bounds, leaves all as it was -/
theorem ev_rF.loop {k lo hi h q nc ns : Nat} {L0 Lq : List (Nat × (Nat × Nat × Nat))} {S Sq : List (Nat × Nat × Nat)} {w0 wq : List ev_C} {off : Int} (hk : k ∉ Ks) (hb : ev_rF l D cl dA kt Gs own nm bytes maxL rt cdm d (k :: Ks) (h, (k, (0, lo, hi)) :: L0, S, w0, nc, ns) (q, Lq, Sq, wq, nc, ns)) (hL : ev_leM Lq L0) (hS : ev_leS Sq S = true) (hSS : ev_leS S S = true) (hw : ev_leW wq w0 = true) (hww : ev_leW w0 w0 = true) (hLk : ∀ x ∈ L0, x.1 ≠ k ∧ ¬ (x.1 + 1 = k ∧ x.2.1 = 1) ∧ x.2.1 ≤ 3) (hi2 : hi < 4294967295) (hmx : k < maxL) (hd : decode bytes (ev_pc cdm q) = .ok (.iinc k 1, 3)) (hn : ev_pc cdm (q + 1) = ev_pc cdm q + 3) (hd2 : decode bytes (ev_pc cdm (q + 1)) = .ok (.goto off, 3)) (ht : ((ev_pc cdm (q + 1) : Nat) : Int) + off = ((ev_pc cdm h : Nat) : Int)) :
    ∀ (j v : Nat), v + j = hi + 1 → lo ≤ v → ev_rF l D cl dA kt Gs own nm bytes maxL rt cdm d Ks (h, (k, (0, v, v)) :: L0, S, w0, nc, ns) (h, (k, (0, hi + 1, hi + 1)) :: L0, S, w0, nc, ns) := by
  intro j
  induction j with
  | zero => intro v hv _; obtain rfl : v = hi + 1 := hv; exact ev_rF.rf _
  | succ j ih =>
    intro v hv hlo
    have hnext := ih (v + 1) (by omega) (by omega)
    refine ⟨⟨Nat.le_refl _, Nat.le_refl _⟩, fun p e R s m args below meth c A ws0 X a1 a2 a3 a4 a5 F hF r1 r2 Q kk => ?_⟩
    have g3 := hnext.2 p e R s m args below meth c A ws0 X a1 a2 a3 a4 a5 F hF r1 r2 Q kk
    have hF2 : ev_pin (k :: Ks) ((k, (0, v, v)) :: F) := fun x hx => by
      rcases List.mem_cons.mp hx with rfl | hx
      · exact ⟨List.mem_cons_self, rfl⟩
      · exact ⟨List.mem_cons_of_mem _ (hF x hx).1, (hF x hx).2⟩
    have hin : ev_le (0, v, v) (0, lo, hi) = true := by
      unfold ev_le
      rw [if_pos rfl]
      exact decide_eq_true ⟨rfl, hlo, by show v ≤ hi; omega⟩
    refine ev_s_weakM (L2 := ((k, (0, lo, hi)) :: L0) ++ ((k, (0, v, v)) :: F)) (S2 := S) (w2 := w0) (fun x hx => ?_) hSS hww (hb.2 p e R s m args below meth c A ws0 X a1 a2 a3 a4 a5 _ hF2 r1 r2 Q ?_)
    · rcases List.mem_append.mp hx with hx | hx
      · rcases List.mem_cons.mp hx with rfl | hx
        · exact ⟨(k, (0, v, v)), List.mem_append_left _ List.mem_cons_self, rfl, hin⟩
        · exact ⟨x, List.mem_append_left _ (List.mem_cons_of_mem _ hx), rfl, ev_le_rf x.2 (hLk x hx).2.2⟩
      · rcases List.mem_cons.mp hx with rfl | hx
        · exact ⟨(k, (0, v, v)), List.mem_append_left _ List.mem_cons_self, rfl, ev_le_self rfl⟩
        · exact ⟨x, List.mem_append_right _ hx, rfl, ev_le_self (hF x hx).2⟩
    · refine ev_s_weakM (L2 := (k, (0, v, v)) :: (L0 ++ F)) (S2 := S) (w2 := w0) (fun x hx => ?_) hS hw ?_
      · rcases List.mem_cons.mp hx with rfl | hx
        · exact ⟨(k, (0, v, v)), List.mem_append_right _ List.mem_cons_self, rfl, ev_le_self rfl⟩
        · rcases List.mem_append.mp hx with hx | hx
          · obtain ⟨y, hy, e1, e2⟩ := hL x hx
            exact ⟨y, List.mem_append_left _ hy, e1, e2⟩
          · exact ⟨x, List.mem_append_right _ (List.mem_cons_of_mem _ hx), rfl, ev_le_self (hF x hx).2⟩
      · have hfa : ev_fadd (0, v, v) (0, 2147483649, 2147483649) = (0, v + 1, v + 1) := by
          unfold ev_fadd
          rw [if_pos ⟨by show 2147483648 ≤ v + 2147483649; omega, by show v + 2147483649 < 6442450944; omega⟩]
          show ((0 : Nat), v + 2147483649 - 2147483648, v + 2147483649 - 2147483648) = _
          rw [show v + 2147483649 - 2147483648 = v + 1 by omega]
        have hput : ev_put ((k, (0, v, v)) :: (L0 ++ F)) k (0, v + 1, v + 1) = (k, (0, v + 1, v + 1)) :: (L0 ++ F) := by
          have hfil : ((k, (0, v, v)) :: (L0 ++ F)).filter (fun q => !(q.1 == k) && !(q.1 + 1 == k && q.2.1 == 1)) = L0 ++ F := by
            rw [List.filter_cons, if_neg (by simp), List.filter_eq_self]
            intro x hx
            rcases List.mem_append.mp hx with hx | hx
            · obtain ⟨b1, b2, b3⟩ := hLk x hx
              by_cases q1 : x.1 + 1 = k
              · have q2 : x.2.1 ≠ 1 := fun e => b2 ⟨q1, e⟩
                simp [b1, q2]
              · simp [b1, q1]
            · have b1 : x.1 ≠ k := fun e => hk (e ▸ (hF x hx).1)
              simp [b1, (hF x hx).2]
          unfold ev_put
          rw [hfil]
        refine ev_s_iinc (a := k) (n := 1) (v := (0, v, v)) (b := (0, 2147483649, 2147483649)) X hd (ev_in_eq (by decide +kernel)) hn hmx (by unfold ev_get; rw [if_pos rfl]) rfl (by rw [hfa]) ?_
        rw [hfa, hput]
        exact ev_s_goto X hd2 ht g3
/-- a loop that counts down -/
theorem ev_rF.loopD {k lo hi h q nc ns : Nat} {L0 Lq : List (Nat × (Nat × Nat × Nat))} {S Sq : List (Nat × Nat × Nat)} {w0 wq : List ev_C} {off : Int} (hk : k ∉ Ks) (hb : ev_rF l D cl dA kt Gs own nm bytes maxL rt cdm d (k :: Ks) (h, (k, (0, lo, hi)) :: L0, S, w0, nc, ns) (q, Lq, Sq, wq, nc, ns)) (hL : ev_leM Lq L0) (hS : ev_leS Sq S = true) (hSS : ev_leS S S = true) (hw : ev_leW wq w0 = true) (hww : ev_leW w0 w0 = true) (hLk : ∀ x ∈ L0, x.1 ≠ k ∧ ¬ (x.1 + 1 = k ∧ x.2.1 = 1) ∧ x.2.1 ≤ 3) (hi2 : hi < 4294967296) (lo1 : 1 ≤ lo) (hmx : k < maxL) (hd : decode bytes (ev_pc cdm q) = .ok (.iinc k (-1), 3)) (hn : ev_pc cdm (q + 1) = ev_pc cdm q + 3) (hd2 : decode bytes (ev_pc cdm (q + 1)) = .ok (.goto off, 3)) (ht : ((ev_pc cdm (q + 1) : Nat) : Int) + off = ((ev_pc cdm h : Nat) : Int)) :
    ∀ (j v : Nat), v + 1 = lo + j → v ≤ hi → ev_rF l D cl dA kt Gs own nm bytes maxL rt cdm d Ks (h, (k, (0, v, v)) :: L0, S, w0, nc, ns) (h, (k, (0, lo - 1, lo - 1)) :: L0, S, w0, nc, ns) := by
  intro j
  induction j with
  | zero => intro v hv _; obtain rfl : v = lo - 1 := by omega
            exact ev_rF.rf _
  | succ j ih =>
    intro v hv hhi
    have hnext := ih (v - 1) (by omega) (by omega)
    refine ⟨⟨Nat.le_refl _, Nat.le_refl _⟩, fun p e R s m args below meth c A ws0 X a1 a2 a3 a4 a5 F hF r1 r2 Q kk => ?_⟩
    have g3 := hnext.2 p e R s m args below meth c A ws0 X a1 a2 a3 a4 a5 F hF r1 r2 Q kk
    have hF2 : ev_pin (k :: Ks) ((k, (0, v, v)) :: F) := fun x hx => by
      rcases List.mem_cons.mp hx with rfl | hx
      · exact ⟨List.mem_cons_self, rfl⟩
      · exact ⟨List.mem_cons_of_mem _ (hF x hx).1, (hF x hx).2⟩
    have hin : ev_le (0, v, v) (0, lo, hi) = true := by
      unfold ev_le
      rw [if_pos rfl]
      exact decide_eq_true ⟨rfl, by show lo ≤ v; omega, hhi⟩
    refine ev_s_weakM (L2 := ((k, (0, lo, hi)) :: L0) ++ ((k, (0, v, v)) :: F)) (S2 := S) (w2 := w0) (fun x hx => ?_) hSS hww (hb.2 p e R s m args below meth c A ws0 X a1 a2 a3 a4 a5 _ hF2 r1 r2 Q ?_)
    · rcases List.mem_append.mp hx with hx | hx
      · rcases List.mem_cons.mp hx with rfl | hx
        · exact ⟨(k, (0, v, v)), List.mem_append_left _ List.mem_cons_self, rfl, hin⟩
        · exact ⟨x, List.mem_append_left _ (List.mem_cons_of_mem _ hx), rfl, ev_le_rf x.2 (hLk x hx).2.2⟩
      · rcases List.mem_cons.mp hx with rfl | hx
        · exact ⟨(k, (0, v, v)), List.mem_append_left _ List.mem_cons_self, rfl, ev_le_self rfl⟩
        · exact ⟨x, List.mem_append_right _ hx, rfl, ev_le_self (hF x hx).2⟩
    · refine ev_s_weakM (L2 := (k, (0, v, v)) :: (L0 ++ F)) (S2 := S) (w2 := w0) (fun x hx => ?_) hS hw ?_
      · rcases List.mem_cons.mp hx with rfl | hx
        · exact ⟨(k, (0, v, v)), List.mem_append_right _ List.mem_cons_self, rfl, ev_le_self rfl⟩
        · rcases List.mem_append.mp hx with hx | hx
          · obtain ⟨y, hy, e1, e2⟩ := hL x hx
            exact ⟨y, List.mem_append_left _ hy, e1, e2⟩
          · exact ⟨x, List.mem_append_right _ (List.mem_cons_of_mem _ hx), rfl, ev_le_self (hF x hx).2⟩
      · have hfa : ev_fadd (0, v, v) (0, 2147483647, 2147483647) = (0, v - 1, v - 1) := by
          unfold ev_fadd
          rw [if_pos ⟨by show 2147483648 ≤ v + 2147483647; omega, by show v + 2147483647 < 6442450944; omega⟩]
          show ((0 : Nat), v + 2147483647 - 2147483648, v + 2147483647 - 2147483648) = _
          rw [show v + 2147483647 - 2147483648 = v - 1 by omega]
        have hput : ev_put ((k, (0, v, v)) :: (L0 ++ F)) k (0, v - 1, v - 1) = (k, (0, v - 1, v - 1)) :: (L0 ++ F) := by
          have hfil : ((k, (0, v, v)) :: (L0 ++ F)).filter (fun q => !(q.1 == k) && !(q.1 + 1 == k && q.2.1 == 1)) = L0 ++ F := by
            rw [List.filter_cons, if_neg (by simp), List.filter_eq_self]
            intro x hx
            rcases List.mem_append.mp hx with hx | hx
            · obtain ⟨b1, b2, b3⟩ := hLk x hx
              by_cases q1 : x.1 + 1 = k
              · have q2 : x.2.1 ≠ 1 := fun e => b2 ⟨q1, e⟩
                simp [b1, q2]
              · simp [b1, q1]
            · have b1 : x.1 ≠ k := fun e => hk (e ▸ (hF x hx).1)
              simp [b1, (hF x hx).2]
          unfold ev_put
          rw [hfil]
        refine ev_s_iinc (a := k) (n := -1) (v := (0, v, v)) (b := (0, 2147483647, 2147483647)) X hd (ev_in_eq (by decide +kernel)) hn hmx (by unfold ev_get; rw [if_pos rfl]) rfl (by rw [hfa]) ?_
        rw [hfa, hput]
        exact ev_s_goto X hd2 ht g3
end EVR
/-- two ways that meet -/
theorem ev_rF_join {Gs : List Cond} {Gc : List (List Cond)} {Ct : List ev_Ct} {kt : List FieldType} {Pg : List ev_Mt} {Ck : List (List ev_Cd)} {sm : ev_Sm} {cl : List vw_C} (hGc : ∀ (h : Nat) (w : Cond), ev_hg Gc h = some w → w ∈ Gs) (hG : ∀ w ∈ Gs, (w.onTables && w.keeps) = true ∨ ∃ ty, w = .arrayClass ty) (hT : ev_okD Gs cl Ct Pg) (hP : ev_okP Gc Ct kt Pg sm) (hCk : ev_okK Pg Ck) (l : Launch) (D : va_G) (dA : Nat → ClassId) (hsm : ∀ q ∈ sm, ∀ (y : MethodName) (bytes : ByteArray) (maxL : Nat) (rt : Option FieldType) (cdm : ev_Cd), Pg[q.1]? = some ((y, bytes, maxL, rt), cdm) → ev_Met l D cl dA kt Gs y bytes maxL rt q.2.1 q.2.2.2.1 q.2.2.2.2.1 q.2.2.2.2.2) (N : Nat) {d k : Nat} {y : MethodName} {bytes : ByteArray} {maxL : Nat} {rt : Option FieldType} {cdm : ev_Cd} {cs : List ev_Cd} (hk : Pg[k]? = some ((y, bytes, maxL, rt), cdm)) (hcsk : Ck[k]? = some cs) {Ks : List Nat} {st u v t : ev_S} {j : Nat} {i : ev_I} (hi : ev_lk cs st.1 = some i) (hop : i.2.1 = 26 ∨ i.2.1 = 27) (h : ev_op Ct rt sm d (ev_call2 Pg Ck Ct sm N d) i st = some (.inr (.inr (u, v, j)))) (hm : st.2.2.2.2.1 ≤ u.2.2.2.2.1 ∧ st.2.2.2.2.2 ≤ u.2.2.2.2.2) (hu : ev_rF l D cl dA kt Gs y.cls y.name bytes maxL rt cdm d Ks u t) (hv : ev_rF l D cl dA kt Gs y.cls y.name bytes maxL rt cdm d Ks v t) : ev_rF l D cl dA kt Gs y.cls y.name bytes maxL rt cdm d Ks st t := by
  obtain ⟨hpn, hpc0, hins⟩ := hP k y bytes maxL rt cdm hk
  have hok := hins _ _ (hCk k _ cs hk hcsk _ _ hi)
  refine ⟨⟨Nat.le_trans hm.1 hu.1.1, Nat.le_trans hm.2 hu.1.2⟩, fun p e R s m args below meth c A ws0 X a1 a2 a3 a4 a5 F hF r1 r2 Q kk => ?_⟩
  have g1 := hu.2 p e R s m args below meth c A ws0 X a1 a2 a3 a4 a5 F hF r1 r2 Q kk
  have g2 := hv.2 p e R s m args below meth c A ws0 X a1 a2 a3 a4 a5 F hF r1 r2 Q kk
  have hcl := ev_call2_ok hGc hG hT hP hCk l D dA hsm N d
  rcases hop with hop | hop
  · have hok2 : ev_k26 Gc Ct kt Pg sm y.cls y.name bytes maxL rt cdm st.1 i = true := by
      unfold ev_ok at hok
      simpa [hop] using hok
    have h2 : ev_o26 Ct rt sm d (ev_call2 Pg Ck Ct sm N d) i st = some (.inr (.inr (u, v, j))) := by
      unfold ev_op at h
      simpa [hop] using h
    exact ev_j26 X hGc hG hT a1 a2 a3 a4 a5 hcl rfl hsm hok2 h2 Q g1 g2
  · have hok2 : ev_k27 Gc Ct kt Pg sm y.cls y.name bytes maxL rt cdm st.1 i = true := by
      unfold ev_ok at hok
      simpa [hop] using hok
    have h2 : ev_o27 Ct rt sm d (ev_call2 Pg Ck Ct sm N d) i st = some (.inr (.inr (u, v, j))) := by
      unfold ev_op at h
      simpa [hop] using h
    exact ev_j27 X hGc hG hT a1 a2 a3 a4 a5 hcl rfl hsm hok2 h2 Q g1 g2
/-- locals, looked up by number -/
def ev_leMb (L L2 : List (Nat × (Nat × Nat × Nat))) : Bool := L2.all (fun q => L.any (fun y => Nat.beq y.1 q.1 && ev_le y.2 q.2))
theorem ev_leMb_r {L L2 : List (Nat × (Nat × Nat × Nat))} (h : ev_leMb L L2 = true) : ev_leM L L2 := fun q hq => by
  have h1 := List.all_eq_true.mp h q hq
  obtain ⟨y, hy, h2⟩ := List.any_eq_true.mp h1
  rw [Bool.and_eq_true] at h2
  exact ⟨y, hy, Nat.eq_of_beq_eq_true h2.1, h2.2⟩
/-- a guarded run is such a way -/
theorem ev_rF_run {Gs : List Cond} {Gc : List (List Cond)} {Ct : List ev_Ct} {kt : List FieldType} {Pg : List ev_Mt} {Ck : List (List ev_Cd)} {sm : ev_Sm} {cl : List vw_C} (hGc : ∀ (h : Nat) (w : Cond), ev_hg Gc h = some w → w ∈ Gs) (hG : ∀ w ∈ Gs, (w.onTables && w.keeps) = true ∨ ∃ ty, w = .arrayClass ty) (hT : ev_okD Gs cl Ct Pg) (hP : ev_okP Gc Ct kt Pg sm) (hCk : ev_okK Pg Ck) (l : Launch) (D : va_G) (dA : Nat → ClassId) (hsm : ∀ q ∈ sm, ∀ (y : MethodName) (bytes : ByteArray) (maxL : Nat) (rt : Option FieldType) (cdm : ev_Cd), Pg[q.1]? = some ((y, bytes, maxL, rt), cdm) → ev_Met l D cl dA kt Gs y bytes maxL rt q.2.1 q.2.2.2.1 q.2.2.2.2.1 q.2.2.2.2.2) (N : Nat) {d k : Nat} {y : MethodName} {bytes : ByteArray} {maxL : Nat} {rt : Option FieldType} {cdm : ev_Cd} {cs : List ev_Cd} (hk : Pg[k]? = some ((y, bytes, maxL, rt), cdm)) (hcsk : Ck[k]? = some cs) {Ks : List Nat} : ∀ (n : Nat) (st t : ev_S), ev_goF Ct rt sm d (ev_call2 Pg Ck Ct sm N d) cs Ks n st = some t → ev_rF l D cl dA kt Gs y.cls y.name bytes maxL rt cdm d Ks st t := by
  intro n
  induction n with
  | zero => intro st t h; obtain rfl := Option.some.inj h; exact ev_rF.rf _
  | succ n ih =>
    intro st t h
    unfold ev_goF at h
    split at h
    · cases h
    · next i hi =>
      split at h
      · next hsafe =>
        split at h
        · next u hu =>
          split at h
          · next hc =>
            obtain ⟨hpn, hpc0, hins⟩ := hP k y bytes maxL rt cdm hk
            refine ev_rF.tr ⟨hc, fun p e R s m args below meth c A ws0 X a1 a2 a3 a4 a5 F hF r1 r2 Q kk => ?_⟩ (ih u t h)
            exact ev_opx_okF X hGc hG hT a1 a2 a3 a4 a5 (ev_call2_ok hGc hG hT hP hCk l D dA hsm N d) rfl hsm hF hsafe (hins _ _ (hCk k _ cs hk hcsk _ _ hi)) hu r1 r2 Q kk
          · cases h
        · cases h
      · cases h
theorem ev_seg_ok2 {Gs : List Cond} {Gc : List (List Cond)} {Ct : List ev_Ct} {kt : List FieldType} {Pg : List ev_Mt} {Ck : List (List ev_Cd)} {sm : ev_Sm} {cl : List vw_C} (hGc : ∀ (h : Nat) (w : Cond), ev_hg Gc h = some w → w ∈ Gs) (hG : ∀ w ∈ Gs, (w.onTables && w.keeps) = true ∨ ∃ ty, w = .arrayClass ty) (hT : ev_okD Gs cl Ct Pg) (hP : ev_okP Gc Ct kt Pg sm) (hCk : ev_okK Pg Ck) (l : Launch) (D : va_G) (dA : Nat → ClassId) (hsm : ∀ q ∈ sm, ∀ (y : MethodName) (bytes : ByteArray) (maxL : Nat) (rt : Option FieldType) (cdm : ev_Cd), Pg[q.1]? = some ((y, bytes, maxL, rt), cdm) → ev_Met l D cl dA kt Gs y bytes maxL rt q.2.1 q.2.2.2.1 q.2.2.2.2.1 q.2.2.2.2.2) (N : Nat) {d n k : Nat} {as : List (Nat × Nat × Nat)} {w : List ev_C} {r : ev_R} {y : MethodName} {bytes : ByteArray} {maxL : Nat} {rt : Option FieldType} {cdm : ev_Cd} {cs : List ev_Cd} (hk : Pg[k]? = some ((y, bytes, maxL, rt), cdm)) (hcsk : Ck[k]? = some cs) (hcs : ev_cs as ≤ maxL) {t0 : ev_S} (hway : ev_rF l D cl dA kt Gs y.cls y.name bytes maxL rt cdm d [] (0, ev_la 0 as, [], w, 0, 0) t0) (hrun : ev_go2 (ev_stp2 Ct rt sm d (ev_call2 Pg Ck Ct sm N d) cs) N n t0 = some (.inr r)) (hrf : ev_leR r r = true) : ev_Met l D cl dA kt Gs y bytes maxL rt (d + 1) as w r := by
  intro av ws sz hsr hwr
  obtain ⟨hpn, hpc0, hins⟩ := hP k y bytes maxL rt cdm hk
  refine Met.ofW (cc := bytes) (maxL := maxL) (ret := rt) hpn rfl ?_
  intro p e s m args below meth c s₁ B hml hv
  obtain ⟨rfl, hsz, hPs, hK, hD0, hTb⟩ := hv
  have hts := atoms_spec (ws := Cond.code y bytes maxL rt :: Gs) B.pre
  have hown : s.vm.findClass y.cls = some m.cls := findClass_of_methodNamed B.named
  have hlocks := B.notSynchronized
  have hnm : meth.name = y.name := (name_of_methodNamed B.named B.method).1
  subst hsz
  have hD := hD0.self (sz := s.heap.size)
  have hl := lv_entry av (n := maxL) (by rw [ev_sl hsr]; exact hcs)
  rw [lg_entry_eq]
  generalize (lg_sl av ++ List.replicate (maxL - (lg_sl av).length) Slot.unset).toArray = ls at hl ⊢
  have X : ev_X p s m av.toArray c D cl dA kt (va_A ws s.heap.size) Gs y.cls bytes maxL := ⟨⟨B.exec, B.bytes, hml, hown, fun w hw => hts w (List.mem_cons_of_mem _ hw)⟩, hK, fun q hq => Or.inr hq, hTb⟩
  have hRS := ev_go2_ok (p := p) (l := l) (e := e) (R := ev_rm (d + 1) r.2.2.1 r.2.2.2) (s := s) (m := m) (args := av.toArray) (below := below) (meth := meth) (c := c) (D := D) (cl := cl) (dA := dA) (kt := kt) (A := va_A ws s.heap.size) (ws0 := ws) (nL := maxL) (cd := cdm) (stp := ev_stp2 Ct rt sm d (ev_call2 Pg Ck Ct sm N d) cs) (N := N) (fun st o ho => by
    unfold ev_stp2 at ho
    split at ho
    · cases ho
    · next i hi => exact ev_opx_ok X hGc hG hT hnm B.returns hlocks rfl rfl (ev_call2_ok hGc hG hT hP hCk l D dA hsm N d) rfl hsm (hins _ _ (hCk k _ cs hk hcsk _ _ hi)) ho) n _ _ hrun (Nat.le_refl _) (Nat.le_refl _)
  obtain ⟨f1, f2, -, -⟩ := ev_leR_n hrf
  have hmono := ev_go2_mono _ N n _ _ hrun
  have hG0 := hRS r.1 r.2.1 r.2.2.1 r.2.2.2 f1 f2 (Nat.le_refl _) (Nat.le_refl _)
  have hG1 := hway.2 p e (ev_rm (d + 1) r.2.2.1 r.2.2.2) s m av.toArray below meth c (va_A ws s.heap.size) ws X hnm B.returns hlocks rfl rfl [] (fun q hq => by cases hq) hmono.1 hmono.2 _ (by unfold ev_pf; rw [List.append_nil]; exact hG0)
  unfold ev_pf at hG1
  rw [List.append_nil] at hG1
  have hW := hG1 s.heap [] ls [] (lv_args 0 av) ws hl (ev_la_r 0 hsr) trivial hwr (ev_E.rf _ _) hPs hD va_S.rf
  have hW : W p l e (ev_rm (d + 1) r.2.2.1 r.2.2.2) s m av.toArray below meth c s.heap [] 0 0 (MQ below (ev_Q D cl dA kt ws (va_A ws s.heap.size) r.1 r.2.1) av.toArray s r.2.2.1 r.2.2.2 (va_A ws s.heap.size)) (F0 m (ev_pc cdm 0) ls []) := hW
  rw [hpc0] at hW
  exact hW

/-- one contract more, by a way with loops and a run at its end -/
theorem ev_SM_add4 {Gs : List Cond} {Gc : List (List Cond)} {Ct : List ev_Ct} {kt : List FieldType} {Pg : List ev_Mt} {Ck : List (List ev_Cd)} {sm : ev_Sm} {cl : List vw_C} (hGc : ∀ (h : Nat) (w : Cond), ev_hg Gc h = some w → w ∈ Gs) (hG : ∀ w ∈ Gs, (w.onTables && w.keeps) = true ∨ ∃ ty, w = .arrayClass ty) (hT : ev_okD Gs cl Ct Pg) (hP : ∀ sm, ev_okP Gc Ct kt Pg sm) (hCk : ev_okK Pg Ck) {l : Launch} {D : va_G} {dA : Nat → ClassId} (hsm : ev_SM l D cl dA kt Gs Pg sm) {N k d n : Nat} {ps : List (Nat × Nat)} {as : List (Nat × Nat × Nat)} {w : List ev_C} {r : ev_R} {q0 : ev_Mt} {cs : List ev_Cd} (hk0 : Pg[k]? = some q0) (hcsk : Ck[k]? = some cs) (hcs : ev_cs as ≤ q0.1.2.2.1) {t0 : ev_S} (hway : ev_rF l D cl dA kt Gs q0.1.1.cls q0.1.1.name q0.1.2.1 q0.1.2.2.1 q0.1.2.2.2 q0.2 d [] (0, ev_la 0 as, [], w, 0, 0) t0) (hrun : ev_go2 (ev_stp2 Ct q0.1.2.2.2 sm d (ev_call2 Pg Ck Ct sm N d) cs) N n t0 = some (.inr r)) (hrf : ev_leR r r = true) : ev_SM l D cl dA kt Gs Pg ((k, d + 1, ps, as, w, r) :: sm) := fun q hq y bytes maxL rt cdm hk => by
  rcases List.mem_cons.mp hq with rfl | hq
  · have hk : Pg[k]? = some ((y, bytes, maxL, rt), cdm) := hk
    rw [hk0] at hk
    obtain rfl := Option.some.inj hk
    exact ev_seg_ok2 hGc hG hT (hP sm) hCk l D dA hsm N hk0 hcsk hcs hway hrun hrf
  · exact hsm q hq y bytes maxL rt cdm hk
