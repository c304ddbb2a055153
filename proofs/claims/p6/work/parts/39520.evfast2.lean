/-! The small machine, faster: codes in rows of sixteen; calls over all the cells at once -/
def ev_att2 (dd : Nat) (w : List ev_C) (as : List (Nat × Nat × Nat)) (mi : Nat) (q : Nat × Nat × List (Nat × Nat) × List (Nat × Nat × Nat) × List ev_C × ev_R) : Option ev_R := if q.1 = mi then (if q.2.1 ≤ dd ∧ ev_leS as q.2.2.2.1 = true ∧ ev_leW w q.2.2.2.2.1 = true ∧ ev_fz w q.2.2.2.2.2.2.1 = true then some q.2.2.2.2.2 else none) else none
def ev_dir (sm : ev_Sm) (dd : Nat) (i : ev_I) (st : ev_S) : Option ev_S := match st.2.2.1.drop i.2.2.2.1 with
  | (2, k, z) :: S2 => (match st.2.2.2.1[k]? with
    | some (0, ci, _, _) => (match sm.findSome? (ev_att2 dd st.2.2.2.1 ((2, k, z) :: (st.2.2.1.take i.2.2.2.1).reverse) i.2.2.2.2.2.1) with
      | some (r, w1, mc, ms) => if (st.2.2.1.take i.2.2.2.1).length = i.2.2.2.1 ∧ ev_cs S2 ≤ 8 ∧ ci = i.2.2.2.2.2.2 % 64 then some (st.1 + 1, st.2.1, r.toList ++ S2, w1, st.2.2.2.2.1 + mc, st.2.2.2.2.2 + ms) else none
      | none => none)
    | _ => none)
  | _ => none
def ev_opx (Ct : List ev_Ct) (ret : Option FieldType) (sm : ev_Sm) (dd : Nat) (call : Nat → List (Nat × Nat × Nat) → List ev_C → Option ev_R) (i : ev_I) (st : ev_S) : Option (ev_S ⊕ (ev_R ⊕ (ev_S × ev_S × Nat))) := if i.2.1 = 56 then (match ev_dir sm dd i st with
  | some u => some (.inl u)
  | none => ev_op Ct ret sm dd call i st) else ev_op Ct ret sm dd call i st
theorem ev_Met_weak {l : Launch} {D : va_G} {cl : List vw_C} {dA : Nat → ClassId} {kt : List FieldType} {Gs : List Cond} {y : MethodName} {bytes : ByteArray} {maxL : Nat} {ret : Option FieldType} {d : Nat} {as as' : List (Nat × Nat × Nat)} {w w' : List ev_C} {r : ev_R} (h : ev_Met l D cl dA kt Gs y bytes maxL ret d as' w' r) (ha : ev_leS as as' = true) (hw : ev_leW w w' = true) : ev_Met l D cl dA kt Gs y bytes maxL ret d as w r := fun av ws sz h1 h2 => h av ws sz (ev_leS_r ha h1) (ev_leW_r hw h2)
section EV9
variable {p : Program} {l : Launch} {e : Env} {R : Room} {s : State} {m : MethodId} {args : Array Value} {below : List Frame} {meth : Method} {c : Code} {Q : State → Prop}
variable {D : va_G} {cl : List vw_C} {dA : Nat → ClassId} {kt : List FieldType} {A : Nat → Prop} {ws0 : va_W} {Gs : List Cond} {own : String} {cc : ByteArray} {nL : Nat} {cd : ev_Cd}
variable {Gc : List (List Cond)} {Ct : List ev_Ct} {Pg : List ev_Mt} {sm : ev_Sm} {nm : String} {ret : Option FieldType} {d dd : Nat} {call : Nat → List (Nat × Nat × Nat) → List ev_C → Option ev_R}
variable {i : ev_I} {st : ev_S} {o : ev_S ⊕ (ev_R ⊕ (ev_S × ev_S × Nat))}
theorem ev_opx_ok (X : ev_X p s m args c D cl dA kt A Gs own cc nL) (hGc : ∀ (h : Nat) (w : Cond), ev_hg Gc h = some w → w ∈ Gs) (hG : ∀ w ∈ Gs, (w.onTables && w.keeps) = true ∨ ∃ ty, w = .arrayClass ty) (hT : ev_okD Gs cl Ct Pg) (hnm : meth.name = nm) (hret : meth.sig.returnType = ret) (hlk : meth.locks = false) (hRf : R.frames = d + 1) (hRl : R.locals = 90 * (d + 1)) (hcl : ∀ (k : Nat) (as : List (Nat × Nat × Nat)) (w : List ev_C) (r : ev_R), call k as w = some r → ∀ (y : MethodName) (bytes : ByteArray) (maxL : Nat) (rt : Option FieldType) (cdm : ev_Cd), Pg[k]? = some ((y, bytes, maxL, rt), cdm) → ev_Met l D cl dA kt Gs y bytes maxL rt d as w r) (hdd : dd = d) (hsm : ∀ q ∈ sm, ∀ (y : MethodName) (bytes : ByteArray) (maxL : Nat) (rt : Option FieldType) (cdm : ev_Cd), Pg[q.1]? = some ((y, bytes, maxL, rt), cdm) → ev_Met l D cl dA kt Gs y bytes maxL rt q.2.1 q.2.2.2.1 q.2.2.2.2.1 q.2.2.2.2.2) (hok : ev_ok Gc Ct kt Pg sm own nm cc nL ret cd st.1 i = true) (h : ev_opx Ct ret sm dd call i st = some o) : ev_SS p l e R s m args below meth c D cl dA kt A ws0 nL cd st o := by
  unfold ev_opx at h
  split at h
  · next hop =>
    split at h
    · next u hu =>
      obtain rfl := Option.some.inj h
      have hk : ev_k56 Gc Ct kt Pg sm own nm cc nL ret cd st.1 i = true := by
        unfold ev_ok at hok
        simpa [hop] using hok
      obtain ⟨ix, L, S, w, nc, ns⟩ := st
      unfold ev_dir at hu
      split at hu
      · next k z S2 hS =>
        have hS : S.drop i.2.2.2.1 = (2, k, z) :: S2 := hS
        split at hu
        · next ci z8 fs hw =>
          split at hu
          · next r w1 mc ms hr =>
            split at hu
            · next hx =>
              obtain ⟨hx1, hx2, rfl⟩ := hx
              obtain rfl := Option.some.inj hu
              obtain ⟨q, hqm, hqa⟩ := List.exists_of_findSome?_eq_some hr
              unfold ev_att2 at hqa
              split at hqa
              case isFalse => cases hqa
              next hmi =>
              split at hqa
              case isFalse => cases hqa
              next hy =>
              obtain ⟨y1, y2, y3, y4⟩ := hy
              have hqr := Option.some.inj hqa
              unfold ev_k56 at hk
              simp only [Bool.and_eq_true, decide_eq_true_eq] at hk
              obtain ⟨⟨hd, hn⟩, hq⟩ := hk
              split at hq
              · next y bytes maxL rt cdm hP =>
                simp only [Bool.and_eq_true, decide_eq_true_eq] at hq
                obtain ⟨⟨⟨⟨⟨⟨⟨q1, q2⟩, q3⟩, q4⟩, q5⟩, q6⟩, q7⟩, q8⟩ := hq
                cases hC : Ct[i.2.2.2.2.2.2 % 64]? with
                | none => rw [hC] at q6; cases q6
                | some qc =>
                  rw [hC] at q6
                  have q6 := of_decide_eq_true q6
                  have hM0 := hsm q hqm _ _ _ _ _ (by rw [hmi]; exact hP)
                  rw [hqr] at hM0 y4
                  have hM := ev_Met_weak hM0 y2 y3
                  have hSS : S = S.take i.2.2.2.1 ++ (2, k, z) :: S2 := by rw [← hS, List.take_append_drop]
                  intro r1 r2 Q k9
                  show ev_G p l e R s m args below meth c Q D cl dA A ws0 nL cd (ix, L, S, w, nc, ns)
                  rw [hSS]
                  have hRd : q.2.1 + 1 ≤ R.frames ∧ 8 + (maxL + 11) + 90 * q.2.1 ≤ R.locals := ⟨by omega, by omega⟩
                  exact ev_s_invV X hG hM y4 hx1 hw (hT.1 _ _ hC).2.1 q6 (hT.2 _ _ _ _ _ _ hP) (hGc _ _ q3) (hGc _ _ q1) (hGc _ _ q4) (hGc _ _ q5) q7 hRd hx2 ⟨r1, r2⟩ hd hn k9
              · cases hq
            · cases hu
          · cases hu
        · cases hu
      · cases hu
    · exact ev_op_ok X hGc hG hT hnm hret hlk hRf hRl hcl hdd hsm hok h
  · exact ev_op_ok X hGc hG hT hnm hret hlk hRf hRl hcl hdd hsm hok h
end EV9
def ev_stp2 (Ct : List ev_Ct) (ret : Option FieldType) (sm : ev_Sm) (dd : Nat) (call : Nat → List (Nat × Nat × Nat) → List ev_C → Option ev_R) (cs : List ev_Cd) (st : ev_S) : Option (ev_S ⊕ (ev_R ⊕ (ev_S × ev_S × Nat))) := match ev_lk cs st.1 with
  | none => none
  | some i => ev_opx Ct ret sm dd call i st
def ev_call2 (Pg : List ev_Mt) (Ck : List (List ev_Cd)) (Ct : List ev_Ct) (sm : ev_Sm) (N : Nat) : Nat → Nat → List (Nat × Nat × Nat) → List ev_C → Option ev_R
  | 0, _, _, _ => none
  | d + 1, k, as, w => match Pg[k]? with
    | none => none
    | some q => (match Ck[k]? with
      | none => none
      | some cs => if ev_cs as ≤ q.1.2.2.1 then (match ev_run (ev_stp2 Ct q.1.2.2.2 sm d (ev_call2 Pg Ck Ct sm N d) cs) N 1000000 (0, ev_la 0 as, [], w, 0, 0) with
        | some (.inr r) => if ev_leR r r = true then some r else none
        | _ => none) else none)
theorem ev_call2_ok {Gs : List Cond} {Gc : List (List Cond)} {Ct : List ev_Ct} {kt : List FieldType} {Pg : List ev_Mt} {Ck : List (List ev_Cd)} {sm : ev_Sm} {cl : List vw_C} (hGc : ∀ (h : Nat) (w : Cond), ev_hg Gc h = some w → w ∈ Gs) (hG : ∀ w ∈ Gs, (w.onTables && w.keeps) = true ∨ ∃ ty, w = .arrayClass ty) (hT : ev_okD Gs cl Ct Pg) (hP : ev_okP Gc Ct kt Pg sm) (hCk : ev_okK Pg Ck) (l : Launch) (D : va_G) (dA : Nat → ClassId) (hsm : ∀ q ∈ sm, ∀ (y : MethodName) (bytes : ByteArray) (maxL : Nat) (rt : Option FieldType) (cdm : ev_Cd), Pg[q.1]? = some ((y, bytes, maxL, rt), cdm) → ev_Met l D cl dA kt Gs y bytes maxL rt q.2.1 q.2.2.2.1 q.2.2.2.2.1 q.2.2.2.2.2) (N : Nat) : ∀ (d k : Nat) (as : List (Nat × Nat × Nat)) (w : List ev_C) (r : ev_R), ev_call2 Pg Ck Ct sm N d k as w = some r → ∀ (y : MethodName) (bytes : ByteArray) (maxL : Nat) (rt : Option FieldType) (cdm : ev_Cd), Pg[k]? = some ((y, bytes, maxL, rt), cdm) → ev_Met l D cl dA kt Gs y bytes maxL rt d as w r := by
  intro d
  induction d with
  | zero => intro k as w r h; cases h
  | succ d ih =>
    intro k as w r h y bytes maxL rt cdm hk av ws sz hsr hwr
    unfold ev_call2 at h
    rw [hk] at h
    dsimp only at h
    split at h
    case h_1 => cases h
    next cs hcsk =>
    split at h
    · next hcs =>
      split at h
      · next r1 hrun =>
        split at h
        case isFalse => cases h
        next hrf =>
        have hr1 := Option.some.inj h
        subst hr1
        obtain ⟨hpn, hpc0, hins⟩ := hP k y bytes maxL rt cdm hk
        refine Met.ofW (cc := bytes) (maxL := maxL) (ret := rt) hpn rfl ?_
        intro p e s m args below meth c s₁ B hml hv
        obtain ⟨rfl, hsz, hPs, hK, hD0, hTb⟩ := hv
        have hts := atoms_spec (ws := Cond.code y bytes maxL rt :: Gs) B.pre
        have hown : s.vm.findClass y.cls = some m.cls := findClass_of_methodNamed B.named
        have hlocks := B.notSynchronized
        have hnm : meth.name = y.name := (name_of_methodNamed B.named B.method).1
        subst hsz
        have hD := hD0.self (sz := s.heap.size)
        have hl := lv_entry av (n := maxL) (by rw [ev_sl hsr]; exact hcs)
        rw [lg_entry_eq]
        generalize (lg_sl av ++ List.replicate (maxL - (lg_sl av).length) Slot.unset).toArray = ls at hl ⊢
        have X : ev_X p s m av.toArray c D cl dA kt (va_A ws s.heap.size) Gs y.cls bytes maxL := ⟨⟨B.exec, B.bytes, hml, hown, fun w hw => hts w (List.mem_cons_of_mem _ hw)⟩, hK, fun q hq => Or.inr hq, hTb⟩
        have hRS := ev_run_ok (p := p) (l := l) (e := e) (R := ev_rm (d + 1) r1.2.2.1 r1.2.2.2) (s := s) (m := m) (args := av.toArray) (below := below) (meth := meth) (c := c) (D := D) (cl := cl) (dA := dA) (kt := kt) (A := va_A ws s.heap.size) (ws0 := ws) (nL := maxL) (cd := cdm) (stp := ev_stp2 Ct rt sm d (ev_call2 Pg Ck Ct sm N d) cs) (fun st o ho => by
          unfold ev_stp2 at ho
          split at ho
          · cases ho
          · next i hi => exact ev_opx_ok X hGc hG hT hnm B.returns hlocks rfl rfl ih rfl hsm (hins _ _ (hCk k _ cs hk hcsk _ _ hi)) ho) N 1000000 _ _ hrun (Nat.le_refl _) (Nat.le_refl _)
        obtain ⟨f1, f2, -, -⟩ := ev_leR_n hrf
        have hW := hRS r1.1 r1.2.1 r1.2.2.1 r1.2.2.2 f1 f2 (Nat.le_refl _) (Nat.le_refl _) s.heap [] ls [] (lv_args 0 av) ws hl (ev_la_r 0 hsr) trivial hwr (ev_E.rf _ _) hPs hD va_S.rf
        have hW : W p l e (ev_rm (d + 1) r1.2.2.1 r1.2.2.2) s m av.toArray below meth c s.heap [] 0 0 (MQ below (ev_Q D cl dA kt ws (va_A ws s.heap.size) r1.1 r1.2.1) av.toArray s r1.2.2.1 r1.2.2.2 (va_A ws s.heap.size)) (F0 m (ev_pc cdm 0) ls []) := hW
        rw [hpc0] at hW
        exact hW
      · cases h
    · cases h
/-- one contract more, by a run -/
theorem ev_SM_add2 {Gs : List Cond} {Gc : List (List Cond)} {Ct : List ev_Ct} {kt : List FieldType} {Pg : List ev_Mt} {Ck : List (List ev_Cd)} {sm : ev_Sm} {cl : List vw_C} (hGc : ∀ (h : Nat) (w : Cond), ev_hg Gc h = some w → w ∈ Gs) (hG : ∀ w ∈ Gs, (w.onTables && w.keeps) = true ∨ ∃ ty, w = .arrayClass ty) (hT : ev_okD Gs cl Ct Pg) (hP : ∀ sm, ev_okP Gc Ct kt Pg sm) (hCk : ev_okK Pg Ck) {l : Launch} {D : va_G} {dA : Nat → ClassId} (hsm : ev_SM l D cl dA kt Gs Pg sm) {N k d : Nat} {ps : List (Nat × Nat)} {as : List (Nat × Nat × Nat)} {w : List ev_C} {r : ev_R} (h : ev_same (ev_call2 Pg Ck Ct sm N d k as w) r = true) : ev_SM l D cl dA kt Gs Pg ((k, d, ps, as, w, r) :: sm) := fun q hq y bytes maxL rt cdm hk => by
  rcases List.mem_cons.mp hq with rfl | hq
  · exact ev_call2_ok hGc hG hT (hP sm) hCk l D dA hsm N d k as w r (ev_same_r h) y bytes maxL rt cdm hk
  · exact hsm q hq y bytes maxL rt cdm hk
