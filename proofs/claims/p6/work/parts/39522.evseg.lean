/-! Long runs in pieces: each is reckoned by itself -/
def ev_go2 (stp : ev_S → Option (ev_S ⊕ (ev_R ⊕ (ev_S × ev_S × Nat)))) (N : Nat) : Nat → ev_S → Option (ev_S ⊕ ev_R)
  | 0, st => some (.inl st)
  | n + 1, st => match stp st with
    | none => none
    | some (.inl u) => if st.2.2.2.2.1 ≤ u.2.2.2.2.1 ∧ st.2.2.2.2.2 ≤ u.2.2.2.2.2 then ev_go2 stp N n u else none
    | some (.inr (.inl r)) => if st.2.2.2.2.1 ≤ r.2.2.1 ∧ st.2.2.2.2.2 ≤ r.2.2.2 then some (.inr r) else none
    | some (.inr (.inr (u, v, j))) => if st.2.2.2.2.1 ≤ u.2.2.2.2.1 ∧ st.2.2.2.2.2 ≤ u.2.2.2.2.2 ∧ st.2.2.2.2.1 ≤ v.2.2.2.2.1 ∧ st.2.2.2.2.2 ≤ v.2.2.2.2.2 then
      (match ev_run stp N j u with
      | some (.inl u1) => (match ev_run stp N j v with
        | some (.inl v1) => if ev_leT u1 (ev_mgT u1 v1) = true ∧ ev_leT v1 (ev_mgT u1 v1) = true then ev_go2 stp N n (ev_mgT u1 v1) else none
        | _ => none)
      | some (.inr r1) => (match ev_run stp N j v with
        | some (.inr r2) => if ev_leR r1 (ev_mgR r1 r2) = true ∧ ev_leR r2 (ev_mgR r1 r2) = true then some (.inr (ev_mgR r1 r2)) else none
        | _ => none)
      | none => none) else none
theorem ev_go2_app {stp : ev_S → Option (ev_S ⊕ (ev_R ⊕ (ev_S × ev_S × Nat)))} {N : Nat} : ∀ (n m : Nat) (st t : ev_S) (o : ev_S ⊕ ev_R), ev_go2 stp N n st = some (.inl t) → ev_go2 stp N m t = some o → ev_go2 stp N (n + m) st = some o := by
  intro n
  induction n with
  | zero =>
    intro m st t o h1 h2
    obtain rfl := Sum.inl.inj (Option.some.inj h1)
    rw [Nat.zero_add]
    exact h2
  | succ n ih =>
    intro m st t o h1 h2
    rw [show n + 1 + m = (n + m) + 1 by omega]
    unfold ev_go2 at h1 ⊢
    split at h1
    · cases h1
    · next u hu =>
      (try rw [hu])
      (try dsimp only)
      split at h1
      · next hc => rw [if_pos hc]; exact ih m _ t o h1 h2
      · cases h1
    · next r hr =>
      split at h1
      · cases h1
      · cases h1
    · next u v j hj =>
      (try rw [hj])
      (try dsimp only)
      split at h1
      · next hc =>
        rw [if_pos hc]
        split at h1
        · next u1 hu1 =>
          (try rw [hu1])
          (try dsimp only)
          split at h1
          · next v1 hv1 =>
            (try rw [hv1])
            (try dsimp only)
            split at h1
            · next hl => rw [if_pos hl]; exact ih m _ t o h1 h2
            · cases h1
          · cases h1
        · next r1 hr1 =>
          split at h1
          · split at h1
            · cases h1
            · cases h1
          · cases h1
        · cases h1
      · cases h1
theorem ev_go2_mono (stp : ev_S → Option (ev_S ⊕ (ev_R ⊕ (ev_S × ev_S × Nat)))) (N : Nat) : ∀ (n : Nat) (st : ev_S) (o : ev_S ⊕ ev_R), ev_go2 stp N n st = some o → ev_mono st o := by
  intro n
  induction n with
  | zero => intro st o h; obtain rfl := Option.some.inj h; exact ⟨Nat.le_refl _, Nat.le_refl _⟩
  | succ n ih =>
    intro st o h
    unfold ev_go2 at h
    split at h
    · cases h
    · next u hu =>
      split at h
      · next hc =>
        have g := ih _ _ h
        cases o with
        | inl t => exact ⟨Nat.le_trans hc.1 g.1, Nat.le_trans hc.2 g.2⟩
        | inr r => exact ⟨Nat.le_trans hc.1 g.1, Nat.le_trans hc.2 g.2⟩
      · cases h
    · next r hr =>
      split at h
      · next hc =>
        obtain rfl := Option.some.inj h
        exact hc
      · cases h
    · next u v j hj =>
      split at h
      · next hc =>
        split at h
        · next u1 hu1 =>
          split at h
          · next v1 hv1 =>
            split at h
            · next hle =>
              have g1 := ev_run_mono stp _ _ _ _ hu1
              have g2 := (ev_leT_n hle.1).2.2.2.2
              have g3 := ih _ _ h
              cases o with
              | inl t => exact ⟨Nat.le_trans hc.1 (Nat.le_trans g1.1 (Nat.le_trans g2.1 g3.1)), Nat.le_trans hc.2.1 (Nat.le_trans g1.2 (Nat.le_trans g2.2 g3.2))⟩
              | inr r => exact ⟨Nat.le_trans hc.1 (Nat.le_trans g1.1 (Nat.le_trans g2.1 g3.1)), Nat.le_trans hc.2.1 (Nat.le_trans g1.2 (Nat.le_trans g2.2 g3.2))⟩
            · cases h
          · cases h
        · next r1 hr1 =>
          split at h
          · next r2 hr2 =>
            split at h
            · next hle =>
              obtain rfl := Option.some.inj h
              have g1 := ev_run_mono stp _ _ _ _ hr1
              have g2 := (ev_leR_n hle.1).2.2
              exact ⟨Nat.le_trans hc.1 (Nat.le_trans g1.1 g2.1), Nat.le_trans hc.2.1 (Nat.le_trans g1.2 g2.2)⟩
            · cases h
          · cases h
        · cases h
      · cases h
section EVJ
variable {p : Program} {l : Launch} {e : Env} {R : Room} {s : State} {m : MethodId} {args : Array Value} {below : List Frame} {meth : Method} {c : Code} {Q : State → Prop}
variable {D : va_G} {cl : List vw_C} {dA : Nat → ClassId} {kt : List FieldType} {A : Nat → Prop} {ws0 : va_W} {Gs : List Cond} {own : String} {cc : ByteArray} {nL : Nat} {cd : ev_Cd}
theorem ev_go2_ok {stp : ev_S → Option (ev_S ⊕ (ev_R ⊕ (ev_S × ev_S × Nat)))} {N : Nat} (hs : ∀ st o, stp st = some o → ev_SS p l e R s m args below meth c D cl dA kt A ws0 nL cd st o) : ∀ (n : Nat) (st : ev_S) (o : ev_S ⊕ ev_R), ev_go2 stp N n st = some o → ev_RS p l e R s m args below meth c D cl dA kt A ws0 nL cd st o := by
  intro n
  induction n with
  | zero => intro st o h; obtain rfl := Option.some.inj h; exact fun _ _ Q k => k
  | succ n ih =>
    intro st o h
    have hrun := ev_run_ok (p := p) (l := l) (e := e) (R := R) (s := s) (m := m) (args := args) (below := below) (meth := meth) (c := c) (D := D) (cl := cl) (dA := dA) (kt := kt) (A := A) (ws0 := ws0) (nL := nL) (cd := cd) hs
    unfold ev_go2 at h
    split at h
    · cases h
    · next u hu =>
      split at h
      · next hc =>
        have g := ih _ _ h
        have gm := ev_go2_mono stp N _ _ _ h
        have gs := hs _ _ hu
        cases o with
        | inl t => exact fun r1 r2 Q k => gs (Nat.le_trans gm.1 r1) (Nat.le_trans gm.2 r2) Q (g r1 r2 Q k)
        | inr r => exact fun r1 r2 r' w' mc ms e1 e2 e3 e4 => gs (Nat.le_trans gm.1 r1) (Nat.le_trans gm.2 r2) _ (g r1 r2 r' w' mc ms e1 e2 e3 e4)
      · cases h
    · next r hr =>
      split at h
      · next hc =>
        obtain rfl := Option.some.inj h
        exact fun r1 r2 r' w' mc ms e1 e2 e3 e4 => hs _ _ hr r' w' mc ms e1 e2 e3 e4
      · cases h
    · next u v j hj =>
      have gs := hs _ _ hj
      split at h
      · next hc =>
        split at h
        · next u1 hu1 =>
          split at h
          · next v1 hv1 =>
            split at h
            · next hle =>
              have g1 := hrun _ _ _ _ hu1
              have g2 := hrun _ _ _ _ hv1
              have g3 := ih _ _ h
              have gm := ev_go2_mono stp N _ _ _ h
              have n1 := (ev_leT_n hle.1).2.2.2.2
              have n2 := (ev_leT_n hle.2).2.2.2.2
              cases o with
              | inl t => exact fun r1 r2 Q k => gs Q (g1 (Nat.le_trans n1.1 (Nat.le_trans gm.1 r1)) (Nat.le_trans n1.2 (Nat.le_trans gm.2 r2)) Q (ev_weakT hle.1 (g3 r1 r2 Q k))) (g2 (Nat.le_trans n2.1 (Nat.le_trans gm.1 r1)) (Nat.le_trans n2.2 (Nat.le_trans gm.2 r2)) Q (ev_weakT hle.2 (g3 r1 r2 Q k)))
              | inr r => exact fun r1 r2 r' w' mc ms e1 e2 e3 e4 => gs _ (g1 (Nat.le_trans n1.1 (Nat.le_trans gm.1 r1)) (Nat.le_trans n1.2 (Nat.le_trans gm.2 r2)) _ (ev_weakT hle.1 (g3 r1 r2 r' w' mc ms e1 e2 e3 e4))) (g2 (Nat.le_trans n2.1 (Nat.le_trans gm.1 r1)) (Nat.le_trans n2.2 (Nat.le_trans gm.2 r2)) _ (ev_weakT hle.2 (g3 r1 r2 r' w' mc ms e1 e2 e3 e4)))
            · cases h
          · cases h
        · next q1 hr1 =>
          split at h
          · next q2 hr2 =>
            split at h
            · next hle =>
              obtain rfl := Option.some.inj h
              have g1 := hrun _ _ _ _ hr1
              have g2 := hrun _ _ _ _ hr2
              obtain ⟨a1, a2, a3, a4⟩ := ev_leR_n hle.1
              obtain ⟨b1, b2, b3, b4⟩ := ev_leR_n hle.2
              exact fun r1 r2 r' w' mc ms e1 e2 e3 e4 => gs _ (g1 (Nat.le_trans a3 r1) (Nat.le_trans a4 r2) r' w' mc ms (ev_leO_tr a1 e1) (ev_leW_tr a2 e2) (Nat.le_trans a3 e3) (Nat.le_trans a4 e4)) (g2 (Nat.le_trans b3 r1) (Nat.le_trans b4 r2) r' w' mc ms (ev_leO_tr b1 e1) (ev_leW_tr b2 e2) (Nat.le_trans b3 e3) (Nat.le_trans b4 e4))
            · cases h
          · cases h
        · cases h
      · cases h
end EVJ
def ev_eqL : List (Nat × (Nat × Nat × Nat)) → List (Nat × (Nat × Nat × Nat)) → Bool
  | [], [] => true
  | u :: us, v :: vs => (u.1 == v.1 && ev_eqS [u.2] [v.2]) && ev_eqL us vs
  | _, _ => false
theorem ev_eqL_r : ∀ {a b : List (Nat × (Nat × Nat × Nat))}, ev_eqL a b = true → a = b
  | [], [], _ => rfl
  | [], _ :: _, h => by simp [ev_eqL] at h
  | _ :: _, [], h => by simp [ev_eqL] at h
  | (u1, u2) :: us, (v1, v2) :: vs, h => by
    simp only [ev_eqL, Bool.and_eq_true, beq_iff_eq] at h
    obtain ⟨⟨rfl, h1⟩, h2⟩ := h
    rw [ev_eqL_r h2, (List.cons.inj (ev_eqS_r h1)).1]
def ev_sameT (o : Option (ev_S ⊕ ev_R)) (t : ev_S) : Bool := match o with
  | some (.inl u) => (u.1 == t.1 && (ev_eqL u.2.1 t.2.1 && ev_eqS u.2.2.1 t.2.2.1)) && (ev_eqW u.2.2.2.1 t.2.2.2.1 && (u.2.2.2.2.1 == t.2.2.2.2.1 && u.2.2.2.2.2 == t.2.2.2.2.2))
  | _ => false
theorem ev_sameT_r {o : Option (ev_S ⊕ ev_R)} {t : ev_S} (h : ev_sameT o t = true) : o = some (.inl t) := by
  obtain ⟨t1, t2, t3, t4, t5, t6⟩ := t
  unfold ev_sameT at h
  split at h
  · next u =>
    obtain ⟨u1, u2, u3, u4, u5, u6⟩ := u
    simp only [Bool.and_eq_true, beq_iff_eq] at h
    obtain ⟨⟨rfl, h2, h3⟩, h4, rfl, rfl⟩ := h
    rw [ev_eqL_r h2, ev_eqS_r h3, ev_eqW_r h4]
  · cases h
def ev_sameR (o : Option (ev_S ⊕ ev_R)) (r : ev_R) : Bool := match o with
  | some (.inr q) => ev_same (some q) r
  | _ => false
theorem ev_sameR_r {o : Option (ev_S ⊕ ev_R)} {r : ev_R} (h : ev_sameR o r = true) : o = some (.inr r) := by
  unfold ev_sameR at h
  split at h
  · next q => rw [Option.some.inj (ev_same_r h)]
  · cases h
/-- a contract out of a run in pieces -/
theorem ev_seg_ok {Gs : List Cond} {Gc : List (List Cond)} {Ct : List ev_Ct} {kt : List FieldType} {Pg : List ev_Mt} {Ck : List (List ev_Cd)} {sm : ev_Sm} {cl : List vw_C} (hGc : ∀ (h : Nat) (w : Cond), ev_hg Gc h = some w → w ∈ Gs) (hG : ∀ w ∈ Gs, (w.onTables && w.keeps) = true ∨ ∃ ty, w = .arrayClass ty) (hT : ev_okD Gs cl Ct Pg) (hP : ev_okP Gc Ct kt Pg sm) (hCk : ev_okK Pg Ck) (l : Launch) (D : va_G) (dA : Nat → ClassId) (hsm : ∀ q ∈ sm, ∀ (y : MethodName) (bytes : ByteArray) (maxL : Nat) (rt : Option FieldType) (cdm : ev_Cd), Pg[q.1]? = some ((y, bytes, maxL, rt), cdm) → ev_Met l D cl dA kt Gs y bytes maxL rt q.2.1 q.2.2.2.1 q.2.2.2.2.1 q.2.2.2.2.2) (N : Nat) {d n k : Nat} {as : List (Nat × Nat × Nat)} {w : List ev_C} {r : ev_R} {y : MethodName} {bytes : ByteArray} {maxL : Nat} {rt : Option FieldType} {cdm : ev_Cd} {cs : List ev_Cd} (hk : Pg[k]? = some ((y, bytes, maxL, rt), cdm)) (hcsk : Ck[k]? = some cs) (hcs : ev_cs as ≤ maxL) (hrun : ev_go2 (ev_stp2 Ct rt sm d (ev_call2 Pg Ck Ct sm N d) cs) N n (0, ev_la 0 as, [], w, 0, 0) = some (.inr r)) (hrf : ev_leR r r = true) : ev_Met l D cl dA kt Gs y bytes maxL rt (d + 1) as w r := by
  intro av ws sz hsr hwr
  obtain ⟨hpn, hpc0, hins⟩ := hP k y bytes maxL rt cdm hk
  refine Met.ofW (cc := bytes) (maxL := maxL) (ret := rt) hpn rfl ?_
  intro p e s m args below meth c s₁ B hml hv
  obtain ⟨rfl, hsz, hPs, hK, hD0, hTb⟩ := hv
  have hts := atoms_spec (ws := Cond.code y bytes maxL rt :: Gs) B.pre
  have hown : s.vm.findClass y.cls = some m.cls := findClass_of_methodNamed B.named
  have hlocks := B.notSynchronized
  have hnm : meth.name = y.name := (name_of_methodNamed B.named B.method).1
  subst hsz
  have hD := hD0.self (sz := s.heap.size)
  have hl := lv_entry av (n := maxL) (by rw [ev_sl hsr]; exact hcs)
  rw [lg_entry_eq]
  generalize (lg_sl av ++ List.replicate (maxL - (lg_sl av).length) Slot.unset).toArray = ls at hl ⊢
  have X : ev_X p s m av.toArray c D cl dA kt (va_A ws s.heap.size) Gs y.cls bytes maxL := ⟨⟨B.exec, B.bytes, hml, hown, fun w hw => hts w (List.mem_cons_of_mem _ hw)⟩, hK, fun q hq => Or.inr hq, hTb⟩
  have hRS := ev_go2_ok (p := p) (l := l) (e := e) (R := ev_rm (d + 1) r.2.2.1 r.2.2.2) (s := s) (m := m) (args := av.toArray) (below := below) (meth := meth) (c := c) (D := D) (cl := cl) (dA := dA) (kt := kt) (A := va_A ws s.heap.size) (ws0 := ws) (nL := maxL) (cd := cdm) (stp := ev_stp2 Ct rt sm d (ev_call2 Pg Ck Ct sm N d) cs) (N := N) (fun st o ho => by
    unfold ev_stp2 at ho
    split at ho
    · cases ho
    · next i hi => exact ev_opx_ok X hGc hG hT hnm B.returns hlocks rfl rfl (ev_call2_ok hGc hG hT hP hCk l D dA hsm N d) rfl hsm (hins _ _ (hCk k _ cs hk hcsk _ _ hi)) ho) n _ _ hrun (Nat.le_refl _) (Nat.le_refl _)
  obtain ⟨f1, f2, -, -⟩ := ev_leR_n hrf
  have hW := hRS r.1 r.2.1 r.2.2.1 r.2.2.2 f1 f2 (Nat.le_refl _) (Nat.le_refl _) s.heap [] ls [] (lv_args 0 av) ws hl (ev_la_r 0 hsr) trivial hwr (ev_E.rf _ _) hPs hD va_S.rf
  have hW : W p l e (ev_rm (d + 1) r.2.2.1 r.2.2.2) s m av.toArray below meth c s.heap [] 0 0 (MQ below (ev_Q D cl dA kt ws (va_A ws s.heap.size) r.1 r.2.1) av.toArray s r.2.2.1 r.2.2.2 (va_A ws s.heap.size)) (F0 m (ev_pc cdm 0) ls []) := hW
  rw [hpc0] at hW
  exact hW

/-- one contract more, by a run in pieces -/
theorem ev_SM_add3 {Gs : List Cond} {Gc : List (List Cond)} {Ct : List ev_Ct} {kt : List FieldType} {Pg : List ev_Mt} {Ck : List (List ev_Cd)} {sm : ev_Sm} {cl : List vw_C} (hGc : ∀ (h : Nat) (w : Cond), ev_hg Gc h = some w → w ∈ Gs) (hG : ∀ w ∈ Gs, (w.onTables && w.keeps) = true ∨ ∃ ty, w = .arrayClass ty) (hT : ev_okD Gs cl Ct Pg) (hP : ∀ sm, ev_okP Gc Ct kt Pg sm) (hCk : ev_okK Pg Ck) {l : Launch} {D : va_G} {dA : Nat → ClassId} (hsm : ev_SM l D cl dA kt Gs Pg sm) {N k d n : Nat} {ps : List (Nat × Nat)} {as : List (Nat × Nat × Nat)} {w : List ev_C} {r : ev_R} {q0 : ev_Mt} {cs : List ev_Cd} (hk0 : Pg[k]? = some q0) (hcsk : Ck[k]? = some cs) (hcs : ev_cs as ≤ q0.1.2.2.1) (hrun : ev_go2 (ev_stp2 Ct q0.1.2.2.2 sm d (ev_call2 Pg Ck Ct sm N d) cs) N n (0, ev_la 0 as, [], w, 0, 0) = some (.inr r)) (hrf : ev_leR r r = true) : ev_SM l D cl dA kt Gs Pg ((k, d + 1, ps, as, w, r) :: sm) := fun q hq y bytes maxL rt cdm hk => by
  rcases List.mem_cons.mp hq with rfl | hq
  · have hk : Pg[k]? = some ((y, bytes, maxL, rt), cdm) := hk
    rw [hk0] at hk
    obtain rfl := Option.some.inj hk
    exact ev_seg_ok hGc hG hT (hP sm) hCk l D dA hsm N hk0 hcsk hcs hrun hrf
  · exact hsm q hq y bytes maxL rt cdm hk
