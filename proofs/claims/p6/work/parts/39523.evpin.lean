/-! Steps while some locals stay as they are: they stand behind the others, each with its exact value -/
def ev_pf (F : List (Nat × (Nat × Nat × Nat))) (st : ev_S) : ev_S := (st.1, st.2.1 ++ F, st.2.2)
/-- F's locals are of Ks, and ints -/
def ev_pin (Ks : List Nat) (F : List (Nat × (Nat × Nat × Nat))) : Prop := ∀ q ∈ F, q.1 ∈ Ks ∧ q.2.1 = 0
theorem ev_get_app {L F : List (Nat × (Nat × Nat × Nat))} {a : Nat} {v : ev_V} : ev_get L a = some v → ev_get (L ++ F) a = some v := by
  induction L with
  | nil => intro h; cases h
  | cons q L ih =>
    intro h
    rw [List.cons_append]
    unfold ev_get at h ⊢
    split at h
    · next hq => rw [if_pos hq]; exact h
    · next hq => rw [if_neg hq]; exact ih h
theorem ev_fil {F : List (Nat × (Nat × Nat × Nat))} {Ks : List Nat} (hF : ev_pin Ks F) {a : Nat} (ha : a ∉ Ks) : F.filter (fun q => !(q.1 == a) && !(q.1 + 1 == a && q.2.1 == 1)) = F := by
  rw [List.filter_eq_self]
  intro q hq
  obtain ⟨h1, h2⟩ := hF q hq
  have : q.1 ≠ a := fun e => ha (e ▸ h1)
  simp [this, h2]
theorem ev_fil2 {F : List (Nat × (Nat × Nat × Nat))} {Ks : List Nat} (hF : ev_pin Ks F) {a : Nat} (ha : a ∉ Ks) (ha2 : a + 1 ∉ Ks) : F.filter (fun q => !(q.1 == a) && (!(q.1 == a + 1) && !(q.1 + 1 == a && q.2.1 == 1))) = F := by
  rw [List.filter_eq_self]
  intro q hq
  obtain ⟨h1, h2⟩ := hF q hq
  have e1 : q.1 ≠ a := fun e => ha (e ▸ h1)
  have e2 : q.1 ≠ a + 1 := fun e => ha2 (e ▸ h1)
  simp [e1, e2, h2]
theorem ev_put_app {L F : List (Nat × (Nat × Nat × Nat))} {Ks : List Nat} (hF : ev_pin Ks F) {a : Nat} (ha : a ∉ Ks) (v : ev_V) : ev_put (L ++ F) a v = ev_put L a v ++ F := by
  unfold ev_put
  rw [List.filter_append, ev_fil hF ha, List.cons_append]
theorem ev_put2_app {L F : List (Nat × (Nat × Nat × Nat))} {Ks : List Nat} (hF : ev_pin Ks F) {a : Nat} (ha : a ∉ Ks) (ha2 : a + 1 ∉ Ks) (v : ev_V) : ev_put2 (L ++ F) a v = ev_put2 L a v ++ F := by
  unfold ev_put2
  rw [List.filter_append, ev_fil2 hF ha ha2, List.cons_append]
/-- which locals an instruction may not write -/
def ev_safe (Ks : List Nat) (i : ev_I) : Bool := if i.2.1 = 10 ∨ i.2.1 = 11 ∨ i.2.1 = 12 ∨ i.2.1 = 13 ∨ i.2.1 = 14 ∨ i.2.1 = 83 then decide (i.2.2.1 ∉ Ks) else if i.2.1 = 38 ∨ i.2.1 = 39 then decide (i.2.2.1 ∉ Ks) && decide (i.2.2.1 + 1 ∉ Ks) else true
theorem ev_safe1 {Ks : List Nat} {i : ev_I} (h : ev_safe Ks i = true) (ho : i.2.1 = 10 ∨ i.2.1 = 11 ∨ i.2.1 = 12 ∨ i.2.1 = 13 ∨ i.2.1 = 14 ∨ i.2.1 = 83) : i.2.2.1 ∉ Ks := by
  unfold ev_safe at h
  rw [if_pos ho] at h
  exact of_decide_eq_true h
theorem ev_safe2 {Ks : List Nat} {i : ev_I} (h : ev_safe Ks i = true) (ho : i.2.1 = 38 ∨ i.2.1 = 39) : i.2.2.1 ∉ Ks ∧ i.2.2.1 + 1 ∉ Ks := by
  unfold ev_safe at h
  rw [if_neg (by omega), if_pos ho, Bool.and_eq_true] at h
  exact ⟨of_decide_eq_true h.1, of_decide_eq_true h.2⟩
def ev_SF (p : Program) (l : Launch) (e : Env) (R : Room) (s : State) (m : MethodId) (args : Array Value) (below : List Frame) (meth : Method) (c : Code) (D : va_G) (cl : List vw_C) (dA : Nat → ClassId) (A : Nat → Prop) (ws0 : va_W) (nL : Nat) (cd : ev_Cd) (F : List (Nat × (Nat × Nat × Nat))) (st u : ev_S) : Prop := u.2.2.2.2.1 ≤ R.cells → u.2.2.2.2.2 ≤ R.slots → ∀ Q, ev_G p l e R s m args below meth c Q D cl dA A ws0 nL cd (ev_pf F u) → ev_G p l e R s m args below meth c Q D cl dA A ws0 nL cd (ev_pf F st)
section EVQ
variable {p : Program} {l : Launch} {e : Env} {R : Room} {s : State} {m : MethodId} {args : Array Value} {below : List Frame} {meth : Method} {c : Code} {Q : State → Prop}
variable {D : va_G} {cl : List vw_C} {dA : Nat → ClassId} {kt : List FieldType} {A : Nat → Prop} {ws0 : va_W} {Gs : List Cond} {own : String} {cc : ByteArray} {nL : Nat} {cd : ev_Cd}
variable {Gc : List (List Cond)} {Ct : List ev_Ct} {Pg : List ev_Mt} {sm : ev_Sm} {nm : String} {ret : Option FieldType} {d dd : Nat} {call : Nat → List (Nat × Nat × Nat) → List ev_C → Option ev_R}
variable {i : ev_I} {st u : ev_S} {F : List (Nat × (Nat × Nat × Nat))}
theorem ev_way_okF {u1 v1 : ev_S} {j : Nat} {a b : Bool} (h : ev_way u1 v1 j a b = some (.inl u)) (k : ∀ Q, (a = true → ev_G p l e R s m args below meth c Q D cl dA A ws0 nL cd (ev_pf F u1)) → (b = true → ev_G p l e R s m args below meth c Q D cl dA A ws0 nL cd (ev_pf F v1)) → ev_G p l e R s m args below meth c Q D cl dA A ws0 nL cd (ev_pf F st)) : ev_SF p l e R s m args below meth c D cl dA A ws0 nL cd F st u := by
  unfold ev_way at h
  cases a <;> cases b <;> simp at h
  · subst h; exact fun _ _ Q g => k Q (fun q => by cases q) (fun _ => g)
  · subst h; exact fun _ _ Q g => k Q (fun _ => g) (fun q => by cases q)
theorem ev_way_okJ {u1 v1 u2 : ev_S} {j j9 : Nat} {a b : Bool} (h : ev_way u1 v1 j a b = some (.inr (.inr (u, u2, j9)))) (k : ∀ Q, (a = true → ev_G p l e R s m args below meth c Q D cl dA A ws0 nL cd (ev_pf F u1)) → (b = true → ev_G p l e R s m args below meth c Q D cl dA A ws0 nL cd (ev_pf F v1)) → ev_G p l e R s m args below meth c Q D cl dA A ws0 nL cd (ev_pf F st)) : ∀ Q, ev_G p l e R s m args below meth c Q D cl dA A ws0 nL cd (ev_pf F u) → ev_G p l e R s m args below meth c Q D cl dA A ws0 nL cd (ev_pf F u2) → ev_G p l e R s m args below meth c Q D cl dA A ws0 nL cd (ev_pf F st) := by
  unfold ev_way at h
  cases a <;> cases b <;> simp at h
  obtain ⟨rfl, rfl, -⟩ := h
  exact fun Q g1 g2 => k Q (fun _ => g1) (fun _ => g2)
theorem ev_q0 (X : ev_X p s m args c D cl dA kt A Gs own cc nL) (hGc : ∀ (h : Nat) (w : Cond), ev_hg Gc h = some w → w ∈ Gs) (hG : ∀ w ∈ Gs, (w.onTables && w.keeps) = true ∨ ∃ ty, w = .arrayClass ty) (hT : ev_okD Gs cl Ct Pg) (hnm : meth.name = nm) (hret : meth.sig.returnType = ret) (hlk : meth.locks = false) (hRf : R.frames = d + 1) (hRl : R.locals = 90 * (d + 1)) (hcl : ∀ (k : Nat) (as : List (Nat × Nat × Nat)) (w : List ev_C) (r : ev_R), call k as w = some r → ∀ (y : MethodName) (bytes : ByteArray) (maxL : Nat) (rt : Option FieldType) (cdm : ev_Cd), Pg[k]? = some ((y, bytes, maxL, rt), cdm) → ev_Met l D cl dA kt Gs y bytes maxL rt d as w r) (hdd : dd = d) (hsm : ∀ q ∈ sm, ∀ (y : MethodName) (bytes : ByteArray) (maxL : Nat) (rt : Option FieldType) (cdm : ev_Cd), Pg[q.1]? = some ((y, bytes, maxL, rt), cdm) → ev_Met l D cl dA kt Gs y bytes maxL rt q.2.1 q.2.2.2.1 q.2.2.2.2.1 q.2.2.2.2.2) {Ks : List Nat} (hF : ev_pin Ks F) (hsafe : ev_safe Ks i = true) (hop : i.2.1 = 0) (hok : ev_k0 Gc Ct kt Pg sm own nm cc nL ret cd st.1 i = true) (h : ev_o0 Ct ret sm dd call i st = some (.inl u)) : ev_SF p l e R s m args below meth c D cl dA A ws0 nL cd F st u := by
  obtain ⟨ix, L, S, w, nc, ns⟩ := st
  unfold ev_k0 at hok
  unfold ev_o0 at h
  simp only [Bool.and_eq_true, decide_eq_true_eq] at hok
  cases h
theorem ev_q1 (X : ev_X p s m args c D cl dA kt A Gs own cc nL) (hGc : ∀ (h : Nat) (w : Cond), ev_hg Gc h = some w → w ∈ Gs) (hG : ∀ w ∈ Gs, (w.onTables && w.keeps) = true ∨ ∃ ty, w = .arrayClass ty) (hT : ev_okD Gs cl Ct Pg) (hnm : meth.name = nm) (hret : meth.sig.returnType = ret) (hlk : meth.locks = false) (hRf : R.frames = d + 1) (hRl : R.locals = 90 * (d + 1)) (hcl : ∀ (k : Nat) (as : List (Nat × Nat × Nat)) (w : List ev_C) (r : ev_R), call k as w = some r → ∀ (y : MethodName) (bytes : ByteArray) (maxL : Nat) (rt : Option FieldType) (cdm : ev_Cd), Pg[k]? = some ((y, bytes, maxL, rt), cdm) → ev_Met l D cl dA kt Gs y bytes maxL rt d as w r) (hdd : dd = d) (hsm : ∀ q ∈ sm, ∀ (y : MethodName) (bytes : ByteArray) (maxL : Nat) (rt : Option FieldType) (cdm : ev_Cd), Pg[q.1]? = some ((y, bytes, maxL, rt), cdm) → ev_Met l D cl dA kt Gs y bytes maxL rt q.2.1 q.2.2.2.1 q.2.2.2.2.1 q.2.2.2.2.2) {Ks : List Nat} (hF : ev_pin Ks F) (hsafe : ev_safe Ks i = true) (hop : i.2.1 = 1) (hok : ev_k1 Gc Ct kt Pg sm own nm cc nL ret cd st.1 i = true) (h : ev_o1 Ct ret sm dd call i st = some (.inl u)) : ev_SF p l e R s m args below meth c D cl dA A ws0 nL cd F st u := by
  obtain ⟨ix, L, S, w, nc, ns⟩ := st
  unfold ev_k1 at hok
  unfold ev_o1 at h
  simp only [Bool.and_eq_true, decide_eq_true_eq] at hok
  have hu := Sum.inl.inj (Option.some.inj h)
  subst hu
  exact fun _ _ Q k => ev_s_iconst X hok.1.1 hok.2 hok.1.2 k
theorem ev_q2 (X : ev_X p s m args c D cl dA kt A Gs own cc nL) (hGc : ∀ (h : Nat) (w : Cond), ev_hg Gc h = some w → w ∈ Gs) (hG : ∀ w ∈ Gs, (w.onTables && w.keeps) = true ∨ ∃ ty, w = .arrayClass ty) (hT : ev_okD Gs cl Ct Pg) (hnm : meth.name = nm) (hret : meth.sig.returnType = ret) (hlk : meth.locks = false) (hRf : R.frames = d + 1) (hRl : R.locals = 90 * (d + 1)) (hcl : ∀ (k : Nat) (as : List (Nat × Nat × Nat)) (w : List ev_C) (r : ev_R), call k as w = some r → ∀ (y : MethodName) (bytes : ByteArray) (maxL : Nat) (rt : Option FieldType) (cdm : ev_Cd), Pg[k]? = some ((y, bytes, maxL, rt), cdm) → ev_Met l D cl dA kt Gs y bytes maxL rt d as w r) (hdd : dd = d) (hsm : ∀ q ∈ sm, ∀ (y : MethodName) (bytes : ByteArray) (maxL : Nat) (rt : Option FieldType) (cdm : ev_Cd), Pg[q.1]? = some ((y, bytes, maxL, rt), cdm) → ev_Met l D cl dA kt Gs y bytes maxL rt q.2.1 q.2.2.2.1 q.2.2.2.2.1 q.2.2.2.2.2) {Ks : List Nat} (hF : ev_pin Ks F) (hsafe : ev_safe Ks i = true) (hop : i.2.1 = 2) (hok : ev_k2 Gc Ct kt Pg sm own nm cc nL ret cd st.1 i = true) (h : ev_o2 Ct ret sm dd call i st = some (.inl u)) : ev_SF p l e R s m args below meth c D cl dA A ws0 nL cd F st u := by
  obtain ⟨ix, L, S, w, nc, ns⟩ := st
  unfold ev_k2 at hok
  unfold ev_o2 at h
  simp only [Bool.and_eq_true, decide_eq_true_eq] at hok
  have hu := Sum.inl.inj (Option.some.inj h)
  subst hu
  exact fun _ _ Q k => ev_s_bipush X hok.1.1 hok.2 hok.1.2 k
theorem ev_q3 (X : ev_X p s m args c D cl dA kt A Gs own cc nL) (hGc : ∀ (h : Nat) (w : Cond), ev_hg Gc h = some w → w ∈ Gs) (hG : ∀ w ∈ Gs, (w.onTables && w.keeps) = true ∨ ∃ ty, w = .arrayClass ty) (hT : ev_okD Gs cl Ct Pg) (hnm : meth.name = nm) (hret : meth.sig.returnType = ret) (hlk : meth.locks = false) (hRf : R.frames = d + 1) (hRl : R.locals = 90 * (d + 1)) (hcl : ∀ (k : Nat) (as : List (Nat × Nat × Nat)) (w : List ev_C) (r : ev_R), call k as w = some r → ∀ (y : MethodName) (bytes : ByteArray) (maxL : Nat) (rt : Option FieldType) (cdm : ev_Cd), Pg[k]? = some ((y, bytes, maxL, rt), cdm) → ev_Met l D cl dA kt Gs y bytes maxL rt d as w r) (hdd : dd = d) (hsm : ∀ q ∈ sm, ∀ (y : MethodName) (bytes : ByteArray) (maxL : Nat) (rt : Option FieldType) (cdm : ev_Cd), Pg[q.1]? = some ((y, bytes, maxL, rt), cdm) → ev_Met l D cl dA kt Gs y bytes maxL rt q.2.1 q.2.2.2.1 q.2.2.2.2.1 q.2.2.2.2.2) {Ks : List Nat} (hF : ev_pin Ks F) (hsafe : ev_safe Ks i = true) (hop : i.2.1 = 3) (hok : ev_k3 Gc Ct kt Pg sm own nm cc nL ret cd st.1 i = true) (h : ev_o3 Ct ret sm dd call i st = some (.inl u)) : ev_SF p l e R s m args below meth c D cl dA A ws0 nL cd F st u := by
  obtain ⟨ix, L, S, w, nc, ns⟩ := st
  unfold ev_k3 at hok
  unfold ev_o3 at h
  simp only [Bool.and_eq_true, decide_eq_true_eq] at hok
  have hu := Sum.inl.inj (Option.some.inj h)
  subst hu
  exact fun _ _ Q k => ev_s_sipush X hok.1.1 hok.2 hok.1.2 k
theorem ev_q4 (X : ev_X p s m args c D cl dA kt A Gs own cc nL) (hGc : ∀ (h : Nat) (w : Cond), ev_hg Gc h = some w → w ∈ Gs) (hG : ∀ w ∈ Gs, (w.onTables && w.keeps) = true ∨ ∃ ty, w = .arrayClass ty) (hT : ev_okD Gs cl Ct Pg) (hnm : meth.name = nm) (hret : meth.sig.returnType = ret) (hlk : meth.locks = false) (hRf : R.frames = d + 1) (hRl : R.locals = 90 * (d + 1)) (hcl : ∀ (k : Nat) (as : List (Nat × Nat × Nat)) (w : List ev_C) (r : ev_R), call k as w = some r → ∀ (y : MethodName) (bytes : ByteArray) (maxL : Nat) (rt : Option FieldType) (cdm : ev_Cd), Pg[k]? = some ((y, bytes, maxL, rt), cdm) → ev_Met l D cl dA kt Gs y bytes maxL rt d as w r) (hdd : dd = d) (hsm : ∀ q ∈ sm, ∀ (y : MethodName) (bytes : ByteArray) (maxL : Nat) (rt : Option FieldType) (cdm : ev_Cd), Pg[q.1]? = some ((y, bytes, maxL, rt), cdm) → ev_Met l D cl dA kt Gs y bytes maxL rt q.2.1 q.2.2.2.1 q.2.2.2.2.1 q.2.2.2.2.2) {Ks : List Nat} (hF : ev_pin Ks F) (hsafe : ev_safe Ks i = true) (hop : i.2.1 = 4) (hok : ev_k4 Gc Ct kt Pg sm own nm cc nL ret cd st.1 i = true) (h : ev_o4 Ct ret sm dd call i st = some (.inl u)) : ev_SF p l e R s m args below meth c D cl dA A ws0 nL cd F st u := by
  obtain ⟨ix, L, S, w, nc, ns⟩ := st
  unfold ev_k4 at hok
  unfold ev_o4 at h
  simp only [Bool.and_eq_true, decide_eq_true_eq] at hok
  have hu := Sum.inl.inj (Option.some.inj h)
  subst hu
  exact fun _ _ Q k => ev_s_ldc X hok.1.1.1 (hGc _ _ hok.1.2) hok.2 hok.1.1.2 k
theorem ev_q5 (X : ev_X p s m args c D cl dA kt A Gs own cc nL) (hGc : ∀ (h : Nat) (w : Cond), ev_hg Gc h = some w → w ∈ Gs) (hG : ∀ w ∈ Gs, (w.onTables && w.keeps) = true ∨ ∃ ty, w = .arrayClass ty) (hT : ev_okD Gs cl Ct Pg) (hnm : meth.name = nm) (hret : meth.sig.returnType = ret) (hlk : meth.locks = false) (hRf : R.frames = d + 1) (hRl : R.locals = 90 * (d + 1)) (hcl : ∀ (k : Nat) (as : List (Nat × Nat × Nat)) (w : List ev_C) (r : ev_R), call k as w = some r → ∀ (y : MethodName) (bytes : ByteArray) (maxL : Nat) (rt : Option FieldType) (cdm : ev_Cd), Pg[k]? = some ((y, bytes, maxL, rt), cdm) → ev_Met l D cl dA kt Gs y bytes maxL rt d as w r) (hdd : dd = d) (hsm : ∀ q ∈ sm, ∀ (y : MethodName) (bytes : ByteArray) (maxL : Nat) (rt : Option FieldType) (cdm : ev_Cd), Pg[q.1]? = some ((y, bytes, maxL, rt), cdm) → ev_Met l D cl dA kt Gs y bytes maxL rt q.2.1 q.2.2.2.1 q.2.2.2.2.1 q.2.2.2.2.2) {Ks : List Nat} (hF : ev_pin Ks F) (hsafe : ev_safe Ks i = true) (hop : i.2.1 = 5) (hok : ev_k5 Gc Ct kt Pg sm own nm cc nL ret cd st.1 i = true) (h : ev_o5 Ct ret sm dd call i st = some (.inl u)) : ev_SF p l e R s m args below meth c D cl dA A ws0 nL cd F st u := by
  obtain ⟨ix, L, S, w, nc, ns⟩ := st
  unfold ev_k5 at hok
  unfold ev_o5 at h
  simp only [Bool.and_eq_true, decide_eq_true_eq] at hok
  have hu := Sum.inl.inj (Option.some.inj h)
  subst hu
  exact fun _ _ Q k => ev_s_ldcw X hok.1.1.1 (hGc _ _ hok.1.2) hok.2 hok.1.1.2 k
theorem ev_q6 (X : ev_X p s m args c D cl dA kt A Gs own cc nL) (hGc : ∀ (h : Nat) (w : Cond), ev_hg Gc h = some w → w ∈ Gs) (hG : ∀ w ∈ Gs, (w.onTables && w.keeps) = true ∨ ∃ ty, w = .arrayClass ty) (hT : ev_okD Gs cl Ct Pg) (hnm : meth.name = nm) (hret : meth.sig.returnType = ret) (hlk : meth.locks = false) (hRf : R.frames = d + 1) (hRl : R.locals = 90 * (d + 1)) (hcl : ∀ (k : Nat) (as : List (Nat × Nat × Nat)) (w : List ev_C) (r : ev_R), call k as w = some r → ∀ (y : MethodName) (bytes : ByteArray) (maxL : Nat) (rt : Option FieldType) (cdm : ev_Cd), Pg[k]? = some ((y, bytes, maxL, rt), cdm) → ev_Met l D cl dA kt Gs y bytes maxL rt d as w r) (hdd : dd = d) (hsm : ∀ q ∈ sm, ∀ (y : MethodName) (bytes : ByteArray) (maxL : Nat) (rt : Option FieldType) (cdm : ev_Cd), Pg[q.1]? = some ((y, bytes, maxL, rt), cdm) → ev_Met l D cl dA kt Gs y bytes maxL rt q.2.1 q.2.2.2.1 q.2.2.2.2.1 q.2.2.2.2.2) {Ks : List Nat} (hF : ev_pin Ks F) (hsafe : ev_safe Ks i = true) (hop : i.2.1 = 6) (hok : ev_k6 Gc Ct kt Pg sm own nm cc nL ret cd st.1 i = true) (h : ev_o6 Ct ret sm dd call i st = some (.inl u)) : ev_SF p l e R s m args below meth c D cl dA A ws0 nL cd F st u := by
  obtain ⟨ix, L, S, w, nc, ns⟩ := st
  unfold ev_k6 at hok
  unfold ev_o6 at h
  simp only [Bool.and_eq_true, decide_eq_true_eq] at hok
  split at h
  · next v hg =>
    split at h
    · next hv =>
      have hu := Sum.inl.inj (Option.some.inj h)
      subst hu
      exact fun _ _ Q k => ev_s_iload_n X hok.1.1 (Nat.mod_eq_of_lt hok.2) hok.1.2 (ev_get_app hg) hv k
    · cases h
  · cases h
theorem ev_q7 (X : ev_X p s m args c D cl dA kt A Gs own cc nL) (hGc : ∀ (h : Nat) (w : Cond), ev_hg Gc h = some w → w ∈ Gs) (hG : ∀ w ∈ Gs, (w.onTables && w.keeps) = true ∨ ∃ ty, w = .arrayClass ty) (hT : ev_okD Gs cl Ct Pg) (hnm : meth.name = nm) (hret : meth.sig.returnType = ret) (hlk : meth.locks = false) (hRf : R.frames = d + 1) (hRl : R.locals = 90 * (d + 1)) (hcl : ∀ (k : Nat) (as : List (Nat × Nat × Nat)) (w : List ev_C) (r : ev_R), call k as w = some r → ∀ (y : MethodName) (bytes : ByteArray) (maxL : Nat) (rt : Option FieldType) (cdm : ev_Cd), Pg[k]? = some ((y, bytes, maxL, rt), cdm) → ev_Met l D cl dA kt Gs y bytes maxL rt d as w r) (hdd : dd = d) (hsm : ∀ q ∈ sm, ∀ (y : MethodName) (bytes : ByteArray) (maxL : Nat) (rt : Option FieldType) (cdm : ev_Cd), Pg[q.1]? = some ((y, bytes, maxL, rt), cdm) → ev_Met l D cl dA kt Gs y bytes maxL rt q.2.1 q.2.2.2.1 q.2.2.2.2.1 q.2.2.2.2.2) {Ks : List Nat} (hF : ev_pin Ks F) (hsafe : ev_safe Ks i = true) (hop : i.2.1 = 7) (hok : ev_k7 Gc Ct kt Pg sm own nm cc nL ret cd st.1 i = true) (h : ev_o7 Ct ret sm dd call i st = some (.inl u)) : ev_SF p l e R s m args below meth c D cl dA A ws0 nL cd F st u := by
  obtain ⟨ix, L, S, w, nc, ns⟩ := st
  unfold ev_k7 at hok
  unfold ev_o7 at h
  simp only [Bool.and_eq_true, decide_eq_true_eq] at hok
  split at h
  · next v hg =>
    split at h
    · next hv =>
      have hu := Sum.inl.inj (Option.some.inj h)
      subst hu
      exact fun _ _ Q k => ev_s_iload X hok.1 hok.2 (ev_get_app hg) hv k
    · cases h
  · cases h
theorem ev_q8 (X : ev_X p s m args c D cl dA kt A Gs own cc nL) (hGc : ∀ (h : Nat) (w : Cond), ev_hg Gc h = some w → w ∈ Gs) (hG : ∀ w ∈ Gs, (w.onTables && w.keeps) = true ∨ ∃ ty, w = .arrayClass ty) (hT : ev_okD Gs cl Ct Pg) (hnm : meth.name = nm) (hret : meth.sig.returnType = ret) (hlk : meth.locks = false) (hRf : R.frames = d + 1) (hRl : R.locals = 90 * (d + 1)) (hcl : ∀ (k : Nat) (as : List (Nat × Nat × Nat)) (w : List ev_C) (r : ev_R), call k as w = some r → ∀ (y : MethodName) (bytes : ByteArray) (maxL : Nat) (rt : Option FieldType) (cdm : ev_Cd), Pg[k]? = some ((y, bytes, maxL, rt), cdm) → ev_Met l D cl dA kt Gs y bytes maxL rt d as w r) (hdd : dd = d) (hsm : ∀ q ∈ sm, ∀ (y : MethodName) (bytes : ByteArray) (maxL : Nat) (rt : Option FieldType) (cdm : ev_Cd), Pg[q.1]? = some ((y, bytes, maxL, rt), cdm) → ev_Met l D cl dA kt Gs y bytes maxL rt q.2.1 q.2.2.2.1 q.2.2.2.2.1 q.2.2.2.2.2) {Ks : List Nat} (hF : ev_pin Ks F) (hsafe : ev_safe Ks i = true) (hop : i.2.1 = 8) (hok : ev_k8 Gc Ct kt Pg sm own nm cc nL ret cd st.1 i = true) (h : ev_o8 Ct ret sm dd call i st = some (.inl u)) : ev_SF p l e R s m args below meth c D cl dA A ws0 nL cd F st u := by
  obtain ⟨ix, L, S, w, nc, ns⟩ := st
  unfold ev_k8 at hok
  unfold ev_o8 at h
  simp only [Bool.and_eq_true, decide_eq_true_eq] at hok
  split at h
  · next v hg =>
    split at h
    · next hv =>
      have hu := Sum.inl.inj (Option.some.inj h)
      subst hu
      exact fun _ _ Q k => ev_s_aload_n X hok.1.1 (Nat.mod_eq_of_lt hok.2) hok.1.2 (ev_get_app hg) hv k
    · cases h
  · cases h
theorem ev_q9 (X : ev_X p s m args c D cl dA kt A Gs own cc nL) (hGc : ∀ (h : Nat) (w : Cond), ev_hg Gc h = some w → w ∈ Gs) (hG : ∀ w ∈ Gs, (w.onTables && w.keeps) = true ∨ ∃ ty, w = .arrayClass ty) (hT : ev_okD Gs cl Ct Pg) (hnm : meth.name = nm) (hret : meth.sig.returnType = ret) (hlk : meth.locks = false) (hRf : R.frames = d + 1) (hRl : R.locals = 90 * (d + 1)) (hcl : ∀ (k : Nat) (as : List (Nat × Nat × Nat)) (w : List ev_C) (r : ev_R), call k as w = some r → ∀ (y : MethodName) (bytes : ByteArray) (maxL : Nat) (rt : Option FieldType) (cdm : ev_Cd), Pg[k]? = some ((y, bytes, maxL, rt), cdm) → ev_Met l D cl dA kt Gs y bytes maxL rt d as w r) (hdd : dd = d) (hsm : ∀ q ∈ sm, ∀ (y : MethodName) (bytes : ByteArray) (maxL : Nat) (rt : Option FieldType) (cdm : ev_Cd), Pg[q.1]? = some ((y, bytes, maxL, rt), cdm) → ev_Met l D cl dA kt Gs y bytes maxL rt q.2.1 q.2.2.2.1 q.2.2.2.2.1 q.2.2.2.2.2) {Ks : List Nat} (hF : ev_pin Ks F) (hsafe : ev_safe Ks i = true) (hop : i.2.1 = 9) (hok : ev_k9 Gc Ct kt Pg sm own nm cc nL ret cd st.1 i = true) (h : ev_o9 Ct ret sm dd call i st = some (.inl u)) : ev_SF p l e R s m args below meth c D cl dA A ws0 nL cd F st u := by
  obtain ⟨ix, L, S, w, nc, ns⟩ := st
  unfold ev_k9 at hok
  unfold ev_o9 at h
  simp only [Bool.and_eq_true, decide_eq_true_eq] at hok
  split at h
  · next v hg =>
    split at h
    · next hv =>
      have hu := Sum.inl.inj (Option.some.inj h)
      subst hu
      exact fun _ _ Q k => ev_s_aload X hok.1 hok.2 (ev_get_app hg) hv k
    · cases h
  · cases h
theorem ev_q10 (X : ev_X p s m args c D cl dA kt A Gs own cc nL) (hGc : ∀ (h : Nat) (w : Cond), ev_hg Gc h = some w → w ∈ Gs) (hG : ∀ w ∈ Gs, (w.onTables && w.keeps) = true ∨ ∃ ty, w = .arrayClass ty) (hT : ev_okD Gs cl Ct Pg) (hnm : meth.name = nm) (hret : meth.sig.returnType = ret) (hlk : meth.locks = false) (hRf : R.frames = d + 1) (hRl : R.locals = 90 * (d + 1)) (hcl : ∀ (k : Nat) (as : List (Nat × Nat × Nat)) (w : List ev_C) (r : ev_R), call k as w = some r → ∀ (y : MethodName) (bytes : ByteArray) (maxL : Nat) (rt : Option FieldType) (cdm : ev_Cd), Pg[k]? = some ((y, bytes, maxL, rt), cdm) → ev_Met l D cl dA kt Gs y bytes maxL rt d as w r) (hdd : dd = d) (hsm : ∀ q ∈ sm, ∀ (y : MethodName) (bytes : ByteArray) (maxL : Nat) (rt : Option FieldType) (cdm : ev_Cd), Pg[q.1]? = some ((y, bytes, maxL, rt), cdm) → ev_Met l D cl dA kt Gs y bytes maxL rt q.2.1 q.2.2.2.1 q.2.2.2.2.1 q.2.2.2.2.2) {Ks : List Nat} (hF : ev_pin Ks F) (hsafe : ev_safe Ks i = true) (hop : i.2.1 = 10) (hok : ev_k10 Gc Ct kt Pg sm own nm cc nL ret cd st.1 i = true) (h : ev_o10 Ct ret sm dd call i st = some (.inl u)) : ev_SF p l e R s m args below meth c D cl dA A ws0 nL cd F st u := by
  obtain ⟨ix, L, S, w, nc, ns⟩ := st
  unfold ev_k10 at hok
  unfold ev_o10 at h
  simp only [Bool.and_eq_true, decide_eq_true_eq] at hok
  split at h
  · next v S1 hS =>
    have hS : S = v :: S1 := hS
    subst hS
    split at h
    · next hv =>
      have hu := Sum.inl.inj (Option.some.inj h)
      subst hu
      exact fun _ _ Q k => ev_s_istore_n X hok.1.1.1 (Nat.mod_eq_of_lt hok.1.2) hok.1.1.2 hok.2 hv (by rw [ev_put_app hF (ev_safe1 hsafe (by omega))]; exact k)
    · cases h
  · cases h
theorem ev_q11 (X : ev_X p s m args c D cl dA kt A Gs own cc nL) (hGc : ∀ (h : Nat) (w : Cond), ev_hg Gc h = some w → w ∈ Gs) (hG : ∀ w ∈ Gs, (w.onTables && w.keeps) = true ∨ ∃ ty, w = .arrayClass ty) (hT : ev_okD Gs cl Ct Pg) (hnm : meth.name = nm) (hret : meth.sig.returnType = ret) (hlk : meth.locks = false) (hRf : R.frames = d + 1) (hRl : R.locals = 90 * (d + 1)) (hcl : ∀ (k : Nat) (as : List (Nat × Nat × Nat)) (w : List ev_C) (r : ev_R), call k as w = some r → ∀ (y : MethodName) (bytes : ByteArray) (maxL : Nat) (rt : Option FieldType) (cdm : ev_Cd), Pg[k]? = some ((y, bytes, maxL, rt), cdm) → ev_Met l D cl dA kt Gs y bytes maxL rt d as w r) (hdd : dd = d) (hsm : ∀ q ∈ sm, ∀ (y : MethodName) (bytes : ByteArray) (maxL : Nat) (rt : Option FieldType) (cdm : ev_Cd), Pg[q.1]? = some ((y, bytes, maxL, rt), cdm) → ev_Met l D cl dA kt Gs y bytes maxL rt q.2.1 q.2.2.2.1 q.2.2.2.2.1 q.2.2.2.2.2) {Ks : List Nat} (hF : ev_pin Ks F) (hsafe : ev_safe Ks i = true) (hop : i.2.1 = 11) (hok : ev_k11 Gc Ct kt Pg sm own nm cc nL ret cd st.1 i = true) (h : ev_o11 Ct ret sm dd call i st = some (.inl u)) : ev_SF p l e R s m args below meth c D cl dA A ws0 nL cd F st u := by
  obtain ⟨ix, L, S, w, nc, ns⟩ := st
  unfold ev_k11 at hok
  unfold ev_o11 at h
  simp only [Bool.and_eq_true, decide_eq_true_eq] at hok
  split at h
  · next v S1 hS =>
    have hS : S = v :: S1 := hS
    subst hS
    split at h
    · next hv =>
      have hu := Sum.inl.inj (Option.some.inj h)
      subst hu
      exact fun _ _ Q k => ev_s_istore X hok.1.1 hok.1.2 hok.2 hv (by rw [ev_put_app hF (ev_safe1 hsafe (by omega))]; exact k)
    · cases h
  · cases h
theorem ev_q12 (X : ev_X p s m args c D cl dA kt A Gs own cc nL) (hGc : ∀ (h : Nat) (w : Cond), ev_hg Gc h = some w → w ∈ Gs) (hG : ∀ w ∈ Gs, (w.onTables && w.keeps) = true ∨ ∃ ty, w = .arrayClass ty) (hT : ev_okD Gs cl Ct Pg) (hnm : meth.name = nm) (hret : meth.sig.returnType = ret) (hlk : meth.locks = false) (hRf : R.frames = d + 1) (hRl : R.locals = 90 * (d + 1)) (hcl : ∀ (k : Nat) (as : List (Nat × Nat × Nat)) (w : List ev_C) (r : ev_R), call k as w = some r → ∀ (y : MethodName) (bytes : ByteArray) (maxL : Nat) (rt : Option FieldType) (cdm : ev_Cd), Pg[k]? = some ((y, bytes, maxL, rt), cdm) → ev_Met l D cl dA kt Gs y bytes maxL rt d as w r) (hdd : dd = d) (hsm : ∀ q ∈ sm, ∀ (y : MethodName) (bytes : ByteArray) (maxL : Nat) (rt : Option FieldType) (cdm : ev_Cd), Pg[q.1]? = some ((y, bytes, maxL, rt), cdm) → ev_Met l D cl dA kt Gs y bytes maxL rt q.2.1 q.2.2.2.1 q.2.2.2.2.1 q.2.2.2.2.2) {Ks : List Nat} (hF : ev_pin Ks F) (hsafe : ev_safe Ks i = true) (hop : i.2.1 = 12) (hok : ev_k12 Gc Ct kt Pg sm own nm cc nL ret cd st.1 i = true) (h : ev_o12 Ct ret sm dd call i st = some (.inl u)) : ev_SF p l e R s m args below meth c D cl dA A ws0 nL cd F st u := by
  obtain ⟨ix, L, S, w, nc, ns⟩ := st
  unfold ev_k12 at hok
  unfold ev_o12 at h
  simp only [Bool.and_eq_true, decide_eq_true_eq] at hok
  split at h
  · next v S1 hS =>
    have hS : S = v :: S1 := hS
    subst hS
    split at h
    · next hv =>
      have hu := Sum.inl.inj (Option.some.inj h)
      subst hu
      exact fun _ _ Q k => ev_s_astore_n X hok.1.1.1 (Nat.mod_eq_of_lt hok.1.2) hok.1.1.2 hok.2 hv (by rw [ev_put_app hF (ev_safe1 hsafe (by omega))]; exact k)
    · cases h
  · cases h
theorem ev_q13 (X : ev_X p s m args c D cl dA kt A Gs own cc nL) (hGc : ∀ (h : Nat) (w : Cond), ev_hg Gc h = some w → w ∈ Gs) (hG : ∀ w ∈ Gs, (w.onTables && w.keeps) = true ∨ ∃ ty, w = .arrayClass ty) (hT : ev_okD Gs cl Ct Pg) (hnm : meth.name = nm) (hret : meth.sig.returnType = ret) (hlk : meth.locks = false) (hRf : R.frames = d + 1) (hRl : R.locals = 90 * (d + 1)) (hcl : ∀ (k : Nat) (as : List (Nat × Nat × Nat)) (w : List ev_C) (r : ev_R), call k as w = some r → ∀ (y : MethodName) (bytes : ByteArray) (maxL : Nat) (rt : Option FieldType) (cdm : ev_Cd), Pg[k]? = some ((y, bytes, maxL, rt), cdm) → ev_Met l D cl dA kt Gs y bytes maxL rt d as w r) (hdd : dd = d) (hsm : ∀ q ∈ sm, ∀ (y : MethodName) (bytes : ByteArray) (maxL : Nat) (rt : Option FieldType) (cdm : ev_Cd), Pg[q.1]? = some ((y, bytes, maxL, rt), cdm) → ev_Met l D cl dA kt Gs y bytes maxL rt q.2.1 q.2.2.2.1 q.2.2.2.2.1 q.2.2.2.2.2) {Ks : List Nat} (hF : ev_pin Ks F) (hsafe : ev_safe Ks i = true) (hop : i.2.1 = 13) (hok : ev_k13 Gc Ct kt Pg sm own nm cc nL ret cd st.1 i = true) (h : ev_o13 Ct ret sm dd call i st = some (.inl u)) : ev_SF p l e R s m args below meth c D cl dA A ws0 nL cd F st u := by
  obtain ⟨ix, L, S, w, nc, ns⟩ := st
  unfold ev_k13 at hok
  unfold ev_o13 at h
  simp only [Bool.and_eq_true, decide_eq_true_eq] at hok
  split at h
  · next v S1 hS =>
    have hS : S = v :: S1 := hS
    subst hS
    split at h
    · next hv =>
      have hu := Sum.inl.inj (Option.some.inj h)
      subst hu
      exact fun _ _ Q k => ev_s_astore X hok.1.1 hok.1.2 hok.2 hv (by rw [ev_put_app hF (ev_safe1 hsafe (by omega))]; exact k)
    · cases h
  · cases h
theorem ev_q14 (X : ev_X p s m args c D cl dA kt A Gs own cc nL) (hGc : ∀ (h : Nat) (w : Cond), ev_hg Gc h = some w → w ∈ Gs) (hG : ∀ w ∈ Gs, (w.onTables && w.keeps) = true ∨ ∃ ty, w = .arrayClass ty) (hT : ev_okD Gs cl Ct Pg) (hnm : meth.name = nm) (hret : meth.sig.returnType = ret) (hlk : meth.locks = false) (hRf : R.frames = d + 1) (hRl : R.locals = 90 * (d + 1)) (hcl : ∀ (k : Nat) (as : List (Nat × Nat × Nat)) (w : List ev_C) (r : ev_R), call k as w = some r → ∀ (y : MethodName) (bytes : ByteArray) (maxL : Nat) (rt : Option FieldType) (cdm : ev_Cd), Pg[k]? = some ((y, bytes, maxL, rt), cdm) → ev_Met l D cl dA kt Gs y bytes maxL rt d as w r) (hdd : dd = d) (hsm : ∀ q ∈ sm, ∀ (y : MethodName) (bytes : ByteArray) (maxL : Nat) (rt : Option FieldType) (cdm : ev_Cd), Pg[q.1]? = some ((y, bytes, maxL, rt), cdm) → ev_Met l D cl dA kt Gs y bytes maxL rt q.2.1 q.2.2.2.1 q.2.2.2.2.1 q.2.2.2.2.2) {Ks : List Nat} (hF : ev_pin Ks F) (hsafe : ev_safe Ks i = true) (hop : i.2.1 = 14) (hok : ev_k14 Gc Ct kt Pg sm own nm cc nL ret cd st.1 i = true) (h : ev_o14 Ct ret sm dd call i st = some (.inl u)) : ev_SF p l e R s m args below meth c D cl dA A ws0 nL cd F st u := by
  obtain ⟨ix, L, S, w, nc, ns⟩ := st
  unfold ev_k14 at hok
  unfold ev_o14 at h
  simp only [Bool.and_eq_true, decide_eq_true_eq] at hok
  split at h
  · next v hg =>
    split at h
    · next hv =>
      have hu := Sum.inl.inj (Option.some.inj h)
      subst hu
      exact fun _ _ Q k => ev_s_iinc X hok.1.1.1 (ev_in_eq hok.1.2) hok.1.1.2 hok.2 (ev_get_app hg) hv.1 hv.2 (by rw [ev_put_app hF (ev_safe1 hsafe (by omega))]; exact k)
    · cases h
  · cases h
theorem ev_q15 (X : ev_X p s m args c D cl dA kt A Gs own cc nL) (hGc : ∀ (h : Nat) (w : Cond), ev_hg Gc h = some w → w ∈ Gs) (hG : ∀ w ∈ Gs, (w.onTables && w.keeps) = true ∨ ∃ ty, w = .arrayClass ty) (hT : ev_okD Gs cl Ct Pg) (hnm : meth.name = nm) (hret : meth.sig.returnType = ret) (hlk : meth.locks = false) (hRf : R.frames = d + 1) (hRl : R.locals = 90 * (d + 1)) (hcl : ∀ (k : Nat) (as : List (Nat × Nat × Nat)) (w : List ev_C) (r : ev_R), call k as w = some r → ∀ (y : MethodName) (bytes : ByteArray) (maxL : Nat) (rt : Option FieldType) (cdm : ev_Cd), Pg[k]? = some ((y, bytes, maxL, rt), cdm) → ev_Met l D cl dA kt Gs y bytes maxL rt d as w r) (hdd : dd = d) (hsm : ∀ q ∈ sm, ∀ (y : MethodName) (bytes : ByteArray) (maxL : Nat) (rt : Option FieldType) (cdm : ev_Cd), Pg[q.1]? = some ((y, bytes, maxL, rt), cdm) → ev_Met l D cl dA kt Gs y bytes maxL rt q.2.1 q.2.2.2.1 q.2.2.2.2.1 q.2.2.2.2.2) {Ks : List Nat} (hF : ev_pin Ks F) (hsafe : ev_safe Ks i = true) (hop : i.2.1 = 15) (hok : ev_k15 Gc Ct kt Pg sm own nm cc nL ret cd st.1 i = true) (h : ev_o15 Ct ret sm dd call i st = some (.inl u)) : ev_SF p l e R s m args below meth c D cl dA A ws0 nL cd F st u := by
  obtain ⟨ix, L, S, w, nc, ns⟩ := st
  unfold ev_k15 at hok
  unfold ev_o15 at h
  simp only [Bool.and_eq_true, decide_eq_true_eq] at hok
  split at h
  · next y x S1 hS =>
    have hS : S = y :: x :: S1 := hS
    subst hS
    split at h
    · next hv =>
      have hu := Sum.inl.inj (Option.some.inj h)
      subst hu
      exact fun _ _ Q k => ev_s_bin hv.1 hv.2.1 hv.2.2 (fun _ _ a b => ev_fadd_in a b) hok.2 (fun i j k9 => lv_iadd X.1.1 X.1.2.1 hok.1 k9) k
    · cases h
  · cases h
theorem ev_q16 (X : ev_X p s m args c D cl dA kt A Gs own cc nL) (hGc : ∀ (h : Nat) (w : Cond), ev_hg Gc h = some w → w ∈ Gs) (hG : ∀ w ∈ Gs, (w.onTables && w.keeps) = true ∨ ∃ ty, w = .arrayClass ty) (hT : ev_okD Gs cl Ct Pg) (hnm : meth.name = nm) (hret : meth.sig.returnType = ret) (hlk : meth.locks = false) (hRf : R.frames = d + 1) (hRl : R.locals = 90 * (d + 1)) (hcl : ∀ (k : Nat) (as : List (Nat × Nat × Nat)) (w : List ev_C) (r : ev_R), call k as w = some r → ∀ (y : MethodName) (bytes : ByteArray) (maxL : Nat) (rt : Option FieldType) (cdm : ev_Cd), Pg[k]? = some ((y, bytes, maxL, rt), cdm) → ev_Met l D cl dA kt Gs y bytes maxL rt d as w r) (hdd : dd = d) (hsm : ∀ q ∈ sm, ∀ (y : MethodName) (bytes : ByteArray) (maxL : Nat) (rt : Option FieldType) (cdm : ev_Cd), Pg[q.1]? = some ((y, bytes, maxL, rt), cdm) → ev_Met l D cl dA kt Gs y bytes maxL rt q.2.1 q.2.2.2.1 q.2.2.2.2.1 q.2.2.2.2.2) {Ks : List Nat} (hF : ev_pin Ks F) (hsafe : ev_safe Ks i = true) (hop : i.2.1 = 16) (hok : ev_k16 Gc Ct kt Pg sm own nm cc nL ret cd st.1 i = true) (h : ev_o16 Ct ret sm dd call i st = some (.inl u)) : ev_SF p l e R s m args below meth c D cl dA A ws0 nL cd F st u := by
  obtain ⟨ix, L, S, w, nc, ns⟩ := st
  unfold ev_k16 at hok
  unfold ev_o16 at h
  simp only [Bool.and_eq_true, decide_eq_true_eq] at hok
  split at h
  · next y x S1 hS =>
    have hS : S = y :: x :: S1 := hS
    subst hS
    split at h
    · next hv =>
      have hu := Sum.inl.inj (Option.some.inj h)
      subst hu
      exact fun _ _ Q k => ev_s_bin hv.1 hv.2.1 hv.2.2 (fun _ _ a b => ev_fsub_in a b) hok.2 (fun i j k9 => lv_isub X.1.1 X.1.2.1 hok.1 k9) k
    · cases h
  · cases h
theorem ev_q17 (X : ev_X p s m args c D cl dA kt A Gs own cc nL) (hGc : ∀ (h : Nat) (w : Cond), ev_hg Gc h = some w → w ∈ Gs) (hG : ∀ w ∈ Gs, (w.onTables && w.keeps) = true ∨ ∃ ty, w = .arrayClass ty) (hT : ev_okD Gs cl Ct Pg) (hnm : meth.name = nm) (hret : meth.sig.returnType = ret) (hlk : meth.locks = false) (hRf : R.frames = d + 1) (hRl : R.locals = 90 * (d + 1)) (hcl : ∀ (k : Nat) (as : List (Nat × Nat × Nat)) (w : List ev_C) (r : ev_R), call k as w = some r → ∀ (y : MethodName) (bytes : ByteArray) (maxL : Nat) (rt : Option FieldType) (cdm : ev_Cd), Pg[k]? = some ((y, bytes, maxL, rt), cdm) → ev_Met l D cl dA kt Gs y bytes maxL rt d as w r) (hdd : dd = d) (hsm : ∀ q ∈ sm, ∀ (y : MethodName) (bytes : ByteArray) (maxL : Nat) (rt : Option FieldType) (cdm : ev_Cd), Pg[q.1]? = some ((y, bytes, maxL, rt), cdm) → ev_Met l D cl dA kt Gs y bytes maxL rt q.2.1 q.2.2.2.1 q.2.2.2.2.1 q.2.2.2.2.2) {Ks : List Nat} (hF : ev_pin Ks F) (hsafe : ev_safe Ks i = true) (hop : i.2.1 = 17) (hok : ev_k17 Gc Ct kt Pg sm own nm cc nL ret cd st.1 i = true) (h : ev_o17 Ct ret sm dd call i st = some (.inl u)) : ev_SF p l e R s m args below meth c D cl dA A ws0 nL cd F st u := by
  obtain ⟨ix, L, S, w, nc, ns⟩ := st
  unfold ev_k17 at hok
  unfold ev_o17 at h
  simp only [Bool.and_eq_true, decide_eq_true_eq] at hok
  split at h
  · next y x S1 hS =>
    have hS : S = y :: x :: S1 := hS
    subst hS
    split at h
    · next hv =>
      have hu := Sum.inl.inj (Option.some.inj h)
      subst hu
      exact fun _ _ Q k => ev_s_bin hv.1 hv.2.1 hv.2.2 (fun _ _ a b => ev_fmul_in a b) hok.2 (fun i j k9 => lv_imul X.1.1 X.1.2.1 hok.1 k9) k
    · cases h
  · cases h
theorem ev_q18 (X : ev_X p s m args c D cl dA kt A Gs own cc nL) (hGc : ∀ (h : Nat) (w : Cond), ev_hg Gc h = some w → w ∈ Gs) (hG : ∀ w ∈ Gs, (w.onTables && w.keeps) = true ∨ ∃ ty, w = .arrayClass ty) (hT : ev_okD Gs cl Ct Pg) (hnm : meth.name = nm) (hret : meth.sig.returnType = ret) (hlk : meth.locks = false) (hRf : R.frames = d + 1) (hRl : R.locals = 90 * (d + 1)) (hcl : ∀ (k : Nat) (as : List (Nat × Nat × Nat)) (w : List ev_C) (r : ev_R), call k as w = some r → ∀ (y : MethodName) (bytes : ByteArray) (maxL : Nat) (rt : Option FieldType) (cdm : ev_Cd), Pg[k]? = some ((y, bytes, maxL, rt), cdm) → ev_Met l D cl dA kt Gs y bytes maxL rt d as w r) (hdd : dd = d) (hsm : ∀ q ∈ sm, ∀ (y : MethodName) (bytes : ByteArray) (maxL : Nat) (rt : Option FieldType) (cdm : ev_Cd), Pg[q.1]? = some ((y, bytes, maxL, rt), cdm) → ev_Met l D cl dA kt Gs y bytes maxL rt q.2.1 q.2.2.2.1 q.2.2.2.2.1 q.2.2.2.2.2) {Ks : List Nat} (hF : ev_pin Ks F) (hsafe : ev_safe Ks i = true) (hop : i.2.1 = 18) (hok : ev_k18 Gc Ct kt Pg sm own nm cc nL ret cd st.1 i = true) (h : ev_o18 Ct ret sm dd call i st = some (.inl u)) : ev_SF p l e R s m args below meth c D cl dA A ws0 nL cd F st u := by
  obtain ⟨ix, L, S, w, nc, ns⟩ := st
  unfold ev_k18 at hok
  unfold ev_o18 at h
  simp only [Bool.and_eq_true, decide_eq_true_eq] at hok
  split at h
  · next y x S1 hS =>
    have hS : S = y :: x :: S1 := hS
    subst hS
    split at h
    · next hv =>
      have hu := Sum.inl.inj (Option.some.inj h)
      subst hu
      exact fun _ _ Q k => ev_s_bin hv.1 hv.2.1 hv.2.2 (fun _ _ a b => ev_fand_in a b) hok.2 (fun i j k9 => lv_iand X.1.1 X.1.2.1 hok.1 k9) k
    · cases h
  · cases h
theorem ev_q19 (X : ev_X p s m args c D cl dA kt A Gs own cc nL) (hGc : ∀ (h : Nat) (w : Cond), ev_hg Gc h = some w → w ∈ Gs) (hG : ∀ w ∈ Gs, (w.onTables && w.keeps) = true ∨ ∃ ty, w = .arrayClass ty) (hT : ev_okD Gs cl Ct Pg) (hnm : meth.name = nm) (hret : meth.sig.returnType = ret) (hlk : meth.locks = false) (hRf : R.frames = d + 1) (hRl : R.locals = 90 * (d + 1)) (hcl : ∀ (k : Nat) (as : List (Nat × Nat × Nat)) (w : List ev_C) (r : ev_R), call k as w = some r → ∀ (y : MethodName) (bytes : ByteArray) (maxL : Nat) (rt : Option FieldType) (cdm : ev_Cd), Pg[k]? = some ((y, bytes, maxL, rt), cdm) → ev_Met l D cl dA kt Gs y bytes maxL rt d as w r) (hdd : dd = d) (hsm : ∀ q ∈ sm, ∀ (y : MethodName) (bytes : ByteArray) (maxL : Nat) (rt : Option FieldType) (cdm : ev_Cd), Pg[q.1]? = some ((y, bytes, maxL, rt), cdm) → ev_Met l D cl dA kt Gs y bytes maxL rt q.2.1 q.2.2.2.1 q.2.2.2.2.1 q.2.2.2.2.2) {Ks : List Nat} (hF : ev_pin Ks F) (hsafe : ev_safe Ks i = true) (hop : i.2.1 = 19) (hok : ev_k19 Gc Ct kt Pg sm own nm cc nL ret cd st.1 i = true) (h : ev_o19 Ct ret sm dd call i st = some (.inl u)) : ev_SF p l e R s m args below meth c D cl dA A ws0 nL cd F st u := by
  obtain ⟨ix, L, S, w, nc, ns⟩ := st
  unfold ev_k19 at hok
  unfold ev_o19 at h
  simp only [Bool.and_eq_true, decide_eq_true_eq] at hok
  split at h
  · next y x S1 hS =>
    have hS : S = y :: x :: S1 := hS
    subst hS
    split at h
    · next hv =>
      have hu := Sum.inl.inj (Option.some.inj h)
      subst hu
      exact fun _ _ Q k => ev_s_bin hv.1 hv.2 rfl (fun _ _ _ _ => ev_full_in _) hok.2 (fun i j k9 => lv_ior X.1.1 X.1.2.1 hok.1 k9) k
    · cases h
  · cases h
theorem ev_q20 (X : ev_X p s m args c D cl dA kt A Gs own cc nL) (hGc : ∀ (h : Nat) (w : Cond), ev_hg Gc h = some w → w ∈ Gs) (hG : ∀ w ∈ Gs, (w.onTables && w.keeps) = true ∨ ∃ ty, w = .arrayClass ty) (hT : ev_okD Gs cl Ct Pg) (hnm : meth.name = nm) (hret : meth.sig.returnType = ret) (hlk : meth.locks = false) (hRf : R.frames = d + 1) (hRl : R.locals = 90 * (d + 1)) (hcl : ∀ (k : Nat) (as : List (Nat × Nat × Nat)) (w : List ev_C) (r : ev_R), call k as w = some r → ∀ (y : MethodName) (bytes : ByteArray) (maxL : Nat) (rt : Option FieldType) (cdm : ev_Cd), Pg[k]? = some ((y, bytes, maxL, rt), cdm) → ev_Met l D cl dA kt Gs y bytes maxL rt d as w r) (hdd : dd = d) (hsm : ∀ q ∈ sm, ∀ (y : MethodName) (bytes : ByteArray) (maxL : Nat) (rt : Option FieldType) (cdm : ev_Cd), Pg[q.1]? = some ((y, bytes, maxL, rt), cdm) → ev_Met l D cl dA kt Gs y bytes maxL rt q.2.1 q.2.2.2.1 q.2.2.2.2.1 q.2.2.2.2.2) {Ks : List Nat} (hF : ev_pin Ks F) (hsafe : ev_safe Ks i = true) (hop : i.2.1 = 20) (hok : ev_k20 Gc Ct kt Pg sm own nm cc nL ret cd st.1 i = true) (h : ev_o20 Ct ret sm dd call i st = some (.inl u)) : ev_SF p l e R s m args below meth c D cl dA A ws0 nL cd F st u := by
  obtain ⟨ix, L, S, w, nc, ns⟩ := st
  unfold ev_k20 at hok
  unfold ev_o20 at h
  simp only [Bool.and_eq_true, decide_eq_true_eq] at hok
  split at h
  · next y x S1 hS =>
    have hS : S = y :: x :: S1 := hS
    subst hS
    split at h
    · next hv =>
      have hu := Sum.inl.inj (Option.some.inj h)
      subst hu
      exact fun _ _ Q k => ev_s_bin hv.1 hv.2 rfl (fun _ _ _ _ => ev_full_in _) hok.2 (fun i j k9 => lv_ixor X.1.1 X.1.2.1 hok.1 k9) k
    · cases h
  · cases h
theorem ev_q21 (X : ev_X p s m args c D cl dA kt A Gs own cc nL) (hGc : ∀ (h : Nat) (w : Cond), ev_hg Gc h = some w → w ∈ Gs) (hG : ∀ w ∈ Gs, (w.onTables && w.keeps) = true ∨ ∃ ty, w = .arrayClass ty) (hT : ev_okD Gs cl Ct Pg) (hnm : meth.name = nm) (hret : meth.sig.returnType = ret) (hlk : meth.locks = false) (hRf : R.frames = d + 1) (hRl : R.locals = 90 * (d + 1)) (hcl : ∀ (k : Nat) (as : List (Nat × Nat × Nat)) (w : List ev_C) (r : ev_R), call k as w = some r → ∀ (y : MethodName) (bytes : ByteArray) (maxL : Nat) (rt : Option FieldType) (cdm : ev_Cd), Pg[k]? = some ((y, bytes, maxL, rt), cdm) → ev_Met l D cl dA kt Gs y bytes maxL rt d as w r) (hdd : dd = d) (hsm : ∀ q ∈ sm, ∀ (y : MethodName) (bytes : ByteArray) (maxL : Nat) (rt : Option FieldType) (cdm : ev_Cd), Pg[q.1]? = some ((y, bytes, maxL, rt), cdm) → ev_Met l D cl dA kt Gs y bytes maxL rt q.2.1 q.2.2.2.1 q.2.2.2.2.1 q.2.2.2.2.2) {Ks : List Nat} (hF : ev_pin Ks F) (hsafe : ev_safe Ks i = true) (hop : i.2.1 = 21) (hok : ev_k21 Gc Ct kt Pg sm own nm cc nL ret cd st.1 i = true) (h : ev_o21 Ct ret sm dd call i st = some (.inl u)) : ev_SF p l e R s m args below meth c D cl dA A ws0 nL cd F st u := by
  obtain ⟨ix, L, S, w, nc, ns⟩ := st
  unfold ev_k21 at hok
  unfold ev_o21 at h
  simp only [Bool.and_eq_true, decide_eq_true_eq] at hok
  split at h
  · next y x S1 hS =>
    have hS : S = y :: x :: S1 := hS
    subst hS
    split at h
    · next hv =>
      have hu := Sum.inl.inj (Option.some.inj h)
      subst hu
      exact fun _ _ Q k => ev_s_bin hv.1 hv.2 rfl (fun _ _ _ _ => ev_full_in _) hok.2 (fun i j k9 => lv_ishl X.1.1 X.1.2.1 hok.1 k9) k
    · cases h
  · cases h
theorem ev_q22 (X : ev_X p s m args c D cl dA kt A Gs own cc nL) (hGc : ∀ (h : Nat) (w : Cond), ev_hg Gc h = some w → w ∈ Gs) (hG : ∀ w ∈ Gs, (w.onTables && w.keeps) = true ∨ ∃ ty, w = .arrayClass ty) (hT : ev_okD Gs cl Ct Pg) (hnm : meth.name = nm) (hret : meth.sig.returnType = ret) (hlk : meth.locks = false) (hRf : R.frames = d + 1) (hRl : R.locals = 90 * (d + 1)) (hcl : ∀ (k : Nat) (as : List (Nat × Nat × Nat)) (w : List ev_C) (r : ev_R), call k as w = some r → ∀ (y : MethodName) (bytes : ByteArray) (maxL : Nat) (rt : Option FieldType) (cdm : ev_Cd), Pg[k]? = some ((y, bytes, maxL, rt), cdm) → ev_Met l D cl dA kt Gs y bytes maxL rt d as w r) (hdd : dd = d) (hsm : ∀ q ∈ sm, ∀ (y : MethodName) (bytes : ByteArray) (maxL : Nat) (rt : Option FieldType) (cdm : ev_Cd), Pg[q.1]? = some ((y, bytes, maxL, rt), cdm) → ev_Met l D cl dA kt Gs y bytes maxL rt q.2.1 q.2.2.2.1 q.2.2.2.2.1 q.2.2.2.2.2) {Ks : List Nat} (hF : ev_pin Ks F) (hsafe : ev_safe Ks i = true) (hop : i.2.1 = 22) (hok : ev_k22 Gc Ct kt Pg sm own nm cc nL ret cd st.1 i = true) (h : ev_o22 Ct ret sm dd call i st = some (.inl u)) : ev_SF p l e R s m args below meth c D cl dA A ws0 nL cd F st u := by
  obtain ⟨ix, L, S, w, nc, ns⟩ := st
  unfold ev_k22 at hok
  unfold ev_o22 at h
  simp only [Bool.and_eq_true, decide_eq_true_eq] at hok
  split at h
  · next v S1 hS =>
    have hS : S = v :: S1 := hS
    subst hS
    split at h
    · next hv =>
      have hu := Sum.inl.inj (Option.some.inj h)
      subst hu
      exact fun _ _ Q k => ev_s_dup X hok.1 hok.2 hv k
    · cases h
  · cases h
theorem ev_q23 (X : ev_X p s m args c D cl dA kt A Gs own cc nL) (hGc : ∀ (h : Nat) (w : Cond), ev_hg Gc h = some w → w ∈ Gs) (hG : ∀ w ∈ Gs, (w.onTables && w.keeps) = true ∨ ∃ ty, w = .arrayClass ty) (hT : ev_okD Gs cl Ct Pg) (hnm : meth.name = nm) (hret : meth.sig.returnType = ret) (hlk : meth.locks = false) (hRf : R.frames = d + 1) (hRl : R.locals = 90 * (d + 1)) (hcl : ∀ (k : Nat) (as : List (Nat × Nat × Nat)) (w : List ev_C) (r : ev_R), call k as w = some r → ∀ (y : MethodName) (bytes : ByteArray) (maxL : Nat) (rt : Option FieldType) (cdm : ev_Cd), Pg[k]? = some ((y, bytes, maxL, rt), cdm) → ev_Met l D cl dA kt Gs y bytes maxL rt d as w r) (hdd : dd = d) (hsm : ∀ q ∈ sm, ∀ (y : MethodName) (bytes : ByteArray) (maxL : Nat) (rt : Option FieldType) (cdm : ev_Cd), Pg[q.1]? = some ((y, bytes, maxL, rt), cdm) → ev_Met l D cl dA kt Gs y bytes maxL rt q.2.1 q.2.2.2.1 q.2.2.2.2.1 q.2.2.2.2.2) {Ks : List Nat} (hF : ev_pin Ks F) (hsafe : ev_safe Ks i = true) (hop : i.2.1 = 23) (hok : ev_k23 Gc Ct kt Pg sm own nm cc nL ret cd st.1 i = true) (h : ev_o23 Ct ret sm dd call i st = some (.inl u)) : ev_SF p l e R s m args below meth c D cl dA A ws0 nL cd F st u := by
  obtain ⟨ix, L, S, w, nc, ns⟩ := st
  unfold ev_k23 at hok
  unfold ev_o23 at h
  simp only [Bool.and_eq_true, decide_eq_true_eq] at hok
  split at h
  · next v S1 hS =>
    have hS : S = v :: S1 := hS
    subst hS
    split at h
    · next hv =>
      have hu := Sum.inl.inj (Option.some.inj h)
      subst hu
      exact fun _ _ Q k => ev_s_pop X hok.1 hok.2 hv k
    · cases h
  · cases h
theorem ev_q24 (X : ev_X p s m args c D cl dA kt A Gs own cc nL) (hGc : ∀ (h : Nat) (w : Cond), ev_hg Gc h = some w → w ∈ Gs) (hG : ∀ w ∈ Gs, (w.onTables && w.keeps) = true ∨ ∃ ty, w = .arrayClass ty) (hT : ev_okD Gs cl Ct Pg) (hnm : meth.name = nm) (hret : meth.sig.returnType = ret) (hlk : meth.locks = false) (hRf : R.frames = d + 1) (hRl : R.locals = 90 * (d + 1)) (hcl : ∀ (k : Nat) (as : List (Nat × Nat × Nat)) (w : List ev_C) (r : ev_R), call k as w = some r → ∀ (y : MethodName) (bytes : ByteArray) (maxL : Nat) (rt : Option FieldType) (cdm : ev_Cd), Pg[k]? = some ((y, bytes, maxL, rt), cdm) → ev_Met l D cl dA kt Gs y bytes maxL rt d as w r) (hdd : dd = d) (hsm : ∀ q ∈ sm, ∀ (y : MethodName) (bytes : ByteArray) (maxL : Nat) (rt : Option FieldType) (cdm : ev_Cd), Pg[q.1]? = some ((y, bytes, maxL, rt), cdm) → ev_Met l D cl dA kt Gs y bytes maxL rt q.2.1 q.2.2.2.1 q.2.2.2.2.1 q.2.2.2.2.2) {Ks : List Nat} (hF : ev_pin Ks F) (hsafe : ev_safe Ks i = true) (hop : i.2.1 = 24) (hok : ev_k24 Gc Ct kt Pg sm own nm cc nL ret cd st.1 i = true) (h : ev_o24 Ct ret sm dd call i st = some (.inl u)) : ev_SF p l e R s m args below meth c D cl dA A ws0 nL cd F st u := by
  obtain ⟨ix, L, S, w, nc, ns⟩ := st
  unfold ev_k24 at hok
  unfold ev_o24 at h
  simp only [Bool.and_eq_true, decide_eq_true_eq] at hok
  split at h
  · next u v S1 hS =>
    have hS : S = u :: v :: S1 := hS
    subst hS
    split at h
    · next hv =>
      have hu := Sum.inl.inj (Option.some.inj h)
      subst hu
      exact fun _ _ Q k => ev_s_dup2 X hok.1 hok.2 hv.1 hv.2 k
    · cases h
  · cases h
theorem ev_q25 (X : ev_X p s m args c D cl dA kt A Gs own cc nL) (hGc : ∀ (h : Nat) (w : Cond), ev_hg Gc h = some w → w ∈ Gs) (hG : ∀ w ∈ Gs, (w.onTables && w.keeps) = true ∨ ∃ ty, w = .arrayClass ty) (hT : ev_okD Gs cl Ct Pg) (hnm : meth.name = nm) (hret : meth.sig.returnType = ret) (hlk : meth.locks = false) (hRf : R.frames = d + 1) (hRl : R.locals = 90 * (d + 1)) (hcl : ∀ (k : Nat) (as : List (Nat × Nat × Nat)) (w : List ev_C) (r : ev_R), call k as w = some r → ∀ (y : MethodName) (bytes : ByteArray) (maxL : Nat) (rt : Option FieldType) (cdm : ev_Cd), Pg[k]? = some ((y, bytes, maxL, rt), cdm) → ev_Met l D cl dA kt Gs y bytes maxL rt d as w r) (hdd : dd = d) (hsm : ∀ q ∈ sm, ∀ (y : MethodName) (bytes : ByteArray) (maxL : Nat) (rt : Option FieldType) (cdm : ev_Cd), Pg[q.1]? = some ((y, bytes, maxL, rt), cdm) → ev_Met l D cl dA kt Gs y bytes maxL rt q.2.1 q.2.2.2.1 q.2.2.2.2.1 q.2.2.2.2.2) {Ks : List Nat} (hF : ev_pin Ks F) (hsafe : ev_safe Ks i = true) (hop : i.2.1 = 25) (hok : ev_k25 Gc Ct kt Pg sm own nm cc nL ret cd st.1 i = true) (h : ev_o25 Ct ret sm dd call i st = some (.inl u)) : ev_SF p l e R s m args below meth c D cl dA A ws0 nL cd F st u := by
  obtain ⟨ix, L, S, w, nc, ns⟩ := st
  unfold ev_k25 at hok
  unfold ev_o25 at h
  simp only [Bool.and_eq_true, decide_eq_true_eq] at hok
  have hu := Sum.inl.inj (Option.some.inj h)
  subst hu
  exact fun _ _ Q k => ev_s_goto X hok.1 hok.2 k
theorem ev_q26 (X : ev_X p s m args c D cl dA kt A Gs own cc nL) (hGc : ∀ (h : Nat) (w : Cond), ev_hg Gc h = some w → w ∈ Gs) (hG : ∀ w ∈ Gs, (w.onTables && w.keeps) = true ∨ ∃ ty, w = .arrayClass ty) (hT : ev_okD Gs cl Ct Pg) (hnm : meth.name = nm) (hret : meth.sig.returnType = ret) (hlk : meth.locks = false) (hRf : R.frames = d + 1) (hRl : R.locals = 90 * (d + 1)) (hcl : ∀ (k : Nat) (as : List (Nat × Nat × Nat)) (w : List ev_C) (r : ev_R), call k as w = some r → ∀ (y : MethodName) (bytes : ByteArray) (maxL : Nat) (rt : Option FieldType) (cdm : ev_Cd), Pg[k]? = some ((y, bytes, maxL, rt), cdm) → ev_Met l D cl dA kt Gs y bytes maxL rt d as w r) (hdd : dd = d) (hsm : ∀ q ∈ sm, ∀ (y : MethodName) (bytes : ByteArray) (maxL : Nat) (rt : Option FieldType) (cdm : ev_Cd), Pg[q.1]? = some ((y, bytes, maxL, rt), cdm) → ev_Met l D cl dA kt Gs y bytes maxL rt q.2.1 q.2.2.2.1 q.2.2.2.2.1 q.2.2.2.2.2) {Ks : List Nat} (hF : ev_pin Ks F) (hsafe : ev_safe Ks i = true) (hop : i.2.1 = 26) (hok : ev_k26 Gc Ct kt Pg sm own nm cc nL ret cd st.1 i = true) (h : ev_o26 Ct ret sm dd call i st = some (.inl u)) : ev_SF p l e R s m args below meth c D cl dA A ws0 nL cd F st u := by
  obtain ⟨ix, L, S, w, nc, ns⟩ := st
  unfold ev_k26 at hok
  unfold ev_o26 at h
  simp only [Bool.and_eq_true, decide_eq_true_eq] at hok
  split at h
  · next y x S1 hS =>
    have hS : S = y :: x :: S1 := hS
    subst hS
    split at h
    · next hv =>
      exact ev_way_okF h (fun Q kt kf => ev_s_icmp (P := ev_cp i.2.2.2.2.2.1) (t := i.2.2.1) hv.1 hv.2 hok.1.2 (ev_row_icmp X hok.1.1 hok.2) (fun q => kt (by obtain ⟨a, b, ha, hb, hp⟩ := q; exact ev_ct_ok ha hb hp)) (fun q => kf (by obtain ⟨a, b, ha, hb, hp⟩ := q; exact ev_cf_ok ha hb hp)))
    · cases h
  · cases h
theorem ev_q27 (X : ev_X p s m args c D cl dA kt A Gs own cc nL) (hGc : ∀ (h : Nat) (w : Cond), ev_hg Gc h = some w → w ∈ Gs) (hG : ∀ w ∈ Gs, (w.onTables && w.keeps) = true ∨ ∃ ty, w = .arrayClass ty) (hT : ev_okD Gs cl Ct Pg) (hnm : meth.name = nm) (hret : meth.sig.returnType = ret) (hlk : meth.locks = false) (hRf : R.frames = d + 1) (hRl : R.locals = 90 * (d + 1)) (hcl : ∀ (k : Nat) (as : List (Nat × Nat × Nat)) (w : List ev_C) (r : ev_R), call k as w = some r → ∀ (y : MethodName) (bytes : ByteArray) (maxL : Nat) (rt : Option FieldType) (cdm : ev_Cd), Pg[k]? = some ((y, bytes, maxL, rt), cdm) → ev_Met l D cl dA kt Gs y bytes maxL rt d as w r) (hdd : dd = d) (hsm : ∀ q ∈ sm, ∀ (y : MethodName) (bytes : ByteArray) (maxL : Nat) (rt : Option FieldType) (cdm : ev_Cd), Pg[q.1]? = some ((y, bytes, maxL, rt), cdm) → ev_Met l D cl dA kt Gs y bytes maxL rt q.2.1 q.2.2.2.1 q.2.2.2.2.1 q.2.2.2.2.2) {Ks : List Nat} (hF : ev_pin Ks F) (hsafe : ev_safe Ks i = true) (hop : i.2.1 = 27) (hok : ev_k27 Gc Ct kt Pg sm own nm cc nL ret cd st.1 i = true) (h : ev_o27 Ct ret sm dd call i st = some (.inl u)) : ev_SF p l e R s m args below meth c D cl dA A ws0 nL cd F st u := by
  obtain ⟨ix, L, S, w, nc, ns⟩ := st
  unfold ev_k27 at hok
  unfold ev_o27 at h
  simp only [Bool.and_eq_true, decide_eq_true_eq] at hok
  split at h
  · next x S1 hS =>
    have hS : S = x :: S1 := hS
    subst hS
    split at h
    · next hv =>
      exact ev_way_okF h (fun Q kt kf => ev_s_if0 (P := fun i9 => ev_cp i.2.2.2.2.2.1 i9 0) (t := i.2.2.1) hv hok.1.2 (ev_row_if0 X hok.1.1 hok.2) (fun q => kt (by obtain ⟨a, ha, hp⟩ := q; exact ev_ct_ok ha ev_in_0 hp)) (fun q => kf (by obtain ⟨a, ha, hp⟩ := q; exact ev_cf_ok ha ev_in_0 hp)))
    · cases h
  · cases h
theorem ev_q28 (X : ev_X p s m args c D cl dA kt A Gs own cc nL) (hGc : ∀ (h : Nat) (w : Cond), ev_hg Gc h = some w → w ∈ Gs) (hG : ∀ w ∈ Gs, (w.onTables && w.keeps) = true ∨ ∃ ty, w = .arrayClass ty) (hT : ev_okD Gs cl Ct Pg) (hnm : meth.name = nm) (hret : meth.sig.returnType = ret) (hlk : meth.locks = false) (hRf : R.frames = d + 1) (hRl : R.locals = 90 * (d + 1)) (hcl : ∀ (k : Nat) (as : List (Nat × Nat × Nat)) (w : List ev_C) (r : ev_R), call k as w = some r → ∀ (y : MethodName) (bytes : ByteArray) (maxL : Nat) (rt : Option FieldType) (cdm : ev_Cd), Pg[k]? = some ((y, bytes, maxL, rt), cdm) → ev_Met l D cl dA kt Gs y bytes maxL rt d as w r) (hdd : dd = d) (hsm : ∀ q ∈ sm, ∀ (y : MethodName) (bytes : ByteArray) (maxL : Nat) (rt : Option FieldType) (cdm : ev_Cd), Pg[q.1]? = some ((y, bytes, maxL, rt), cdm) → ev_Met l D cl dA kt Gs y bytes maxL rt q.2.1 q.2.2.2.1 q.2.2.2.2.1 q.2.2.2.2.2) {Ks : List Nat} (hF : ev_pin Ks F) (hsafe : ev_safe Ks i = true) (hop : i.2.1 = 28) (hok : ev_k28 Gc Ct kt Pg sm own nm cc nL ret cd st.1 i = true) (h : ev_o28 Ct ret sm dd call i st = some (.inl u)) : ev_SF p l e R s m args below meth c D cl dA A ws0 nL cd F st u := by
  obtain ⟨ix, L, S, w, nc, ns⟩ := st
  unfold ev_k28 at hok
  unfold ev_o28 at h
  simp only [Bool.and_eq_true, decide_eq_true_eq] at hok
  split at h
  · next k z9 S1 hS =>
    have hS : S = (2, k, z9) :: S1 := hS
    subst hS
    split at h
    · next ci z fs hw =>
      split at h
      · next hci =>
        subst hci
        split at h
        · next v hf =>
          have hu := Sum.inl.inj (Option.some.inj h)
          subst hu
          obtain ⟨⟨hd, hn⟩, hq⟩ := hok
          cases hC : Ct[i.2.2.2.1]? with
          | none => rw [hC] at hq; cases hq
          | some q =>
            rw [hC] at hq
            simp only [Bool.and_eq_true, decide_eq_true_eq] at hq
            exact fun _ _ Q k9 => ev_s_getf X (hT.1 _ _ hC).1 (hT.1 _ _ hC).2.1 hq.1 (hGc _ _ hq.2) hd hn hw hf k9
        · cases h
      · cases h
    · cases h
  · cases h
theorem ev_q29 (X : ev_X p s m args c D cl dA kt A Gs own cc nL) (hGc : ∀ (h : Nat) (w : Cond), ev_hg Gc h = some w → w ∈ Gs) (hG : ∀ w ∈ Gs, (w.onTables && w.keeps) = true ∨ ∃ ty, w = .arrayClass ty) (hT : ev_okD Gs cl Ct Pg) (hnm : meth.name = nm) (hret : meth.sig.returnType = ret) (hlk : meth.locks = false) (hRf : R.frames = d + 1) (hRl : R.locals = 90 * (d + 1)) (hcl : ∀ (k : Nat) (as : List (Nat × Nat × Nat)) (w : List ev_C) (r : ev_R), call k as w = some r → ∀ (y : MethodName) (bytes : ByteArray) (maxL : Nat) (rt : Option FieldType) (cdm : ev_Cd), Pg[k]? = some ((y, bytes, maxL, rt), cdm) → ev_Met l D cl dA kt Gs y bytes maxL rt d as w r) (hdd : dd = d) (hsm : ∀ q ∈ sm, ∀ (y : MethodName) (bytes : ByteArray) (maxL : Nat) (rt : Option FieldType) (cdm : ev_Cd), Pg[q.1]? = some ((y, bytes, maxL, rt), cdm) → ev_Met l D cl dA kt Gs y bytes maxL rt q.2.1 q.2.2.2.1 q.2.2.2.2.1 q.2.2.2.2.2) {Ks : List Nat} (hF : ev_pin Ks F) (hsafe : ev_safe Ks i = true) (hop : i.2.1 = 29) (hok : ev_k29 Gc Ct kt Pg sm own nm cc nL ret cd st.1 i = true) (h : ev_o29 Ct ret sm dd call i st = some (.inl u)) : ev_SF p l e R s m args below meth c D cl dA A ws0 nL cd F st u := by
  obtain ⟨ix, L, S, w, nc, ns⟩ := st
  unfold ev_k29 at hok
  unfold ev_o29 at h
  simp only [Bool.and_eq_true, decide_eq_true_eq] at hok
  split at h
  · next v k z9 S1 hS =>
    have hS : S = v :: (2, k, z9) :: S1 := hS
    subst hS
    split at h
    · next ci z fs hw =>
      split at h
      · next hci =>
        obtain ⟨rfl, hlen, hfit⟩ := id hci
        have hu := Sum.inl.inj (Option.some.inj h)
        subst hu
        obtain ⟨⟨hd, hn⟩, hq⟩ := hok
        cases hC : Ct[i.2.2.2.1]? with
        | none => rw [hC] at hq; cases hq
        | some q =>
          unfold ev_ft at hfit
          rw [hC] at hq hfit
          simp only [Bool.and_eq_true, decide_eq_true_eq] at hq
          exact fun _ _ Q k9 => ev_s_putf X (hT.1 _ _ hC).1 q.2.1 (hT.1 _ _ hC).2.2.1 (hT.1 _ _ hC).2.2.2.1 (hT.1 _ _ hC).2.1 hq.1.1 (hGc _ _ hq.1.2) hq.2 hd hn hw hlen hfit k9
      · cases h
    · cases h
  · cases h
theorem ev_q30 (X : ev_X p s m args c D cl dA kt A Gs own cc nL) (hGc : ∀ (h : Nat) (w : Cond), ev_hg Gc h = some w → w ∈ Gs) (hG : ∀ w ∈ Gs, (w.onTables && w.keeps) = true ∨ ∃ ty, w = .arrayClass ty) (hT : ev_okD Gs cl Ct Pg) (hnm : meth.name = nm) (hret : meth.sig.returnType = ret) (hlk : meth.locks = false) (hRf : R.frames = d + 1) (hRl : R.locals = 90 * (d + 1)) (hcl : ∀ (k : Nat) (as : List (Nat × Nat × Nat)) (w : List ev_C) (r : ev_R), call k as w = some r → ∀ (y : MethodName) (bytes : ByteArray) (maxL : Nat) (rt : Option FieldType) (cdm : ev_Cd), Pg[k]? = some ((y, bytes, maxL, rt), cdm) → ev_Met l D cl dA kt Gs y bytes maxL rt d as w r) (hdd : dd = d) (hsm : ∀ q ∈ sm, ∀ (y : MethodName) (bytes : ByteArray) (maxL : Nat) (rt : Option FieldType) (cdm : ev_Cd), Pg[q.1]? = some ((y, bytes, maxL, rt), cdm) → ev_Met l D cl dA kt Gs y bytes maxL rt q.2.1 q.2.2.2.1 q.2.2.2.2.1 q.2.2.2.2.2) {Ks : List Nat} (hF : ev_pin Ks F) (hsafe : ev_safe Ks i = true) (hop : i.2.1 = 30) (hok : ev_k30 Gc Ct kt Pg sm own nm cc nL ret cd st.1 i = true) (h : ev_o30 Ct ret sm dd call i st = some (.inl u)) : ev_SF p l e R s m args below meth c D cl dA A ws0 nL cd F st u := by
  obtain ⟨ix, L, S, w, nc, ns⟩ := st
  unfold ev_k30 at hok
  unfold ev_o30 at h
  simp only [Bool.and_eq_true, decide_eq_true_eq] at hok
  split at h
  · next v k z9 S1 hS =>
    have hS : S = v :: (2, k, z9) :: S1 := hS
    subst hS
    split at h
    · next ci z fs hw =>
      split at h
      · next hci =>
        obtain ⟨rfl, hlen, hfit⟩ := id hci
        have hu := Sum.inl.inj (Option.some.inj h)
        subst hu
        obtain ⟨⟨hd, hn⟩, hq⟩ := hok
        cases hC : Ct[i.2.2.2.1]? with
        | none => rw [hC] at hq; cases hq
        | some q =>
          unfold ev_ft at hfit
          rw [hC] at hq hfit
          simp only [Bool.and_eq_true, decide_eq_true_eq] at hq
          exact fun _ _ Q k9 => ev_s_putF X (hT.1 _ _ hC).1 q.2.1 (hT.1 _ _ hC).2.2.1 (hT.1 _ _ hC).2.2.2.1 (hT.1 _ _ hC).2.1 hq.1.1.1.1 (hGc _ _ hq.1.1.1.2) hq.1.1.2 (by rw [hnm]; exact hq.1.2) hq.2 hd hn hw hlen hfit k9
      · cases h
    · cases h
  · cases h
theorem ev_q31 (X : ev_X p s m args c D cl dA kt A Gs own cc nL) (hGc : ∀ (h : Nat) (w : Cond), ev_hg Gc h = some w → w ∈ Gs) (hG : ∀ w ∈ Gs, (w.onTables && w.keeps) = true ∨ ∃ ty, w = .arrayClass ty) (hT : ev_okD Gs cl Ct Pg) (hnm : meth.name = nm) (hret : meth.sig.returnType = ret) (hlk : meth.locks = false) (hRf : R.frames = d + 1) (hRl : R.locals = 90 * (d + 1)) (hcl : ∀ (k : Nat) (as : List (Nat × Nat × Nat)) (w : List ev_C) (r : ev_R), call k as w = some r → ∀ (y : MethodName) (bytes : ByteArray) (maxL : Nat) (rt : Option FieldType) (cdm : ev_Cd), Pg[k]? = some ((y, bytes, maxL, rt), cdm) → ev_Met l D cl dA kt Gs y bytes maxL rt d as w r) (hdd : dd = d) (hsm : ∀ q ∈ sm, ∀ (y : MethodName) (bytes : ByteArray) (maxL : Nat) (rt : Option FieldType) (cdm : ev_Cd), Pg[q.1]? = some ((y, bytes, maxL, rt), cdm) → ev_Met l D cl dA kt Gs y bytes maxL rt q.2.1 q.2.2.2.1 q.2.2.2.2.1 q.2.2.2.2.2) {Ks : List Nat} (hF : ev_pin Ks F) (hsafe : ev_safe Ks i = true) (hop : i.2.1 = 31) (hok : ev_k31 Gc Ct kt Pg sm own nm cc nL ret cd st.1 i = true) (h : ev_o31 Ct ret sm dd call i st = some (.inl u)) : ev_SF p l e R s m args below meth c D cl dA A ws0 nL cd F st u := by
  obtain ⟨ix, L, S, w, nc, ns⟩ := st
  unfold ev_k31 at hok
  unfold ev_o31 at h
  simp only [Bool.and_eq_true, decide_eq_true_eq] at hok
  split at h
  · next q hC =>
    have hu := Sum.inl.inj (Option.some.inj h)
    subst hu
    obtain ⟨⟨hd, hn⟩, hq⟩ := hok
    rw [hC] at hq
    have hq := hGc _ _ (of_decide_eq_true hq)
    exact fun r1 r2 Q k9 => ev_s_new X (hT.1 _ _ hC).1 q.2.1 (hT.1 _ _ hC).2.2.1 (hT.1 _ _ hC).2.1 hq (hT.1 _ _ hC).2.2.2.2.1 (hT.1 _ _ hC).2.2.2.2.2.1 (hT.1 _ _ hC).2.2.2.2.2.2.1 (hT.1 _ _ hC).2.2.2.2.2.2.2 hd hn r1 r2 k9
  · cases h
theorem ev_q32 (X : ev_X p s m args c D cl dA kt A Gs own cc nL) (hGc : ∀ (h : Nat) (w : Cond), ev_hg Gc h = some w → w ∈ Gs) (hG : ∀ w ∈ Gs, (w.onTables && w.keeps) = true ∨ ∃ ty, w = .arrayClass ty) (hT : ev_okD Gs cl Ct Pg) (hnm : meth.name = nm) (hret : meth.sig.returnType = ret) (hlk : meth.locks = false) (hRf : R.frames = d + 1) (hRl : R.locals = 90 * (d + 1)) (hcl : ∀ (k : Nat) (as : List (Nat × Nat × Nat)) (w : List ev_C) (r : ev_R), call k as w = some r → ∀ (y : MethodName) (bytes : ByteArray) (maxL : Nat) (rt : Option FieldType) (cdm : ev_Cd), Pg[k]? = some ((y, bytes, maxL, rt), cdm) → ev_Met l D cl dA kt Gs y bytes maxL rt d as w r) (hdd : dd = d) (hsm : ∀ q ∈ sm, ∀ (y : MethodName) (bytes : ByteArray) (maxL : Nat) (rt : Option FieldType) (cdm : ev_Cd), Pg[q.1]? = some ((y, bytes, maxL, rt), cdm) → ev_Met l D cl dA kt Gs y bytes maxL rt q.2.1 q.2.2.2.1 q.2.2.2.2.1 q.2.2.2.2.2) {Ks : List Nat} (hF : ev_pin Ks F) (hsafe : ev_safe Ks i = true) (hop : i.2.1 = 32) (hok : ev_k32 Gc Ct kt Pg sm own nm cc nL ret cd st.1 i = true) (h : ev_o32 Ct ret sm dd call i st = some (.inl u)) : ev_SF p l e R s m args below meth c D cl dA A ws0 nL cd F st u := by
  obtain ⟨ix, L, S, w, nc, ns⟩ := st
  unfold ev_k32 at hok
  unfold ev_o32 at h
  simp only [Bool.and_eq_true, decide_eq_true_eq] at hok
  split at h
  · next x y S1 hS =>
    have hS : S = (0, x, y) :: S1 := hS
    subst hS
    split at h
    · next hx =>
      obtain ⟨rfl, h1, h2⟩ := hx
      have hu := Sum.inl.inj (Option.some.inj h)
      subst hu
      obtain ⟨⟨hd, hn⟩, hq⟩ := hok
      cases hK : kt[i.2.2.1]? with
      | none => rw [hK] at hq; cases hq
      | some ty =>
        rw [hK] at hq
        simp only [Bool.and_eq_true, decide_eq_true_eq] at hq
        have hm : (x - 2147483648) * componentBytes ty ≤ (x - 2147483648) * 4 := Nat.mul_le_mul_left _ hq.1.2
        obtain ⟨n, rfl⟩ : ∃ n, x = n + 2147483648 := ⟨x - 2147483648, by omega⟩
        rw [Nat.add_sub_cancel] at hm ⊢
        exact fun r1 r2 Q k9 => ev_s_newaI X hq.1.1.1 hK hq.1.1.2 (hGc _ _ hq.2) (by omega) (by omega) hd hn r1 r2 k9
    · cases h
  · cases h
theorem ev_q33 (X : ev_X p s m args c D cl dA kt A Gs own cc nL) (hGc : ∀ (h : Nat) (w : Cond), ev_hg Gc h = some w → w ∈ Gs) (hG : ∀ w ∈ Gs, (w.onTables && w.keeps) = true ∨ ∃ ty, w = .arrayClass ty) (hT : ev_okD Gs cl Ct Pg) (hnm : meth.name = nm) (hret : meth.sig.returnType = ret) (hlk : meth.locks = false) (hRf : R.frames = d + 1) (hRl : R.locals = 90 * (d + 1)) (hcl : ∀ (k : Nat) (as : List (Nat × Nat × Nat)) (w : List ev_C) (r : ev_R), call k as w = some r → ∀ (y : MethodName) (bytes : ByteArray) (maxL : Nat) (rt : Option FieldType) (cdm : ev_Cd), Pg[k]? = some ((y, bytes, maxL, rt), cdm) → ev_Met l D cl dA kt Gs y bytes maxL rt d as w r) (hdd : dd = d) (hsm : ∀ q ∈ sm, ∀ (y : MethodName) (bytes : ByteArray) (maxL : Nat) (rt : Option FieldType) (cdm : ev_Cd), Pg[q.1]? = some ((y, bytes, maxL, rt), cdm) → ev_Met l D cl dA kt Gs y bytes maxL rt q.2.1 q.2.2.2.1 q.2.2.2.2.1 q.2.2.2.2.2) {Ks : List Nat} (hF : ev_pin Ks F) (hsafe : ev_safe Ks i = true) (hop : i.2.1 = 33) (hok : ev_k33 Gc Ct kt Pg sm own nm cc nL ret cd st.1 i = true) (h : ev_o33 Ct ret sm dd call i st = some (.inl u)) : ev_SF p l e R s m args below meth c D cl dA A ws0 nL cd F st u := by
  obtain ⟨ix, L, S, w, nc, ns⟩ := st
  unfold ev_k33 at hok
  unfold ev_o33 at h
  simp only [Bool.and_eq_true, decide_eq_true_eq] at hok
  split at h
  · next x y S1 hS =>
    have hS : S = (0, x, y) :: S1 := hS
    subst hS
    split at h
    · next hx =>
      obtain ⟨rfl, h1, h2⟩ := hx
      have hu := Sum.inl.inj (Option.some.inj h)
      subst hu
      obtain ⟨⟨⟨⟨hd, hn⟩, hq1⟩, hq2⟩, hq3⟩ := hok
      obtain ⟨n, rfl⟩ : ∃ n, x = n + 2147483648 := ⟨x - 2147483648, by omega⟩
      rw [Nat.add_sub_cancel]
      exact fun r1 r2 Q k9 => ev_s_newaL X hq1 hq2 (hGc _ _ hq3) (by omega) (by show n * 8 ≤ _; omega) hd hn r1 r2 k9
    · cases h
  · cases h
theorem ev_q34 (X : ev_X p s m args c D cl dA kt A Gs own cc nL) (hGc : ∀ (h : Nat) (w : Cond), ev_hg Gc h = some w → w ∈ Gs) (hG : ∀ w ∈ Gs, (w.onTables && w.keeps) = true ∨ ∃ ty, w = .arrayClass ty) (hT : ev_okD Gs cl Ct Pg) (hnm : meth.name = nm) (hret : meth.sig.returnType = ret) (hlk : meth.locks = false) (hRf : R.frames = d + 1) (hRl : R.locals = 90 * (d + 1)) (hcl : ∀ (k : Nat) (as : List (Nat × Nat × Nat)) (w : List ev_C) (r : ev_R), call k as w = some r → ∀ (y : MethodName) (bytes : ByteArray) (maxL : Nat) (rt : Option FieldType) (cdm : ev_Cd), Pg[k]? = some ((y, bytes, maxL, rt), cdm) → ev_Met l D cl dA kt Gs y bytes maxL rt d as w r) (hdd : dd = d) (hsm : ∀ q ∈ sm, ∀ (y : MethodName) (bytes : ByteArray) (maxL : Nat) (rt : Option FieldType) (cdm : ev_Cd), Pg[q.1]? = some ((y, bytes, maxL, rt), cdm) → ev_Met l D cl dA kt Gs y bytes maxL rt q.2.1 q.2.2.2.1 q.2.2.2.2.1 q.2.2.2.2.2) {Ks : List Nat} (hF : ev_pin Ks F) (hsafe : ev_safe Ks i = true) (hop : i.2.1 = 34) (hok : ev_k34 Gc Ct kt Pg sm own nm cc nL ret cd st.1 i = true) (h : ev_o34 Ct ret sm dd call i st = some (.inl u)) : ev_SF p l e R s m args below meth c D cl dA A ws0 nL cd F st u := by
  obtain ⟨ix, L, S, w, nc, ns⟩ := st
  unfold ev_k34 at hok
  unfold ev_o34 at h
  simp only [Bool.and_eq_true, decide_eq_true_eq] at hok
  split at h
  · next x y S1 hS =>
    have hS : S = (0, x, y) :: S1 := hS
    subst hS
    split at h
    · next hx =>
      obtain ⟨rfl, h1, h2⟩ := hx
      have hu := Sum.inl.inj (Option.some.inj h)
      subst hu
      obtain ⟨⟨hd, hn⟩, hq⟩ := hok
      split at hq
      · next C hK =>
        have hq := hGc _ _ (of_decide_eq_true hq)
        obtain ⟨n, rfl⟩ : ∃ n, x = n + 2147483648 := ⟨x - 2147483648, by omega⟩
        rw [Nat.add_sub_cancel]
        exact fun r1 r2 Q k9 => ev_s_newq X hK hq (X.2.1.2.1 _ C hK) (by omega) (by omega) hd hn r1 r2 k9
      · cases hq
    · cases h
  · cases h
theorem ev_q35 (X : ev_X p s m args c D cl dA kt A Gs own cc nL) (hGc : ∀ (h : Nat) (w : Cond), ev_hg Gc h = some w → w ∈ Gs) (hG : ∀ w ∈ Gs, (w.onTables && w.keeps) = true ∨ ∃ ty, w = .arrayClass ty) (hT : ev_okD Gs cl Ct Pg) (hnm : meth.name = nm) (hret : meth.sig.returnType = ret) (hlk : meth.locks = false) (hRf : R.frames = d + 1) (hRl : R.locals = 90 * (d + 1)) (hcl : ∀ (k : Nat) (as : List (Nat × Nat × Nat)) (w : List ev_C) (r : ev_R), call k as w = some r → ∀ (y : MethodName) (bytes : ByteArray) (maxL : Nat) (rt : Option FieldType) (cdm : ev_Cd), Pg[k]? = some ((y, bytes, maxL, rt), cdm) → ev_Met l D cl dA kt Gs y bytes maxL rt d as w r) (hdd : dd = d) (hsm : ∀ q ∈ sm, ∀ (y : MethodName) (bytes : ByteArray) (maxL : Nat) (rt : Option FieldType) (cdm : ev_Cd), Pg[q.1]? = some ((y, bytes, maxL, rt), cdm) → ev_Met l D cl dA kt Gs y bytes maxL rt q.2.1 q.2.2.2.1 q.2.2.2.2.1 q.2.2.2.2.2) {Ks : List Nat} (hF : ev_pin Ks F) (hsafe : ev_safe Ks i = true) (hop : i.2.1 = 35) (hok : ev_k35 Gc Ct kt Pg sm own nm cc nL ret cd st.1 i = true) (h : ev_o35 Ct ret sm dd call i st = some (.inl u)) : ev_SF p l e R s m args below meth c D cl dA A ws0 nL cd F st u := by
  obtain ⟨ix, L, S, w, nc, ns⟩ := st
  unfold ev_k35 at hok
  unfold ev_o35 at h
  simp only [Bool.and_eq_true, decide_eq_true_eq] at hok
  split at h
  · next x y x2 y2 S1 hS =>
    have hS : S = (0, x, y) :: (0, x2, y2) :: S1 := hS
    subst hS
    split at h
    · next hx =>
      obtain ⟨rfl, rfl, h1, h2, h3, h4⟩ := hx
      have hu := Sum.inl.inj (Option.some.inj h)
      subst hu
      obtain ⟨⟨⟨⟨⟨hd, hn⟩, hq1⟩, hq2⟩, hq3⟩, hq4⟩ := hok
      have hq3 := hGc _ _ hq3
      have hq4 := hGc _ _ hq4
      obtain ⟨k, rfl⟩ : ∃ k, x = k + 2147483648 := ⟨x - 2147483648, by omega⟩
      obtain ⟨n, rfl⟩ : ∃ n, x2 = n + 2147483648 := ⟨x2 - 2147483648, by omega⟩
      simp only [Nat.add_sub_cancel]
      have hty : ev_ty i.2.2.2.2.2.1 = .byte ∨ ev_ty i.2.2.2.2.2.1 = .int ∨ ev_ty i.2.2.2.2.2.1 = .long := by
        unfold ev_ty
        split
        · exact Or.inl rfl
        · exact Or.inr (Or.inl rfl)
        · exact Or.inr (Or.inr rfl)
      generalize ev_ty i.2.2.2.2.2.1 = ty at hty hq1 hq2 hq3 hq4 ⊢
      rcases hty with rfl | rfl | rfl
      · exact fun r1 r2 Q k9 => ev_s_mna (z := (k, .inl (fun _ => 0))) X hq1 hq2 (fun C q => by cases q) rfl hq3 hq4 (by omega) (by omega) (by omega) (by show k * 1 ≤ _; omega) (by omega) rfl rfl (fun c9 => by rw [vp_cell_i, ← arrV_new]; rfl) (fun ad => Or.inr (Or.inr (Or.inl ⟨rfl, _, rfl, fun v hv j => by obtain rfl : (0, 2147483648, 2147483648) = v := Option.some.inj hv; exact ev_in_0⟩))) (by simp [ev_ci]) hd hn r1 r2 k9
      · exact fun r1 r2 Q k9 => ev_s_mna (z := (k, .inl (fun _ => 0))) X hq1 hq2 (fun C q => by cases q) rfl hq3 hq4 (by omega) (by omega) (by omega) (by show k * 4 ≤ _; omega) (by omega) rfl rfl (fun c9 => by rw [vp_cell_i, ← arrV_new]; rfl) (fun ad => Or.inr (Or.inr (Or.inl ⟨rfl, _, rfl, fun v hv j => by obtain rfl : (0, 2147483648, 2147483648) = v := Option.some.inj hv; exact ev_in_0⟩))) (by simp [ev_ci]) hd hn r1 r2 k9
      · exact fun r1 r2 Q k9 => ev_s_mna (z := (k, .inr (.inl (fun _ => 0)))) X hq1 hq2 (fun C q => by cases q) rfl hq3 hq4 (by omega) (by omega) (by omega) (by show k * 8 ≤ _; omega) (by omega) rfl rfl (fun c9 => by rw [vp_cell_l, ← arrV_new]; rfl) (fun ad => Or.inr (Or.inr (Or.inr (Or.inl ⟨rfl, _, rfl⟩)))) (by simp [ev_ci]) hd hn r1 r2 k9
    · cases h
  · cases h
theorem ev_q36 (X : ev_X p s m args c D cl dA kt A Gs own cc nL) (hGc : ∀ (h : Nat) (w : Cond), ev_hg Gc h = some w → w ∈ Gs) (hG : ∀ w ∈ Gs, (w.onTables && w.keeps) = true ∨ ∃ ty, w = .arrayClass ty) (hT : ev_okD Gs cl Ct Pg) (hnm : meth.name = nm) (hret : meth.sig.returnType = ret) (hlk : meth.locks = false) (hRf : R.frames = d + 1) (hRl : R.locals = 90 * (d + 1)) (hcl : ∀ (k : Nat) (as : List (Nat × Nat × Nat)) (w : List ev_C) (r : ev_R), call k as w = some r → ∀ (y : MethodName) (bytes : ByteArray) (maxL : Nat) (rt : Option FieldType) (cdm : ev_Cd), Pg[k]? = some ((y, bytes, maxL, rt), cdm) → ev_Met l D cl dA kt Gs y bytes maxL rt d as w r) (hdd : dd = d) (hsm : ∀ q ∈ sm, ∀ (y : MethodName) (bytes : ByteArray) (maxL : Nat) (rt : Option FieldType) (cdm : ev_Cd), Pg[q.1]? = some ((y, bytes, maxL, rt), cdm) → ev_Met l D cl dA kt Gs y bytes maxL rt q.2.1 q.2.2.2.1 q.2.2.2.2.1 q.2.2.2.2.2) {Ks : List Nat} (hF : ev_pin Ks F) (hsafe : ev_safe Ks i = true) (hop : i.2.1 = 36) (hok : ev_k36 Gc Ct kt Pg sm own nm cc nL ret cd st.1 i = true) (h : ev_o36 Ct ret sm dd call i st = some (.inl u)) : ev_SF p l e R s m args below meth c D cl dA A ws0 nL cd F st u := by
  obtain ⟨ix, L, S, w, nc, ns⟩ := st
  unfold ev_k36 at hok
  unfold ev_o36 at h
  simp only [Bool.and_eq_true, decide_eq_true_eq] at hok
  split at h
  · next v hg =>
    split at h
    · next hv =>
      have hu := Sum.inl.inj (Option.some.inj h)
      subst hu
      exact fun _ _ Q k => ev_s_lload_n X hok.1.1 (Nat.mod_eq_of_lt hok.2) hok.1.2 (ev_get_app hg) hv k
    · cases h
  · cases h
theorem ev_q37 (X : ev_X p s m args c D cl dA kt A Gs own cc nL) (hGc : ∀ (h : Nat) (w : Cond), ev_hg Gc h = some w → w ∈ Gs) (hG : ∀ w ∈ Gs, (w.onTables && w.keeps) = true ∨ ∃ ty, w = .arrayClass ty) (hT : ev_okD Gs cl Ct Pg) (hnm : meth.name = nm) (hret : meth.sig.returnType = ret) (hlk : meth.locks = false) (hRf : R.frames = d + 1) (hRl : R.locals = 90 * (d + 1)) (hcl : ∀ (k : Nat) (as : List (Nat × Nat × Nat)) (w : List ev_C) (r : ev_R), call k as w = some r → ∀ (y : MethodName) (bytes : ByteArray) (maxL : Nat) (rt : Option FieldType) (cdm : ev_Cd), Pg[k]? = some ((y, bytes, maxL, rt), cdm) → ev_Met l D cl dA kt Gs y bytes maxL rt d as w r) (hdd : dd = d) (hsm : ∀ q ∈ sm, ∀ (y : MethodName) (bytes : ByteArray) (maxL : Nat) (rt : Option FieldType) (cdm : ev_Cd), Pg[q.1]? = some ((y, bytes, maxL, rt), cdm) → ev_Met l D cl dA kt Gs y bytes maxL rt q.2.1 q.2.2.2.1 q.2.2.2.2.1 q.2.2.2.2.2) {Ks : List Nat} (hF : ev_pin Ks F) (hsafe : ev_safe Ks i = true) (hop : i.2.1 = 37) (hok : ev_k37 Gc Ct kt Pg sm own nm cc nL ret cd st.1 i = true) (h : ev_o37 Ct ret sm dd call i st = some (.inl u)) : ev_SF p l e R s m args below meth c D cl dA A ws0 nL cd F st u := by
  obtain ⟨ix, L, S, w, nc, ns⟩ := st
  unfold ev_k37 at hok
  unfold ev_o37 at h
  simp only [Bool.and_eq_true, decide_eq_true_eq] at hok
  split at h
  · next v hg =>
    split at h
    · next hv =>
      have hu := Sum.inl.inj (Option.some.inj h)
      subst hu
      exact fun _ _ Q k => ev_s_lload X hok.1 hok.2 (ev_get_app hg) hv k
    · cases h
  · cases h
theorem ev_q38 (X : ev_X p s m args c D cl dA kt A Gs own cc nL) (hGc : ∀ (h : Nat) (w : Cond), ev_hg Gc h = some w → w ∈ Gs) (hG : ∀ w ∈ Gs, (w.onTables && w.keeps) = true ∨ ∃ ty, w = .arrayClass ty) (hT : ev_okD Gs cl Ct Pg) (hnm : meth.name = nm) (hret : meth.sig.returnType = ret) (hlk : meth.locks = false) (hRf : R.frames = d + 1) (hRl : R.locals = 90 * (d + 1)) (hcl : ∀ (k : Nat) (as : List (Nat × Nat × Nat)) (w : List ev_C) (r : ev_R), call k as w = some r → ∀ (y : MethodName) (bytes : ByteArray) (maxL : Nat) (rt : Option FieldType) (cdm : ev_Cd), Pg[k]? = some ((y, bytes, maxL, rt), cdm) → ev_Met l D cl dA kt Gs y bytes maxL rt d as w r) (hdd : dd = d) (hsm : ∀ q ∈ sm, ∀ (y : MethodName) (bytes : ByteArray) (maxL : Nat) (rt : Option FieldType) (cdm : ev_Cd), Pg[q.1]? = some ((y, bytes, maxL, rt), cdm) → ev_Met l D cl dA kt Gs y bytes maxL rt q.2.1 q.2.2.2.1 q.2.2.2.2.1 q.2.2.2.2.2) {Ks : List Nat} (hF : ev_pin Ks F) (hsafe : ev_safe Ks i = true) (hop : i.2.1 = 38) (hok : ev_k38 Gc Ct kt Pg sm own nm cc nL ret cd st.1 i = true) (h : ev_o38 Ct ret sm dd call i st = some (.inl u)) : ev_SF p l e R s m args below meth c D cl dA A ws0 nL cd F st u := by
  obtain ⟨ix, L, S, w, nc, ns⟩ := st
  unfold ev_k38 at hok
  unfold ev_o38 at h
  simp only [Bool.and_eq_true, decide_eq_true_eq] at hok
  split at h
  · next v S1 hS =>
    have hS : S = v :: S1 := hS
    subst hS
    split at h
    · next hv =>
      have hu := Sum.inl.inj (Option.some.inj h)
      subst hu
      exact fun _ _ Q k => ev_s_lstore_n X hok.1.1.1 (Nat.mod_eq_of_lt hok.1.2) hok.1.1.2 hok.2 hv (by rw [ev_put2_app hF (ev_safe2 hsafe (by omega)).1 (ev_safe2 hsafe (by omega)).2]; exact k)
    · cases h
  · cases h
theorem ev_q39 (X : ev_X p s m args c D cl dA kt A Gs own cc nL) (hGc : ∀ (h : Nat) (w : Cond), ev_hg Gc h = some w → w ∈ Gs) (hG : ∀ w ∈ Gs, (w.onTables && w.keeps) = true ∨ ∃ ty, w = .arrayClass ty) (hT : ev_okD Gs cl Ct Pg) (hnm : meth.name = nm) (hret : meth.sig.returnType = ret) (hlk : meth.locks = false) (hRf : R.frames = d + 1) (hRl : R.locals = 90 * (d + 1)) (hcl : ∀ (k : Nat) (as : List (Nat × Nat × Nat)) (w : List ev_C) (r : ev_R), call k as w = some r → ∀ (y : MethodName) (bytes : ByteArray) (maxL : Nat) (rt : Option FieldType) (cdm : ev_Cd), Pg[k]? = some ((y, bytes, maxL, rt), cdm) → ev_Met l D cl dA kt Gs y bytes maxL rt d as w r) (hdd : dd = d) (hsm : ∀ q ∈ sm, ∀ (y : MethodName) (bytes : ByteArray) (maxL : Nat) (rt : Option FieldType) (cdm : ev_Cd), Pg[q.1]? = some ((y, bytes, maxL, rt), cdm) → ev_Met l D cl dA kt Gs y bytes maxL rt q.2.1 q.2.2.2.1 q.2.2.2.2.1 q.2.2.2.2.2) {Ks : List Nat} (hF : ev_pin Ks F) (hsafe : ev_safe Ks i = true) (hop : i.2.1 = 39) (hok : ev_k39 Gc Ct kt Pg sm own nm cc nL ret cd st.1 i = true) (h : ev_o39 Ct ret sm dd call i st = some (.inl u)) : ev_SF p l e R s m args below meth c D cl dA A ws0 nL cd F st u := by
  obtain ⟨ix, L, S, w, nc, ns⟩ := st
  unfold ev_k39 at hok
  unfold ev_o39 at h
  simp only [Bool.and_eq_true, decide_eq_true_eq] at hok
  split at h
  · next v S1 hS =>
    have hS : S = v :: S1 := hS
    subst hS
    split at h
    · next hv =>
      have hu := Sum.inl.inj (Option.some.inj h)
      subst hu
      exact fun _ _ Q k => ev_s_lstore X hok.1.1 hok.1.2 hok.2 hv (by rw [ev_put2_app hF (ev_safe2 hsafe (by omega)).1 (ev_safe2 hsafe (by omega)).2]; exact k)
    · cases h
  · cases h
theorem ev_q40 (X : ev_X p s m args c D cl dA kt A Gs own cc nL) (hGc : ∀ (h : Nat) (w : Cond), ev_hg Gc h = some w → w ∈ Gs) (hG : ∀ w ∈ Gs, (w.onTables && w.keeps) = true ∨ ∃ ty, w = .arrayClass ty) (hT : ev_okD Gs cl Ct Pg) (hnm : meth.name = nm) (hret : meth.sig.returnType = ret) (hlk : meth.locks = false) (hRf : R.frames = d + 1) (hRl : R.locals = 90 * (d + 1)) (hcl : ∀ (k : Nat) (as : List (Nat × Nat × Nat)) (w : List ev_C) (r : ev_R), call k as w = some r → ∀ (y : MethodName) (bytes : ByteArray) (maxL : Nat) (rt : Option FieldType) (cdm : ev_Cd), Pg[k]? = some ((y, bytes, maxL, rt), cdm) → ev_Met l D cl dA kt Gs y bytes maxL rt d as w r) (hdd : dd = d) (hsm : ∀ q ∈ sm, ∀ (y : MethodName) (bytes : ByteArray) (maxL : Nat) (rt : Option FieldType) (cdm : ev_Cd), Pg[q.1]? = some ((y, bytes, maxL, rt), cdm) → ev_Met l D cl dA kt Gs y bytes maxL rt q.2.1 q.2.2.2.1 q.2.2.2.2.1 q.2.2.2.2.2) {Ks : List Nat} (hF : ev_pin Ks F) (hsafe : ev_safe Ks i = true) (hop : i.2.1 = 40) (hok : ev_k40 Gc Ct kt Pg sm own nm cc nL ret cd st.1 i = true) (h : ev_o40 Ct ret sm dd call i st = some (.inl u)) : ev_SF p l e R s m args below meth c D cl dA A ws0 nL cd F st u := by
  obtain ⟨ix, L, S, w, nc, ns⟩ := st
  unfold ev_k40 at hok
  unfold ev_o40 at h
  simp only [Bool.and_eq_true, decide_eq_true_eq] at hok
  split at h
  · next k z9 S1 hS =>
    have hS : S = (2, k, z9) :: S1 := hS
    subst hS
    split at h
    · next tg kd n z hw =>
      split at h
      · next hx =>
        obtain ⟨x1, x2, x3, rfl⟩ := hx
        have hu := Sum.inl.inj (Option.some.inj h)
        subst hu
        obtain ⟨⟨hd, hn⟩, hq⟩ := hok
        cases hK : kt[i.2.2.1]? with
        | none => rw [hK] at hq; cases hq
        | some ty => exact fun r1 r2 Q k9 => ev_s_alen X hK hd hn hw ⟨x1, x2⟩ x3 k9
      · cases h
    · cases h
  · cases h
theorem ev_q42 (X : ev_X p s m args c D cl dA kt A Gs own cc nL) (hGc : ∀ (h : Nat) (w : Cond), ev_hg Gc h = some w → w ∈ Gs) (hG : ∀ w ∈ Gs, (w.onTables && w.keeps) = true ∨ ∃ ty, w = .arrayClass ty) (hT : ev_okD Gs cl Ct Pg) (hnm : meth.name = nm) (hret : meth.sig.returnType = ret) (hlk : meth.locks = false) (hRf : R.frames = d + 1) (hRl : R.locals = 90 * (d + 1)) (hcl : ∀ (k : Nat) (as : List (Nat × Nat × Nat)) (w : List ev_C) (r : ev_R), call k as w = some r → ∀ (y : MethodName) (bytes : ByteArray) (maxL : Nat) (rt : Option FieldType) (cdm : ev_Cd), Pg[k]? = some ((y, bytes, maxL, rt), cdm) → ev_Met l D cl dA kt Gs y bytes maxL rt d as w r) (hdd : dd = d) (hsm : ∀ q ∈ sm, ∀ (y : MethodName) (bytes : ByteArray) (maxL : Nat) (rt : Option FieldType) (cdm : ev_Cd), Pg[q.1]? = some ((y, bytes, maxL, rt), cdm) → ev_Met l D cl dA kt Gs y bytes maxL rt q.2.1 q.2.2.2.1 q.2.2.2.2.1 q.2.2.2.2.2) {Ks : List Nat} (hF : ev_pin Ks F) (hsafe : ev_safe Ks i = true) (hop : i.2.1 = 42) (hok : ev_k42 Gc Ct kt Pg sm own nm cc nL ret cd st.1 i = true) (h : ev_o42 Ct ret sm dd call i st = some (.inl u)) : ev_SF p l e R s m args below meth c D cl dA A ws0 nL cd F st u := by
  obtain ⟨ix, L, S, w, nc, ns⟩ := st
  unfold ev_k42 at hok
  unfold ev_o42 at h
  simp only [Bool.and_eq_true, decide_eq_true_eq] at hok
  split at h
  · next x y k z9 S1 hS =>
    have hS : S = (0, x, y) :: (2, k, z9) :: S1 := hS
    subst hS
    split at h
    · next kd n es hw =>
      split at h
      · next hx =>
        obtain ⟨rfl, h1, h2, h3, rfl⟩ := hx
        split at h
        · next v hv =>
          have hu := Sum.inl.inj (Option.some.inj h)
          subst hu
          obtain ⟨⟨hd, hn⟩, hq⟩ := hok
          cases hK : kt[i.2.2.1]? with
          | none => rw [hK] at hq; cases hq
          | some ty =>
            rw [hK] at hq
            obtain ⟨j, rfl⟩ : ∃ j, x = j + 2147483648 := ⟨x - 2147483648, by omega⟩
            rw [Nat.add_sub_cancel] at h2 hv
            exact fun r1 r2 Q k9 => ev_s_aald X hK hq hd hn hw h2 h3 hv k9
        · cases h
      · cases h
    · cases h
  · cases h
theorem ev_q43 (X : ev_X p s m args c D cl dA kt A Gs own cc nL) (hGc : ∀ (h : Nat) (w : Cond), ev_hg Gc h = some w → w ∈ Gs) (hG : ∀ w ∈ Gs, (w.onTables && w.keeps) = true ∨ ∃ ty, w = .arrayClass ty) (hT : ev_okD Gs cl Ct Pg) (hnm : meth.name = nm) (hret : meth.sig.returnType = ret) (hlk : meth.locks = false) (hRf : R.frames = d + 1) (hRl : R.locals = 90 * (d + 1)) (hcl : ∀ (k : Nat) (as : List (Nat × Nat × Nat)) (w : List ev_C) (r : ev_R), call k as w = some r → ∀ (y : MethodName) (bytes : ByteArray) (maxL : Nat) (rt : Option FieldType) (cdm : ev_Cd), Pg[k]? = some ((y, bytes, maxL, rt), cdm) → ev_Met l D cl dA kt Gs y bytes maxL rt d as w r) (hdd : dd = d) (hsm : ∀ q ∈ sm, ∀ (y : MethodName) (bytes : ByteArray) (maxL : Nat) (rt : Option FieldType) (cdm : ev_Cd), Pg[q.1]? = some ((y, bytes, maxL, rt), cdm) → ev_Met l D cl dA kt Gs y bytes maxL rt q.2.1 q.2.2.2.1 q.2.2.2.2.1 q.2.2.2.2.2) {Ks : List Nat} (hF : ev_pin Ks F) (hsafe : ev_safe Ks i = true) (hop : i.2.1 = 43) (hok : ev_k43 Gc Ct kt Pg sm own nm cc nL ret cd st.1 i = true) (h : ev_o43 Ct ret sm dd call i st = some (.inl u)) : ev_SF p l e R s m args below meth c D cl dA A ws0 nL cd F st u := by
  obtain ⟨ix, L, S, w, nc, ns⟩ := st
  unfold ev_k43 at hok
  unfold ev_o43 at h
  simp only [Bool.and_eq_true, decide_eq_true_eq] at hok
  split at h
  · next o z8 x y k z9 S1 hS =>
    have hS : S = (2, o, z8) :: (0, x, y) :: (2, k, z9) :: S1 := hS
    subst hS
    split at h
    · next kd n es hw =>
      split at h
      · next ci z fs ho =>
        split at h
        · next hx =>
          obtain ⟨rfl, h1, h2, h3, rfl, rfl⟩ := hx
          have hu := Sum.inl.inj (Option.some.inj h)
          subst hu
          obtain ⟨⟨hd, hn⟩, hq⟩ := hok
          cases hC : Ct[i.2.2.2.1]? with
          | none => rw [hC] at hq; cases hq
          | some q =>
            rw [hC] at hq
            have hq := of_decide_eq_true hq
            obtain ⟨j, rfl⟩ : ∃ j, x = j + 2147483648 := ⟨x - 2147483648, by omega⟩
            rw [Nat.add_sub_cancel] at h2 ⊢
            exact fun r1 r2 Q k9 => ev_s_aast X hq (hT.1 _ _ hC).2.1 hd hn hw ho h2 h3 k9
        · cases h
      · cases h
    · cases h
  · cases h
theorem ev_q44 (X : ev_X p s m args c D cl dA kt A Gs own cc nL) (hGc : ∀ (h : Nat) (w : Cond), ev_hg Gc h = some w → w ∈ Gs) (hG : ∀ w ∈ Gs, (w.onTables && w.keeps) = true ∨ ∃ ty, w = .arrayClass ty) (hT : ev_okD Gs cl Ct Pg) (hnm : meth.name = nm) (hret : meth.sig.returnType = ret) (hlk : meth.locks = false) (hRf : R.frames = d + 1) (hRl : R.locals = 90 * (d + 1)) (hcl : ∀ (k : Nat) (as : List (Nat × Nat × Nat)) (w : List ev_C) (r : ev_R), call k as w = some r → ∀ (y : MethodName) (bytes : ByteArray) (maxL : Nat) (rt : Option FieldType) (cdm : ev_Cd), Pg[k]? = some ((y, bytes, maxL, rt), cdm) → ev_Met l D cl dA kt Gs y bytes maxL rt d as w r) (hdd : dd = d) (hsm : ∀ q ∈ sm, ∀ (y : MethodName) (bytes : ByteArray) (maxL : Nat) (rt : Option FieldType) (cdm : ev_Cd), Pg[q.1]? = some ((y, bytes, maxL, rt), cdm) → ev_Met l D cl dA kt Gs y bytes maxL rt q.2.1 q.2.2.2.1 q.2.2.2.2.1 q.2.2.2.2.2) {Ks : List Nat} (hF : ev_pin Ks F) (hsafe : ev_safe Ks i = true) (hop : i.2.1 = 44) (hok : ev_k44 Gc Ct kt Pg sm own nm cc nL ret cd st.1 i = true) (h : ev_o44 Ct ret sm dd call i st = some (.inl u)) : ev_SF p l e R s m args below meth c D cl dA A ws0 nL cd F st u := by
  obtain ⟨ix, L, S, w, nc, ns⟩ := st
  unfold ev_k44 at hok
  unfold ev_o44 at h
  simp only [Bool.and_eq_true, decide_eq_true_eq] at hok
  have hu := Sum.inl.inj (Option.some.inj h)
  subst hu
  exact fun _ _ Q k => ev_s_lconst X hok.1 hok.2 k
theorem ev_q46 (X : ev_X p s m args c D cl dA kt A Gs own cc nL) (hGc : ∀ (h : Nat) (w : Cond), ev_hg Gc h = some w → w ∈ Gs) (hG : ∀ w ∈ Gs, (w.onTables && w.keeps) = true ∨ ∃ ty, w = .arrayClass ty) (hT : ev_okD Gs cl Ct Pg) (hnm : meth.name = nm) (hret : meth.sig.returnType = ret) (hlk : meth.locks = false) (hRf : R.frames = d + 1) (hRl : R.locals = 90 * (d + 1)) (hcl : ∀ (k : Nat) (as : List (Nat × Nat × Nat)) (w : List ev_C) (r : ev_R), call k as w = some r → ∀ (y : MethodName) (bytes : ByteArray) (maxL : Nat) (rt : Option FieldType) (cdm : ev_Cd), Pg[k]? = some ((y, bytes, maxL, rt), cdm) → ev_Met l D cl dA kt Gs y bytes maxL rt d as w r) (hdd : dd = d) (hsm : ∀ q ∈ sm, ∀ (y : MethodName) (bytes : ByteArray) (maxL : Nat) (rt : Option FieldType) (cdm : ev_Cd), Pg[q.1]? = some ((y, bytes, maxL, rt), cdm) → ev_Met l D cl dA kt Gs y bytes maxL rt q.2.1 q.2.2.2.1 q.2.2.2.2.1 q.2.2.2.2.2) {Ks : List Nat} (hF : ev_pin Ks F) (hsafe : ev_safe Ks i = true) (hop : i.2.1 = 46) (hok : ev_k46 Gc Ct kt Pg sm own nm cc nL ret cd st.1 i = true) (h : ev_o46 Ct ret sm dd call i st = some (.inl u)) : ev_SF p l e R s m args below meth c D cl dA A ws0 nL cd F st u := by
  obtain ⟨ix, L, S, w, nc, ns⟩ := st
  unfold ev_k46 at hok
  unfold ev_o46 at h
  simp only [Bool.and_eq_true, decide_eq_true_eq] at hok
  split at h
  · next k z9 S1 hS =>
    have hS : S = (2, k, z9) :: S1 := hS
    subst hS
    split at h
    · next hcs =>
      have hu := Sum.inl.inj (Option.some.inj h)
      subst hu
      obtain ⟨⟨⟨⟨hd, hn⟩, h1⟩, h2⟩, h3⟩ := hok
      exact fun _ _ Q k9 => ev_s_obj X (hGc _ _ h1) (hGc _ _ h2) (hGc _ _ h3) (by omega) (by omega) hcs hd hn k9
    · cases h
  · cases h
theorem ev_q47 (X : ev_X p s m args c D cl dA kt A Gs own cc nL) (hGc : ∀ (h : Nat) (w : Cond), ev_hg Gc h = some w → w ∈ Gs) (hG : ∀ w ∈ Gs, (w.onTables && w.keeps) = true ∨ ∃ ty, w = .arrayClass ty) (hT : ev_okD Gs cl Ct Pg) (hnm : meth.name = nm) (hret : meth.sig.returnType = ret) (hlk : meth.locks = false) (hRf : R.frames = d + 1) (hRl : R.locals = 90 * (d + 1)) (hcl : ∀ (k : Nat) (as : List (Nat × Nat × Nat)) (w : List ev_C) (r : ev_R), call k as w = some r → ∀ (y : MethodName) (bytes : ByteArray) (maxL : Nat) (rt : Option FieldType) (cdm : ev_Cd), Pg[k]? = some ((y, bytes, maxL, rt), cdm) → ev_Met l D cl dA kt Gs y bytes maxL rt d as w r) (hdd : dd = d) (hsm : ∀ q ∈ sm, ∀ (y : MethodName) (bytes : ByteArray) (maxL : Nat) (rt : Option FieldType) (cdm : ev_Cd), Pg[q.1]? = some ((y, bytes, maxL, rt), cdm) → ev_Met l D cl dA kt Gs y bytes maxL rt q.2.1 q.2.2.2.1 q.2.2.2.2.1 q.2.2.2.2.2) {Ks : List Nat} (hF : ev_pin Ks F) (hsafe : ev_safe Ks i = true) (hop : i.2.1 = 47) (hok : ev_k47 Gc Ct kt Pg sm own nm cc nL ret cd st.1 i = true) (h : ev_o47 Ct ret sm dd call i st = some (.inl u)) : ev_SF p l e R s m args below meth c D cl dA A ws0 nL cd F st u := by
  obtain ⟨ix, L, S, w, nc, ns⟩ := st
  unfold ev_k47 at hok
  unfold ev_o47 at h
  simp only [Bool.and_eq_true, decide_eq_true_eq] at hok
  have hu := Sum.inl.inj (Option.some.inj h)
  subst hu
  exact fun _ _ Q k => ev_s_ldc2 X hok.1.1 (hGc _ _ hok.2) hok.1.2 k
theorem ev_q48 (X : ev_X p s m args c D cl dA kt A Gs own cc nL) (hGc : ∀ (h : Nat) (w : Cond), ev_hg Gc h = some w → w ∈ Gs) (hG : ∀ w ∈ Gs, (w.onTables && w.keeps) = true ∨ ∃ ty, w = .arrayClass ty) (hT : ev_okD Gs cl Ct Pg) (hnm : meth.name = nm) (hret : meth.sig.returnType = ret) (hlk : meth.locks = false) (hRf : R.frames = d + 1) (hRl : R.locals = 90 * (d + 1)) (hcl : ∀ (k : Nat) (as : List (Nat × Nat × Nat)) (w : List ev_C) (r : ev_R), call k as w = some r → ∀ (y : MethodName) (bytes : ByteArray) (maxL : Nat) (rt : Option FieldType) (cdm : ev_Cd), Pg[k]? = some ((y, bytes, maxL, rt), cdm) → ev_Met l D cl dA kt Gs y bytes maxL rt d as w r) (hdd : dd = d) (hsm : ∀ q ∈ sm, ∀ (y : MethodName) (bytes : ByteArray) (maxL : Nat) (rt : Option FieldType) (cdm : ev_Cd), Pg[q.1]? = some ((y, bytes, maxL, rt), cdm) → ev_Met l D cl dA kt Gs y bytes maxL rt q.2.1 q.2.2.2.1 q.2.2.2.2.1 q.2.2.2.2.2) {Ks : List Nat} (hF : ev_pin Ks F) (hsafe : ev_safe Ks i = true) (hop : i.2.1 = 48) (hok : ev_k48 Gc Ct kt Pg sm own nm cc nL ret cd st.1 i = true) (h : ev_o48 Ct ret sm dd call i st = some (.inl u)) : ev_SF p l e R s m args below meth c D cl dA A ws0 nL cd F st u := by
  obtain ⟨ix, L, S, w, nc, ns⟩ := st
  unfold ev_k48 at hok
  unfold ev_o48 at h
  simp only [Bool.and_eq_true, decide_eq_true_eq] at hok
  split at h
  · split at h
    · cases h
    · cases h
  · cases h
theorem ev_q49 (X : ev_X p s m args c D cl dA kt A Gs own cc nL) (hGc : ∀ (h : Nat) (w : Cond), ev_hg Gc h = some w → w ∈ Gs) (hG : ∀ w ∈ Gs, (w.onTables && w.keeps) = true ∨ ∃ ty, w = .arrayClass ty) (hT : ev_okD Gs cl Ct Pg) (hnm : meth.name = nm) (hret : meth.sig.returnType = ret) (hlk : meth.locks = false) (hRf : R.frames = d + 1) (hRl : R.locals = 90 * (d + 1)) (hcl : ∀ (k : Nat) (as : List (Nat × Nat × Nat)) (w : List ev_C) (r : ev_R), call k as w = some r → ∀ (y : MethodName) (bytes : ByteArray) (maxL : Nat) (rt : Option FieldType) (cdm : ev_Cd), Pg[k]? = some ((y, bytes, maxL, rt), cdm) → ev_Met l D cl dA kt Gs y bytes maxL rt d as w r) (hdd : dd = d) (hsm : ∀ q ∈ sm, ∀ (y : MethodName) (bytes : ByteArray) (maxL : Nat) (rt : Option FieldType) (cdm : ev_Cd), Pg[q.1]? = some ((y, bytes, maxL, rt), cdm) → ev_Met l D cl dA kt Gs y bytes maxL rt q.2.1 q.2.2.2.1 q.2.2.2.2.1 q.2.2.2.2.2) {Ks : List Nat} (hF : ev_pin Ks F) (hsafe : ev_safe Ks i = true) (hop : i.2.1 = 49) (hok : ev_k49 Gc Ct kt Pg sm own nm cc nL ret cd st.1 i = true) (h : ev_o49 Ct ret sm dd call i st = some (.inl u)) : ev_SF p l e R s m args below meth c D cl dA A ws0 nL cd F st u := by
  obtain ⟨ix, L, S, w, nc, ns⟩ := st
  unfold ev_k49 at hok
  unfold ev_o49 at h
  simp only [Bool.and_eq_true, decide_eq_true_eq] at hok
  split at h
  · cases h
  · cases h
theorem ev_q50 (X : ev_X p s m args c D cl dA kt A Gs own cc nL) (hGc : ∀ (h : Nat) (w : Cond), ev_hg Gc h = some w → w ∈ Gs) (hG : ∀ w ∈ Gs, (w.onTables && w.keeps) = true ∨ ∃ ty, w = .arrayClass ty) (hT : ev_okD Gs cl Ct Pg) (hnm : meth.name = nm) (hret : meth.sig.returnType = ret) (hlk : meth.locks = false) (hRf : R.frames = d + 1) (hRl : R.locals = 90 * (d + 1)) (hcl : ∀ (k : Nat) (as : List (Nat × Nat × Nat)) (w : List ev_C) (r : ev_R), call k as w = some r → ∀ (y : MethodName) (bytes : ByteArray) (maxL : Nat) (rt : Option FieldType) (cdm : ev_Cd), Pg[k]? = some ((y, bytes, maxL, rt), cdm) → ev_Met l D cl dA kt Gs y bytes maxL rt d as w r) (hdd : dd = d) (hsm : ∀ q ∈ sm, ∀ (y : MethodName) (bytes : ByteArray) (maxL : Nat) (rt : Option FieldType) (cdm : ev_Cd), Pg[q.1]? = some ((y, bytes, maxL, rt), cdm) → ev_Met l D cl dA kt Gs y bytes maxL rt q.2.1 q.2.2.2.1 q.2.2.2.2.1 q.2.2.2.2.2) {Ks : List Nat} (hF : ev_pin Ks F) (hsafe : ev_safe Ks i = true) (hop : i.2.1 = 50) (hok : ev_k50 Gc Ct kt Pg sm own nm cc nL ret cd st.1 i = true) (h : ev_o50 Ct ret sm dd call i st = some (.inl u)) : ev_SF p l e R s m args below meth c D cl dA A ws0 nL cd F st u := by
  obtain ⟨ix, L, S, w, nc, ns⟩ := st
  unfold ev_k50 at hok
  unfold ev_o50 at h
  simp only [Bool.and_eq_true, decide_eq_true_eq] at hok
  split at h
  · split at h
    · cases h
    · cases h
  · cases h
theorem ev_q51 (X : ev_X p s m args c D cl dA kt A Gs own cc nL) (hGc : ∀ (h : Nat) (w : Cond), ev_hg Gc h = some w → w ∈ Gs) (hG : ∀ w ∈ Gs, (w.onTables && w.keeps) = true ∨ ∃ ty, w = .arrayClass ty) (hT : ev_okD Gs cl Ct Pg) (hnm : meth.name = nm) (hret : meth.sig.returnType = ret) (hlk : meth.locks = false) (hRf : R.frames = d + 1) (hRl : R.locals = 90 * (d + 1)) (hcl : ∀ (k : Nat) (as : List (Nat × Nat × Nat)) (w : List ev_C) (r : ev_R), call k as w = some r → ∀ (y : MethodName) (bytes : ByteArray) (maxL : Nat) (rt : Option FieldType) (cdm : ev_Cd), Pg[k]? = some ((y, bytes, maxL, rt), cdm) → ev_Met l D cl dA kt Gs y bytes maxL rt d as w r) (hdd : dd = d) (hsm : ∀ q ∈ sm, ∀ (y : MethodName) (bytes : ByteArray) (maxL : Nat) (rt : Option FieldType) (cdm : ev_Cd), Pg[q.1]? = some ((y, bytes, maxL, rt), cdm) → ev_Met l D cl dA kt Gs y bytes maxL rt q.2.1 q.2.2.2.1 q.2.2.2.2.1 q.2.2.2.2.2) {Ks : List Nat} (hF : ev_pin Ks F) (hsafe : ev_safe Ks i = true) (hop : i.2.1 = 51) (hok : ev_k51 Gc Ct kt Pg sm own nm cc nL ret cd st.1 i = true) (h : ev_o51 Ct ret sm dd call i st = some (.inl u)) : ev_SF p l e R s m args below meth c D cl dA A ws0 nL cd F st u := by
  obtain ⟨ix, L, S, w, nc, ns⟩ := st
  unfold ev_k51 at hok
  unfold ev_o51 at h
  simp only [Bool.and_eq_true, decide_eq_true_eq] at hok
  split at h
  · next x k z9 S1 hS =>
    have hS : S = x :: (2, k, z9) :: S1 := hS
    subst hS
    split at h
    · next kd n b z hw =>
      split at h
      · next hx =>
        obtain ⟨rfl, x1, x2, x3, x4⟩ := hx
        have hu := Sum.inl.inj (Option.some.inj h)
        subst hu
        exact fun r1 r2 Q k9 => ev_s_iald X hok.2 hok.1.1 hok.1.2 hw rfl x1 x2 x3 x4 k9
      · cases h
    · cases h
  · cases h
theorem ev_q52 (X : ev_X p s m args c D cl dA kt A Gs own cc nL) (hGc : ∀ (h : Nat) (w : Cond), ev_hg Gc h = some w → w ∈ Gs) (hG : ∀ w ∈ Gs, (w.onTables && w.keeps) = true ∨ ∃ ty, w = .arrayClass ty) (hT : ev_okD Gs cl Ct Pg) (hnm : meth.name = nm) (hret : meth.sig.returnType = ret) (hlk : meth.locks = false) (hRf : R.frames = d + 1) (hRl : R.locals = 90 * (d + 1)) (hcl : ∀ (k : Nat) (as : List (Nat × Nat × Nat)) (w : List ev_C) (r : ev_R), call k as w = some r → ∀ (y : MethodName) (bytes : ByteArray) (maxL : Nat) (rt : Option FieldType) (cdm : ev_Cd), Pg[k]? = some ((y, bytes, maxL, rt), cdm) → ev_Met l D cl dA kt Gs y bytes maxL rt d as w r) (hdd : dd = d) (hsm : ∀ q ∈ sm, ∀ (y : MethodName) (bytes : ByteArray) (maxL : Nat) (rt : Option FieldType) (cdm : ev_Cd), Pg[q.1]? = some ((y, bytes, maxL, rt), cdm) → ev_Met l D cl dA kt Gs y bytes maxL rt q.2.1 q.2.2.2.1 q.2.2.2.2.1 q.2.2.2.2.2) {Ks : List Nat} (hF : ev_pin Ks F) (hsafe : ev_safe Ks i = true) (hop : i.2.1 = 52) (hok : ev_k52 Gc Ct kt Pg sm own nm cc nL ret cd st.1 i = true) (h : ev_o52 Ct ret sm dd call i st = some (.inl u)) : ev_SF p l e R s m args below meth c D cl dA A ws0 nL cd F st u := by
  obtain ⟨ix, L, S, w, nc, ns⟩ := st
  unfold ev_k52 at hok
  unfold ev_o52 at h
  simp only [Bool.and_eq_true, decide_eq_true_eq] at hok
  split at h
  · next x k z9 S1 hS =>
    have hS : S = x :: (2, k, z9) :: S1 := hS
    subst hS
    split at h
    · next tg kd n b z hw =>
      split at h
      · next hx =>
        obtain ⟨x0, rfl, x1, x2, x3, x4⟩ := hx
        have hu := Sum.inl.inj (Option.some.inj h)
        subst hu
        exact fun r1 r2 Q k9 => ev_s_bald X hok.2 hok.1.1 hok.1.2 x0 hw rfl x1 x2 x3 x4 k9
      · cases h
    · cases h
  · cases h
theorem ev_q53 (X : ev_X p s m args c D cl dA kt A Gs own cc nL) (hGc : ∀ (h : Nat) (w : Cond), ev_hg Gc h = some w → w ∈ Gs) (hG : ∀ w ∈ Gs, (w.onTables && w.keeps) = true ∨ ∃ ty, w = .arrayClass ty) (hT : ev_okD Gs cl Ct Pg) (hnm : meth.name = nm) (hret : meth.sig.returnType = ret) (hlk : meth.locks = false) (hRf : R.frames = d + 1) (hRl : R.locals = 90 * (d + 1)) (hcl : ∀ (k : Nat) (as : List (Nat × Nat × Nat)) (w : List ev_C) (r : ev_R), call k as w = some r → ∀ (y : MethodName) (bytes : ByteArray) (maxL : Nat) (rt : Option FieldType) (cdm : ev_Cd), Pg[k]? = some ((y, bytes, maxL, rt), cdm) → ev_Met l D cl dA kt Gs y bytes maxL rt d as w r) (hdd : dd = d) (hsm : ∀ q ∈ sm, ∀ (y : MethodName) (bytes : ByteArray) (maxL : Nat) (rt : Option FieldType) (cdm : ev_Cd), Pg[q.1]? = some ((y, bytes, maxL, rt), cdm) → ev_Met l D cl dA kt Gs y bytes maxL rt q.2.1 q.2.2.2.1 q.2.2.2.2.1 q.2.2.2.2.2) {Ks : List Nat} (hF : ev_pin Ks F) (hsafe : ev_safe Ks i = true) (hop : i.2.1 = 53) (hok : ev_k53 Gc Ct kt Pg sm own nm cc nL ret cd st.1 i = true) (h : ev_o53 Ct ret sm dd call i st = some (.inl u)) : ev_SF p l e R s m args below meth c D cl dA A ws0 nL cd F st u := by
  obtain ⟨ix, L, S, w, nc, ns⟩ := st
  unfold ev_k53 at hok
  unfold ev_o53 at h
  simp only [Bool.and_eq_true, decide_eq_true_eq] at hok
  split at h
  · next x k z9 S1 hS =>
    have hS : S = x :: (2, k, z9) :: S1 := hS
    subst hS
    split at h
    · next kd n b z hw =>
      split at h
      · next hx =>
        obtain ⟨rfl, x1, x2, x3, x4⟩ := hx
        have hu := Sum.inl.inj (Option.some.inj h)
        subst hu
        exact fun r1 r2 Q k9 => ev_s_zald X hok.2 hok.1.1 hok.1.2 hw rfl x1 x2 x3 x4 k9
      · cases h
    · cases h
  · cases h
theorem ev_q54 (X : ev_X p s m args c D cl dA kt A Gs own cc nL) (hGc : ∀ (h : Nat) (w : Cond), ev_hg Gc h = some w → w ∈ Gs) (hG : ∀ w ∈ Gs, (w.onTables && w.keeps) = true ∨ ∃ ty, w = .arrayClass ty) (hT : ev_okD Gs cl Ct Pg) (hnm : meth.name = nm) (hret : meth.sig.returnType = ret) (hlk : meth.locks = false) (hRf : R.frames = d + 1) (hRl : R.locals = 90 * (d + 1)) (hcl : ∀ (k : Nat) (as : List (Nat × Nat × Nat)) (w : List ev_C) (r : ev_R), call k as w = some r → ∀ (y : MethodName) (bytes : ByteArray) (maxL : Nat) (rt : Option FieldType) (cdm : ev_Cd), Pg[k]? = some ((y, bytes, maxL, rt), cdm) → ev_Met l D cl dA kt Gs y bytes maxL rt d as w r) (hdd : dd = d) (hsm : ∀ q ∈ sm, ∀ (y : MethodName) (bytes : ByteArray) (maxL : Nat) (rt : Option FieldType) (cdm : ev_Cd), Pg[q.1]? = some ((y, bytes, maxL, rt), cdm) → ev_Met l D cl dA kt Gs y bytes maxL rt q.2.1 q.2.2.2.1 q.2.2.2.2.1 q.2.2.2.2.2) {Ks : List Nat} (hF : ev_pin Ks F) (hsafe : ev_safe Ks i = true) (hop : i.2.1 = 54) (hok : ev_k54 Gc Ct kt Pg sm own nm cc nL ret cd st.1 i = true) (h : ev_o54 Ct ret sm dd call i st = some (.inl u)) : ev_SF p l e R s m args below meth c D cl dA A ws0 nL cd F st u := by
  obtain ⟨ix, L, S, w, nc, ns⟩ := st
  unfold ev_k54 at hok
  unfold ev_o54 at h
  simp only [Bool.and_eq_true, decide_eq_true_eq] at hok
  split at h
  · next x k z9 S1 hS =>
    have hS : S = x :: (2, k, z9) :: S1 := hS
    subst hS
    split at h
    · next kd n z hw =>
      split at h
      · next hx =>
        obtain ⟨rfl, x2, x3, x4⟩ := hx
        have hu := Sum.inl.inj (Option.some.inj h)
        subst hu
        exact fun r1 r2 Q k9 => ev_s_lald X hok.2 hok.1.1 hok.1.2 hw x2 x3 x4 k9
      · cases h
    · cases h
  · cases h
theorem ev_q55 (X : ev_X p s m args c D cl dA kt A Gs own cc nL) (hGc : ∀ (h : Nat) (w : Cond), ev_hg Gc h = some w → w ∈ Gs) (hG : ∀ w ∈ Gs, (w.onTables && w.keeps) = true ∨ ∃ ty, w = .arrayClass ty) (hT : ev_okD Gs cl Ct Pg) (hnm : meth.name = nm) (hret : meth.sig.returnType = ret) (hlk : meth.locks = false) (hRf : R.frames = d + 1) (hRl : R.locals = 90 * (d + 1)) (hcl : ∀ (k : Nat) (as : List (Nat × Nat × Nat)) (w : List ev_C) (r : ev_R), call k as w = some r → ∀ (y : MethodName) (bytes : ByteArray) (maxL : Nat) (rt : Option FieldType) (cdm : ev_Cd), Pg[k]? = some ((y, bytes, maxL, rt), cdm) → ev_Met l D cl dA kt Gs y bytes maxL rt d as w r) (hdd : dd = d) (hsm : ∀ q ∈ sm, ∀ (y : MethodName) (bytes : ByteArray) (maxL : Nat) (rt : Option FieldType) (cdm : ev_Cd), Pg[q.1]? = some ((y, bytes, maxL, rt), cdm) → ev_Met l D cl dA kt Gs y bytes maxL rt q.2.1 q.2.2.2.1 q.2.2.2.2.1 q.2.2.2.2.2) {Ks : List Nat} (hF : ev_pin Ks F) (hsafe : ev_safe Ks i = true) (hop : i.2.1 = 55) (hok : ev_k55 Gc Ct kt Pg sm own nm cc nL ret cd st.1 i = true) (h : ev_o55 Ct ret sm dd call i st = some (.inl u)) : ev_SF p l e R s m args below meth c D cl dA A ws0 nL cd F st u := by
  obtain ⟨ix, L, S, w, nc, ns⟩ := st
  unfold ev_k55 at hok
  unfold ev_o55 at h
  simp only [Bool.and_eq_true, decide_eq_true_eq] at hok
  split at h
  · next k z S2 hS =>
    have hS : S.drop i.2.2.2.1 = (2, k, z) :: S2 := hS
    split at h
    · next w1 mc ms hr =>
      split at h
      · next hx =>
        have hu := Sum.inl.inj (Option.some.inj h)
        subst hu
        obtain ⟨⟨hd, hn⟩, hq⟩ := hok
        obtain ⟨q, hqm, hmi, is, x1, x2, x3, x4, x5, x8, x9⟩ := ev_att_ok hr
        split at hq
        · next y bytes maxL rt cdm hP =>
          simp only [Bool.and_eq_true, decide_eq_true_eq] at hq
          obtain ⟨⟨⟨⟨⟨⟨⟨q1, q2⟩, q3⟩, q4⟩, q5⟩, q6⟩, q7⟩, q8⟩ := hq
          subst q6
          have hM := hsm q hqm _ _ _ _ _ (by rw [hmi]; exact hP)
          obtain ⟨qk, qd, qp, qa, qw, qr, q1', qm, qs⟩ := q
          dsimp only at x2 x3 x4 x5 x8 x9 hM
          obtain ⟨y1, y2, y3, y4⟩ : none = qr.map (ev_rnV is w.length) ∧ w1 = ev_up ev_c0 w (ev_mix w qw q1' is) is ∧ mc = qm ∧ ms = qs := by
            have z1 := congrArg Prod.fst x9
            have z2 := congrArg (fun r => r.2.1) x9
            have z3 := congrArg (fun r => r.2.2.1) x9
            have z4 := congrArg (fun r => r.2.2.2) x9
            exact ⟨z1, z2, z3, z4⟩
          cases qr with
          | some v => cases y1
          | none =>
            subst y2 y3 y4
            have hSS : S = S.take i.2.2.2.1 ++ (2, k, z) :: S2 := by rw [← hS, List.take_append_drop]
            intro r1 r2 Q k9
            show ev_G p l e R s m args below meth c Q D cl dA A ws0 nL cd (ix, L ++ F, S, w, nc, ns)
            rw [hSS]
            have hRd : qd + 1 ≤ R.frames ∧ 8 + (maxL + 11) + 90 * qd ≤ R.locals := ⟨by omega, by omega⟩
            exact ev_s_fI X hG hM x1 x2 x3 x4 x5 hx.1 (hT.2 _ _ _ _ _ _ hP) (hGc _ _ q3) (hGc _ _ q1) (hGc _ _ q4) q5 q7 hRd hx.2 ⟨r1, r2⟩ hd hn k9
        · cases hq
      · cases h
    · cases h
  · cases h
theorem ev_q56 (X : ev_X p s m args c D cl dA kt A Gs own cc nL) (hGc : ∀ (h : Nat) (w : Cond), ev_hg Gc h = some w → w ∈ Gs) (hG : ∀ w ∈ Gs, (w.onTables && w.keeps) = true ∨ ∃ ty, w = .arrayClass ty) (hT : ev_okD Gs cl Ct Pg) (hnm : meth.name = nm) (hret : meth.sig.returnType = ret) (hlk : meth.locks = false) (hRf : R.frames = d + 1) (hRl : R.locals = 90 * (d + 1)) (hcl : ∀ (k : Nat) (as : List (Nat × Nat × Nat)) (w : List ev_C) (r : ev_R), call k as w = some r → ∀ (y : MethodName) (bytes : ByteArray) (maxL : Nat) (rt : Option FieldType) (cdm : ev_Cd), Pg[k]? = some ((y, bytes, maxL, rt), cdm) → ev_Met l D cl dA kt Gs y bytes maxL rt d as w r) (hdd : dd = d) (hsm : ∀ q ∈ sm, ∀ (y : MethodName) (bytes : ByteArray) (maxL : Nat) (rt : Option FieldType) (cdm : ev_Cd), Pg[q.1]? = some ((y, bytes, maxL, rt), cdm) → ev_Met l D cl dA kt Gs y bytes maxL rt q.2.1 q.2.2.2.1 q.2.2.2.2.1 q.2.2.2.2.2) {Ks : List Nat} (hF : ev_pin Ks F) (hsafe : ev_safe Ks i = true) (hop : i.2.1 = 56) (hok : ev_k56 Gc Ct kt Pg sm own nm cc nL ret cd st.1 i = true) (h : ev_o56 Ct ret sm dd call i st = some (.inl u)) : ev_SF p l e R s m args below meth c D cl dA A ws0 nL cd F st u := by
  obtain ⟨ix, L, S, w, nc, ns⟩ := st
  unfold ev_k56 at hok
  unfold ev_o56 at h
  simp only [Bool.and_eq_true, decide_eq_true_eq] at hok
  split at h
  · next k z S2 hS =>
    have hS : S.drop i.2.2.2.1 = (2, k, z) :: S2 := hS
    split at h
    · next ci z8 fs hw =>
      split at h
      · next r w1 mc ms hr =>
        split at h
        · next hx =>
          obtain ⟨hx1, hx2, rfl⟩ := hx
          have hu := Sum.inl.inj (Option.some.inj h)
          subst hu
          obtain ⟨⟨hd, hn⟩, hq⟩ := hok
          obtain ⟨q, hqm, hmi, is, x1, x2, x3, x4, x5, x8, x9⟩ := ev_att_ok hr
          split at hq
          · next y bytes maxL rt cdm hP =>
            simp only [Bool.and_eq_true, decide_eq_true_eq] at hq
            obtain ⟨⟨⟨⟨⟨⟨⟨q1, q2⟩, q3⟩, q4⟩, q5⟩, q6⟩, q7⟩, q8⟩ := hq
            cases hC : Ct[i.2.2.2.2.2.2 % 64]? with
            | none => rw [hC] at q6; cases q6
            | some qc =>
              rw [hC] at q6
              have q6 := of_decide_eq_true q6
              have hM := hsm q hqm _ _ _ _ _ (by rw [hmi]; exact hP)
              obtain ⟨qk, qd, qp, qa, qw, qr, q1', qm, qs⟩ := q
              dsimp only at x2 x3 x4 x5 x8 x9 hM
              obtain ⟨y1, y2, y3, y4⟩ : r = qr.map (ev_rnV is w.length) ∧ w1 = ev_up ev_c0 w (ev_mix w qw q1' is) is ∧ mc = qm ∧ ms = qs := by
                have z1 := congrArg Prod.fst x9
                have z2 := congrArg (fun r => r.2.1) x9
                have z3 := congrArg (fun r => r.2.2.1) x9
                have z4 := congrArg (fun r => r.2.2.2) x9
                exact ⟨z1, z2, z3, z4⟩
              subst y1 y2 y3 y4
              have hSS : S = S.take i.2.2.2.1 ++ (2, k, z) :: S2 := by rw [← hS, List.take_append_drop]
              intro r1 r2 Q k9
              show ev_G p l e R s m args below meth c Q D cl dA A ws0 nL cd (ix, L ++ F, S, w, nc, ns)
              rw [hSS]
              have hRd : qd + 1 ≤ R.frames ∧ 8 + (maxL + 11) + 90 * qd ≤ R.locals := ⟨by omega, by omega⟩
              exact ev_s_fV X hG hM x1 x2 x3 x4 x5 hx1 hw (hT.1 _ _ hC).2.1 q6 (hT.2 _ _ _ _ _ _ hP) (hGc _ _ q3) (hGc _ _ q1) (hGc _ _ q4) (hGc _ _ q5) q7 hRd hx2 ⟨r1, r2⟩ hd hn k9
          · cases hq
        · cases h
      · cases h
    · cases h
  · cases h
theorem ev_q57 (X : ev_X p s m args c D cl dA kt A Gs own cc nL) (hGc : ∀ (h : Nat) (w : Cond), ev_hg Gc h = some w → w ∈ Gs) (hG : ∀ w ∈ Gs, (w.onTables && w.keeps) = true ∨ ∃ ty, w = .arrayClass ty) (hT : ev_okD Gs cl Ct Pg) (hnm : meth.name = nm) (hret : meth.sig.returnType = ret) (hlk : meth.locks = false) (hRf : R.frames = d + 1) (hRl : R.locals = 90 * (d + 1)) (hcl : ∀ (k : Nat) (as : List (Nat × Nat × Nat)) (w : List ev_C) (r : ev_R), call k as w = some r → ∀ (y : MethodName) (bytes : ByteArray) (maxL : Nat) (rt : Option FieldType) (cdm : ev_Cd), Pg[k]? = some ((y, bytes, maxL, rt), cdm) → ev_Met l D cl dA kt Gs y bytes maxL rt d as w r) (hdd : dd = d) (hsm : ∀ q ∈ sm, ∀ (y : MethodName) (bytes : ByteArray) (maxL : Nat) (rt : Option FieldType) (cdm : ev_Cd), Pg[q.1]? = some ((y, bytes, maxL, rt), cdm) → ev_Met l D cl dA kt Gs y bytes maxL rt q.2.1 q.2.2.2.1 q.2.2.2.2.1 q.2.2.2.2.2) {Ks : List Nat} (hF : ev_pin Ks F) (hsafe : ev_safe Ks i = true) (hop : i.2.1 = 57) (hok : ev_k57 Gc Ct kt Pg sm own nm cc nL ret cd st.1 i = true) (h : ev_o57 Ct ret sm dd call i st = some (.inl u)) : ev_SF p l e R s m args below meth c D cl dA A ws0 nL cd F st u := by
  obtain ⟨ix, L, S, w, nc, ns⟩ := st
  unfold ev_k57 at hok
  unfold ev_o57 at h
  simp only [Bool.and_eq_true, decide_eq_true_eq] at hok
  split at h
  · next r w1 mc ms hr =>
    split at h
    · next hx =>
      obtain ⟨hx1, hx2⟩ := hx
      have hu := Sum.inl.inj (Option.some.inj h)
      subst hu
      obtain ⟨⟨hd, hn⟩, hq⟩ := hok
      obtain ⟨q, hqm, hmi, is, x1, x2, x3, x4, x5, x8, x9⟩ := ev_att_ok hr
      split at hq
      · next y bytes maxL rt cdm hP =>
        simp only [Bool.and_eq_true, decide_eq_true_eq] at hq
        obtain ⟨⟨⟨⟨⟨q1, q2⟩, q3⟩, q4⟩, q7⟩, q8⟩ := hq
        have hM := hsm q hqm _ _ _ _ _ (by rw [hmi]; exact hP)
        obtain ⟨qk, qd, qp, qa, qw, qr, q1', qm, qs⟩ := q
        dsimp only at x2 x3 x4 x5 x8 x9 hM
        obtain ⟨y1, y2, y3, y4⟩ : r = qr.map (ev_rnV is w.length) ∧ w1 = ev_up ev_c0 w (ev_mix w qw q1' is) is ∧ mc = qm ∧ ms = qs := by
          have z1 := congrArg Prod.fst x9
          have z2 := congrArg (fun r => r.2.1) x9
          have z3 := congrArg (fun r => r.2.2.1) x9
          have z4 := congrArg (fun r => r.2.2.2) x9
          exact ⟨z1, z2, z3, z4⟩
        subst y1 y2 y3 y4
        have hSS : S = S.take i.2.2.2.1 ++ S.drop i.2.2.2.1 := (List.take_append_drop _ _).symm
        intro r1 r2 Q k9
        show ev_G p l e R s m args below meth c Q D cl dA A ws0 nL cd (ix, L ++ F, S, w, nc, ns)
        have hRd : qd + 1 ≤ R.frames ∧ 8 + (maxL + 11) + 90 * qd ≤ R.locals := ⟨by omega, by omega⟩
        have k0 := ev_s_fS (S1 := S.take i.2.2.2.1) (S2 := S.drop i.2.2.2.1) X hG hM x1 x2 x3 x4 x5 hx1 (hT.2 _ _ _ _ _ _ hP) (hGc _ _ q3) (hGc _ _ q1) (hGc _ _ q4) q7 hRd hx2 ⟨r1, r2⟩ hd hn k9
        rw [← hSS] at k0
        exact k0
      · cases hq
    · cases h
  · cases h
theorem ev_q58 (X : ev_X p s m args c D cl dA kt A Gs own cc nL) (hGc : ∀ (h : Nat) (w : Cond), ev_hg Gc h = some w → w ∈ Gs) (hG : ∀ w ∈ Gs, (w.onTables && w.keeps) = true ∨ ∃ ty, w = .arrayClass ty) (hT : ev_okD Gs cl Ct Pg) (hnm : meth.name = nm) (hret : meth.sig.returnType = ret) (hlk : meth.locks = false) (hRf : R.frames = d + 1) (hRl : R.locals = 90 * (d + 1)) (hcl : ∀ (k : Nat) (as : List (Nat × Nat × Nat)) (w : List ev_C) (r : ev_R), call k as w = some r → ∀ (y : MethodName) (bytes : ByteArray) (maxL : Nat) (rt : Option FieldType) (cdm : ev_Cd), Pg[k]? = some ((y, bytes, maxL, rt), cdm) → ev_Met l D cl dA kt Gs y bytes maxL rt d as w r) (hdd : dd = d) (hsm : ∀ q ∈ sm, ∀ (y : MethodName) (bytes : ByteArray) (maxL : Nat) (rt : Option FieldType) (cdm : ev_Cd), Pg[q.1]? = some ((y, bytes, maxL, rt), cdm) → ev_Met l D cl dA kt Gs y bytes maxL rt q.2.1 q.2.2.2.1 q.2.2.2.2.1 q.2.2.2.2.2) {Ks : List Nat} (hF : ev_pin Ks F) (hsafe : ev_safe Ks i = true) (hop : i.2.1 = 58) (hok : ev_k58 Gc Ct kt Pg sm own nm cc nL ret cd st.1 i = true) (h : ev_o58 Ct ret sm dd call i st = some (.inl u)) : ev_SF p l e R s m args below meth c D cl dA A ws0 nL cd F st u := by
  obtain ⟨ix, L, S, w, nc, ns⟩ := st
  unfold ev_k58 at hok
  unfold ev_o58 at h
  simp only [Bool.and_eq_true, decide_eq_true_eq] at hok
  split at h
  · next r w1 mc ms hr =>
    split at h
    · next hx =>
      obtain ⟨hx1, hx2, hx3⟩ := hx
      have hu := Sum.inl.inj (Option.some.inj h)
      subst hu
      obtain ⟨⟨hd, hn⟩, hq⟩ := hok
      split at hq
      · next y bytes maxL rt cdm hP =>
        simp only [Bool.and_eq_true, decide_eq_true_eq] at hq
        obtain ⟨⟨⟨⟨⟨q1, q2⟩, q3⟩, q4⟩, q7⟩, q8⟩ := hq
        have hM := hcl _ _ _ _ hr _ _ _ _ _ hP
        have hSS : S = S.take i.2.2.2.1 ++ S.drop i.2.2.2.1 := (List.take_append_drop _ _).symm
        intro r1 r2 Q k9
        show ev_G p l e R s m args below meth c Q D cl dA A ws0 nL cd (ix, L ++ F, S, w, nc, ns)
        have hRd : d + 1 ≤ R.frames ∧ 8 + (maxL + 11) + 90 * d ≤ R.locals := ⟨by omega, by omega⟩
        have k0 := ev_s_invS (S1 := S.take i.2.2.2.1) (S2 := S.drop i.2.2.2.1) X hG hM hx3 hx1 (hT.2 _ _ _ _ _ _ hP) (hGc _ _ q3) (hGc _ _ q1) (hGc _ _ q4) q7 hRd hx2 ⟨r1, r2⟩ hd hn k9
        rw [← hSS] at k0
        exact k0
      · cases hq
    · cases h
  · cases h
theorem ev_q59 (X : ev_X p s m args c D cl dA kt A Gs own cc nL) (hGc : ∀ (h : Nat) (w : Cond), ev_hg Gc h = some w → w ∈ Gs) (hG : ∀ w ∈ Gs, (w.onTables && w.keeps) = true ∨ ∃ ty, w = .arrayClass ty) (hT : ev_okD Gs cl Ct Pg) (hnm : meth.name = nm) (hret : meth.sig.returnType = ret) (hlk : meth.locks = false) (hRf : R.frames = d + 1) (hRl : R.locals = 90 * (d + 1)) (hcl : ∀ (k : Nat) (as : List (Nat × Nat × Nat)) (w : List ev_C) (r : ev_R), call k as w = some r → ∀ (y : MethodName) (bytes : ByteArray) (maxL : Nat) (rt : Option FieldType) (cdm : ev_Cd), Pg[k]? = some ((y, bytes, maxL, rt), cdm) → ev_Met l D cl dA kt Gs y bytes maxL rt d as w r) (hdd : dd = d) (hsm : ∀ q ∈ sm, ∀ (y : MethodName) (bytes : ByteArray) (maxL : Nat) (rt : Option FieldType) (cdm : ev_Cd), Pg[q.1]? = some ((y, bytes, maxL, rt), cdm) → ev_Met l D cl dA kt Gs y bytes maxL rt q.2.1 q.2.2.2.1 q.2.2.2.2.1 q.2.2.2.2.2) {Ks : List Nat} (hF : ev_pin Ks F) (hsafe : ev_safe Ks i = true) (hop : i.2.1 = 59) (hok : ev_k59 Gc Ct kt Pg sm own nm cc nL ret cd st.1 i = true) (h : ev_o59 Ct ret sm dd call i st = some (.inl u)) : ev_SF p l e R s m args below meth c D cl dA A ws0 nL cd F st u := by
  obtain ⟨ix, L, S, w, nc, ns⟩ := st
  unfold ev_k59 at hok
  unfold ev_o59 at h
  simp only [Bool.and_eq_true, decide_eq_true_eq] at hok
  split at h
  · next v x k z9 S1 hS =>
    have hS : S = v :: x :: (2, k, z9) :: S1 := hS
    subst hS
    split at h
    · next kd n b z hw =>
      split at h
      · next hx =>
        obtain ⟨rfl, x1, x2, x3, x4⟩ := hx
        have hu := Sum.inl.inj (Option.some.inj h)
        subst hu
        exact fun r1 r2 Q k9 => ev_s_iast X hok.2 hok.1.1 hok.1.2 hw rfl x2 x3 x4 x1 k9
      · cases h
    · cases h
  · cases h
theorem ev_q60 (X : ev_X p s m args c D cl dA kt A Gs own cc nL) (hGc : ∀ (h : Nat) (w : Cond), ev_hg Gc h = some w → w ∈ Gs) (hG : ∀ w ∈ Gs, (w.onTables && w.keeps) = true ∨ ∃ ty, w = .arrayClass ty) (hT : ev_okD Gs cl Ct Pg) (hnm : meth.name = nm) (hret : meth.sig.returnType = ret) (hlk : meth.locks = false) (hRf : R.frames = d + 1) (hRl : R.locals = 90 * (d + 1)) (hcl : ∀ (k : Nat) (as : List (Nat × Nat × Nat)) (w : List ev_C) (r : ev_R), call k as w = some r → ∀ (y : MethodName) (bytes : ByteArray) (maxL : Nat) (rt : Option FieldType) (cdm : ev_Cd), Pg[k]? = some ((y, bytes, maxL, rt), cdm) → ev_Met l D cl dA kt Gs y bytes maxL rt d as w r) (hdd : dd = d) (hsm : ∀ q ∈ sm, ∀ (y : MethodName) (bytes : ByteArray) (maxL : Nat) (rt : Option FieldType) (cdm : ev_Cd), Pg[q.1]? = some ((y, bytes, maxL, rt), cdm) → ev_Met l D cl dA kt Gs y bytes maxL rt q.2.1 q.2.2.2.1 q.2.2.2.2.1 q.2.2.2.2.2) {Ks : List Nat} (hF : ev_pin Ks F) (hsafe : ev_safe Ks i = true) (hop : i.2.1 = 60) (hok : ev_k60 Gc Ct kt Pg sm own nm cc nL ret cd st.1 i = true) (h : ev_o60 Ct ret sm dd call i st = some (.inl u)) : ev_SF p l e R s m args below meth c D cl dA A ws0 nL cd F st u := by
  obtain ⟨ix, L, S, w, nc, ns⟩ := st
  unfold ev_k60 at hok
  unfold ev_o60 at h
  simp only [Bool.and_eq_true, decide_eq_true_eq] at hok
  split at h
  · next v x k z9 S1 hS =>
    have hS : S = v :: x :: (2, k, z9) :: S1 := hS
    subst hS
    split at h
    · next kd n b z hw =>
      split at h
      · next hx =>
        obtain ⟨rfl, x1, x2, x3, x4⟩ := hx
        have hu := Sum.inl.inj (Option.some.inj h)
        subst hu
        exact fun r1 r2 Q k9 => ev_s_bast X hok.2 hok.1.1 hok.1.2 hw rfl x2 x3 x4 x1 k9
      · cases h
    · cases h
  · cases h
theorem ev_q61 (X : ev_X p s m args c D cl dA kt A Gs own cc nL) (hGc : ∀ (h : Nat) (w : Cond), ev_hg Gc h = some w → w ∈ Gs) (hG : ∀ w ∈ Gs, (w.onTables && w.keeps) = true ∨ ∃ ty, w = .arrayClass ty) (hT : ev_okD Gs cl Ct Pg) (hnm : meth.name = nm) (hret : meth.sig.returnType = ret) (hlk : meth.locks = false) (hRf : R.frames = d + 1) (hRl : R.locals = 90 * (d + 1)) (hcl : ∀ (k : Nat) (as : List (Nat × Nat × Nat)) (w : List ev_C) (r : ev_R), call k as w = some r → ∀ (y : MethodName) (bytes : ByteArray) (maxL : Nat) (rt : Option FieldType) (cdm : ev_Cd), Pg[k]? = some ((y, bytes, maxL, rt), cdm) → ev_Met l D cl dA kt Gs y bytes maxL rt d as w r) (hdd : dd = d) (hsm : ∀ q ∈ sm, ∀ (y : MethodName) (bytes : ByteArray) (maxL : Nat) (rt : Option FieldType) (cdm : ev_Cd), Pg[q.1]? = some ((y, bytes, maxL, rt), cdm) → ev_Met l D cl dA kt Gs y bytes maxL rt q.2.1 q.2.2.2.1 q.2.2.2.2.1 q.2.2.2.2.2) {Ks : List Nat} (hF : ev_pin Ks F) (hsafe : ev_safe Ks i = true) (hop : i.2.1 = 61) (hok : ev_k61 Gc Ct kt Pg sm own nm cc nL ret cd st.1 i = true) (h : ev_o61 Ct ret sm dd call i st = some (.inl u)) : ev_SF p l e R s m args below meth c D cl dA A ws0 nL cd F st u := by
  obtain ⟨ix, L, S, w, nc, ns⟩ := st
  unfold ev_k61 at hok
  unfold ev_o61 at h
  simp only [Bool.and_eq_true, decide_eq_true_eq] at hok
  split at h
  · next v x k z9 S1 hS =>
    have hS : S = v :: x :: (2, k, z9) :: S1 := hS
    subst hS
    split at h
    · next kd n b z hw =>
      split at h
      · next hx =>
        obtain ⟨rfl, x1, x2, x3, x4⟩ := hx
        have hu := Sum.inl.inj (Option.some.inj h)
        subst hu
        exact fun r1 r2 Q k9 => ev_s_zast X hok.2 hok.1.1 hok.1.2 hw rfl x2 x3 x4 x1 k9
      · cases h
    · cases h
  · cases h
theorem ev_q62 (X : ev_X p s m args c D cl dA kt A Gs own cc nL) (hGc : ∀ (h : Nat) (w : Cond), ev_hg Gc h = some w → w ∈ Gs) (hG : ∀ w ∈ Gs, (w.onTables && w.keeps) = true ∨ ∃ ty, w = .arrayClass ty) (hT : ev_okD Gs cl Ct Pg) (hnm : meth.name = nm) (hret : meth.sig.returnType = ret) (hlk : meth.locks = false) (hRf : R.frames = d + 1) (hRl : R.locals = 90 * (d + 1)) (hcl : ∀ (k : Nat) (as : List (Nat × Nat × Nat)) (w : List ev_C) (r : ev_R), call k as w = some r → ∀ (y : MethodName) (bytes : ByteArray) (maxL : Nat) (rt : Option FieldType) (cdm : ev_Cd), Pg[k]? = some ((y, bytes, maxL, rt), cdm) → ev_Met l D cl dA kt Gs y bytes maxL rt d as w r) (hdd : dd = d) (hsm : ∀ q ∈ sm, ∀ (y : MethodName) (bytes : ByteArray) (maxL : Nat) (rt : Option FieldType) (cdm : ev_Cd), Pg[q.1]? = some ((y, bytes, maxL, rt), cdm) → ev_Met l D cl dA kt Gs y bytes maxL rt q.2.1 q.2.2.2.1 q.2.2.2.2.1 q.2.2.2.2.2) {Ks : List Nat} (hF : ev_pin Ks F) (hsafe : ev_safe Ks i = true) (hop : i.2.1 = 62) (hok : ev_k62 Gc Ct kt Pg sm own nm cc nL ret cd st.1 i = true) (h : ev_o62 Ct ret sm dd call i st = some (.inl u)) : ev_SF p l e R s m args below meth c D cl dA A ws0 nL cd F st u := by
  obtain ⟨ix, L, S, w, nc, ns⟩ := st
  unfold ev_k62 at hok
  unfold ev_o62 at h
  simp only [Bool.and_eq_true, decide_eq_true_eq] at hok
  split at h
  · next v x k z9 S1 hS =>
    have hS : S = v :: x :: (2, k, z9) :: S1 := hS
    subst hS
    split at h
    · next kd n z hw =>
      split at h
      · next hx =>
        obtain ⟨rfl, x1, x2, x3, x4⟩ := hx
        have hu := Sum.inl.inj (Option.some.inj h)
        subst hu
        exact fun r1 r2 Q k9 => ev_s_last X hok.2 hok.1.1 hok.1.2 hw x2 x3 x4 x1 k9
      · cases h
    · cases h
  · cases h
theorem ev_q63 (X : ev_X p s m args c D cl dA kt A Gs own cc nL) (hGc : ∀ (h : Nat) (w : Cond), ev_hg Gc h = some w → w ∈ Gs) (hG : ∀ w ∈ Gs, (w.onTables && w.keeps) = true ∨ ∃ ty, w = .arrayClass ty) (hT : ev_okD Gs cl Ct Pg) (hnm : meth.name = nm) (hret : meth.sig.returnType = ret) (hlk : meth.locks = false) (hRf : R.frames = d + 1) (hRl : R.locals = 90 * (d + 1)) (hcl : ∀ (k : Nat) (as : List (Nat × Nat × Nat)) (w : List ev_C) (r : ev_R), call k as w = some r → ∀ (y : MethodName) (bytes : ByteArray) (maxL : Nat) (rt : Option FieldType) (cdm : ev_Cd), Pg[k]? = some ((y, bytes, maxL, rt), cdm) → ev_Met l D cl dA kt Gs y bytes maxL rt d as w r) (hdd : dd = d) (hsm : ∀ q ∈ sm, ∀ (y : MethodName) (bytes : ByteArray) (maxL : Nat) (rt : Option FieldType) (cdm : ev_Cd), Pg[q.1]? = some ((y, bytes, maxL, rt), cdm) → ev_Met l D cl dA kt Gs y bytes maxL rt q.2.1 q.2.2.2.1 q.2.2.2.2.1 q.2.2.2.2.2) {Ks : List Nat} (hF : ev_pin Ks F) (hsafe : ev_safe Ks i = true) (hop : i.2.1 = 63) (hok : ev_k63 Gc Ct kt Pg sm own nm cc nL ret cd st.1 i = true) (h : ev_o63 Ct ret sm dd call i st = some (.inl u)) : ev_SF p l e R s m args below meth c D cl dA A ws0 nL cd F st u := by
  obtain ⟨ix, L, S, w, nc, ns⟩ := st
  unfold ev_k63 at hok
  unfold ev_o63 at h
  simp only [Bool.and_eq_true, decide_eq_true_eq] at hok
  split at h
  · next nn dp k1 y9 sp k0 y8 S1 hS =>
    have hS : S = nn :: dp :: (2, k1, y9) :: sp :: (2, k0, y8) :: S1 := hS
    subst hS
    split at h
    · next tg kd n0 b0 z0 kd1 n1 b1 z1 hw0 hw1 =>
      split at h
      · next hx =>
        obtain ⟨x0, rfl, rfl, x1, x2, x3, x4, x5, x6, x7, x8, x9, x10⟩ := hx
        have hu := Sum.inl.inj (Option.some.inj h)
        subst hu
        obtain ⟨⟨⟨⟨⟨⟨⟨hd, hn⟩, q1⟩, q2⟩, q3⟩, q4⟩, q5⟩, q6⟩ := hok
        exact fun r1 r2 Q k9 => ev_s_copy X q1 (hGc _ _ q3) (hGc _ _ q4) (hGc _ _ q5) (hGc _ _ q6) x0 hw0 hw1 rfl rfl x1 q2 x2 x3 x4 x5 x6 x7 x8 x9 (by omega) (by omega) x10 hd hn k9
      · cases h
    · cases h
  · cases h
theorem ev_q64 (X : ev_X p s m args c D cl dA kt A Gs own cc nL) (hGc : ∀ (h : Nat) (w : Cond), ev_hg Gc h = some w → w ∈ Gs) (hG : ∀ w ∈ Gs, (w.onTables && w.keeps) = true ∨ ∃ ty, w = .arrayClass ty) (hT : ev_okD Gs cl Ct Pg) (hnm : meth.name = nm) (hret : meth.sig.returnType = ret) (hlk : meth.locks = false) (hRf : R.frames = d + 1) (hRl : R.locals = 90 * (d + 1)) (hcl : ∀ (k : Nat) (as : List (Nat × Nat × Nat)) (w : List ev_C) (r : ev_R), call k as w = some r → ∀ (y : MethodName) (bytes : ByteArray) (maxL : Nat) (rt : Option FieldType) (cdm : ev_Cd), Pg[k]? = some ((y, bytes, maxL, rt), cdm) → ev_Met l D cl dA kt Gs y bytes maxL rt d as w r) (hdd : dd = d) (hsm : ∀ q ∈ sm, ∀ (y : MethodName) (bytes : ByteArray) (maxL : Nat) (rt : Option FieldType) (cdm : ev_Cd), Pg[q.1]? = some ((y, bytes, maxL, rt), cdm) → ev_Met l D cl dA kt Gs y bytes maxL rt q.2.1 q.2.2.2.1 q.2.2.2.2.1 q.2.2.2.2.2) {Ks : List Nat} (hF : ev_pin Ks F) (hsafe : ev_safe Ks i = true) (hop : i.2.1 = 64) (hok : ev_k64 Gc Ct kt Pg sm own nm cc nL ret cd st.1 i = true) (h : ev_o64 Ct ret sm dd call i st = some (.inl u)) : ev_SF p l e R s m args below meth c D cl dA A ws0 nL cd F st u := by
  obtain ⟨ix, L, S, w, nc, ns⟩ := st
  unfold ev_k64 at hok
  unfold ev_o64 at h
  simp only [Bool.and_eq_true, decide_eq_true_eq] at hok
  split at h
  · next v hg =>
    split at h
    · next hv =>
      have hu := Sum.inl.inj (Option.some.inj h)
      subst hu
      obtain ⟨⟨⟨⟨⟨q1, q2⟩, q3⟩, q4⟩, q5⟩, q6⟩ := hok
      exact fun _ _ Q k => ev_s_tab X (List.mem_of_getElem? (ev_getD_some (d0 := ("", "", 0)) q5)) (hGc _ _ q6) q1 q2 q3 q4 (ev_get_app hg) hv.1 hv.2.1 hv.2.2 k
    · cases h
  · cases h
theorem ev_q65 (X : ev_X p s m args c D cl dA kt A Gs own cc nL) (hGc : ∀ (h : Nat) (w : Cond), ev_hg Gc h = some w → w ∈ Gs) (hG : ∀ w ∈ Gs, (w.onTables && w.keeps) = true ∨ ∃ ty, w = .arrayClass ty) (hT : ev_okD Gs cl Ct Pg) (hnm : meth.name = nm) (hret : meth.sig.returnType = ret) (hlk : meth.locks = false) (hRf : R.frames = d + 1) (hRl : R.locals = 90 * (d + 1)) (hcl : ∀ (k : Nat) (as : List (Nat × Nat × Nat)) (w : List ev_C) (r : ev_R), call k as w = some r → ∀ (y : MethodName) (bytes : ByteArray) (maxL : Nat) (rt : Option FieldType) (cdm : ev_Cd), Pg[k]? = some ((y, bytes, maxL, rt), cdm) → ev_Met l D cl dA kt Gs y bytes maxL rt d as w r) (hdd : dd = d) (hsm : ∀ q ∈ sm, ∀ (y : MethodName) (bytes : ByteArray) (maxL : Nat) (rt : Option FieldType) (cdm : ev_Cd), Pg[q.1]? = some ((y, bytes, maxL, rt), cdm) → ev_Met l D cl dA kt Gs y bytes maxL rt q.2.1 q.2.2.2.1 q.2.2.2.2.1 q.2.2.2.2.2) {Ks : List Nat} (hF : ev_pin Ks F) (hsafe : ev_safe Ks i = true) (hop : i.2.1 = 65) (hok : ev_k65 Gc Ct kt Pg sm own nm cc nL ret cd st.1 i = true) (h : ev_o65 Ct ret sm dd call i st = some (.inl u)) : ev_SF p l e R s m args below meth c D cl dA A ws0 nL cd F st u := by
  obtain ⟨ix, L, S, w, nc, ns⟩ := st
  unfold ev_k65 at hok
  unfold ev_o65 at h
  simp only [Bool.and_eq_true, decide_eq_true_eq] at hok
  split at h
  · next o z9 hg =>
    split at h
    · next ci z fs hw =>
      split at h
      · next k1 y9 hf =>
        split at h
        · next kd n1 z1 hw1 =>
          split at h
          · next hx =>
            obtain ⟨rfl, rfl, x1, x2⟩ := hx
            have hu := Sum.inl.inj (Option.some.inj h)
            subst hu
            obtain ⟨⟨⟨⟨⟨⟨⟨⟨⟨⟨⟨⟨⟨q1, q2⟩, q3⟩, q4⟩, q5⟩, q6⟩, q7⟩, q8⟩, q9⟩, q10⟩, q11⟩, q12⟩, q13⟩, ⟨⟨q14, q15⟩, q16⟩, q17⟩ := hok
            cases hC : Ct[i.2.2.2.2.2.1 / 65536]? with
            | none => rw [hC] at q13; cases q13
            | some q =>
              rw [hC] at q13
              simp only [Bool.and_eq_true, decide_eq_true_eq] at q13
              exact fun _ _ Q k => ev_s_tcp X (List.mem_of_getElem? (ev_getD_some (d0 := ("", "", 0)) q9)) (hGc _ _ q12) (hT.1 _ _ hC).1 (hT.1 _ _ hC).2.1 q13.1 (hGc _ _ q13.2) q11 (hGc _ _ q14) (hGc _ _ q15) (hGc _ _ q16) (hGc _ _ q17) q1 q2 q3 q4 q5 q6 q7 q8 q10.1 q10.2 x1 (ev_get_app hg) hw hf hw1 (by omega) (by omega) x2 k
          · cases h
        · cases h
      · cases h
    · cases h
  · cases h
theorem ev_q66 (X : ev_X p s m args c D cl dA kt A Gs own cc nL) (hGc : ∀ (h : Nat) (w : Cond), ev_hg Gc h = some w → w ∈ Gs) (hG : ∀ w ∈ Gs, (w.onTables && w.keeps) = true ∨ ∃ ty, w = .arrayClass ty) (hT : ev_okD Gs cl Ct Pg) (hnm : meth.name = nm) (hret : meth.sig.returnType = ret) (hlk : meth.locks = false) (hRf : R.frames = d + 1) (hRl : R.locals = 90 * (d + 1)) (hcl : ∀ (k : Nat) (as : List (Nat × Nat × Nat)) (w : List ev_C) (r : ev_R), call k as w = some r → ∀ (y : MethodName) (bytes : ByteArray) (maxL : Nat) (rt : Option FieldType) (cdm : ev_Cd), Pg[k]? = some ((y, bytes, maxL, rt), cdm) → ev_Met l D cl dA kt Gs y bytes maxL rt d as w r) (hdd : dd = d) (hsm : ∀ q ∈ sm, ∀ (y : MethodName) (bytes : ByteArray) (maxL : Nat) (rt : Option FieldType) (cdm : ev_Cd), Pg[q.1]? = some ((y, bytes, maxL, rt), cdm) → ev_Met l D cl dA kt Gs y bytes maxL rt q.2.1 q.2.2.2.1 q.2.2.2.2.1 q.2.2.2.2.2) {Ks : List Nat} (hF : ev_pin Ks F) (hsafe : ev_safe Ks i = true) (hop : i.2.1 = 66) (hok : ev_k66 Gc Ct kt Pg sm own nm cc nL ret cd st.1 i = true) (h : ev_o66 Ct ret sm dd call i st = some (.inl u)) : ev_SF p l e R s m args below meth c D cl dA A ws0 nL cd F st u := by
  obtain ⟨ix, L, S, w, nc, ns⟩ := st
  unfold ev_k66 at hok
  unfold ev_o66 at h
  simp only [Bool.and_eq_true, decide_eq_true_eq] at hok
  split at h
  · next y x S1 hS =>
    have hS : S = y :: x :: S1 := hS
    subst hS
    split at h
    · next hv =>
      have hu := Sum.inl.inj (Option.some.inj h)
      subst hu
      exact fun _ _ Q k => ev_s_l2 hv.1 hv.2 hok.2 (fun i j k9 => lv_ladd X.1.1 X.1.2.1 hok.1 k9) k
    · cases h
  · cases h
theorem ev_q67 (X : ev_X p s m args c D cl dA kt A Gs own cc nL) (hGc : ∀ (h : Nat) (w : Cond), ev_hg Gc h = some w → w ∈ Gs) (hG : ∀ w ∈ Gs, (w.onTables && w.keeps) = true ∨ ∃ ty, w = .arrayClass ty) (hT : ev_okD Gs cl Ct Pg) (hnm : meth.name = nm) (hret : meth.sig.returnType = ret) (hlk : meth.locks = false) (hRf : R.frames = d + 1) (hRl : R.locals = 90 * (d + 1)) (hcl : ∀ (k : Nat) (as : List (Nat × Nat × Nat)) (w : List ev_C) (r : ev_R), call k as w = some r → ∀ (y : MethodName) (bytes : ByteArray) (maxL : Nat) (rt : Option FieldType) (cdm : ev_Cd), Pg[k]? = some ((y, bytes, maxL, rt), cdm) → ev_Met l D cl dA kt Gs y bytes maxL rt d as w r) (hdd : dd = d) (hsm : ∀ q ∈ sm, ∀ (y : MethodName) (bytes : ByteArray) (maxL : Nat) (rt : Option FieldType) (cdm : ev_Cd), Pg[q.1]? = some ((y, bytes, maxL, rt), cdm) → ev_Met l D cl dA kt Gs y bytes maxL rt q.2.1 q.2.2.2.1 q.2.2.2.2.1 q.2.2.2.2.2) {Ks : List Nat} (hF : ev_pin Ks F) (hsafe : ev_safe Ks i = true) (hop : i.2.1 = 67) (hok : ev_k67 Gc Ct kt Pg sm own nm cc nL ret cd st.1 i = true) (h : ev_o67 Ct ret sm dd call i st = some (.inl u)) : ev_SF p l e R s m args below meth c D cl dA A ws0 nL cd F st u := by
  obtain ⟨ix, L, S, w, nc, ns⟩ := st
  unfold ev_k67 at hok
  unfold ev_o67 at h
  simp only [Bool.and_eq_true, decide_eq_true_eq] at hok
  split at h
  · next y x S1 hS =>
    have hS : S = y :: x :: S1 := hS
    subst hS
    split at h
    · next hv =>
      have hu := Sum.inl.inj (Option.some.inj h)
      subst hu
      exact fun _ _ Q k => ev_s_l2 hv.1 hv.2 hok.2 (fun i j k9 => lv_lsub X.1.1 X.1.2.1 hok.1 k9) k
    · cases h
  · cases h
theorem ev_q68 (X : ev_X p s m args c D cl dA kt A Gs own cc nL) (hGc : ∀ (h : Nat) (w : Cond), ev_hg Gc h = some w → w ∈ Gs) (hG : ∀ w ∈ Gs, (w.onTables && w.keeps) = true ∨ ∃ ty, w = .arrayClass ty) (hT : ev_okD Gs cl Ct Pg) (hnm : meth.name = nm) (hret : meth.sig.returnType = ret) (hlk : meth.locks = false) (hRf : R.frames = d + 1) (hRl : R.locals = 90 * (d + 1)) (hcl : ∀ (k : Nat) (as : List (Nat × Nat × Nat)) (w : List ev_C) (r : ev_R), call k as w = some r → ∀ (y : MethodName) (bytes : ByteArray) (maxL : Nat) (rt : Option FieldType) (cdm : ev_Cd), Pg[k]? = some ((y, bytes, maxL, rt), cdm) → ev_Met l D cl dA kt Gs y bytes maxL rt d as w r) (hdd : dd = d) (hsm : ∀ q ∈ sm, ∀ (y : MethodName) (bytes : ByteArray) (maxL : Nat) (rt : Option FieldType) (cdm : ev_Cd), Pg[q.1]? = some ((y, bytes, maxL, rt), cdm) → ev_Met l D cl dA kt Gs y bytes maxL rt q.2.1 q.2.2.2.1 q.2.2.2.2.1 q.2.2.2.2.2) {Ks : List Nat} (hF : ev_pin Ks F) (hsafe : ev_safe Ks i = true) (hop : i.2.1 = 68) (hok : ev_k68 Gc Ct kt Pg sm own nm cc nL ret cd st.1 i = true) (h : ev_o68 Ct ret sm dd call i st = some (.inl u)) : ev_SF p l e R s m args below meth c D cl dA A ws0 nL cd F st u := by
  obtain ⟨ix, L, S, w, nc, ns⟩ := st
  unfold ev_k68 at hok
  unfold ev_o68 at h
  simp only [Bool.and_eq_true, decide_eq_true_eq] at hok
  split at h
  · next y x S1 hS =>
    have hS : S = y :: x :: S1 := hS
    subst hS
    split at h
    · next hv =>
      have hu := Sum.inl.inj (Option.some.inj h)
      subst hu
      exact fun _ _ Q k => ev_s_l2 hv.1 hv.2 hok.2 (fun i j k9 => lv_lmul X.1.1 X.1.2.1 hok.1 k9) k
    · cases h
  · cases h
theorem ev_q69 (X : ev_X p s m args c D cl dA kt A Gs own cc nL) (hGc : ∀ (h : Nat) (w : Cond), ev_hg Gc h = some w → w ∈ Gs) (hG : ∀ w ∈ Gs, (w.onTables && w.keeps) = true ∨ ∃ ty, w = .arrayClass ty) (hT : ev_okD Gs cl Ct Pg) (hnm : meth.name = nm) (hret : meth.sig.returnType = ret) (hlk : meth.locks = false) (hRf : R.frames = d + 1) (hRl : R.locals = 90 * (d + 1)) (hcl : ∀ (k : Nat) (as : List (Nat × Nat × Nat)) (w : List ev_C) (r : ev_R), call k as w = some r → ∀ (y : MethodName) (bytes : ByteArray) (maxL : Nat) (rt : Option FieldType) (cdm : ev_Cd), Pg[k]? = some ((y, bytes, maxL, rt), cdm) → ev_Met l D cl dA kt Gs y bytes maxL rt d as w r) (hdd : dd = d) (hsm : ∀ q ∈ sm, ∀ (y : MethodName) (bytes : ByteArray) (maxL : Nat) (rt : Option FieldType) (cdm : ev_Cd), Pg[q.1]? = some ((y, bytes, maxL, rt), cdm) → ev_Met l D cl dA kt Gs y bytes maxL rt q.2.1 q.2.2.2.1 q.2.2.2.2.1 q.2.2.2.2.2) {Ks : List Nat} (hF : ev_pin Ks F) (hsafe : ev_safe Ks i = true) (hop : i.2.1 = 69) (hok : ev_k69 Gc Ct kt Pg sm own nm cc nL ret cd st.1 i = true) (h : ev_o69 Ct ret sm dd call i st = some (.inl u)) : ev_SF p l e R s m args below meth c D cl dA A ws0 nL cd F st u := by
  obtain ⟨ix, L, S, w, nc, ns⟩ := st
  unfold ev_k69 at hok
  unfold ev_o69 at h
  simp only [Bool.and_eq_true, decide_eq_true_eq] at hok
  split at h
  · next y x S1 hS =>
    have hS : S = y :: x :: S1 := hS
    subst hS
    split at h
    · next hv =>
      have hu := Sum.inl.inj (Option.some.inj h)
      subst hu
      exact fun _ _ Q k => ev_s_l2 hv.1 hv.2 hok.2 (fun i j k9 => lv_land X.1.1 X.1.2.1 hok.1 k9) k
    · cases h
  · cases h
theorem ev_q70 (X : ev_X p s m args c D cl dA kt A Gs own cc nL) (hGc : ∀ (h : Nat) (w : Cond), ev_hg Gc h = some w → w ∈ Gs) (hG : ∀ w ∈ Gs, (w.onTables && w.keeps) = true ∨ ∃ ty, w = .arrayClass ty) (hT : ev_okD Gs cl Ct Pg) (hnm : meth.name = nm) (hret : meth.sig.returnType = ret) (hlk : meth.locks = false) (hRf : R.frames = d + 1) (hRl : R.locals = 90 * (d + 1)) (hcl : ∀ (k : Nat) (as : List (Nat × Nat × Nat)) (w : List ev_C) (r : ev_R), call k as w = some r → ∀ (y : MethodName) (bytes : ByteArray) (maxL : Nat) (rt : Option FieldType) (cdm : ev_Cd), Pg[k]? = some ((y, bytes, maxL, rt), cdm) → ev_Met l D cl dA kt Gs y bytes maxL rt d as w r) (hdd : dd = d) (hsm : ∀ q ∈ sm, ∀ (y : MethodName) (bytes : ByteArray) (maxL : Nat) (rt : Option FieldType) (cdm : ev_Cd), Pg[q.1]? = some ((y, bytes, maxL, rt), cdm) → ev_Met l D cl dA kt Gs y bytes maxL rt q.2.1 q.2.2.2.1 q.2.2.2.2.1 q.2.2.2.2.2) {Ks : List Nat} (hF : ev_pin Ks F) (hsafe : ev_safe Ks i = true) (hop : i.2.1 = 70) (hok : ev_k70 Gc Ct kt Pg sm own nm cc nL ret cd st.1 i = true) (h : ev_o70 Ct ret sm dd call i st = some (.inl u)) : ev_SF p l e R s m args below meth c D cl dA A ws0 nL cd F st u := by
  obtain ⟨ix, L, S, w, nc, ns⟩ := st
  unfold ev_k70 at hok
  unfold ev_o70 at h
  simp only [Bool.and_eq_true, decide_eq_true_eq] at hok
  split at h
  · next y x S1 hS =>
    have hS : S = y :: x :: S1 := hS
    subst hS
    split at h
    · next hv =>
      have hu := Sum.inl.inj (Option.some.inj h)
      subst hu
      exact fun _ _ Q k => ev_s_l2 hv.1 hv.2 hok.2 (fun i j k9 => lv_lor X.1.1 X.1.2.1 hok.1 k9) k
    · cases h
  · cases h
theorem ev_q71 (X : ev_X p s m args c D cl dA kt A Gs own cc nL) (hGc : ∀ (h : Nat) (w : Cond), ev_hg Gc h = some w → w ∈ Gs) (hG : ∀ w ∈ Gs, (w.onTables && w.keeps) = true ∨ ∃ ty, w = .arrayClass ty) (hT : ev_okD Gs cl Ct Pg) (hnm : meth.name = nm) (hret : meth.sig.returnType = ret) (hlk : meth.locks = false) (hRf : R.frames = d + 1) (hRl : R.locals = 90 * (d + 1)) (hcl : ∀ (k : Nat) (as : List (Nat × Nat × Nat)) (w : List ev_C) (r : ev_R), call k as w = some r → ∀ (y : MethodName) (bytes : ByteArray) (maxL : Nat) (rt : Option FieldType) (cdm : ev_Cd), Pg[k]? = some ((y, bytes, maxL, rt), cdm) → ev_Met l D cl dA kt Gs y bytes maxL rt d as w r) (hdd : dd = d) (hsm : ∀ q ∈ sm, ∀ (y : MethodName) (bytes : ByteArray) (maxL : Nat) (rt : Option FieldType) (cdm : ev_Cd), Pg[q.1]? = some ((y, bytes, maxL, rt), cdm) → ev_Met l D cl dA kt Gs y bytes maxL rt q.2.1 q.2.2.2.1 q.2.2.2.2.1 q.2.2.2.2.2) {Ks : List Nat} (hF : ev_pin Ks F) (hsafe : ev_safe Ks i = true) (hop : i.2.1 = 71) (hok : ev_k71 Gc Ct kt Pg sm own nm cc nL ret cd st.1 i = true) (h : ev_o71 Ct ret sm dd call i st = some (.inl u)) : ev_SF p l e R s m args below meth c D cl dA A ws0 nL cd F st u := by
  obtain ⟨ix, L, S, w, nc, ns⟩ := st
  unfold ev_k71 at hok
  unfold ev_o71 at h
  simp only [Bool.and_eq_true, decide_eq_true_eq] at hok
  split at h
  · next y x S1 hS =>
    have hS : S = y :: x :: S1 := hS
    subst hS
    split at h
    · next hv =>
      have hu := Sum.inl.inj (Option.some.inj h)
      subst hu
      exact fun _ _ Q k => ev_s_l2 hv.1 hv.2 hok.2 (fun i j k9 => lv_lxor X.1.1 X.1.2.1 hok.1 k9) k
    · cases h
  · cases h
theorem ev_q72 (X : ev_X p s m args c D cl dA kt A Gs own cc nL) (hGc : ∀ (h : Nat) (w : Cond), ev_hg Gc h = some w → w ∈ Gs) (hG : ∀ w ∈ Gs, (w.onTables && w.keeps) = true ∨ ∃ ty, w = .arrayClass ty) (hT : ev_okD Gs cl Ct Pg) (hnm : meth.name = nm) (hret : meth.sig.returnType = ret) (hlk : meth.locks = false) (hRf : R.frames = d + 1) (hRl : R.locals = 90 * (d + 1)) (hcl : ∀ (k : Nat) (as : List (Nat × Nat × Nat)) (w : List ev_C) (r : ev_R), call k as w = some r → ∀ (y : MethodName) (bytes : ByteArray) (maxL : Nat) (rt : Option FieldType) (cdm : ev_Cd), Pg[k]? = some ((y, bytes, maxL, rt), cdm) → ev_Met l D cl dA kt Gs y bytes maxL rt d as w r) (hdd : dd = d) (hsm : ∀ q ∈ sm, ∀ (y : MethodName) (bytes : ByteArray) (maxL : Nat) (rt : Option FieldType) (cdm : ev_Cd), Pg[q.1]? = some ((y, bytes, maxL, rt), cdm) → ev_Met l D cl dA kt Gs y bytes maxL rt q.2.1 q.2.2.2.1 q.2.2.2.2.1 q.2.2.2.2.2) {Ks : List Nat} (hF : ev_pin Ks F) (hsafe : ev_safe Ks i = true) (hop : i.2.1 = 72) (hok : ev_k72 Gc Ct kt Pg sm own nm cc nL ret cd st.1 i = true) (h : ev_o72 Ct ret sm dd call i st = some (.inl u)) : ev_SF p l e R s m args below meth c D cl dA A ws0 nL cd F st u := by
  obtain ⟨ix, L, S, w, nc, ns⟩ := st
  unfold ev_k72 at hok
  unfold ev_o72 at h
  simp only [Bool.and_eq_true, decide_eq_true_eq] at hok
  split at h
  · next y x S1 hS =>
    have hS : S = y :: x :: S1 := hS
    subst hS
    split at h
    · next hv =>
      have hu := Sum.inl.inj (Option.some.inj h)
      subst hu
      exact fun _ _ Q k => ev_s_li hv.1 hv.2 hok.2 (fun i j k9 => lv_lshl X.1.1 X.1.2.1 hok.1 rfl k9) k
    · cases h
  · cases h
theorem ev_q73 (X : ev_X p s m args c D cl dA kt A Gs own cc nL) (hGc : ∀ (h : Nat) (w : Cond), ev_hg Gc h = some w → w ∈ Gs) (hG : ∀ w ∈ Gs, (w.onTables && w.keeps) = true ∨ ∃ ty, w = .arrayClass ty) (hT : ev_okD Gs cl Ct Pg) (hnm : meth.name = nm) (hret : meth.sig.returnType = ret) (hlk : meth.locks = false) (hRf : R.frames = d + 1) (hRl : R.locals = 90 * (d + 1)) (hcl : ∀ (k : Nat) (as : List (Nat × Nat × Nat)) (w : List ev_C) (r : ev_R), call k as w = some r → ∀ (y : MethodName) (bytes : ByteArray) (maxL : Nat) (rt : Option FieldType) (cdm : ev_Cd), Pg[k]? = some ((y, bytes, maxL, rt), cdm) → ev_Met l D cl dA kt Gs y bytes maxL rt d as w r) (hdd : dd = d) (hsm : ∀ q ∈ sm, ∀ (y : MethodName) (bytes : ByteArray) (maxL : Nat) (rt : Option FieldType) (cdm : ev_Cd), Pg[q.1]? = some ((y, bytes, maxL, rt), cdm) → ev_Met l D cl dA kt Gs y bytes maxL rt q.2.1 q.2.2.2.1 q.2.2.2.2.1 q.2.2.2.2.2) {Ks : List Nat} (hF : ev_pin Ks F) (hsafe : ev_safe Ks i = true) (hop : i.2.1 = 73) (hok : ev_k73 Gc Ct kt Pg sm own nm cc nL ret cd st.1 i = true) (h : ev_o73 Ct ret sm dd call i st = some (.inl u)) : ev_SF p l e R s m args below meth c D cl dA A ws0 nL cd F st u := by
  obtain ⟨ix, L, S, w, nc, ns⟩ := st
  unfold ev_k73 at hok
  unfold ev_o73 at h
  simp only [Bool.and_eq_true, decide_eq_true_eq] at hok
  split at h
  · next y x S1 hS =>
    have hS : S = y :: x :: S1 := hS
    subst hS
    split at h
    · next hv =>
      have hu := Sum.inl.inj (Option.some.inj h)
      subst hu
      exact fun _ _ Q k => ev_s_li hv.1 hv.2 hok.2 (fun i j k9 => lv_lshr X.1.1 X.1.2.1 hok.1 rfl k9) k
    · cases h
  · cases h
theorem ev_q74 (X : ev_X p s m args c D cl dA kt A Gs own cc nL) (hGc : ∀ (h : Nat) (w : Cond), ev_hg Gc h = some w → w ∈ Gs) (hG : ∀ w ∈ Gs, (w.onTables && w.keeps) = true ∨ ∃ ty, w = .arrayClass ty) (hT : ev_okD Gs cl Ct Pg) (hnm : meth.name = nm) (hret : meth.sig.returnType = ret) (hlk : meth.locks = false) (hRf : R.frames = d + 1) (hRl : R.locals = 90 * (d + 1)) (hcl : ∀ (k : Nat) (as : List (Nat × Nat × Nat)) (w : List ev_C) (r : ev_R), call k as w = some r → ∀ (y : MethodName) (bytes : ByteArray) (maxL : Nat) (rt : Option FieldType) (cdm : ev_Cd), Pg[k]? = some ((y, bytes, maxL, rt), cdm) → ev_Met l D cl dA kt Gs y bytes maxL rt d as w r) (hdd : dd = d) (hsm : ∀ q ∈ sm, ∀ (y : MethodName) (bytes : ByteArray) (maxL : Nat) (rt : Option FieldType) (cdm : ev_Cd), Pg[q.1]? = some ((y, bytes, maxL, rt), cdm) → ev_Met l D cl dA kt Gs y bytes maxL rt q.2.1 q.2.2.2.1 q.2.2.2.2.1 q.2.2.2.2.2) {Ks : List Nat} (hF : ev_pin Ks F) (hsafe : ev_safe Ks i = true) (hop : i.2.1 = 74) (hok : ev_k74 Gc Ct kt Pg sm own nm cc nL ret cd st.1 i = true) (h : ev_o74 Ct ret sm dd call i st = some (.inl u)) : ev_SF p l e R s m args below meth c D cl dA A ws0 nL cd F st u := by
  obtain ⟨ix, L, S, w, nc, ns⟩ := st
  unfold ev_k74 at hok
  unfold ev_o74 at h
  simp only [Bool.and_eq_true, decide_eq_true_eq] at hok
  split at h
  · next y x S1 hS =>
    have hS : S = y :: x :: S1 := hS
    subst hS
    split at h
    · next hv =>
      have hu := Sum.inl.inj (Option.some.inj h)
      subst hu
      exact fun _ _ Q k => ev_s_li hv.1 hv.2 hok.2 (fun i j k9 => lv_lushr X.1.1 X.1.2.1 hok.1 rfl k9) k
    · cases h
  · cases h
theorem ev_q75 (X : ev_X p s m args c D cl dA kt A Gs own cc nL) (hGc : ∀ (h : Nat) (w : Cond), ev_hg Gc h = some w → w ∈ Gs) (hG : ∀ w ∈ Gs, (w.onTables && w.keeps) = true ∨ ∃ ty, w = .arrayClass ty) (hT : ev_okD Gs cl Ct Pg) (hnm : meth.name = nm) (hret : meth.sig.returnType = ret) (hlk : meth.locks = false) (hRf : R.frames = d + 1) (hRl : R.locals = 90 * (d + 1)) (hcl : ∀ (k : Nat) (as : List (Nat × Nat × Nat)) (w : List ev_C) (r : ev_R), call k as w = some r → ∀ (y : MethodName) (bytes : ByteArray) (maxL : Nat) (rt : Option FieldType) (cdm : ev_Cd), Pg[k]? = some ((y, bytes, maxL, rt), cdm) → ev_Met l D cl dA kt Gs y bytes maxL rt d as w r) (hdd : dd = d) (hsm : ∀ q ∈ sm, ∀ (y : MethodName) (bytes : ByteArray) (maxL : Nat) (rt : Option FieldType) (cdm : ev_Cd), Pg[q.1]? = some ((y, bytes, maxL, rt), cdm) → ev_Met l D cl dA kt Gs y bytes maxL rt q.2.1 q.2.2.2.1 q.2.2.2.2.1 q.2.2.2.2.2) {Ks : List Nat} (hF : ev_pin Ks F) (hsafe : ev_safe Ks i = true) (hop : i.2.1 = 75) (hok : ev_k75 Gc Ct kt Pg sm own nm cc nL ret cd st.1 i = true) (h : ev_o75 Ct ret sm dd call i st = some (.inl u)) : ev_SF p l e R s m args below meth c D cl dA A ws0 nL cd F st u := by
  obtain ⟨ix, L, S, w, nc, ns⟩ := st
  unfold ev_k75 at hok
  unfold ev_o75 at h
  simp only [Bool.and_eq_true, decide_eq_true_eq] at hok
  split at h
  · next y x S1 hS =>
    have hS : S = y :: x :: S1 := hS
    subst hS
    split at h
    · next hv =>
      have hu := Sum.inl.inj (Option.some.inj h)
      subst hu
      exact fun _ _ Q k => ev_s_lcmp X hv.1 hv.2 hok.1 hok.2 k
    · cases h
  · cases h
theorem ev_q76 (X : ev_X p s m args c D cl dA kt A Gs own cc nL) (hGc : ∀ (h : Nat) (w : Cond), ev_hg Gc h = some w → w ∈ Gs) (hG : ∀ w ∈ Gs, (w.onTables && w.keeps) = true ∨ ∃ ty, w = .arrayClass ty) (hT : ev_okD Gs cl Ct Pg) (hnm : meth.name = nm) (hret : meth.sig.returnType = ret) (hlk : meth.locks = false) (hRf : R.frames = d + 1) (hRl : R.locals = 90 * (d + 1)) (hcl : ∀ (k : Nat) (as : List (Nat × Nat × Nat)) (w : List ev_C) (r : ev_R), call k as w = some r → ∀ (y : MethodName) (bytes : ByteArray) (maxL : Nat) (rt : Option FieldType) (cdm : ev_Cd), Pg[k]? = some ((y, bytes, maxL, rt), cdm) → ev_Met l D cl dA kt Gs y bytes maxL rt d as w r) (hdd : dd = d) (hsm : ∀ q ∈ sm, ∀ (y : MethodName) (bytes : ByteArray) (maxL : Nat) (rt : Option FieldType) (cdm : ev_Cd), Pg[q.1]? = some ((y, bytes, maxL, rt), cdm) → ev_Met l D cl dA kt Gs y bytes maxL rt q.2.1 q.2.2.2.1 q.2.2.2.2.1 q.2.2.2.2.2) {Ks : List Nat} (hF : ev_pin Ks F) (hsafe : ev_safe Ks i = true) (hop : i.2.1 = 76) (hok : ev_k76 Gc Ct kt Pg sm own nm cc nL ret cd st.1 i = true) (h : ev_o76 Ct ret sm dd call i st = some (.inl u)) : ev_SF p l e R s m args below meth c D cl dA A ws0 nL cd F st u := by
  obtain ⟨ix, L, S, w, nc, ns⟩ := st
  unfold ev_k76 at hok
  unfold ev_o76 at h
  simp only [Bool.and_eq_true, decide_eq_true_eq] at hok
  split at h
  · next x S1 hS =>
    have hS : S = x :: S1 := hS
    subst hS
    split at h
    · next hv =>
      have hu := Sum.inl.inj (Option.some.inj h)
      subst hu
      exact fun _ _ Q k => ev_s_i2l X hv hok.1 hok.2 k
    · cases h
  · cases h
theorem ev_q77 (X : ev_X p s m args c D cl dA kt A Gs own cc nL) (hGc : ∀ (h : Nat) (w : Cond), ev_hg Gc h = some w → w ∈ Gs) (hG : ∀ w ∈ Gs, (w.onTables && w.keeps) = true ∨ ∃ ty, w = .arrayClass ty) (hT : ev_okD Gs cl Ct Pg) (hnm : meth.name = nm) (hret : meth.sig.returnType = ret) (hlk : meth.locks = false) (hRf : R.frames = d + 1) (hRl : R.locals = 90 * (d + 1)) (hcl : ∀ (k : Nat) (as : List (Nat × Nat × Nat)) (w : List ev_C) (r : ev_R), call k as w = some r → ∀ (y : MethodName) (bytes : ByteArray) (maxL : Nat) (rt : Option FieldType) (cdm : ev_Cd), Pg[k]? = some ((y, bytes, maxL, rt), cdm) → ev_Met l D cl dA kt Gs y bytes maxL rt d as w r) (hdd : dd = d) (hsm : ∀ q ∈ sm, ∀ (y : MethodName) (bytes : ByteArray) (maxL : Nat) (rt : Option FieldType) (cdm : ev_Cd), Pg[q.1]? = some ((y, bytes, maxL, rt), cdm) → ev_Met l D cl dA kt Gs y bytes maxL rt q.2.1 q.2.2.2.1 q.2.2.2.2.1 q.2.2.2.2.2) {Ks : List Nat} (hF : ev_pin Ks F) (hsafe : ev_safe Ks i = true) (hop : i.2.1 = 77) (hok : ev_k77 Gc Ct kt Pg sm own nm cc nL ret cd st.1 i = true) (h : ev_o77 Ct ret sm dd call i st = some (.inl u)) : ev_SF p l e R s m args below meth c D cl dA A ws0 nL cd F st u := by
  obtain ⟨ix, L, S, w, nc, ns⟩ := st
  unfold ev_k77 at hok
  unfold ev_o77 at h
  simp only [Bool.and_eq_true, decide_eq_true_eq] at hok
  split at h
  · next x S1 hS =>
    have hS : S = x :: S1 := hS
    subst hS
    split at h
    · next hv =>
      have hu := Sum.inl.inj (Option.some.inj h)
      subst hu
      exact fun _ _ Q k => ev_s_l2i X hv hok.1 hok.2 k
    · cases h
  · cases h
theorem ev_q78 (X : ev_X p s m args c D cl dA kt A Gs own cc nL) (hGc : ∀ (h : Nat) (w : Cond), ev_hg Gc h = some w → w ∈ Gs) (hG : ∀ w ∈ Gs, (w.onTables && w.keeps) = true ∨ ∃ ty, w = .arrayClass ty) (hT : ev_okD Gs cl Ct Pg) (hnm : meth.name = nm) (hret : meth.sig.returnType = ret) (hlk : meth.locks = false) (hRf : R.frames = d + 1) (hRl : R.locals = 90 * (d + 1)) (hcl : ∀ (k : Nat) (as : List (Nat × Nat × Nat)) (w : List ev_C) (r : ev_R), call k as w = some r → ∀ (y : MethodName) (bytes : ByteArray) (maxL : Nat) (rt : Option FieldType) (cdm : ev_Cd), Pg[k]? = some ((y, bytes, maxL, rt), cdm) → ev_Met l D cl dA kt Gs y bytes maxL rt d as w r) (hdd : dd = d) (hsm : ∀ q ∈ sm, ∀ (y : MethodName) (bytes : ByteArray) (maxL : Nat) (rt : Option FieldType) (cdm : ev_Cd), Pg[q.1]? = some ((y, bytes, maxL, rt), cdm) → ev_Met l D cl dA kt Gs y bytes maxL rt q.2.1 q.2.2.2.1 q.2.2.2.2.1 q.2.2.2.2.2) {Ks : List Nat} (hF : ev_pin Ks F) (hsafe : ev_safe Ks i = true) (hop : i.2.1 = 78) (hok : ev_k78 Gc Ct kt Pg sm own nm cc nL ret cd st.1 i = true) (h : ev_o78 Ct ret sm dd call i st = some (.inl u)) : ev_SF p l e R s m args below meth c D cl dA A ws0 nL cd F st u := by
  obtain ⟨ix, L, S, w, nc, ns⟩ := st
  unfold ev_k78 at hok
  unfold ev_o78 at h
  simp only [Bool.and_eq_true, decide_eq_true_eq] at hok
  split at h
  · next x S1 hS =>
    have hS : S = x :: S1 := hS
    subst hS
    split at h
    · next hv =>
      have hu := Sum.inl.inj (Option.some.inj h)
      subst hu
      exact fun _ _ Q k => ev_s_un hv rfl (fun i9 _ => ev_i2b_in i9) hok.2 (fun i9 k9 => lv_i2b X.1.1 X.1.2.1 hok.1 rfl k9) k
    · cases h
  · cases h
theorem ev_q79 (X : ev_X p s m args c D cl dA kt A Gs own cc nL) (hGc : ∀ (h : Nat) (w : Cond), ev_hg Gc h = some w → w ∈ Gs) (hG : ∀ w ∈ Gs, (w.onTables && w.keeps) = true ∨ ∃ ty, w = .arrayClass ty) (hT : ev_okD Gs cl Ct Pg) (hnm : meth.name = nm) (hret : meth.sig.returnType = ret) (hlk : meth.locks = false) (hRf : R.frames = d + 1) (hRl : R.locals = 90 * (d + 1)) (hcl : ∀ (k : Nat) (as : List (Nat × Nat × Nat)) (w : List ev_C) (r : ev_R), call k as w = some r → ∀ (y : MethodName) (bytes : ByteArray) (maxL : Nat) (rt : Option FieldType) (cdm : ev_Cd), Pg[k]? = some ((y, bytes, maxL, rt), cdm) → ev_Met l D cl dA kt Gs y bytes maxL rt d as w r) (hdd : dd = d) (hsm : ∀ q ∈ sm, ∀ (y : MethodName) (bytes : ByteArray) (maxL : Nat) (rt : Option FieldType) (cdm : ev_Cd), Pg[q.1]? = some ((y, bytes, maxL, rt), cdm) → ev_Met l D cl dA kt Gs y bytes maxL rt q.2.1 q.2.2.2.1 q.2.2.2.2.1 q.2.2.2.2.2) {Ks : List Nat} (hF : ev_pin Ks F) (hsafe : ev_safe Ks i = true) (hop : i.2.1 = 79) (hok : ev_k79 Gc Ct kt Pg sm own nm cc nL ret cd st.1 i = true) (h : ev_o79 Ct ret sm dd call i st = some (.inl u)) : ev_SF p l e R s m args below meth c D cl dA A ws0 nL cd F st u := by
  obtain ⟨ix, L, S, w, nc, ns⟩ := st
  unfold ev_k79 at hok
  unfold ev_o79 at h
  simp only [Bool.and_eq_true, decide_eq_true_eq] at hok
  split at h
  · next y x S1 hS =>
    have hS : S = y :: x :: S1 := hS
    subst hS
    split at h
    · next hv =>
      have hu := Sum.inl.inj (Option.some.inj h)
      subst hu
      exact fun _ _ Q k => ev_s_idiv X hv.1 hv.2.1 hv.2.2.1 hv.2.2.2 hok.1 hok.2 k
    · cases h
  · cases h
theorem ev_q80 (X : ev_X p s m args c D cl dA kt A Gs own cc nL) (hGc : ∀ (h : Nat) (w : Cond), ev_hg Gc h = some w → w ∈ Gs) (hG : ∀ w ∈ Gs, (w.onTables && w.keeps) = true ∨ ∃ ty, w = .arrayClass ty) (hT : ev_okD Gs cl Ct Pg) (hnm : meth.name = nm) (hret : meth.sig.returnType = ret) (hlk : meth.locks = false) (hRf : R.frames = d + 1) (hRl : R.locals = 90 * (d + 1)) (hcl : ∀ (k : Nat) (as : List (Nat × Nat × Nat)) (w : List ev_C) (r : ev_R), call k as w = some r → ∀ (y : MethodName) (bytes : ByteArray) (maxL : Nat) (rt : Option FieldType) (cdm : ev_Cd), Pg[k]? = some ((y, bytes, maxL, rt), cdm) → ev_Met l D cl dA kt Gs y bytes maxL rt d as w r) (hdd : dd = d) (hsm : ∀ q ∈ sm, ∀ (y : MethodName) (bytes : ByteArray) (maxL : Nat) (rt : Option FieldType) (cdm : ev_Cd), Pg[q.1]? = some ((y, bytes, maxL, rt), cdm) → ev_Met l D cl dA kt Gs y bytes maxL rt q.2.1 q.2.2.2.1 q.2.2.2.2.1 q.2.2.2.2.2) {Ks : List Nat} (hF : ev_pin Ks F) (hsafe : ev_safe Ks i = true) (hop : i.2.1 = 80) (hok : ev_k80 Gc Ct kt Pg sm own nm cc nL ret cd st.1 i = true) (h : ev_o80 Ct ret sm dd call i st = some (.inl u)) : ev_SF p l e R s m args below meth c D cl dA A ws0 nL cd F st u := by
  obtain ⟨ix, L, S, w, nc, ns⟩ := st
  unfold ev_k80 at hok
  unfold ev_o80 at h
  simp only [Bool.and_eq_true, decide_eq_true_eq] at hok
  split at h
  · next y x S1 hS =>
    have hS : S = y :: x :: S1 := hS
    subst hS
    split at h
    · next hv =>
      have hu := Sum.inl.inj (Option.some.inj h)
      subst hu
      exact fun _ _ Q k => ev_s_irem X hv.1 hv.2.1 hv.2.2.1 hv.2.2.2 hok.1 hok.2 k
    · cases h
  · cases h
theorem ev_q81 (X : ev_X p s m args c D cl dA kt A Gs own cc nL) (hGc : ∀ (h : Nat) (w : Cond), ev_hg Gc h = some w → w ∈ Gs) (hG : ∀ w ∈ Gs, (w.onTables && w.keeps) = true ∨ ∃ ty, w = .arrayClass ty) (hT : ev_okD Gs cl Ct Pg) (hnm : meth.name = nm) (hret : meth.sig.returnType = ret) (hlk : meth.locks = false) (hRf : R.frames = d + 1) (hRl : R.locals = 90 * (d + 1)) (hcl : ∀ (k : Nat) (as : List (Nat × Nat × Nat)) (w : List ev_C) (r : ev_R), call k as w = some r → ∀ (y : MethodName) (bytes : ByteArray) (maxL : Nat) (rt : Option FieldType) (cdm : ev_Cd), Pg[k]? = some ((y, bytes, maxL, rt), cdm) → ev_Met l D cl dA kt Gs y bytes maxL rt d as w r) (hdd : dd = d) (hsm : ∀ q ∈ sm, ∀ (y : MethodName) (bytes : ByteArray) (maxL : Nat) (rt : Option FieldType) (cdm : ev_Cd), Pg[q.1]? = some ((y, bytes, maxL, rt), cdm) → ev_Met l D cl dA kt Gs y bytes maxL rt q.2.1 q.2.2.2.1 q.2.2.2.2.1 q.2.2.2.2.2) {Ks : List Nat} (hF : ev_pin Ks F) (hsafe : ev_safe Ks i = true) (hop : i.2.1 = 81) (hok : ev_k81 Gc Ct kt Pg sm own nm cc nL ret cd st.1 i = true) (h : ev_o81 Ct ret sm dd call i st = some (.inl u)) : ev_SF p l e R s m args below meth c D cl dA A ws0 nL cd F st u := by
  obtain ⟨ix, L, S, w, nc, ns⟩ := st
  unfold ev_k81 at hok
  unfold ev_o81 at h
  simp only [Bool.and_eq_true, decide_eq_true_eq] at hok
  split at h
  · next y x S1 hS =>
    have hS : S = y :: x :: S1 := hS
    subst hS
    split at h
    · next hv =>
      have hu := Sum.inl.inj (Option.some.inj h)
      subst hu
      exact fun _ _ Q k => ev_s_bin hv.1 hv.2 rfl (fun _ _ _ _ => ev_full_in _) hok.2 (fun i j k9 => lv_ishr X.1.1 X.1.2.1 hok.1 k9) k
    · cases h
  · cases h
theorem ev_q82 (X : ev_X p s m args c D cl dA kt A Gs own cc nL) (hGc : ∀ (h : Nat) (w : Cond), ev_hg Gc h = some w → w ∈ Gs) (hG : ∀ w ∈ Gs, (w.onTables && w.keeps) = true ∨ ∃ ty, w = .arrayClass ty) (hT : ev_okD Gs cl Ct Pg) (hnm : meth.name = nm) (hret : meth.sig.returnType = ret) (hlk : meth.locks = false) (hRf : R.frames = d + 1) (hRl : R.locals = 90 * (d + 1)) (hcl : ∀ (k : Nat) (as : List (Nat × Nat × Nat)) (w : List ev_C) (r : ev_R), call k as w = some r → ∀ (y : MethodName) (bytes : ByteArray) (maxL : Nat) (rt : Option FieldType) (cdm : ev_Cd), Pg[k]? = some ((y, bytes, maxL, rt), cdm) → ev_Met l D cl dA kt Gs y bytes maxL rt d as w r) (hdd : dd = d) (hsm : ∀ q ∈ sm, ∀ (y : MethodName) (bytes : ByteArray) (maxL : Nat) (rt : Option FieldType) (cdm : ev_Cd), Pg[q.1]? = some ((y, bytes, maxL, rt), cdm) → ev_Met l D cl dA kt Gs y bytes maxL rt q.2.1 q.2.2.2.1 q.2.2.2.2.1 q.2.2.2.2.2) {Ks : List Nat} (hF : ev_pin Ks F) (hsafe : ev_safe Ks i = true) (hop : i.2.1 = 82) (hok : ev_k82 Gc Ct kt Pg sm own nm cc nL ret cd st.1 i = true) (h : ev_o82 Ct ret sm dd call i st = some (.inl u)) : ev_SF p l e R s m args below meth c D cl dA A ws0 nL cd F st u := by
  obtain ⟨ix, L, S, w, nc, ns⟩ := st
  unfold ev_k82 at hok
  unfold ev_o82 at h
  simp only [Bool.and_eq_true, decide_eq_true_eq] at hok
  split at h
  · next y x S1 hS =>
    have hS : S = y :: x :: S1 := hS
    subst hS
    split at h
    · next hv =>
      have hu := Sum.inl.inj (Option.some.inj h)
      subst hu
      exact fun _ _ Q k => ev_s_bin hv.1 hv.2 rfl (fun _ _ _ _ => ev_full_in _) hok.2 (fun i j k9 => lv_iushr X.1.1 X.1.2.1 hok.1 rfl k9) k
    · cases h
  · cases h
theorem ev_q83 (X : ev_X p s m args c D cl dA kt A Gs own cc nL) (hGc : ∀ (h : Nat) (w : Cond), ev_hg Gc h = some w → w ∈ Gs) (hG : ∀ w ∈ Gs, (w.onTables && w.keeps) = true ∨ ∃ ty, w = .arrayClass ty) (hT : ev_okD Gs cl Ct Pg) (hnm : meth.name = nm) (hret : meth.sig.returnType = ret) (hlk : meth.locks = false) (hRf : R.frames = d + 1) (hRl : R.locals = 90 * (d + 1)) (hcl : ∀ (k : Nat) (as : List (Nat × Nat × Nat)) (w : List ev_C) (r : ev_R), call k as w = some r → ∀ (y : MethodName) (bytes : ByteArray) (maxL : Nat) (rt : Option FieldType) (cdm : ev_Cd), Pg[k]? = some ((y, bytes, maxL, rt), cdm) → ev_Met l D cl dA kt Gs y bytes maxL rt d as w r) (hdd : dd = d) (hsm : ∀ q ∈ sm, ∀ (y : MethodName) (bytes : ByteArray) (maxL : Nat) (rt : Option FieldType) (cdm : ev_Cd), Pg[q.1]? = some ((y, bytes, maxL, rt), cdm) → ev_Met l D cl dA kt Gs y bytes maxL rt q.2.1 q.2.2.2.1 q.2.2.2.2.1 q.2.2.2.2.2) {Ks : List Nat} (hF : ev_pin Ks F) (hsafe : ev_safe Ks i = true) (hop : i.2.1 = 83) (hok : ev_k83 Gc Ct kt Pg sm own nm cc nL ret cd st.1 i = true) (h : ev_o83 Ct ret sm dd call i st = some (.inl u)) : ev_SF p l e R s m args below meth c D cl dA A ws0 nL cd F st u := by
  obtain ⟨ix, L, S, w, nc, ns⟩ := st
  unfold ev_k83 at hok
  unfold ev_o83 at h
  simp only [Bool.and_eq_true, decide_eq_true_eq] at hok
  split at h
  · next v hg =>
    split at h
    · next hv =>
      have hu := Sum.inl.inj (Option.some.inj h)
      subst hu
      exact fun _ _ Q k => ev_s_iincw X hok.1.1.1 (ev_in_eq hok.1.2) hok.1.1.2 hok.2 (ev_get_app hg) hv.1 hv.2 (by rw [ev_put_app hF (ev_safe1 hsafe (by omega))]; exact k)
    · cases h
  · cases h
theorem ev_op_okF (X : ev_X p s m args c D cl dA kt A Gs own cc nL) (hGc : ∀ (h : Nat) (w : Cond), ev_hg Gc h = some w → w ∈ Gs) (hG : ∀ w ∈ Gs, (w.onTables && w.keeps) = true ∨ ∃ ty, w = .arrayClass ty) (hT : ev_okD Gs cl Ct Pg) (hnm : meth.name = nm) (hret : meth.sig.returnType = ret) (hlk : meth.locks = false) (hRf : R.frames = d + 1) (hRl : R.locals = 90 * (d + 1)) (hcl : ∀ (k : Nat) (as : List (Nat × Nat × Nat)) (w : List ev_C) (r : ev_R), call k as w = some r → ∀ (y : MethodName) (bytes : ByteArray) (maxL : Nat) (rt : Option FieldType) (cdm : ev_Cd), Pg[k]? = some ((y, bytes, maxL, rt), cdm) → ev_Met l D cl dA kt Gs y bytes maxL rt d as w r) (hdd : dd = d) (hsm : ∀ q ∈ sm, ∀ (y : MethodName) (bytes : ByteArray) (maxL : Nat) (rt : Option FieldType) (cdm : ev_Cd), Pg[q.1]? = some ((y, bytes, maxL, rt), cdm) → ev_Met l D cl dA kt Gs y bytes maxL rt q.2.1 q.2.2.2.1 q.2.2.2.2.1 q.2.2.2.2.2) {Ks : List Nat} (hF : ev_pin Ks F) (hsafe : ev_safe Ks i = true) (hok : ev_ok Gc Ct kt Pg sm own nm cc nL ret cd st.1 i = true) (h : ev_op Ct ret sm dd call i st = some (.inl u)) : ev_SF p l e R s m args below meth c D cl dA A ws0 nL cd F st u := by
  unfold ev_op at h
  unfold ev_ok at hok
  by_cases hlt : i.2.1 < 42
  · rw [if_pos hlt] at h hok
    by_cases hlt : i.2.1 < 20
    · rw [if_pos hlt] at h hok
      by_cases hlt : i.2.1 < 10
      · rw [if_pos hlt] at h hok
        by_cases hlt : i.2.1 < 5
        · rw [if_pos hlt] at h hok
          by_cases hlt : i.2.1 < 2
          · rw [if_pos hlt] at h hok
            by_cases hlt : i.2.1 < 1
            · rw [if_pos hlt] at h hok
              by_cases hop : i.2.1 = 0
              · rw [if_pos hop] at h hok
                exact ev_q0 X hGc hG hT hnm hret hlk hRf hRl hcl hdd hsm hF hsafe hop hok h
              · rw [if_neg hop] at h
                cases h
            · rw [if_neg hlt] at h hok
              by_cases hop : i.2.1 = 1
              · rw [if_pos hop] at h hok
                exact ev_q1 X hGc hG hT hnm hret hlk hRf hRl hcl hdd hsm hF hsafe hop hok h
              · rw [if_neg hop] at h
                cases h
          · rw [if_neg hlt] at h hok
            by_cases hlt : i.2.1 < 3
            · rw [if_pos hlt] at h hok
              by_cases hop : i.2.1 = 2
              · rw [if_pos hop] at h hok
                exact ev_q2 X hGc hG hT hnm hret hlk hRf hRl hcl hdd hsm hF hsafe hop hok h
              · rw [if_neg hop] at h
                cases h
            · rw [if_neg hlt] at h hok
              by_cases hlt : i.2.1 < 4
              · rw [if_pos hlt] at h hok
                by_cases hop : i.2.1 = 3
                · rw [if_pos hop] at h hok
                  exact ev_q3 X hGc hG hT hnm hret hlk hRf hRl hcl hdd hsm hF hsafe hop hok h
                · rw [if_neg hop] at h
                  cases h
              · rw [if_neg hlt] at h hok
                by_cases hop : i.2.1 = 4
                · rw [if_pos hop] at h hok
                  exact ev_q4 X hGc hG hT hnm hret hlk hRf hRl hcl hdd hsm hF hsafe hop hok h
                · rw [if_neg hop] at h
                  cases h
        · rw [if_neg hlt] at h hok
          by_cases hlt : i.2.1 < 7
          · rw [if_pos hlt] at h hok
            by_cases hlt : i.2.1 < 6
            · rw [if_pos hlt] at h hok
              by_cases hop : i.2.1 = 5
              · rw [if_pos hop] at h hok
                exact ev_q5 X hGc hG hT hnm hret hlk hRf hRl hcl hdd hsm hF hsafe hop hok h
              · rw [if_neg hop] at h
                cases h
            · rw [if_neg hlt] at h hok
              by_cases hop : i.2.1 = 6
              · rw [if_pos hop] at h hok
                exact ev_q6 X hGc hG hT hnm hret hlk hRf hRl hcl hdd hsm hF hsafe hop hok h
              · rw [if_neg hop] at h
                cases h
          · rw [if_neg hlt] at h hok
            by_cases hlt : i.2.1 < 8
            · rw [if_pos hlt] at h hok
              by_cases hop : i.2.1 = 7
              · rw [if_pos hop] at h hok
                exact ev_q7 X hGc hG hT hnm hret hlk hRf hRl hcl hdd hsm hF hsafe hop hok h
              · rw [if_neg hop] at h
                cases h
            · rw [if_neg hlt] at h hok
              by_cases hlt : i.2.1 < 9
              · rw [if_pos hlt] at h hok
                by_cases hop : i.2.1 = 8
                · rw [if_pos hop] at h hok
                  exact ev_q8 X hGc hG hT hnm hret hlk hRf hRl hcl hdd hsm hF hsafe hop hok h
                · rw [if_neg hop] at h
                  cases h
              · rw [if_neg hlt] at h hok
                by_cases hop : i.2.1 = 9
                · rw [if_pos hop] at h hok
                  exact ev_q9 X hGc hG hT hnm hret hlk hRf hRl hcl hdd hsm hF hsafe hop hok h
                · rw [if_neg hop] at h
                  cases h
      · rw [if_neg hlt] at h hok
        by_cases hlt : i.2.1 < 15
        · rw [if_pos hlt] at h hok
          by_cases hlt : i.2.1 < 12
          · rw [if_pos hlt] at h hok
            by_cases hlt : i.2.1 < 11
            · rw [if_pos hlt] at h hok
              by_cases hop : i.2.1 = 10
              · rw [if_pos hop] at h hok
                exact ev_q10 X hGc hG hT hnm hret hlk hRf hRl hcl hdd hsm hF hsafe hop hok h
              · rw [if_neg hop] at h
                cases h
            · rw [if_neg hlt] at h hok
              by_cases hop : i.2.1 = 11
              · rw [if_pos hop] at h hok
                exact ev_q11 X hGc hG hT hnm hret hlk hRf hRl hcl hdd hsm hF hsafe hop hok h
              · rw [if_neg hop] at h
                cases h
          · rw [if_neg hlt] at h hok
            by_cases hlt : i.2.1 < 13
            · rw [if_pos hlt] at h hok
              by_cases hop : i.2.1 = 12
              · rw [if_pos hop] at h hok
                exact ev_q12 X hGc hG hT hnm hret hlk hRf hRl hcl hdd hsm hF hsafe hop hok h
              · rw [if_neg hop] at h
                cases h
            · rw [if_neg hlt] at h hok
              by_cases hlt : i.2.1 < 14
              · rw [if_pos hlt] at h hok
                by_cases hop : i.2.1 = 13
                · rw [if_pos hop] at h hok
                  exact ev_q13 X hGc hG hT hnm hret hlk hRf hRl hcl hdd hsm hF hsafe hop hok h
                · rw [if_neg hop] at h
                  cases h
              · rw [if_neg hlt] at h hok
                by_cases hop : i.2.1 = 14
                · rw [if_pos hop] at h hok
                  exact ev_q14 X hGc hG hT hnm hret hlk hRf hRl hcl hdd hsm hF hsafe hop hok h
                · rw [if_neg hop] at h
                  cases h
        · rw [if_neg hlt] at h hok
          by_cases hlt : i.2.1 < 17
          · rw [if_pos hlt] at h hok
            by_cases hlt : i.2.1 < 16
            · rw [if_pos hlt] at h hok
              by_cases hop : i.2.1 = 15
              · rw [if_pos hop] at h hok
                exact ev_q15 X hGc hG hT hnm hret hlk hRf hRl hcl hdd hsm hF hsafe hop hok h
              · rw [if_neg hop] at h
                cases h
            · rw [if_neg hlt] at h hok
              by_cases hop : i.2.1 = 16
              · rw [if_pos hop] at h hok
                exact ev_q16 X hGc hG hT hnm hret hlk hRf hRl hcl hdd hsm hF hsafe hop hok h
              · rw [if_neg hop] at h
                cases h
          · rw [if_neg hlt] at h hok
            by_cases hlt : i.2.1 < 18
            · rw [if_pos hlt] at h hok
              by_cases hop : i.2.1 = 17
              · rw [if_pos hop] at h hok
                exact ev_q17 X hGc hG hT hnm hret hlk hRf hRl hcl hdd hsm hF hsafe hop hok h
              · rw [if_neg hop] at h
                cases h
            · rw [if_neg hlt] at h hok
              by_cases hlt : i.2.1 < 19
              · rw [if_pos hlt] at h hok
                by_cases hop : i.2.1 = 18
                · rw [if_pos hop] at h hok
                  exact ev_q18 X hGc hG hT hnm hret hlk hRf hRl hcl hdd hsm hF hsafe hop hok h
                · rw [if_neg hop] at h
                  cases h
              · rw [if_neg hlt] at h hok
                by_cases hop : i.2.1 = 19
                · rw [if_pos hop] at h hok
                  exact ev_q19 X hGc hG hT hnm hret hlk hRf hRl hcl hdd hsm hF hsafe hop hok h
                · rw [if_neg hop] at h
                  cases h
    · rw [if_neg hlt] at h hok
      by_cases hlt : i.2.1 < 30
      · rw [if_pos hlt] at h hok
        by_cases hlt : i.2.1 < 25
        · rw [if_pos hlt] at h hok
          by_cases hlt : i.2.1 < 22
          · rw [if_pos hlt] at h hok
            by_cases hlt : i.2.1 < 21
            · rw [if_pos hlt] at h hok
              by_cases hop : i.2.1 = 20
              · rw [if_pos hop] at h hok
                exact ev_q20 X hGc hG hT hnm hret hlk hRf hRl hcl hdd hsm hF hsafe hop hok h
              · rw [if_neg hop] at h
                cases h
            · rw [if_neg hlt] at h hok
              by_cases hop : i.2.1 = 21
              · rw [if_pos hop] at h hok
                exact ev_q21 X hGc hG hT hnm hret hlk hRf hRl hcl hdd hsm hF hsafe hop hok h
              · rw [if_neg hop] at h
                cases h
          · rw [if_neg hlt] at h hok
            by_cases hlt : i.2.1 < 23
            · rw [if_pos hlt] at h hok
              by_cases hop : i.2.1 = 22
              · rw [if_pos hop] at h hok
                exact ev_q22 X hGc hG hT hnm hret hlk hRf hRl hcl hdd hsm hF hsafe hop hok h
              · rw [if_neg hop] at h
                cases h
            · rw [if_neg hlt] at h hok
              by_cases hlt : i.2.1 < 24
              · rw [if_pos hlt] at h hok
                by_cases hop : i.2.1 = 23
                · rw [if_pos hop] at h hok
                  exact ev_q23 X hGc hG hT hnm hret hlk hRf hRl hcl hdd hsm hF hsafe hop hok h
                · rw [if_neg hop] at h
                  cases h
              · rw [if_neg hlt] at h hok
                by_cases hop : i.2.1 = 24
                · rw [if_pos hop] at h hok
                  exact ev_q24 X hGc hG hT hnm hret hlk hRf hRl hcl hdd hsm hF hsafe hop hok h
                · rw [if_neg hop] at h
                  cases h
        · rw [if_neg hlt] at h hok
          by_cases hlt : i.2.1 < 27
          · rw [if_pos hlt] at h hok
            by_cases hlt : i.2.1 < 26
            · rw [if_pos hlt] at h hok
              by_cases hop : i.2.1 = 25
              · rw [if_pos hop] at h hok
                exact ev_q25 X hGc hG hT hnm hret hlk hRf hRl hcl hdd hsm hF hsafe hop hok h
              · rw [if_neg hop] at h
                cases h
            · rw [if_neg hlt] at h hok
              by_cases hop : i.2.1 = 26
              · rw [if_pos hop] at h hok
                exact ev_q26 X hGc hG hT hnm hret hlk hRf hRl hcl hdd hsm hF hsafe hop hok h
              · rw [if_neg hop] at h
                cases h
          · rw [if_neg hlt] at h hok
            by_cases hlt : i.2.1 < 28
            · rw [if_pos hlt] at h hok
              by_cases hop : i.2.1 = 27
              · rw [if_pos hop] at h hok
                exact ev_q27 X hGc hG hT hnm hret hlk hRf hRl hcl hdd hsm hF hsafe hop hok h
              · rw [if_neg hop] at h
                cases h
            · rw [if_neg hlt] at h hok
              by_cases hlt : i.2.1 < 29
              · rw [if_pos hlt] at h hok
                by_cases hop : i.2.1 = 28
                · rw [if_pos hop] at h hok
                  exact ev_q28 X hGc hG hT hnm hret hlk hRf hRl hcl hdd hsm hF hsafe hop hok h
                · rw [if_neg hop] at h
                  cases h
              · rw [if_neg hlt] at h hok
                by_cases hop : i.2.1 = 29
                · rw [if_pos hop] at h hok
                  exact ev_q29 X hGc hG hT hnm hret hlk hRf hRl hcl hdd hsm hF hsafe hop hok h
                · rw [if_neg hop] at h
                  cases h
      · rw [if_neg hlt] at h hok
        by_cases hlt : i.2.1 < 35
        · rw [if_pos hlt] at h hok
          by_cases hlt : i.2.1 < 32
          · rw [if_pos hlt] at h hok
            by_cases hlt : i.2.1 < 31
            · rw [if_pos hlt] at h hok
              by_cases hop : i.2.1 = 30
              · rw [if_pos hop] at h hok
                exact ev_q30 X hGc hG hT hnm hret hlk hRf hRl hcl hdd hsm hF hsafe hop hok h
              · rw [if_neg hop] at h
                cases h
            · rw [if_neg hlt] at h hok
              by_cases hop : i.2.1 = 31
              · rw [if_pos hop] at h hok
                exact ev_q31 X hGc hG hT hnm hret hlk hRf hRl hcl hdd hsm hF hsafe hop hok h
              · rw [if_neg hop] at h
                cases h
          · rw [if_neg hlt] at h hok
            by_cases hlt : i.2.1 < 33
            · rw [if_pos hlt] at h hok
              by_cases hop : i.2.1 = 32
              · rw [if_pos hop] at h hok
                exact ev_q32 X hGc hG hT hnm hret hlk hRf hRl hcl hdd hsm hF hsafe hop hok h
              · rw [if_neg hop] at h
                cases h
            · rw [if_neg hlt] at h hok
              by_cases hlt : i.2.1 < 34
              · rw [if_pos hlt] at h hok
                by_cases hop : i.2.1 = 33
                · rw [if_pos hop] at h hok
                  exact ev_q33 X hGc hG hT hnm hret hlk hRf hRl hcl hdd hsm hF hsafe hop hok h
                · rw [if_neg hop] at h
                  cases h
              · rw [if_neg hlt] at h hok
                by_cases hop : i.2.1 = 34
                · rw [if_pos hop] at h hok
                  exact ev_q34 X hGc hG hT hnm hret hlk hRf hRl hcl hdd hsm hF hsafe hop hok h
                · rw [if_neg hop] at h
                  cases h
        · rw [if_neg hlt] at h hok
          by_cases hlt : i.2.1 < 38
          · rw [if_pos hlt] at h hok
            by_cases hlt : i.2.1 < 36
            · rw [if_pos hlt] at h hok
              by_cases hop : i.2.1 = 35
              · rw [if_pos hop] at h hok
                exact ev_q35 X hGc hG hT hnm hret hlk hRf hRl hcl hdd hsm hF hsafe hop hok h
              · rw [if_neg hop] at h
                cases h
            · rw [if_neg hlt] at h hok
              by_cases hlt : i.2.1 < 37
              · rw [if_pos hlt] at h hok
                by_cases hop : i.2.1 = 36
                · rw [if_pos hop] at h hok
                  exact ev_q36 X hGc hG hT hnm hret hlk hRf hRl hcl hdd hsm hF hsafe hop hok h
                · rw [if_neg hop] at h
                  cases h
              · rw [if_neg hlt] at h hok
                by_cases hop : i.2.1 = 37
                · rw [if_pos hop] at h hok
                  exact ev_q37 X hGc hG hT hnm hret hlk hRf hRl hcl hdd hsm hF hsafe hop hok h
                · rw [if_neg hop] at h
                  cases h
          · rw [if_neg hlt] at h hok
            by_cases hlt : i.2.1 < 39
            · rw [if_pos hlt] at h hok
              by_cases hop : i.2.1 = 38
              · rw [if_pos hop] at h hok
                exact ev_q38 X hGc hG hT hnm hret hlk hRf hRl hcl hdd hsm hF hsafe hop hok h
              · rw [if_neg hop] at h
                cases h
            · rw [if_neg hlt] at h hok
              by_cases hlt : i.2.1 < 40
              · rw [if_pos hlt] at h hok
                by_cases hop : i.2.1 = 39
                · rw [if_pos hop] at h hok
                  exact ev_q39 X hGc hG hT hnm hret hlk hRf hRl hcl hdd hsm hF hsafe hop hok h
                · rw [if_neg hop] at h
                  cases h
              · rw [if_neg hlt] at h hok
                by_cases hop : i.2.1 = 40
                · rw [if_pos hop] at h hok
                  exact ev_q40 X hGc hG hT hnm hret hlk hRf hRl hcl hdd hsm hF hsafe hop hok h
                · rw [if_neg hop] at h
                  cases h
  · rw [if_neg hlt] at h hok
    by_cases hlt : i.2.1 < 63
    · rw [if_pos hlt] at h hok
      by_cases hlt : i.2.1 < 53
      · rw [if_pos hlt] at h hok
        by_cases hlt : i.2.1 < 48
        · rw [if_pos hlt] at h hok
          by_cases hlt : i.2.1 < 44
          · rw [if_pos hlt] at h hok
            by_cases hlt : i.2.1 < 43
            · rw [if_pos hlt] at h hok
              by_cases hop : i.2.1 = 42
              · rw [if_pos hop] at h hok
                exact ev_q42 X hGc hG hT hnm hret hlk hRf hRl hcl hdd hsm hF hsafe hop hok h
              · rw [if_neg hop] at h
                cases h
            · rw [if_neg hlt] at h hok
              by_cases hop : i.2.1 = 43
              · rw [if_pos hop] at h hok
                exact ev_q43 X hGc hG hT hnm hret hlk hRf hRl hcl hdd hsm hF hsafe hop hok h
              · rw [if_neg hop] at h
                cases h
          · rw [if_neg hlt] at h hok
            by_cases hlt : i.2.1 < 46
            · rw [if_pos hlt] at h hok
              by_cases hop : i.2.1 = 44
              · rw [if_pos hop] at h hok
                exact ev_q44 X hGc hG hT hnm hret hlk hRf hRl hcl hdd hsm hF hsafe hop hok h
              · rw [if_neg hop] at h
                cases h
            · rw [if_neg hlt] at h hok
              by_cases hlt : i.2.1 < 47
              · rw [if_pos hlt] at h hok
                by_cases hop : i.2.1 = 46
                · rw [if_pos hop] at h hok
                  exact ev_q46 X hGc hG hT hnm hret hlk hRf hRl hcl hdd hsm hF hsafe hop hok h
                · rw [if_neg hop] at h
                  cases h
              · rw [if_neg hlt] at h hok
                by_cases hop : i.2.1 = 47
                · rw [if_pos hop] at h hok
                  exact ev_q47 X hGc hG hT hnm hret hlk hRf hRl hcl hdd hsm hF hsafe hop hok h
                · rw [if_neg hop] at h
                  cases h
        · rw [if_neg hlt] at h hok
          by_cases hlt : i.2.1 < 50
          · rw [if_pos hlt] at h hok
            by_cases hlt : i.2.1 < 49
            · rw [if_pos hlt] at h hok
              by_cases hop : i.2.1 = 48
              · rw [if_pos hop] at h hok
                exact ev_q48 X hGc hG hT hnm hret hlk hRf hRl hcl hdd hsm hF hsafe hop hok h
              · rw [if_neg hop] at h
                cases h
            · rw [if_neg hlt] at h hok
              by_cases hop : i.2.1 = 49
              · rw [if_pos hop] at h hok
                exact ev_q49 X hGc hG hT hnm hret hlk hRf hRl hcl hdd hsm hF hsafe hop hok h
              · rw [if_neg hop] at h
                cases h
          · rw [if_neg hlt] at h hok
            by_cases hlt : i.2.1 < 51
            · rw [if_pos hlt] at h hok
              by_cases hop : i.2.1 = 50
              · rw [if_pos hop] at h hok
                exact ev_q50 X hGc hG hT hnm hret hlk hRf hRl hcl hdd hsm hF hsafe hop hok h
              · rw [if_neg hop] at h
                cases h
            · rw [if_neg hlt] at h hok
              by_cases hlt : i.2.1 < 52
              · rw [if_pos hlt] at h hok
                by_cases hop : i.2.1 = 51
                · rw [if_pos hop] at h hok
                  exact ev_q51 X hGc hG hT hnm hret hlk hRf hRl hcl hdd hsm hF hsafe hop hok h
                · rw [if_neg hop] at h
                  cases h
              · rw [if_neg hlt] at h hok
                by_cases hop : i.2.1 = 52
                · rw [if_pos hop] at h hok
                  exact ev_q52 X hGc hG hT hnm hret hlk hRf hRl hcl hdd hsm hF hsafe hop hok h
                · rw [if_neg hop] at h
                  cases h
      · rw [if_neg hlt] at h hok
        by_cases hlt : i.2.1 < 58
        · rw [if_pos hlt] at h hok
          by_cases hlt : i.2.1 < 55
          · rw [if_pos hlt] at h hok
            by_cases hlt : i.2.1 < 54
            · rw [if_pos hlt] at h hok
              by_cases hop : i.2.1 = 53
              · rw [if_pos hop] at h hok
                exact ev_q53 X hGc hG hT hnm hret hlk hRf hRl hcl hdd hsm hF hsafe hop hok h
              · rw [if_neg hop] at h
                cases h
            · rw [if_neg hlt] at h hok
              by_cases hop : i.2.1 = 54
              · rw [if_pos hop] at h hok
                exact ev_q54 X hGc hG hT hnm hret hlk hRf hRl hcl hdd hsm hF hsafe hop hok h
              · rw [if_neg hop] at h
                cases h
          · rw [if_neg hlt] at h hok
            by_cases hlt : i.2.1 < 56
            · rw [if_pos hlt] at h hok
              by_cases hop : i.2.1 = 55
              · rw [if_pos hop] at h hok
                exact ev_q55 X hGc hG hT hnm hret hlk hRf hRl hcl hdd hsm hF hsafe hop hok h
              · rw [if_neg hop] at h
                cases h
            · rw [if_neg hlt] at h hok
              by_cases hlt : i.2.1 < 57
              · rw [if_pos hlt] at h hok
                by_cases hop : i.2.1 = 56
                · rw [if_pos hop] at h hok
                  exact ev_q56 X hGc hG hT hnm hret hlk hRf hRl hcl hdd hsm hF hsafe hop hok h
                · rw [if_neg hop] at h
                  cases h
              · rw [if_neg hlt] at h hok
                by_cases hop : i.2.1 = 57
                · rw [if_pos hop] at h hok
                  exact ev_q57 X hGc hG hT hnm hret hlk hRf hRl hcl hdd hsm hF hsafe hop hok h
                · rw [if_neg hop] at h
                  cases h
        · rw [if_neg hlt] at h hok
          by_cases hlt : i.2.1 < 60
          · rw [if_pos hlt] at h hok
            by_cases hlt : i.2.1 < 59
            · rw [if_pos hlt] at h hok
              by_cases hop : i.2.1 = 58
              · rw [if_pos hop] at h hok
                exact ev_q58 X hGc hG hT hnm hret hlk hRf hRl hcl hdd hsm hF hsafe hop hok h
              · rw [if_neg hop] at h
                cases h
            · rw [if_neg hlt] at h hok
              by_cases hop : i.2.1 = 59
              · rw [if_pos hop] at h hok
                exact ev_q59 X hGc hG hT hnm hret hlk hRf hRl hcl hdd hsm hF hsafe hop hok h
              · rw [if_neg hop] at h
                cases h
          · rw [if_neg hlt] at h hok
            by_cases hlt : i.2.1 < 61
            · rw [if_pos hlt] at h hok
              by_cases hop : i.2.1 = 60
              · rw [if_pos hop] at h hok
                exact ev_q60 X hGc hG hT hnm hret hlk hRf hRl hcl hdd hsm hF hsafe hop hok h
              · rw [if_neg hop] at h
                cases h
            · rw [if_neg hlt] at h hok
              by_cases hlt : i.2.1 < 62
              · rw [if_pos hlt] at h hok
                by_cases hop : i.2.1 = 61
                · rw [if_pos hop] at h hok
                  exact ev_q61 X hGc hG hT hnm hret hlk hRf hRl hcl hdd hsm hF hsafe hop hok h
                · rw [if_neg hop] at h
                  cases h
              · rw [if_neg hlt] at h hok
                by_cases hop : i.2.1 = 62
                · rw [if_pos hop] at h hok
                  exact ev_q62 X hGc hG hT hnm hret hlk hRf hRl hcl hdd hsm hF hsafe hop hok h
                · rw [if_neg hop] at h
                  cases h
    · rw [if_neg hlt] at h hok
      by_cases hlt : i.2.1 < 73
      · rw [if_pos hlt] at h hok
        by_cases hlt : i.2.1 < 68
        · rw [if_pos hlt] at h hok
          by_cases hlt : i.2.1 < 65
          · rw [if_pos hlt] at h hok
            by_cases hlt : i.2.1 < 64
            · rw [if_pos hlt] at h hok
              by_cases hop : i.2.1 = 63
              · rw [if_pos hop] at h hok
                exact ev_q63 X hGc hG hT hnm hret hlk hRf hRl hcl hdd hsm hF hsafe hop hok h
              · rw [if_neg hop] at h
                cases h
            · rw [if_neg hlt] at h hok
              by_cases hop : i.2.1 = 64
              · rw [if_pos hop] at h hok
                exact ev_q64 X hGc hG hT hnm hret hlk hRf hRl hcl hdd hsm hF hsafe hop hok h
              · rw [if_neg hop] at h
                cases h
          · rw [if_neg hlt] at h hok
            by_cases hlt : i.2.1 < 66
            · rw [if_pos hlt] at h hok
              by_cases hop : i.2.1 = 65
              · rw [if_pos hop] at h hok
                exact ev_q65 X hGc hG hT hnm hret hlk hRf hRl hcl hdd hsm hF hsafe hop hok h
              · rw [if_neg hop] at h
                cases h
            · rw [if_neg hlt] at h hok
              by_cases hlt : i.2.1 < 67
              · rw [if_pos hlt] at h hok
                by_cases hop : i.2.1 = 66
                · rw [if_pos hop] at h hok
                  exact ev_q66 X hGc hG hT hnm hret hlk hRf hRl hcl hdd hsm hF hsafe hop hok h
                · rw [if_neg hop] at h
                  cases h
              · rw [if_neg hlt] at h hok
                by_cases hop : i.2.1 = 67
                · rw [if_pos hop] at h hok
                  exact ev_q67 X hGc hG hT hnm hret hlk hRf hRl hcl hdd hsm hF hsafe hop hok h
                · rw [if_neg hop] at h
                  cases h
        · rw [if_neg hlt] at h hok
          by_cases hlt : i.2.1 < 70
          · rw [if_pos hlt] at h hok
            by_cases hlt : i.2.1 < 69
            · rw [if_pos hlt] at h hok
              by_cases hop : i.2.1 = 68
              · rw [if_pos hop] at h hok
                exact ev_q68 X hGc hG hT hnm hret hlk hRf hRl hcl hdd hsm hF hsafe hop hok h
              · rw [if_neg hop] at h
                cases h
            · rw [if_neg hlt] at h hok
              by_cases hop : i.2.1 = 69
              · rw [if_pos hop] at h hok
                exact ev_q69 X hGc hG hT hnm hret hlk hRf hRl hcl hdd hsm hF hsafe hop hok h
              · rw [if_neg hop] at h
                cases h
          · rw [if_neg hlt] at h hok
            by_cases hlt : i.2.1 < 71
            · rw [if_pos hlt] at h hok
              by_cases hop : i.2.1 = 70
              · rw [if_pos hop] at h hok
                exact ev_q70 X hGc hG hT hnm hret hlk hRf hRl hcl hdd hsm hF hsafe hop hok h
              · rw [if_neg hop] at h
                cases h
            · rw [if_neg hlt] at h hok
              by_cases hlt : i.2.1 < 72
              · rw [if_pos hlt] at h hok
                by_cases hop : i.2.1 = 71
                · rw [if_pos hop] at h hok
                  exact ev_q71 X hGc hG hT hnm hret hlk hRf hRl hcl hdd hsm hF hsafe hop hok h
                · rw [if_neg hop] at h
                  cases h
              · rw [if_neg hlt] at h hok
                by_cases hop : i.2.1 = 72
                · rw [if_pos hop] at h hok
                  exact ev_q72 X hGc hG hT hnm hret hlk hRf hRl hcl hdd hsm hF hsafe hop hok h
                · rw [if_neg hop] at h
                  cases h
      · rw [if_neg hlt] at h hok
        by_cases hlt : i.2.1 < 78
        · rw [if_pos hlt] at h hok
          by_cases hlt : i.2.1 < 75
          · rw [if_pos hlt] at h hok
            by_cases hlt : i.2.1 < 74
            · rw [if_pos hlt] at h hok
              by_cases hop : i.2.1 = 73
              · rw [if_pos hop] at h hok
                exact ev_q73 X hGc hG hT hnm hret hlk hRf hRl hcl hdd hsm hF hsafe hop hok h
              · rw [if_neg hop] at h
                cases h
            · rw [if_neg hlt] at h hok
              by_cases hop : i.2.1 = 74
              · rw [if_pos hop] at h hok
                exact ev_q74 X hGc hG hT hnm hret hlk hRf hRl hcl hdd hsm hF hsafe hop hok h
              · rw [if_neg hop] at h
                cases h
          · rw [if_neg hlt] at h hok
            by_cases hlt : i.2.1 < 76
            · rw [if_pos hlt] at h hok
              by_cases hop : i.2.1 = 75
              · rw [if_pos hop] at h hok
                exact ev_q75 X hGc hG hT hnm hret hlk hRf hRl hcl hdd hsm hF hsafe hop hok h
              · rw [if_neg hop] at h
                cases h
            · rw [if_neg hlt] at h hok
              by_cases hlt : i.2.1 < 77
              · rw [if_pos hlt] at h hok
                by_cases hop : i.2.1 = 76
                · rw [if_pos hop] at h hok
                  exact ev_q76 X hGc hG hT hnm hret hlk hRf hRl hcl hdd hsm hF hsafe hop hok h
                · rw [if_neg hop] at h
                  cases h
              · rw [if_neg hlt] at h hok
                by_cases hop : i.2.1 = 77
                · rw [if_pos hop] at h hok
                  exact ev_q77 X hGc hG hT hnm hret hlk hRf hRl hcl hdd hsm hF hsafe hop hok h
                · rw [if_neg hop] at h
                  cases h
        · rw [if_neg hlt] at h hok
          by_cases hlt : i.2.1 < 81
          · rw [if_pos hlt] at h hok
            by_cases hlt : i.2.1 < 79
            · rw [if_pos hlt] at h hok
              by_cases hop : i.2.1 = 78
              · rw [if_pos hop] at h hok
                exact ev_q78 X hGc hG hT hnm hret hlk hRf hRl hcl hdd hsm hF hsafe hop hok h
              · rw [if_neg hop] at h
                cases h
            · rw [if_neg hlt] at h hok
              by_cases hlt : i.2.1 < 80
              · rw [if_pos hlt] at h hok
                by_cases hop : i.2.1 = 79
                · rw [if_pos hop] at h hok
                  exact ev_q79 X hGc hG hT hnm hret hlk hRf hRl hcl hdd hsm hF hsafe hop hok h
                · rw [if_neg hop] at h
                  cases h
              · rw [if_neg hlt] at h hok
                by_cases hop : i.2.1 = 80
                · rw [if_pos hop] at h hok
                  exact ev_q80 X hGc hG hT hnm hret hlk hRf hRl hcl hdd hsm hF hsafe hop hok h
                · rw [if_neg hop] at h
                  cases h
          · rw [if_neg hlt] at h hok
            by_cases hlt : i.2.1 < 82
            · rw [if_pos hlt] at h hok
              by_cases hop : i.2.1 = 81
              · rw [if_pos hop] at h hok
                exact ev_q81 X hGc hG hT hnm hret hlk hRf hRl hcl hdd hsm hF hsafe hop hok h
              · rw [if_neg hop] at h
                cases h
            · rw [if_neg hlt] at h hok
              by_cases hlt : i.2.1 < 83
              · rw [if_pos hlt] at h hok
                by_cases hop : i.2.1 = 82
                · rw [if_pos hop] at h hok
                  exact ev_q82 X hGc hG hT hnm hret hlk hRf hRl hcl hdd hsm hF hsafe hop hok h
                · rw [if_neg hop] at h
                  cases h
              · rw [if_neg hlt] at h hok
                by_cases hop : i.2.1 = 83
                · rw [if_pos hop] at h hok
                  exact ev_q83 X hGc hG hT hnm hret hlk hRf hRl hcl hdd hsm hF hsafe hop hok h
                · rw [if_neg hop] at h
                  cases h
theorem ev_j26 (X : ev_X p s m args c D cl dA kt A Gs own cc nL) (hGc : ∀ (h : Nat) (w : Cond), ev_hg Gc h = some w → w ∈ Gs) (hG : ∀ w ∈ Gs, (w.onTables && w.keeps) = true ∨ ∃ ty, w = .arrayClass ty) (hT : ev_okD Gs cl Ct Pg) (hnm : meth.name = nm) (hret : meth.sig.returnType = ret) (hlk : meth.locks = false) (hRf : R.frames = d + 1) (hRl : R.locals = 90 * (d + 1)) (hcl : ∀ (k : Nat) (as : List (Nat × Nat × Nat)) (w : List ev_C) (r : ev_R), call k as w = some r → ∀ (y : MethodName) (bytes : ByteArray) (maxL : Nat) (rt : Option FieldType) (cdm : ev_Cd), Pg[k]? = some ((y, bytes, maxL, rt), cdm) → ev_Met l D cl dA kt Gs y bytes maxL rt d as w r) (hdd : dd = d) (hsm : ∀ q ∈ sm, ∀ (y : MethodName) (bytes : ByteArray) (maxL : Nat) (rt : Option FieldType) (cdm : ev_Cd), Pg[q.1]? = some ((y, bytes, maxL, rt), cdm) → ev_Met l D cl dA kt Gs y bytes maxL rt q.2.1 q.2.2.2.1 q.2.2.2.2.1 q.2.2.2.2.2) {u2 : ev_S} {j9 : Nat} (hok : ev_k26 Gc Ct kt Pg sm own nm cc nL ret cd st.1 i = true) (h : ev_o26 Ct ret sm dd call i st = some (.inr (.inr (u, u2, j9)))) : ∀ Q, ev_G p l e R s m args below meth c Q D cl dA A ws0 nL cd (ev_pf F u) → ev_G p l e R s m args below meth c Q D cl dA A ws0 nL cd (ev_pf F u2) → ev_G p l e R s m args below meth c Q D cl dA A ws0 nL cd (ev_pf F st) := by
  obtain ⟨ix, L, S, w, nc, ns⟩ := st
  unfold ev_k26 at hok
  unfold ev_o26 at h
  simp only [Bool.and_eq_true, decide_eq_true_eq] at hok
  split at h
  · next y x S1 hS =>
    have hS : S = y :: x :: S1 := hS
    subst hS
    split at h
    · next hv =>
      exact ev_way_okJ h (fun Q kt kf => ev_s_icmp (P := ev_cp i.2.2.2.2.2.1) (t := i.2.2.1) hv.1 hv.2 hok.1.2 (ev_row_icmp X hok.1.1 hok.2) (fun q => kt (by obtain ⟨a, b, ha, hb, hp⟩ := q; exact ev_ct_ok ha hb hp)) (fun q => kf (by obtain ⟨a, b, ha, hb, hp⟩ := q; exact ev_cf_ok ha hb hp)))
    · cases h
  · cases h
theorem ev_j27 (X : ev_X p s m args c D cl dA kt A Gs own cc nL) (hGc : ∀ (h : Nat) (w : Cond), ev_hg Gc h = some w → w ∈ Gs) (hG : ∀ w ∈ Gs, (w.onTables && w.keeps) = true ∨ ∃ ty, w = .arrayClass ty) (hT : ev_okD Gs cl Ct Pg) (hnm : meth.name = nm) (hret : meth.sig.returnType = ret) (hlk : meth.locks = false) (hRf : R.frames = d + 1) (hRl : R.locals = 90 * (d + 1)) (hcl : ∀ (k : Nat) (as : List (Nat × Nat × Nat)) (w : List ev_C) (r : ev_R), call k as w = some r → ∀ (y : MethodName) (bytes : ByteArray) (maxL : Nat) (rt : Option FieldType) (cdm : ev_Cd), Pg[k]? = some ((y, bytes, maxL, rt), cdm) → ev_Met l D cl dA kt Gs y bytes maxL rt d as w r) (hdd : dd = d) (hsm : ∀ q ∈ sm, ∀ (y : MethodName) (bytes : ByteArray) (maxL : Nat) (rt : Option FieldType) (cdm : ev_Cd), Pg[q.1]? = some ((y, bytes, maxL, rt), cdm) → ev_Met l D cl dA kt Gs y bytes maxL rt q.2.1 q.2.2.2.1 q.2.2.2.2.1 q.2.2.2.2.2) {u2 : ev_S} {j9 : Nat} (hok : ev_k27 Gc Ct kt Pg sm own nm cc nL ret cd st.1 i = true) (h : ev_o27 Ct ret sm dd call i st = some (.inr (.inr (u, u2, j9)))) : ∀ Q, ev_G p l e R s m args below meth c Q D cl dA A ws0 nL cd (ev_pf F u) → ev_G p l e R s m args below meth c Q D cl dA A ws0 nL cd (ev_pf F u2) → ev_G p l e R s m args below meth c Q D cl dA A ws0 nL cd (ev_pf F st) := by
  obtain ⟨ix, L, S, w, nc, ns⟩ := st
  unfold ev_k27 at hok
  unfold ev_o27 at h
  simp only [Bool.and_eq_true, decide_eq_true_eq] at hok
  split at h
  · next x S1 hS =>
    have hS : S = x :: S1 := hS
    subst hS
    split at h
    · next hv =>
      exact ev_way_okJ h (fun Q kt kf => ev_s_if0 (P := fun i9 => ev_cp i.2.2.2.2.2.1 i9 0) (t := i.2.2.1) hv hok.1.2 (ev_row_if0 X hok.1.1 hok.2) (fun q => kt (by obtain ⟨a, ha, hp⟩ := q; exact ev_ct_ok ha ev_in_0 hp)) (fun q => kf (by obtain ⟨a, ha, hp⟩ := q; exact ev_cf_ok ha ev_in_0 hp)))
    · cases h
  · cases h
end EVQ
