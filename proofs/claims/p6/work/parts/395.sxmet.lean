/-! The second machine's runs: to cuts, which are told with their states and with a number that falls -/
abbrev sx_Cu : Type := Nat × (List (Nat × (Nat × Nat × List Int)) × List (Int × Int) × List (List Int) × sx_Gt) × List Int
def sx_cu : List sx_Cu → Nat → Option sx_Cu
  | [], _ => none
  | q :: cu, ix => if q.1 = ix then some q else sx_cu cu ix
theorem sx_cu_r : ∀ {cu : List sx_Cu} {ix : Nat} {q : sx_Cu}, sx_cu cu ix = some q → q ∈ cu ∧ q.1 = ix
  | [], _, _, h => by cases h
  | a :: cu, ix, q, h => by
    unfold sx_cu at h
    split at h
    · next ha =>
      obtain rfl := Option.some.inj h
      exact ⟨List.mem_cons_self, ha⟩
    · obtain ⟨h1, h2⟩ := sx_cu_r h
      exact ⟨List.mem_cons_of_mem _ h1, h2⟩
def sx_mk (hs : List (List (List Int))) : Bool := match hs with
  | [[-7]] :: _ => true
  | [[-8], _] :: _ => true
  | [[-9]] :: _ => true
  | [[-4], _] :: _ => true
  | [[-10, _], _, _] :: _ => true
  | [[-12, _]] :: _ => true
  | [[-11, _], _, _] :: _ => true
  | _ => false
def sx_cuh (cu : List sx_Cu) (ix : Nat) (hs : List (List (List Int))) : Option sx_Cu := if sx_mk hs then none else sx_cu cu ix
theorem sx_cuh_r {cu : List sx_Cu} {ix : Nat} {hs : List (List (List Int))} {q : sx_Cu} (h : sx_cuh cu ix hs = some q) : q ∈ cu ∧ q.1 = ix := by
  unfold sx_cuh at h
  split at h
  · cases h
  · exact sx_cu_r h
/-- the state that a cut tells -/
def sx_cs0 (q : sx_Cu) : sx_S := (q.1, q.2.1.1, [], q.2.1.2.1, q.2.1.2.2.1, q.2.1.2.2.2)
def sx_lm (ss : List (List Int)) (L L' : List (Nat × (Nat × Nat × List Int))) : Bool := L'.all (fun q => match sx_get L q.1 with
  | some v => sx_m1 ss q.2 v
  | none => false)
theorem sx_lm_ok {r : List Int} {kd : List (Nat × Nat)} {ad : List Nat} {ss : List (List Int)} {L : List (Nat × (Nat × Nat × List Int))} {lv : List (Nat × Value)} {ls : Array Slot} {nL : Nat} (hl : lv_has ls nL lv) (hr : sx_lr r kd ad L lv) : ∀ {L' : List (Nat × (Nat × Nat × List Int))}, sx_lm ss L L' = true → ∃ lv' : List (Nat × Value), lv_has ls nL lv' ∧ sx_lr (ss.map (sx_ev · r)) kd ad L' lv'
  | [], _ => ⟨[], ⟨hl.1, hl.2.1, fun q h => by cases h⟩, trivial⟩
  | q :: L', h => by
    unfold sx_lm at h
    rw [List.all_cons, Bool.and_eq_true] at h
    obtain ⟨h1, h2⟩ := h
    obtain ⟨lv', g1, g2⟩ := sx_lm_ok hl hr (L' := L') (by unfold sx_lm; exact h2)
    cases hg : sx_get L q.1 with
    | none => rw [hg] at h1; cases h1
    | some v =>
      rw [hg] at h1
      obtain ⟨k, x, hk, hx⟩ := hr.get hg
      refine ⟨(q.1, x) :: lv', ⟨hl.1, hl.2.1, fun p hp => ?_⟩, rfl, sx_m1_ok h1 hx, g2⟩
      rcases List.mem_cons.mp hp with rfl | hp
      · exact lv_at hl k hk
      · exact g1.2.2 p hp
/-- a state comes to a cut: the next hint tells the cut's numbers (behind the first np) as forms -/
def sx_arr (np : Nat) (mu0 : List Int) (q : sx_Cu) (st : sx_S) (hs : List (List (List Int))) : Option (List (List (List Int))) := match hs with
  | ts :: hs1 => if st.2.2.1.isEmpty = true ∧ sx_lm (sx_sys 0 np ++ ts) st.2.1 q.2.1.1 = true ∧ sx_gm (sx_sys 0 np ++ ts) st.2.2.2.2.2 q.2.1.2.2.2 = true then
      sx_posA st.2.2.2.1 st.2.2.2.2.1 (sx_bf q.2.1.2.1 (sx_sys 0 np ++ ts) ++ (q.2.1.2.2.1.map (sx_st · (sx_sys 0 np ++ ts)) ++ [sx_st q.2.2 (sx_sys 0 np ++ ts), sx_sub (sx_sub mu0 [1]) (sx_st q.2.2 (sx_sys 0 np ++ ts))])) hs1 else none
  | [] => none
/-- a list of states, each to its ends -/
def sx_run (stp : sx_S → List (List (List Int)) → Option (List sx_S × List (List (List Int)))) (cu : List sx_Cu) (np : Nat) (mu0 : List Int) : Nat → List sx_S → List (List (List Int)) → Bool
  | 0, _, _ => false
  | _ + 1, [], _ => true
  | n + 1, st :: sts, hs => (match sx_cuh cu st.1 hs with
    | some q => (match sx_arr np mu0 q st hs with
      | some hs1 => sx_run stp cu np mu0 n sts hs1
      | none => false)
    | none => (match stp st hs with
      | some (l, hs1) => sx_run stp cu np mu0 n (l ++ sts) hs1
      | none => false))
/-- along references that are exact -/
def sx_gp (T : List sx_K) : List Int → sx_V → Option sx_V
  | [], v => some v
  | a :: p, v => if v.1 = 2 then (match T[v.2.1]? with
    | some (0, _, _, fs) => (match fs[a.toNat]? with
      | some (3, k8, c0, c1) => sx_gp T p (2, k8, sx_add [c0] (sx_mul c1 v.2.2))
      | _ => none)
    | _ => none) else none
/-- what a field of an object holds becomes known -/
def sx_gh (T : List sx_K) (st : sx_S) (v : sx_V) (a : Nat) (hs : List (List (List Int))) : Option (List sx_S × List (List (List Int))) := if v.1 = 2 then (match T[v.2.1]? with
  | some (0, _, _, fs) => (match fs[a]? with
    | some (tg, _, lo, hi) => if (tg = 0 ∨ tg = 2) ∧ sx_wf st.2.2.2.1.length st.2.1 st.2.2.1 st.2.2.2.2.1 st.2.2.2.2.2 = true ∧ v.2.2.length ≤ st.2.2.2.1.length + 1 then some ([(st.1, st.2.1, st.2.2.1, st.2.2.2.1 ++ [(lo, hi)], st.2.2.2.2.1, ((v.2.1, v.2.2, [(a : Int)], sx_sy st.2.2.2.1.length) :: st.2.2.2.2.2.1, st.2.2.2.2.2.2))], hs) else none
    | _ => none)
  | _ => none) else none
/-- beside the code: a rule of the heap, a split by a sum -/
def sx_ax (T : List sx_K) (Y : sx_Y) (stp : sx_S → List (List (List Int)) → Option (List sx_S × List (List (List Int)))) (st : sx_S) (hs : List (List (List Int))) : Option (List sx_S × List (List (List Int))) := match hs with
  | [[-7]] :: hs1 => (match sx_rs Y (0, 0, [], [], []) st.2.2.2.1 st.2.2.2.2.1 st.2.2.2.2.2 12 hs1 with
    | some (fs, ps, hs2) => some (sx_br st.1 st.2.1 st.2.2.1 st.2.2.2.1 st.2.2.2.2.1 (st.2.2.2.2.2.1, ps ++ st.2.2.2.2.2.2) fs, hs2)
    | none => none)
  | [[-8], d] :: hs1 => some (sx_br st.1 st.2.1 st.2.2.1 st.2.2.2.1 st.2.2.2.2.1 st.2.2.2.2.2 [d] ++ sx_br st.1 st.2.1 st.2.2.1 st.2.2.2.1 st.2.2.2.2.1 st.2.2.2.2.2 [sx_sub [-1] d], hs1)
  | [[-9]] :: hs1 => stp st hs1
  | [[-4], f] :: hs1 => (match sx_pos st.2.2.2.1 st.2.2.2.2.1 f hs1 with
    | some hs2 => some (sx_br st.1 st.2.1 st.2.2.1 st.2.2.2.1 st.2.2.2.2.1 st.2.2.2.2.2 [f], hs2)
    | none => none)
  | [[-10, j], p, [a]] :: hs1 => (match st.2.2.1[j.toNat]? with
    | some v => (match sx_gp T p v with
      | some v' => sx_gh T st v' a.toNat hs1
      | none => none)
    | none => none)
  | [[-11, j], p, [a]] :: hs1 => (match sx_get st.2.1 j.toNat with
    | some v => (match sx_gp T p v with
      | some v' => sx_gh T st v' a.toNat hs1
      | none => none)
    | none => none)
  | _ => stp st hs
/-- so many steps without hints go before -/
def sx_aux (T : List sx_K) (Y : sx_Y) (stp : sx_S → List (List (List Int)) → Option (List sx_S × List (List (List Int)))) (st : sx_S) (hs : List (List (List Int))) : Option (List sx_S × List (List (List Int))) := match hs with
  | [[-12, n]] :: hs1 => if n ≤ 0 then sx_ax T Y stp st hs1 else (match stp st [] with
    | some (l, _) => some (l, [[-12, n - 1]] :: hs1)
    | none => none)
  | _ => sx_ax T Y stp st hs
section SXU
variable {p : Program} {l : Launch} {e : Env} {R : Room} {s : State} {m : MethodId} {args : Array Value} {below : List Frame} {meth : Method} {c : Code} {Q : State → Prop}
variable {D : va_G} {cl : List vw_C} {dA : Nat → ClassId} {kt : List FieldType} {A : Nat → Prop} {hh0 : sx_H} {Gs : List Cond} {own : String} {cc : ByteArray} {nL : Nat} {cd : ev_Cd}
variable {T : List sx_K} {kd : List (Nat × Nat)} {ad : List Nat} {Md : List (Nat × Nat)} {tt : List (String × String × String × Nat)} {Y : sx_Y} {r : List Int}
variable {ix : Nat} {L : List (Nat × (Nat × Nat × List Int))} {S S1 : List (Nat × Nat × List Int)} {B : List (Int × Int)} {F : List (List Int)} {G : sx_Gt} {hs hs' : List (List (List Int))} {out : List sx_S}
variable {stp : sx_S → List (List (List Int)) → Option (List sx_S × List (List (List Int)))} {cu : List sx_Cu} {np : Nat} {mu0 rs r0 : List Int} {outs : List sx_Ou}
theorem sx_arr_ok {q : sx_Cu} {st : sx_S} (h : sx_arr np mu0 q st hs = some hs') (hr0 : ∃ z, r = r0 ++ z) (hnp : np = r0.length) (hq : q.1 = st.1)
    (k : ∀ rc : List Int, (∃ z, rc = r0 ++ z) → 0 ≤ sx_ev q.2.2 rc → sx_ev q.2.2 rc < sx_ev mu0 r → sx_g p l e R s m args below meth c Q D cl dA T Y kd ad A hh0 Md nL cd (sx_cs0 q) rc) : sx_g p l e R s m args below meth c Q D cl dA T Y kd ad A hh0 Md nL cd st r := by
  obtain ⟨ix, L, S, B, F, G⟩ := st
  obtain ⟨z, rfl⟩ := hr0
  unfold sx_arr at h
  split at h
  · next ts hs1 =>
    split at h
    · next hc =>
      intro H locs ls vs lv ws hh h1 h2 h3 h4 h5 h6 h7 h8 h9 h10 h11
      have hP := sx_posA_ok h1 h2 _ _ _ h
      have em : (sx_sys 0 np ++ ts).map (sx_ev · (r0 ++ z)) = r0 ++ ts.map (sx_ev · (r0 ++ z)) := by rw [List.map_append, sx_sys_pre hnp]
      have hS : S = [] := List.isEmpty_iff.mp hc.1
      subst hS
      obtain rfl := h6.nil
      obtain ⟨lv', g1, g2⟩ := sx_lm_ok h4 h5 hc.2.1
      have hm1 := hP (sx_st q.2.2 (sx_sys 0 np ++ ts)) (List.mem_append_right _ (List.mem_append_right _ List.mem_cons_self))
      have hm2 := hP (sx_sub (sx_sub mu0 [1]) (sx_st q.2.2 (sx_sys 0 np ++ ts))) (List.mem_append_right _ (List.mem_append_right _ (List.mem_cons_of_mem _ List.mem_cons_self)))
      rw [sx_st_ok] at hm1
      rw [sx_ev_sub, sx_ev_sub, sx_ev_c, sx_st_ok] at hm2
      have hk := k ((sx_sys 0 np ++ ts).map (sx_ev · (r0 ++ z))) ⟨_, em⟩ hm1 (by omega) H locs ls [] lv' ws hh (sx_bf_ok (fun f hf => hP f (List.mem_append_left _ hf))) (sx_fst_ok (fun f hf => hP f (List.mem_append_right _ (List.mem_append_left _ hf)))) (sx_gm_ok hc.2.2 h3) g1 g2 trivial h7 h8 h9 h10 h11
      have e1 : (sx_cs0 q).1 = ix := hq
      rw [e1] at hk
      exact hk
    · cases h
  · cases h
theorem sx_run_ok (hstp : ∀ (st : sx_S) (hs hs' : List (List (List Int))) (out : List sx_S) (r : List Int), (∃ z, r = r0 ++ z) → stp st hs = some (out, hs') → (∀ t ∈ out, ∀ x1, sx_g p l e R s m args below meth c Q D cl dA T Y kd ad A hh0 Md nL cd t (r ++ x1)) → sx_g p l e R s m args below meth c Q D cl dA T Y kd ad A hh0 Md nL cd st r) (hnp : np = r0.length) (hrs : ∃ z, rs = r0 ++ z) (hmu : mu0.length ≤ rs.length + 1)
    (kc : ∀ q ∈ cu, ∀ rc : List Int, (∃ z, rc = r0 ++ z) → 0 ≤ sx_ev q.2.2 rc → sx_ev q.2.2 rc < sx_ev mu0 rs → sx_g p l e R s m args below meth c Q D cl dA T Y kd ad A hh0 Md nL cd (sx_cs0 q) rc) : ∀ (n : Nat) (sts : List sx_S) (hs : List (List (List Int))), sx_run stp cu np mu0 n sts hs = true → ∀ st ∈ sts, ∀ r, (∃ z, r = rs ++ z) → sx_g p l e R s m args below meth c Q D cl dA T Y kd ad A hh0 Md nL cd st r := by
  intro n
  induction n with
  | zero => intro sts hs h; cases h
  | succ n ih =>
    intro sts hs h
    cases sts with
    | nil => intro st hst; cases hst
    | cons st sts =>
      simp only [sx_run] at h
      split at h
      · next q hq =>
        split at h
        · next hs1 ha =>
          intro st' hst' r hr
          rcases List.mem_cons.mp hst' with rfl | hst'
          · obtain ⟨z, rfl⟩ := hr
            obtain ⟨z0, e0⟩ := hrs
            obtain ⟨c1, c2⟩ := sx_cuh_r hq
            refine sx_arr_ok ha ⟨z0 ++ z, by rw [e0, List.append_assoc]⟩ hnp c2 (fun rc p1 p2 p3 => kc q c1 rc p1 p2 ?_)
            rw [sx_ev_app hmu] at p3
            exact p3
          · exact ih sts hs1 h st' hst' r hr
        · cases h
      · split at h
        · next l hs1 hl =>
          intro st' hst' r hr
          have ih' := ih (l ++ sts) hs1 h
          rcases List.mem_cons.mp hst' with rfl | hst'
          · obtain ⟨z, rfl⟩ := hr
            obtain ⟨z0, e0⟩ := hrs
            exact hstp st' hs hs1 l _ ⟨z0 ++ z, by rw [e0, List.append_assoc]⟩ hl (fun t ht x1 => ih' t (List.mem_append_left _ ht) _ ⟨z ++ x1, by rw [List.append_assoc]⟩)
          · exact ih' st' (List.mem_append_right _ hst') r hr
        · cases h
theorem sx_gp_ok {ws : va_W} {hh : sx_H} (h7 : sx_wr T kd ad dA ws hh) : ∀ (p : List Int) (v v' : sx_V) (x : Value), sx_vr r kd ad v x → sx_gp T p v = some v' → ∃ x', sx_vr r kd ad v' x'
  | [], v, v', x, hx, h => ⟨x, by rw [← Option.some.inj h]; exact hx⟩
  | a :: p, v, v', x, hx, h => by
    unfold sx_gp at h
    split at h
    · next hv =>
      split at h
      · next ci z0 fs hK =>
        split at h
        · next k8 c0 c1 hf =>
          obtain ⟨j9, c9, a9, g1, gi, g2, rfl⟩ := hx.ref hv
          obtain ⟨E, hE, hr⟩ := h7.at g1 hK (by simp) g2
          obtain ⟨fv, rfl, hl9, hft⟩ := hr.obj rfl
          obtain ⟨x9, hx9, ht9⟩ := hft _ _ hf
          obtain ⟨v1, v2⟩ := ht9.rfx rfl
          rw [v2] at v1
          exact sx_gp_ok h7 p _ v' x9 (sx_vr.rf (by rw [sx_ev_add, sx_ev_c, sx_ev_mul, ← gi]; rw [Int.add_zero] at v1; exact v1)) h
        · cases h
      · cases h
    · cases h
theorem sx_gh_ok {v : sx_V} {a : Nat} (hp : sx_gh T (ix, L, S, B, F, G) v a hs = some (out, hs')) (k : ∀ t ∈ out, ∀ x1, sx_g p l e R s m args below meth c Q D cl dA T Y kd ad A hh0 Md nL cd t (r ++ x1)) {x : Value} (hx : sx_vr r kd ad v x) {H : Heap} {locs : List Loc} {ls : Array Slot} {vs : List Value} {lv : List (Nat × Value)} {ws : va_W} {hh : sx_H} (h1 : sx_b B r) (h2 : sx_fs F r) (h3 : sx_gr Y r hh G) (h4 : lv_has ls nL lv) (h5 : sx_lr r kd ad L lv) (h6 : sx_sr r kd ad S vs) (h7 : sx_wr T kd ad dA ws hh) (h8 : sx_fr Md hh0 hh) (h9 : va_P D cl ws H) (h10 : va_D A ws) (h11 : va_S A s.heap H locs) : W p l e R s m args below meth c H locs 0 0 Q (F0 m (ev_pc cd ix) ls vs) := by
  unfold sx_gh at hp
  split at hp
  · next hv =>
    split at hp
    · next ci z0 fs hK =>
      split at hp
      · next tg kk lo hi hf =>
        split at hp
        · next hc =>
          have hp := (Prod.mk.inj (Option.some.inj hp)).1
          subst hp
          obtain ⟨ht, hw, wz⟩ := hc
          obtain ⟨j9, c9, a9, g1, gi, g2, rfl⟩ := hx.ref hv
          obtain ⟨E, hE, hr⟩ := h7.at g1 hK (by simp) g2
          obtain ⟨fv, rfl, hl9, hft⟩ := hr.obj rfl
          obtain ⟨x9, hx9, ht9⟩ := hft _ _ hf
          have vb : lo ≤ hh v.2.1 (sx_ev v.2.2 r) (a : Int) ∧ hh v.2.1 (sx_ev v.2.2 r) (a : Int) ≤ hi := by
            rcases ht with rfl | rfl
            · obtain ⟨v9, -, v1, v2, v3⟩ := ht9.int rfl
              rw [← gi]
              exact ⟨v2, v3⟩
            · obtain ⟨v1, v2, v3⟩ := ht9.rf rfl
              rw [← gi]
              exact ⟨v2, v3⟩
          have hl := sx_b_len h1
          have wz : v.2.2.length ≤ r.length + 1 := by rw [← hl]; exact wz
          have k' := k _ (List.mem_singleton.mpr rfl) [hh v.2.1 (sx_ev v.2.2 r) (a : Int)]
          unfold sx_wf at hw
          simp only [Bool.and_eq_true] at hw
          have e1 : hh v.2.1 (sx_ev v.2.2 r) (a : Int) = sx_ev (sx_sy B.length) (r ++ [hh v.2.1 (sx_ev v.2.2 r) (a : Int)]) := (sx_ev_sy (by rw [hl, List.getElem?_append_right (Nat.le_refl _)]; simp)).symm
          have h3' := h3.row (x1 := [hh v.2.1 (sx_ev v.2.2 r) (a : Int)]) hl hw.2.2.2
          refine k' H locs ls vs lv ws hh (sx_b_app h1 (sx_b_one vb.1 vb.2)) (h2.row hl hw.2.2.1) ⟨fun q hq => ?_, h3'.2⟩ h4 (h5.row hl hw.1) (h6.row hl hw.2.1) h7 h8 h9 h10 h11
          rcases List.mem_cons.mp hq with rfl | hq
          · show hh v.2.1 (sx_ev v.2.2 _) (sx_ev [(a : Int)] _) = _
            rw [sx_ev_app wz, sx_ev_c]
            exact e1
          · exact h3'.1 q hq
        · cases hp
      · cases hp
    · cases hp
  · cases hp
theorem sx_sr_at : ∀ {vs : List sx_V} {xs : List Value} {j : Nat} {v : sx_V}, sx_sr r kd ad vs xs → vs[j]? = some v → ∃ x, sx_vr r kd ad v x
  | [], _, j, v, _, h => by simp at h
  | u :: us, [], _, _, h, _ => h.elim
  | u :: us, x :: xs, 0, v, h, hj => by
    have : u = v := Option.some.inj hj
    subst this
    exact ⟨x, h.1⟩
  | u :: us, x :: xs, j + 1, v, h, hj => sx_sr_at h.2 (by simpa using hj)
theorem sx_ax_ok (hstp : ∀ (st : sx_S) (hs hs' : List (List (List Int))) (out : List sx_S) (r : List Int), (∃ z, r = r0 ++ z) → stp st hs = some (out, hs') → (∀ t ∈ out, ∀ x1, sx_g p l e R s m args below meth c Q D cl dA T Y kd ad A hh0 Md nL cd t (r ++ x1)) → sx_g p l e R s m args below meth c Q D cl dA T Y kd ad A hh0 Md nL cd st r) : ∀ (st : sx_S) (hs hs' : List (List (List Int))) (out : List sx_S) (r : List Int), (∃ z, r = r0 ++ z) → sx_ax T Y stp st hs = some (out, hs') → (∀ t ∈ out, ∀ x1, sx_g p l e R s m args below meth c Q D cl dA T Y kd ad A hh0 Md nL cd t (r ++ x1)) → sx_g p l e R s m args below meth c Q D cl dA T Y kd ad A hh0 Md nL cd st r := by
  intro st hs hs' out r hr h k
  obtain ⟨ix, L, S, B, F, G⟩ := st
  unfold sx_ax at h
  split at h
  · next hs1 =>
    split at h
    · next fs ps hs2 hrs =>
      have e := (Prod.mk.inj (Option.some.inj h)).1
      subst e
      intro H locs ls vs lv ws hh h1 h2 h3 h4 h5 h6 h7 h8 h9 h10 h11
      obtain ⟨r1, r2⟩ := sx_rs_ok (hh' := hh) h1 h2 h3 (Or.inl ⟨rfl, rfl⟩) _ _ _ _ _ hrs
      refine sx_br_ok (fun t ht => sx_kz (k t ht)) r1 rfl h1 h2 ⟨h3.1, fun q hq => ?_⟩ h4 h5 h6 h7 h8 h9 h10 h11
      rcases List.mem_append.mp hq with hq | hq
      · exact r2 q hq
      · exact h3.2 q hq
    · cases h
  · next d hs1 =>
    have e := (Prod.mk.inj (Option.some.inj h)).1
    subst e
    intro H locs ls vs lv ws hh h1 h2 h3 h4 h5 h6 h7 h8 h9 h10 h11
    by_cases hd : 0 ≤ sx_ev d r
    · exact sx_br_ok (fun t ht => sx_kz (k t (List.mem_append_left _ ht))) (fun f hf => by rw [List.mem_singleton.mp hf]; exact hd) rfl h1 h2 h3 h4 h5 h6 h7 h8 h9 h10 h11
    · exact sx_br_ok (fun t ht => sx_kz (k t (List.mem_append_right _ ht))) (fun f hf => by rw [List.mem_singleton.mp hf, sx_ev_sub, sx_ev_c]; omega) rfl h1 h2 h3 h4 h5 h6 h7 h8 h9 h10 h11
  · exact hstp _ _ _ _ _ hr h k
  · next f hs1 =>
    split at h
    · next hs2 hp =>
      have e := (Prod.mk.inj (Option.some.inj h)).1
      subst e
      intro H locs ls vs lv ws hh h1 h2 h3 h4 h5 h6 h7 h8 h9 h10 h11
      exact sx_br_ok (fun t ht => sx_kz (k t ht)) (fun f' hf => by rw [List.mem_singleton.mp hf]; exact sx_pos_ok h1 h2 hp) rfl h1 h2 h3 h4 h5 h6 h7 h8 h9 h10 h11
    · cases h
  · next j p a hs1 =>
    split at h
    · next v hv =>
      split at h
      · next v' hg =>
        intro H locs ls vs lv ws hh h1 h2 h3 h4 h5 h6 h7 h8 h9 h10 h11
        obtain ⟨x, hx⟩ := sx_sr_at h6 hv
        obtain ⟨x', hx'⟩ := sx_gp_ok h7 _ _ _ _ hx hg
        exact sx_gh_ok h k hx' h1 h2 h3 h4 h5 h6 h7 h8 h9 h10 h11
      · cases h
    · cases h
  · next j p a hs1 =>
    split at h
    · next v hv =>
      split at h
      · next v' hg =>
        intro H locs ls vs lv ws hh h1 h2 h3 h4 h5 h6 h7 h8 h9 h10 h11
        obtain ⟨i9, x, -, hx⟩ := h5.get hv
        obtain ⟨x', hx'⟩ := sx_gp_ok h7 _ _ _ _ hx hg
        exact sx_gh_ok h k hx' h1 h2 h3 h4 h5 h6 h7 h8 h9 h10 h11
      · cases h
    · cases h
  · exact hstp _ _ _ _ _ hr h k
theorem sx_aux_ok (hstp : ∀ (st : sx_S) (hs hs' : List (List (List Int))) (out : List sx_S) (r : List Int), (∃ z, r = r0 ++ z) → stp st hs = some (out, hs') → (∀ t ∈ out, ∀ x1, sx_g p l e R s m args below meth c Q D cl dA T Y kd ad A hh0 Md nL cd t (r ++ x1)) → sx_g p l e R s m args below meth c Q D cl dA T Y kd ad A hh0 Md nL cd st r) : ∀ (st : sx_S) (hs hs' : List (List (List Int))) (out : List sx_S) (r : List Int), (∃ z, r = r0 ++ z) → sx_aux T Y stp st hs = some (out, hs') → (∀ t ∈ out, ∀ x1, sx_g p l e R s m args below meth c Q D cl dA T Y kd ad A hh0 Md nL cd t (r ++ x1)) → sx_g p l e R s m args below meth c Q D cl dA T Y kd ad A hh0 Md nL cd st r := by
  intro st hs hs' out r hr h k
  unfold sx_aux at h
  split at h
  · next n hs1 =>
    split at h
    · exact sx_ax_ok hstp st _ _ _ r hr h k
    · split at h
      · next l hs2 hl =>
        have e := (Prod.mk.inj (Option.some.inj h)).1
        subst e
        exact hstp st [] _ _ r hr hl k
      · cases h
  · exact sx_ax_ok hstp st _ _ _ r hr h k
/-- so many steps, without a look at cuts -/
def sx_pre (stp : sx_S → List (List (List Int)) → Option (List sx_S × List (List (List Int)))) : Nat → List sx_S → List (List (List Int)) → Option (List sx_S)
  | 0, sts, _ => some sts
  | _ + 1, [], _ => some []
  | n + 1, st :: sts, hs => (match stp st hs with
    | some (l, hs1) => sx_pre stp n (l ++ sts) hs1
    | none => none)
theorem sx_pre_ok (hstp : ∀ (st : sx_S) (hs hs' : List (List (List Int))) (out : List sx_S) (r : List Int), (∃ z, r = r0 ++ z) → stp st hs = some (out, hs') → (∀ t ∈ out, ∀ x1, sx_g p l e R s m args below meth c Q D cl dA T Y kd ad A hh0 Md nL cd t (r ++ x1)) → sx_g p l e R s m args below meth c Q D cl dA T Y kd ad A hh0 Md nL cd st r) (hrs : ∃ z, rs = r0 ++ z) : ∀ (n : Nat) (sts : List sx_S) (hs : List (List (List Int))) (sts' : List sx_S), sx_pre stp n sts hs = some sts' → (∀ st ∈ sts', ∀ r, (∃ z, r = rs ++ z) → sx_g p l e R s m args below meth c Q D cl dA T Y kd ad A hh0 Md nL cd st r) → ∀ st ∈ sts, ∀ r, (∃ z, r = rs ++ z) → sx_g p l e R s m args below meth c Q D cl dA T Y kd ad A hh0 Md nL cd st r := by
  intro n
  induction n with
  | zero => intro sts hs sts' h k; rw [Option.some.inj h]; exact k
  | succ n ih =>
    intro sts hs sts' h k
    cases sts with
    | nil => intro st hst; cases hst
    | cons st sts =>
      simp only [sx_pre] at h
      split at h
      · next l hs1 hl =>
        have ih' := ih (l ++ sts) hs1 sts' h k
        intro st' hst' r hr
        rcases List.mem_cons.mp hst' with rfl | hst'
        · obtain ⟨z, rfl⟩ := hr
          obtain ⟨z0, e0⟩ := hrs
          exact hstp st' hs hs1 l _ ⟨z0 ++ z, by rw [e0, List.append_assoc]⟩ hl (fun t ht x1 => ih' t (List.mem_append_left _ ht) _ ⟨z ++ x1, by rw [List.append_assoc]⟩)
        · exact ih' st' (List.mem_append_right _ hst') r hr
      · cases h
def sx_one (stp : sx_S → List (List (List Int)) → Option (List sx_S × List (List (List Int)))) (cu : List sx_Cu) (np : Nat) (mu : List Int) (n : Nat) (st0 : sx_S) (hs0 : List (List (List Int))) (i N : Nat) (h : List (List (List Int))) : Bool := match sx_pre stp n [st0] hs0 with
  | some sts => (match sts[i]? with
    | some st => sx_run stp cu np mu N [st] h
    | none => false)
  | none => false
def sx_Ls (stp : sx_S → List (List (List Int)) → Option (List sx_S × List (List (List Int)))) (cu : List sx_Cu) (np : Nat) (mu : List Int) (n : Nat) (st0 : sx_S) (hs0 : List (List (List Int))) : Nat → Prop
  | 0 => True
  | i + 1 => (∃ (N : Nat) (h : List (List (List Int))), sx_one stp cu np mu n st0 hs0 i N h = true) ∧ sx_Ls stp cu np mu n st0 hs0 i
theorem sx_Ls_at : ∀ {c i n : Nat} {st0 : sx_S} {hs0 : List (List (List Int))}, sx_Ls stp cu np mu0 n st0 hs0 c → i < c → ∃ (N : Nat) (h : List (List (List Int))), sx_one stp cu np mu0 n st0 hs0 i N h = true
  | 0, _, _, _, _, _, hi => by omega
  | c + 1, i, _, _, _, h, hi => by
    by_cases e : i = c
    · subst e; exact h.1
    · exact sx_Ls_at h.2 (by omega)
/-- from a cut on -/
def sx_from (stp : sx_S → List (List (List Int)) → Option (List sx_S × List (List (List Int)))) (cu : List sx_Cu) (np N : Nat) (q : sx_Cu) (hs : List (List (List Int))) : Bool := decide (q.2.2.length ≤ q.2.1.2.1.length + 1) && (match stp (sx_cs0 q) hs with
  | some (l, hs1) => sx_run stp cu np q.2.2 N l hs1
  | none => false)
/-- a cut holds: in one run, or by pieces -/
def sx_Fr (stp : sx_S → List (List (List Int)) → Option (List sx_S × List (List (List Int)))) (cu : List sx_Cu) (np : Nat) (q : sx_Cu) : Prop := (∃ (N : Nat) (hs : List (List (List Int))), sx_from stp cu np N q hs = true) ∨ (q.2.2.length ≤ q.2.1.2.1.length + 1 ∧ ∃ (n c : Nat) (hs : List (List (List Int))), (sx_pre stp n [sx_cs0 q] hs).map List.length = some c ∧ sx_Ls stp cu np q.2.2 n (sx_cs0 q) hs c)
/-- all cuts hold -/
theorem sx_cuts (hstp : ∀ (st : sx_S) (hs hs' : List (List (List Int))) (out : List sx_S) (r : List Int), (∃ z, r = r0 ++ z) → stp st hs = some (out, hs') → (∀ t ∈ out, ∀ x1, sx_g p l e R s m args below meth c Q D cl dA T Y kd ad A hh0 Md nL cd t (r ++ x1)) → sx_g p l e R s m args below meth c Q D cl dA T Y kd ad A hh0 Md nL cd st r) (hnp : np = r0.length) (hcu : ∀ q ∈ cu, sx_Fr stp cu np q) : ∀ (n : Nat) (q : sx_Cu), q ∈ cu → ∀ rc : List Int, (∃ z, rc = r0 ++ z) → 0 ≤ sx_ev q.2.2 rc → sx_ev q.2.2 rc < (n : Int) → sx_g p l e R s m args below meth c Q D cl dA T Y kd ad A hh0 Md nL cd (sx_cs0 q) rc := by
  intro n
  induction n with
  | zero => intro q hq rc h1 h2 h3; omega
  | succ n ih =>
    intro q hq rc h1 h2 h3
    intro H locs ls vs lv ws hh b1
    have b1' : sx_b q.2.1.2.1 rc := b1
    rcases hcu q hq with ⟨N, hs, hf⟩ | ⟨hf1, n0, c0, hs, hl, hL⟩
    case inr =>
      cases hp : sx_pre stp n0 [sx_cs0 q] hs with
      | none => rw [hp] at hl; cases hl
      | some sts =>
        rw [hp] at hl
        have hl : sts.length = c0 := Option.some.inj hl
        have key : ∀ st ∈ sts, ∀ r, (∃ z, r = rc ++ z) → sx_g p l e R s m args below meth c Q D cl dA T Y kd ad A hh0 Md nL cd st r := by
          intro st hst
          obtain ⟨i, hi, he⟩ := List.getElem_of_mem hst
          obtain ⟨N, h, ho⟩ := sx_Ls_at (i := i) hL (by omega)
          unfold sx_one at ho
          rw [hp] at ho
          dsimp only at ho
          rw [List.getElem?_eq_getElem hi, he] at ho
          exact sx_run_ok (rs := rc) hstp hnp h1 (by rw [← sx_b_len b1']; exact hf1) (fun q' hq' rc' p1 p2 p3 => ih q' hq' rc' p1 p2 (by omega)) N [st] h ho st (List.mem_singleton.mpr rfl)
        exact sx_pre_ok (rs := rc) hstp h1 n0 [sx_cs0 q] hs sts hp key (sx_cs0 q) (List.mem_singleton.mpr rfl) rc ⟨[], (List.append_nil _).symm⟩ H locs ls vs lv ws hh b1
    unfold sx_from at hf
    rw [Bool.and_eq_true] at hf
    obtain ⟨hf1, hf2⟩ := hf
    have hf1 := of_decide_eq_true hf1
    split at hf2
    · next l hs1 hl =>
      have hr := sx_run_ok (rs := rc) hstp hnp h1 (by rw [← sx_b_len b1']; exact hf1) (fun q' hq' rc' p1 p2 p3 => ih q' hq' rc' p1 p2 (by omega)) N l hs1 hf2
      exact hstp (sx_cs0 q) hs hs1 l rc h1 hl (fun t ht x1 => hr t ht _ ⟨x1, rfl⟩) H locs ls vs lv ws hh b1
    · cases hf2
end SXU
/-- the locals at the beginning -/
def sx_la : Nat → List (Nat × Nat × List Int) → List (Nat × (Nat × Nat × List Int))
  | _, [] => []
  | k, v :: vs => (k, v) :: sx_la (k + if sx_l v then 2 else 1) vs
theorem sx_la_r {r : List Int} {kd : List (Nat × Nat)} {ad : List Nat} : ∀ (k : Nat) {vs : List sx_V} {xs : List Value}, sx_sr r kd ad vs xs → sx_lr r kd ad (sx_la k vs) (lv_args k xs)
  | _, [], [], _ => trivial
  | k, v :: vs, x :: xs, h => by
    have ih := sx_la_r (k + if sx_l v then 2 else 1) h.2
    have e : (if x.category = 2 then k + 2 else k + 1) = k + (if sx_l v then 2 else 1) := by
      have h9 := h.1.cat
      cases hv : sx_l v with
      | true =>
        rw [hv] at h9
        rw [if_pos (eq_of_beq h9)]
        rfl
      | false =>
        rw [if_neg (by rw [h.1.cat1 hv]; decide)]
        rfl
    refine ⟨rfl, h.1, ?_⟩
    show sx_lr r kd ad (sx_la (k + if sx_l v then 2 else 1) vs) (lv_args (if x.category = 2 then k + 2 else k + 1) xs)
    rw [e]
    exact ih
  | _, [], _ :: _, h => h.elim
  | _, _ :: _, [], h => h.elim
theorem sx_sl {r : List Int} {kd : List (Nat × Nat)} {ad : List Nat} : ∀ {vs : List sx_V} {xs : List Value}, sx_sr r kd ad vs xs → (lg_sl xs).length = sx_cs vs
  | [], [], _ => rfl
  | v :: vs, x :: xs, h => by
    have ih := sx_sl h.2
    unfold lg_sl at ih ⊢
    unfold sx_cs at ih ⊢
    rw [List.flatMap_cons, List.length_append, ih, List.map_cons, List.sum_cons]
    congr 1
    have h9 := h.1.cat
    cases hv : sx_l v with
    | true =>
      rw [hv] at h9
      rw [if_pos (by exact eq_of_beq h9), if_pos rfl]
      rfl
    | false =>
      rw [if_neg (by rw [h.1.cat1 hv]; decide), if_neg (by decide)]
      rfl
  | [], _ :: _, h => h.elim
  | _ :: _, [], h => h.elim
def sx_stp (Ct : List ev_Ct) (T : List sx_K) (tt : List (String × String × String × Nat)) (Y : sx_Y) (Md : List (Nat × Nat)) (sm : List sx_C) (dd RL : Nat) (ret : Option FieldType) (np : Nat) (outs : List sx_Ou) (cd : ev_Cd) (cs : List ev_Cd) (st : sx_S) (hs : List (List (List Int))) : Option (List sx_S × List (List (List Int))) := match ev_lk cs st.1 with
  | none => none
  | some i => if i.2.1 = 0 then none else sx_op Ct T tt Y Md sm dd RL ret np outs cd i st hs
def sx_sta (Ct : List ev_Ct) (T : List sx_K) (tt : List (String × String × String × Nat)) (Y : sx_Y) (Md : List (Nat × Nat)) (sm : List sx_C) (dd RL : Nat) (ret : Option FieldType) (np : Nat) (outs : List sx_Ou) (cd : ev_Cd) (cs : List ev_Cd) : sx_S → List (List (List Int)) → Option (List sx_S × List (List (List Int))) := sx_aux T Y (sx_stp Ct T tt Y Md sm dd RL ret np outs cd cs)
/-- what has been looked at of each method -/
def sx_okP (Gc : List (List Cond)) (Ct : List ev_Ct) (kt : List FieldType) (Pg : List ev_Mt) (sm0 : ev_Sm) (tt : List (String × String × String × Nat)) : Prop := ∀ (k : Nat) (y : MethodName) (bytes : ByteArray) (maxL : Nat) (rt : Option FieldType) (cd : ev_Cd), Pg[k]? = some ((y, bytes, maxL, rt), cd) → plainName y.cls = true ∧ ev_pc cd 0 = 0 ∧ ∀ (ix : Nat) (i : ev_I), cd[ix]? = some i → sx_ok Gc Ct kt Pg sm0 tt y.cls y.name bytes maxL rt cd ix i = true
/-- one contract more, by runs -/
theorem sx_SM_add {Gs : List Cond} {Gc : List (List Cond)} {Ct : List ev_Ct} {kt : List FieldType} {Pg : List ev_Mt} {Ck : List (List ev_Cd)} {sm0 : ev_Sm} {sm : List sx_C} {cl : List vw_C} {T : List sx_K} {tt : List (String × String × String × Nat)} {Y : sx_Y} (hGc : ∀ (h : Nat) (w : Cond), ev_hg Gc h = some w → w ∈ Gs) (hG : ∀ w ∈ Gs, (w.onTables && w.keeps) = true ∨ ∃ ty, w = .arrayClass ty) (hT : ev_okD Gs cl Ct Pg) (hP : sx_okP Gc Ct kt Pg sm0 tt) (hCk : ev_okK Pg Ck) {l : Launch} {D : va_G} {dA : Nat → ClassId} (hsm : sx_SM l D cl dA kt T tt Y Gs Pg sm)
    {q : sx_C} {q0 : ev_Mt} {cs : List ev_Cd} {dd N BIG : Nat} {cu : List sx_Cu} {hs : List (List (List Int))} (hk0 : Pg[q.1]? = some q0) (hcsk : Ck[q.1]? = some cs) (hd : q.2.1 = dd + 1) (hrl : 26 ≤ q.2.2.1) (hcost : 19 + q0.1.2.2.1 + q.2.2.1 ≤ q.2.2.2.1) (hcs : sx_cs q.2.2.2.2.2.2.1 ≤ q0.1.2.2.1)
    (hcu : ∀ c ∈ cu, sx_Fr (sx_sta Ct T tt Y q.2.2.2.2.2.2.2.2.1 sm dd q.2.2.1 q0.1.2.2.2 q.2.2.2.2.1.length q.2.2.2.2.2.2.2.2.2 q0.2 cs) cu q.2.2.2.2.1.length c)
    (hrun : sx_run (sx_sta Ct T tt Y q.2.2.2.2.2.2.2.2.1 sm dd q.2.2.1 q0.1.2.2.2 q.2.2.2.2.1.length q.2.2.2.2.2.2.2.2.2 q0.2 cs) cu q.2.2.2.2.1.length [(BIG : Int)] N [(0, sx_la 0 q.2.2.2.2.2.2.1, [], q.2.2.2.2.1, q.2.2.2.2.2.1, q.2.2.2.2.2.2.2.1)] hs = true) : sx_SM l D cl dA kt T tt Y Gs Pg (q :: sm) := fun q' hq' y bytes maxL rt cdm hk => by
  rcases List.mem_cons.mp hq' with rfl | hq'
  · rw [hk0] at hk
    obtain rfl := Option.some.inj hk
    refine ⟨hcost, fun kd ad r0 av ws hh sz hSg hb hF hsr hgr hwr => ?_⟩
    obtain ⟨hpn, hpc0, hins⟩ := hP q'.1 y bytes maxL rt cdm hk0
    refine Met.ofW (cc := bytes) (maxL := maxL) (ret := rt) hpn rfl ?_
    intro p e s m args below meth c s₁ B hml hv
    obtain ⟨rfl, hsz, hPs, hK, hD0, hTb, hTb2⟩ := hv
    have hts := atoms_spec (ws := Cond.code y bytes maxL rt :: Gs) B.pre
    have hown : s.vm.findClass y.cls = some m.cls := findClass_of_methodNamed B.named
    have hlocks := B.notSynchronized
    subst hsz
    have hD := hD0.self (sz := s.heap.size)
    have hl := lv_entry av (n := maxL) (by rw [sx_sl hsr]; exact hcs)
    rw [lg_entry_eq]
    generalize (lg_sl av ++ List.replicate (maxL - (lg_sl av).length) Slot.unset).toArray = ls at hl ⊢
    have X : sx_X p s m av.toArray c D cl dA kt T tt kd ad (va_A ws s.heap.size) Gs y.cls bytes maxL := ⟨⟨⟨B.exec, B.bytes, hml, hown, fun w hw => hts w (List.mem_cons_of_mem _ hw)⟩, hK, fun q hq => Or.inr hq, hTb⟩, hTb2, hSg⟩
    have hstp0 : ∀ (st : sx_S) (hs hs' : List (List (List Int))) (out : List sx_S) (r : List Int), (∃ z, r = r0 ++ z) → sx_stp Ct T tt Y q'.2.2.2.2.2.2.2.2.1 sm dd q'.2.2.1 rt q'.2.2.2.2.1.length q'.2.2.2.2.2.2.2.2.2 cdm cs st hs = some (out, hs') → (∀ t ∈ out, ∀ x1, sx_g p l e (sx_rm q'.2.1 q'.2.2.1) s m av.toArray below meth c (MQ below (sx_Q D cl dA kt T Y kd ad q'.2.2.2.2.2.2.2.2.1 hh (va_A ws s.heap.size) r0 q'.2.2.2.2.2.2.2.2.2) av.toArray s 0 0 (va_A ws s.heap.size)) D cl dA T Y kd ad (va_A ws s.heap.size) hh q'.2.2.2.2.2.2.2.2.1 maxL cdm t (r ++ x1)) → sx_g p l e (sx_rm q'.2.1 q'.2.2.1) s m av.toArray below meth c (MQ below (sx_Q D cl dA kt T Y kd ad q'.2.2.2.2.2.2.2.2.1 hh (va_A ws s.heap.size) r0 q'.2.2.2.2.2.2.2.2.2) av.toArray s 0 0 (va_A ws s.heap.size)) D cl dA T Y kd ad (va_A ws s.heap.size) hh q'.2.2.2.2.2.2.2.2.1 maxL cdm st r := fun st hs hs' out r hr hst k => by
      unfold sx_stp at hst
      split at hst
      · cases hst
      · next i hi =>
        split at hst
        · cases hst
        · next h0 => exact sx_op_ok X hGc hG hT hsm (by show dd + 1 ≤ q'.2.1; omega) (Nat.le_refl _) hrl B.returns hlocks hr (sx_b_len hb) (hins _ _ (hCk _ _ _ hk0 hcsk _ _ hi)) h0 hst k
    have hstp := sx_aux_ok (Y := Y) hstp0
    have hW := sx_run_ok (rs := r0) (mu0 := [(BIG : Int)]) hstp (sx_b_len hb) ⟨[], (List.append_nil _).symm⟩ (by show 1 ≤ _; omega) (fun c hc rc p1 p2 p3 => sx_cuts hstp (sx_b_len hb) hcu BIG c hc rc p1 p2 (by rw [sx_ev_c] at p3; exact p3)) N _ _ hrun _ (List.mem_singleton.mpr rfl) r0 ⟨[], (List.append_nil _).symm⟩ s.heap [] ls [] (lv_args 0 av) ws hh hb hF hgr hl (sx_la_r 0 hsr) trivial hwr (sx_fr.rf _ _) hPs hD va_S.rf
    have hW : W p l e (sx_rm q'.2.1 q'.2.2.1) s m av.toArray below meth c s.heap [] 0 0 (MQ below (sx_Q D cl dA kt T Y kd ad q'.2.2.2.2.2.2.2.2.1 hh (va_A ws s.heap.size) r0 q'.2.2.2.2.2.2.2.2.2) av.toArray s 0 0 (va_A ws s.heap.size)) (F0 m (ev_pc cdm 0) ls []) := hW
    rw [hpc0] at hW
    exact hW
  · exact hsm q' hq' y bytes maxL rt cdm hk
