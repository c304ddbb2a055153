/-! The second machine's runs -/
def sx_mO (ss : List (List Int)) (o v : Option sx_V) : Bool := match o, v with
  | none, none => true
  | some a, some b => sx_m1 ss a b
  | _, _ => false
theorem sx_mO_ok {r : List Int} {kd : List (Nat × Nat)} {ad : List Nat} {ss : List (List Int)} {o v : Option sx_V} {x : Option Value} (h : sx_mO ss o v = true) (hx : sx_rr r kd ad v x) : sx_rr (ss.map (sx_ev · r)) kd ad o x := by
  cases o <;> cases v <;> cases x <;> simp [sx_mO, sx_rr] at h hx ⊢
  exact sx_m1_ok h hx
theorem sx_sys_pre {r0 z : List Int} {np : Nat} (hn : np = r0.length) : (sx_sys 0 np).map (sx_ev · (r0 ++ z)) = r0 := by
  apply List.ext_getElem?
  intro k
  unfold sx_sys
  rw [List.map_map, List.getElem?_map]
  by_cases hk : k < r0.length
  · rw [List.getElem?_range (by omega), List.getElem?_eq_getElem hk]
    show some (sx_ev (sx_sy (0 + k)) (r0 ++ z)) = _
    rw [sx_ev_sy (v := r0[k])]
    rw [Nat.zero_add, List.getElem?_append_left hk, List.getElem?_eq_getElem hk]
  · rw [List.getElem?_eq_none (by simp; omega), List.getElem?_eq_none (by omega)]
    rfl
/-- an answer is one of those told: the next hint says which, and its numbers -/
def sx_rt (np : Nat) (outs : List sx_Ou) (st : sx_S) (res : Option sx_V) (hs : List (List (List Int))) : Option (List (List (List Int))) := match hs with
  | ([k] :: ts) :: hs1 => (match outs[k.toNat]? with
    | some o => if sx_mO (sx_sys 0 np ++ ts) o.2.2.1 res = true ∧ sx_gm (sx_sys 0 np ++ ts) st.2.2.2.2.2 o.2.2.2 = true then sx_posA st.2.2.2.1 st.2.2.2.2.1 (sx_bf o.1 ts ++ o.2.1.map (sx_st · (sx_sys 0 np ++ ts))) hs1 else none
    | none => none)
  | _ => none
theorem sx_rt_ok {np : Nat} {outs : List sx_Ou} {st : sx_S} {res : Option sx_V} {hs hs' : List (List (List Int))} (h : sx_rt np outs st res hs = some hs') {r r0 : List Int} {kd : List (Nat × Nat)} {ad : List Nat} {Y : sx_Y} {hh : sx_H} {x : Option Value} (hr0 : ∃ z, r = r0 ++ z) (hnp : np = r0.length) (h1 : sx_b st.2.2.2.1 r) (h2 : sx_fs st.2.2.2.2.1 r) (h3 : sx_gr Y r hh st.2.2.2.2.2) (hx : sx_rr r kd ad res x) : sx_res Y r0 kd ad hh outs x := by
  obtain ⟨z, rfl⟩ := hr0
  unfold sx_rt at h
  split at h
  · next k ts hs1 =>
    split at h
    · next o ho =>
      split at h
      · next hc =>
        have hP := sx_posA_ok h1 h2 _ _ _ h
        have em : (sx_sys 0 np ++ ts).map (sx_ev · (r0 ++ z)) = r0 ++ ts.map (sx_ev · (r0 ++ z)) := by rw [List.map_append, sx_sys_pre hnp]
        refine ⟨o, List.mem_of_getElem? ho, ts.map (sx_ev · (r0 ++ z)), sx_bf_ok (fun f hf => hP f (List.mem_append_left _ hf)), ?_, ?_, ?_⟩
        · rw [← em]
          exact sx_fst_ok (fun f hf => hP f (List.mem_append_right _ hf))
        · rw [← em]
          exact sx_mO_ok hc.1 hx
        · rw [← em]
          exact sx_gm_ok hc.2 h3
      · cases h
    · cases h
  · cases h
def sx_o49 (np : Nat) (outs : List sx_Ou) (st : sx_S) (hs : List (List (List Int))) : Option (List sx_S × List (List (List Int))) := match st.2.2.1 with
  | [] => (match sx_rt np outs st none hs with
    | some hs1 => some ([], hs1)
    | none => none)
  | _ => none
def sx_o50 (ret : Option FieldType) (np : Nat) (outs : List sx_Ou) (st : sx_S) (hs : List (List (List Int))) : Option (List sx_S × List (List (List Int))) := match st.2.2.1 with
  | [v] => if v.1 = 0 ∧ (ret = some .int ∨ (ret = some .boolean ∧ 0 ≤ sx_lo v.2.2 st.2.2.2.1 ∧ sx_hi v.2.2 st.2.2.2.1 ≤ 1)) then (match sx_rt np outs st (some v) hs with
    | some hs1 => some ([], hs1)
    | none => none) else none
  | _ => none
def sx_o48 (ret : Option FieldType) (np : Nat) (outs : List sx_Ou) (st : sx_S) (hs : List (List (List Int))) : Option (List sx_S × List (List (List Int))) := match st.2.2.1 with
  | [v] => if (v.1 = 1 ∨ v.1 = 4) ∧ ret = some .long then (match sx_rt np outs st (some v) hs with
    | some hs1 => some ([], hs1)
    | none => none) else none
  | _ => none
def sx_o85 (cd : ev_Cd) (i : ev_I) (st : sx_S) (hs : List (List (List Int))) : Option (List sx_S × List (List (List Int))) := match st.2.2.1 with
  | x :: S1 => if x.1 = 0 then some ((List.range i.2.2.2.1).flatMap (fun k => sx_br (sx_tg cd (st.1 + 1 + k)) st.2.1 S1 st.2.2.2.1 st.2.2.2.2.1 st.2.2.2.2.2 (sx_cf 0 (sx_sub x.2.2 [(i.2.2.1 : Int) - 2147483648 + k]) st.2.2.2.1)) ++ (sx_br i.2.2.2.2.2.1 st.2.1 S1 st.2.2.2.1 st.2.2.2.2.1 st.2.2.2.2.2 [sx_sub [(i.2.2.1 : Int) - 2147483648 - 1] x.2.2] ++ sx_br i.2.2.2.2.2.1 st.2.1 S1 st.2.2.2.1 st.2.2.2.2.1 st.2.2.2.2.2 [sx_sub x.2.2 [(i.2.2.1 : Int) - 2147483648 + i.2.2.2.1]]), hs) else none
  | _ => none
section SXT
variable {p : Program} {l : Launch} {e : Env} {R : Room} {s : State} {m : MethodId} {args : Array Value} {below : List Frame} {meth : Method} {c : Code} {Q : State → Prop}
variable {D : va_G} {cl : List vw_C} {dA : Nat → ClassId} {kt : List FieldType} {A : Nat → Prop} {hh0 : sx_H} {Gs : List Cond} {own : String} {cc : ByteArray} {nL : Nat} {cd : ev_Cd}
variable {T : List sx_K} {kd : List (Nat × Nat)} {ad : List Nat} {Md : List (Nat × Nat)} {tt : List (String × String × String × Nat)} {Y : sx_Y} {r : List Int}
variable {ix : Nat} {L : List (Nat × (Nat × Nat × List Int))} {S S1 : List (Nat × Nat × List Int)} {B : List (Int × Int)} {F : List (List Int)} {G : sx_Gt} {hs hs' : List (List (List Int))} {out : List sx_S}
variable {Gc : List (List Cond)} {Ct : List ev_Ct} {Pg : List ev_Mt} {sm0 : ev_Sm} {sm : List sx_C} {nm : String} {ret : Option FieldType} {i : ev_I} {st : sx_S} {dd RL np : Nat} {outs : List sx_Ou} {r0 : List Int}
theorem sx_p49 (X : sx_X p s m args c D cl dA kt T tt kd ad A Gs own cc nL) (hret : meth.sig.returnType = ret) (hlk : meth.locks = false) (hr0 : ∃ z, r = r0 ++ z) (hnp : np = r0.length) (hok : ev_k49 Gc Ct kt Pg sm0 own nm cc nL ret cd st.1 i = true) (h : sx_o49 np outs st hs = some (out, hs')) : sx_g p l e R s m args below meth c (MQ below (sx_Q D cl dA kt T Y kd ad Md hh0 A r0 outs) args s 0 0 A) D cl dA T Y kd ad A hh0 Md nL cd st r := by
  obtain ⟨ix, L, S, B, F, G⟩ := st
  have X0 := X.1
  unfold ev_k49 at hok
  simp only [Bool.and_eq_true, decide_eq_true_eq] at hok
  unfold sx_o49 at h
  split at h
  · next hS =>
    have hS : S = [] := hS
    subst hS
    split at h
    · next hs1 hp =>
      intro H locs ls vs lv ws hh h1 h2 h3 h4 h5 h6 h7 h8 h9 h10 h11
      obtain rfl := h6.nil
      exact W.vret X0.1.1 X0.1.2.1 (hret.trans hok.2) (fun t ht hW => ⟨⟨none, ws, hh, rfl, sx_rt_ok hp hr0 hnp h1 h2 h3 trivial, h8, h7, by rw [ht]; exact h9, ev_K.moved hW.alike X0.2.1, h10⟩, h11.F ht⟩) h11.2.2 hok.1 hlk
    · cases h
  · cases h
theorem sx_p50 (X : sx_X p s m args c D cl dA kt T tt kd ad A Gs own cc nL) (hret : meth.sig.returnType = ret) (hlk : meth.locks = false) (hr0 : ∃ z, r = r0 ++ z) (hnp : np = r0.length) (hok : ev_k50 Gc Ct kt Pg sm0 own nm cc nL ret cd st.1 i = true) (h : sx_o50 ret np outs st hs = some (out, hs')) : sx_g p l e R s m args below meth c (MQ below (sx_Q D cl dA kt T Y kd ad Md hh0 A r0 outs) args s 0 0 A) D cl dA T Y kd ad A hh0 Md nL cd st r := by
  obtain ⟨ix, L, S, B, F, G⟩ := st
  have X0 := X.1
  unfold ev_k50 at hok
  simp only [Bool.and_eq_true, decide_eq_true_eq] at hok
  unfold sx_o50 at h
  split at h
  · next v hS =>
    have hS : S = [v] := hS
    subst hS
    split at h
    · next hv =>
      split at h
      · next hs1 hp =>
        intro H locs ls vs lv ws hh h1 h2 h3 h4 h5 h6 h7 h8 h9 h10 h11
        have h6q := h6.cons
        clear h6
        obtain ⟨x, ys, rfl, hx, h6⟩ := h6q
        obtain rfl := h6.nil
        obtain ⟨i9, rfl, hi⟩ := hx.int hv.1
        have a1 := sx_lo_ok (f := v.2.2) h1
        have a2 := sx_hi_ok (f := v.2.2) h1
        have hty : ∃ ty, ret = some ty ∧ narrow ty (.int i9) = .int i9 := by
          rcases hv.2 with hv | ⟨hv, b1, b2⟩
          · exact ⟨.int, hv, rfl⟩
          · have s1 := ev_sx_eq i9
            have b1 : 0 ≤ sx_lo v.2.2 B := b1
            have b2 : sx_hi v.2.2 B ≤ 1 := b2
            have a1 : sx_lo v.2.2 B ≤ sx_ev v.2.2 r := a1
            have a2 : sx_ev v.2.2 r ≤ sx_hi v.2.2 B := a2
            exact ⟨.boolean, hv, (ev_fit_ok (ty := .boolean) (v := (0, 2147483648, 2147483649)) (by decide) (ad := []) (ev_vr.it rfl ⟨by show 2147483648 ≤ _; omega, by show _ ≤ 2147483649; omega⟩)).1⟩
        obtain ⟨ty, hty, hnar⟩ := hty
        exact W.zret X0.1.1 X0.1.2.1 (hret.trans hty) hnar (fun t ht hW => ⟨⟨some (.int i9), ws, hh, rfl, sx_rt_ok hp hr0 hnp h1 h2 h3 hx, h8, h7, by rw [ht]; exact h9, ev_K.moved hW.alike X0.2.1, h10⟩, h11.F ht⟩) h11.2.2 hok hlk
      · cases h
    · cases h
  · cases h
theorem sx_p48 (X : sx_X p s m args c D cl dA kt T tt kd ad A Gs own cc nL) (hret : meth.sig.returnType = ret) (hlk : meth.locks = false) (hr0 : ∃ z, r = r0 ++ z) (hnp : np = r0.length) (hok : ev_k48 Gc Ct kt Pg sm0 own nm cc nL ret cd st.1 i = true) (h : sx_o48 ret np outs st hs = some (out, hs')) : sx_g p l e R s m args below meth c (MQ below (sx_Q D cl dA kt T Y kd ad Md hh0 A r0 outs) args s 0 0 A) D cl dA T Y kd ad A hh0 Md nL cd st r := by
  obtain ⟨ix, L, S, B, F, G⟩ := st
  have X0 := X.1
  unfold ev_k48 at hok
  simp only [Bool.and_eq_true, decide_eq_true_eq] at hok
  unfold sx_o48 at h
  split at h
  · next v hS =>
    have hS : S = [v] := hS
    subst hS
    split at h
    · next hv =>
      split at h
      · next hs1 hp =>
        intro H locs ls vs lv ws hh h1 h2 h3 h4 h5 h6 h7 h8 h9 h10 h11
        have h6q := h6.cons
        clear h6
        obtain ⟨x, ys, rfl, hx, h6⟩ := h6q
        obtain rfl := h6.nil
        obtain ⟨i9, rfl⟩ := hx.long hv.1
        exact W.lret X0.1.1 X0.1.2.1 (hret.trans hv.2) (fun t ht hW => ⟨⟨some (.long i9), ws, hh, rfl, sx_rt_ok hp hr0 hnp h1 h2 h3 hx, h8, h7, by rw [ht]; exact h9, ev_K.moved hW.alike X0.2.1, h10⟩, h11.F ht⟩) h11.2.2 hok hlk
      · cases h
    · cases h
  · cases h
theorem sx_p85 (X : sx_X p s m args c D cl dA kt T tt kd ad A Gs own cc nL) (hok : sx_k85 cc cd st.1 i = true) (h : sx_o85 cd i st hs = some (out, hs')) (k : ∀ t ∈ out, ∀ x1, sx_g p l e R s m args below meth c Q D cl dA T Y kd ad A hh0 Md nL cd t (r ++ x1)) : sx_g p l e R s m args below meth c Q D cl dA T Y kd ad A hh0 Md nL cd st r := by
  obtain ⟨ix, L, S, B, F, G⟩ := st
  have X0 := X.1
  unfold sx_o85 at h
  split at h
  · next x S1 hS =>
    have hS : S = x :: S1 := hS
    subst hS
    split at h
    · next hv =>
      obtain ⟨rfl, rfl⟩ := Prod.mk.inj (Option.some.inj h)
      unfold sx_k85 at hok
      split at hok
      · next dflt lo hi offs len hd =>
        simp only [Bool.and_eq_true, decide_eq_true_eq] at hok
        obtain ⟨⟨rfl, rfl, ht⟩, hall⟩ := hok
        intro H locs ls vs lv ws hh h1 h2 h3 h4 h5 h6 h7 h8 h9 h10 h11
        have h6q := h6.cons
        clear h6
        obtain ⟨xv, ys, rfl, hx, h6⟩ := h6q
        obtain ⟨i9, rfl, hi⟩ := hx.int hv
        by_cases c1 : i9.toInt < (i.2.2.1 : Int) - 2147483648
        · refine lv_tableOut X0.1.1 X0.1.2.1 hd (Or.inl c1) ht (sx_br_ok (fun t ht => sx_kz (k t (List.mem_append_right _ (List.mem_append_left _ ht)))) (fun f hf => ?_) rfl h1 h2 h3 h4 h5 h6 h7 h8 h9 h10 h11)
          rw [List.mem_singleton.mp hf, sx_ev_sub, sx_ev_c, ← hi]
          omega
        · by_cases c2 : (i.2.2.1 : Int) - 2147483648 + i.2.2.2.1 - 1 < i9.toInt
          · refine lv_tableOut X0.1.1 X0.1.2.1 hd (Or.inr c2) ht (sx_br_ok (fun t ht => sx_kz (k t (List.mem_append_right _ (List.mem_append_right _ ht)))) (fun f hf => ?_) rfl h1 h2 h3 h4 h5 h6 h7 h8 h9 h10 h11)
            rw [List.mem_singleton.mp hf, sx_ev_sub, sx_ev_c, ← hi]
            omega
          · have hlt : (i9.toInt - ((i.2.2.1 : Int) - 2147483648)).toNat < i.2.2.2.1 := by omega
            have hk := List.all_eq_true.mp hall _ (List.mem_range.mpr hlt)
            split at hk
            · next off ho =>
              have hk := of_decide_eq_true hk
              refine lv_tableIn X0.1.1 X0.1.2.1 hd c1 c2 ho hk (sx_br_ok (fun t ht => sx_kz (k t (List.mem_append_left _ (List.mem_flatMap.mpr ⟨_, List.mem_range.mpr hlt, ht⟩)))) (sx_cf_ok h1 ?_) rfl h1 h2 h3 h4 h5 h6 h7 h8 h9 h10 h11)
              show sx_ev _ r = 0
              rw [sx_ev_sub, sx_ev_c, ← hi]
              omega
            · cases hk
      · cases hok
    · cases h
  · cases h
def sx_op (Ct : List ev_Ct) (T : List sx_K) (tt : List (String × String × String × Nat)) (Y : sx_Y) (Md : List (Nat × Nat)) (sm : List sx_C) (dd RL : Nat) (ret : Option FieldType) (np : Nat) (outs : List sx_Ou) (cd : ev_Cd) (i : ev_I) (st : sx_S) (hs : List (List (List Int))) : Option (List sx_S × List (List (List Int))) := (if i.2.1 < 48 then (if i.2.1 < 19 then (if i.2.1 < 9 then (if i.2.1 < 4 then (if i.2.1 < 2 then (if i.2.1 < 1 then (if i.2.1 = 0 then none else none) else (if i.2.1 = 1 then sx_o1 i st hs else none)) else (if i.2.1 < 3 then (if i.2.1 = 2 then sx_o2 i st hs else none) else (if i.2.1 = 3 then sx_o3 i st hs else none))) else (if i.2.1 < 6 then (if i.2.1 < 5 then (if i.2.1 = 4 then sx_o4 i st hs else none) else (if i.2.1 = 5 then sx_o5 i st hs else none)) else (if i.2.1 < 7 then (if i.2.1 = 6 then sx_o6 i st hs else none) else (if i.2.1 < 8 then (if i.2.1 = 7 then sx_o7 i st hs else none) else (if i.2.1 = 8 then sx_o8 i st hs else none))))) else (if i.2.1 < 14 then (if i.2.1 < 11 then (if i.2.1 < 10 then (if i.2.1 = 9 then sx_o9 i st hs else none) else (if i.2.1 = 10 then sx_o10 i st hs else none)) else (if i.2.1 < 12 then (if i.2.1 = 11 then sx_o11 i st hs else none) else (if i.2.1 < 13 then (if i.2.1 = 12 then sx_o12 i st hs else none) else (if i.2.1 = 13 then sx_o13 i st hs else none)))) else (if i.2.1 < 16 then (if i.2.1 < 15 then (if i.2.1 = 14 then sx_o14 i st hs else none) else (if i.2.1 = 15 then sx_o15 i st hs else none)) else (if i.2.1 < 17 then (if i.2.1 = 16 then sx_o16 i st hs else none) else (if i.2.1 < 18 then (if i.2.1 = 17 then sx_o17 i st hs else none) else (if i.2.1 = 18 then sx_o18 i st hs else none)))))) else (if i.2.1 < 28 then (if i.2.1 < 23 then (if i.2.1 < 21 then (if i.2.1 < 20 then (if i.2.1 = 19 then sx_o19 i st hs else none) else (if i.2.1 = 20 then sx_o20 i st hs else none)) else (if i.2.1 < 22 then (if i.2.1 = 21 then sx_o21 i st hs else none) else (if i.2.1 = 22 then sx_o22 i st hs else none))) else (if i.2.1 < 25 then (if i.2.1 < 24 then (if i.2.1 = 23 then sx_o23 i st hs else none) else (if i.2.1 = 24 then sx_o24 i st hs else none)) else (if i.2.1 < 26 then (if i.2.1 = 25 then sx_o25 i st hs else none) else (if i.2.1 < 27 then (if i.2.1 = 26 then sx_o26 i st hs else none) else (if i.2.1 = 27 then sx_o27 i st hs else none))))) else (if i.2.1 < 39 then (if i.2.1 < 36 then (if i.2.1 < 29 then (if i.2.1 = 28 then sx_o28 Ct T tt Y Md i st hs else none) else (if i.2.1 = 29 then sx_o29 Ct T tt Y Md i st hs else none)) else (if i.2.1 < 37 then (if i.2.1 = 36 then sx_o36 i st hs else none) else (if i.2.1 < 38 then (if i.2.1 = 37 then sx_o37 i st hs else none) else (if i.2.1 = 38 then sx_o38 i st hs else none)))) else (if i.2.1 < 42 then (if i.2.1 < 40 then (if i.2.1 = 39 then sx_o39 i st hs else none) else (if i.2.1 = 40 then sx_o40 Ct T tt Y Md i st hs else none)) else (if i.2.1 < 44 then (if i.2.1 = 42 then sx_o42 Ct T tt Y Md i st hs else none) else (if i.2.1 < 47 then (if i.2.1 = 44 then sx_o44 i st hs else none) else (if i.2.1 = 47 then sx_o47 i st hs else none))))))) else (if i.2.1 < 71 then (if i.2.1 < 59 then (if i.2.1 < 52 then (if i.2.1 < 50 then (if i.2.1 < 49 then (if i.2.1 = 48 then sx_o48 ret np outs st hs else none) else (if i.2.1 = 49 then sx_o49 np outs st hs else none)) else (if i.2.1 < 51 then (if i.2.1 = 50 then sx_o50 ret np outs st hs else none) else (if i.2.1 = 51 then sx_o51 Ct T tt Y Md i st hs else none))) else (if i.2.1 < 54 then (if i.2.1 < 53 then (if i.2.1 = 52 then sx_o52 Ct T tt Y Md i st hs else none) else (if i.2.1 = 53 then sx_o53 Ct T tt Y Md i st hs else none)) else (if i.2.1 < 56 then (if i.2.1 = 54 then sx_o54 Ct T tt Y Md i st hs else none) else (if i.2.1 < 57 then (if i.2.1 = 56 then sx_o56 Y T Md sm dd RL i st hs else none) else (if i.2.1 = 57 then sx_o57 Y Md sm dd RL i st hs else none))))) else (if i.2.1 < 66 then (if i.2.1 < 61 then (if i.2.1 < 60 then (if i.2.1 = 59 then sx_o59 Ct T tt Y Md i st hs else none) else (if i.2.1 = 60 then sx_o60 Ct T tt Y Md i st hs else none)) else (if i.2.1 < 62 then (if i.2.1 = 61 then sx_o61 Ct T tt Y Md i st hs else none) else (if i.2.1 < 63 then (if i.2.1 = 62 then sx_o62 Ct T tt Y Md i st hs else none) else (if i.2.1 = 63 then sx_o63 Ct T tt Y Md i st hs else none)))) else (if i.2.1 < 68 then (if i.2.1 < 67 then (if i.2.1 = 66 then sx_o66 i st hs else none) else (if i.2.1 = 67 then sx_o67 i st hs else none)) else (if i.2.1 < 69 then (if i.2.1 = 68 then sx_o68 i st hs else none) else (if i.2.1 < 70 then (if i.2.1 = 69 then sx_o69 i st hs else none) else (if i.2.1 = 70 then sx_o70 i st hs else none)))))) else (if i.2.1 < 81 then (if i.2.1 < 76 then (if i.2.1 < 73 then (if i.2.1 < 72 then (if i.2.1 = 71 then sx_o71 i st hs else none) else (if i.2.1 = 72 then sx_o72 i st hs else none)) else (if i.2.1 < 74 then (if i.2.1 = 73 then sx_o73 i st hs else none) else (if i.2.1 < 75 then (if i.2.1 = 74 then sx_o74 i st hs else none) else (if i.2.1 = 75 then sx_o75 i st hs else none)))) else (if i.2.1 < 78 then (if i.2.1 < 77 then (if i.2.1 = 76 then sx_o76 i st hs else none) else (if i.2.1 = 77 then sx_o77 i st hs else none)) else (if i.2.1 < 79 then (if i.2.1 = 78 then sx_o78 i st hs else none) else (if i.2.1 < 80 then (if i.2.1 = 79 then sx_o79 i st hs else none) else (if i.2.1 = 80 then sx_o80 i st hs else none))))) else (if i.2.1 < 87 then (if i.2.1 < 83 then (if i.2.1 < 82 then (if i.2.1 = 81 then sx_o81 i st hs else none) else (if i.2.1 = 82 then sx_o82 i st hs else none)) else (if i.2.1 < 85 then (if i.2.1 = 83 then sx_o83 i st hs else none) else (if i.2.1 < 86 then (if i.2.1 = 85 then sx_o85 cd i st hs else none) else (if i.2.1 = 86 then sx_o86 Ct T tt Y Md i st hs else none)))) else (if i.2.1 < 89 then (if i.2.1 < 88 then (if i.2.1 = 87 then sx_o87 i st hs else none) else (if i.2.1 = 88 then sx_o88 i st hs else none)) else (if i.2.1 < 90 then (if i.2.1 = 89 then sx_o89 i st hs else none) else (if i.2.1 < 91 then (if i.2.1 = 90 then sx_o90 Ct T tt Y Md i st hs else none) else (if i.2.1 = 91 then sx_o91 Ct T tt Y Md i st hs else none))))))))
def sx_ok (Gc : List (List Cond)) (Ct : List ev_Ct) (kt : List FieldType) (Pg : List ev_Mt) (sm0 : ev_Sm) (tt : List (String × String × String × Nat)) (own nm : String) (cc : ByteArray) (nL : Nat) (ret : Option FieldType) (cd : ev_Cd) (ix : Nat) (i : ev_I) : Bool := (if i.2.1 < 48 then (if i.2.1 < 19 then (if i.2.1 < 9 then (if i.2.1 < 4 then (if i.2.1 < 2 then (if i.2.1 < 1 then (if i.2.1 = 0 then true else false) else (if i.2.1 = 1 then ev_k1 Gc Ct kt Pg sm0 own nm cc nL ret cd ix i else false)) else (if i.2.1 < 3 then (if i.2.1 = 2 then ev_k2 Gc Ct kt Pg sm0 own nm cc nL ret cd ix i else false) else (if i.2.1 = 3 then ev_k3 Gc Ct kt Pg sm0 own nm cc nL ret cd ix i else false))) else (if i.2.1 < 6 then (if i.2.1 < 5 then (if i.2.1 = 4 then ev_k4 Gc Ct kt Pg sm0 own nm cc nL ret cd ix i else false) else (if i.2.1 = 5 then ev_k5 Gc Ct kt Pg sm0 own nm cc nL ret cd ix i else false)) else (if i.2.1 < 7 then (if i.2.1 = 6 then ev_k6 Gc Ct kt Pg sm0 own nm cc nL ret cd ix i else false) else (if i.2.1 < 8 then (if i.2.1 = 7 then ev_k7 Gc Ct kt Pg sm0 own nm cc nL ret cd ix i else false) else (if i.2.1 = 8 then ev_k8 Gc Ct kt Pg sm0 own nm cc nL ret cd ix i else false))))) else (if i.2.1 < 14 then (if i.2.1 < 11 then (if i.2.1 < 10 then (if i.2.1 = 9 then ev_k9 Gc Ct kt Pg sm0 own nm cc nL ret cd ix i else false) else (if i.2.1 = 10 then ev_k10 Gc Ct kt Pg sm0 own nm cc nL ret cd ix i else false)) else (if i.2.1 < 12 then (if i.2.1 = 11 then ev_k11 Gc Ct kt Pg sm0 own nm cc nL ret cd ix i else false) else (if i.2.1 < 13 then (if i.2.1 = 12 then ev_k12 Gc Ct kt Pg sm0 own nm cc nL ret cd ix i else false) else (if i.2.1 = 13 then ev_k13 Gc Ct kt Pg sm0 own nm cc nL ret cd ix i else false)))) else (if i.2.1 < 16 then (if i.2.1 < 15 then (if i.2.1 = 14 then ev_k14 Gc Ct kt Pg sm0 own nm cc nL ret cd ix i else false) else (if i.2.1 = 15 then ev_k15 Gc Ct kt Pg sm0 own nm cc nL ret cd ix i else false)) else (if i.2.1 < 17 then (if i.2.1 = 16 then ev_k16 Gc Ct kt Pg sm0 own nm cc nL ret cd ix i else false) else (if i.2.1 < 18 then (if i.2.1 = 17 then ev_k17 Gc Ct kt Pg sm0 own nm cc nL ret cd ix i else false) else (if i.2.1 = 18 then ev_k18 Gc Ct kt Pg sm0 own nm cc nL ret cd ix i else false)))))) else (if i.2.1 < 28 then (if i.2.1 < 23 then (if i.2.1 < 21 then (if i.2.1 < 20 then (if i.2.1 = 19 then ev_k19 Gc Ct kt Pg sm0 own nm cc nL ret cd ix i else false) else (if i.2.1 = 20 then ev_k20 Gc Ct kt Pg sm0 own nm cc nL ret cd ix i else false)) else (if i.2.1 < 22 then (if i.2.1 = 21 then ev_k21 Gc Ct kt Pg sm0 own nm cc nL ret cd ix i else false) else (if i.2.1 = 22 then ev_k22 Gc Ct kt Pg sm0 own nm cc nL ret cd ix i else false))) else (if i.2.1 < 25 then (if i.2.1 < 24 then (if i.2.1 = 23 then ev_k23 Gc Ct kt Pg sm0 own nm cc nL ret cd ix i else false) else (if i.2.1 = 24 then ev_k24 Gc Ct kt Pg sm0 own nm cc nL ret cd ix i else false)) else (if i.2.1 < 26 then (if i.2.1 = 25 then ev_k25 Gc Ct kt Pg sm0 own nm cc nL ret cd ix i else false) else (if i.2.1 < 27 then (if i.2.1 = 26 then ev_k26 Gc Ct kt Pg sm0 own nm cc nL ret cd ix i else false) else (if i.2.1 = 27 then ev_k27 Gc Ct kt Pg sm0 own nm cc nL ret cd ix i else false))))) else (if i.2.1 < 39 then (if i.2.1 < 36 then (if i.2.1 < 29 then (if i.2.1 = 28 then ev_k28 Gc Ct kt Pg sm0 own nm cc nL ret cd ix i else false) else (if i.2.1 = 29 then ev_k29 Gc Ct kt Pg sm0 own nm cc nL ret cd ix i else false)) else (if i.2.1 < 37 then (if i.2.1 = 36 then ev_k36 Gc Ct kt Pg sm0 own nm cc nL ret cd ix i else false) else (if i.2.1 < 38 then (if i.2.1 = 37 then ev_k37 Gc Ct kt Pg sm0 own nm cc nL ret cd ix i else false) else (if i.2.1 = 38 then ev_k38 Gc Ct kt Pg sm0 own nm cc nL ret cd ix i else false)))) else (if i.2.1 < 42 then (if i.2.1 < 40 then (if i.2.1 = 39 then ev_k39 Gc Ct kt Pg sm0 own nm cc nL ret cd ix i else false) else (if i.2.1 = 40 then ev_k40 Gc Ct kt Pg sm0 own nm cc nL ret cd ix i else false)) else (if i.2.1 < 44 then (if i.2.1 = 42 then ev_k42 Gc Ct kt Pg sm0 own nm cc nL ret cd ix i else false) else (if i.2.1 < 47 then (if i.2.1 = 44 then ev_k44 Gc Ct kt Pg sm0 own nm cc nL ret cd ix i else false) else (if i.2.1 = 47 then ev_k47 Gc Ct kt Pg sm0 own nm cc nL ret cd ix i else false))))))) else (if i.2.1 < 71 then (if i.2.1 < 59 then (if i.2.1 < 52 then (if i.2.1 < 50 then (if i.2.1 < 49 then (if i.2.1 = 48 then ev_k48 Gc Ct kt Pg sm0 own nm cc nL ret cd ix i else false) else (if i.2.1 = 49 then ev_k49 Gc Ct kt Pg sm0 own nm cc nL ret cd ix i else false)) else (if i.2.1 < 51 then (if i.2.1 = 50 then ev_k50 Gc Ct kt Pg sm0 own nm cc nL ret cd ix i else false) else (if i.2.1 = 51 then ev_k51 Gc Ct kt Pg sm0 own nm cc nL ret cd ix i else false))) else (if i.2.1 < 54 then (if i.2.1 < 53 then (if i.2.1 = 52 then ev_k52 Gc Ct kt Pg sm0 own nm cc nL ret cd ix i else false) else (if i.2.1 = 53 then ev_k53 Gc Ct kt Pg sm0 own nm cc nL ret cd ix i else false)) else (if i.2.1 < 56 then (if i.2.1 = 54 then ev_k54 Gc Ct kt Pg sm0 own nm cc nL ret cd ix i else false) else (if i.2.1 < 57 then (if i.2.1 = 56 then ev_k56 Gc Ct kt Pg sm0 own nm cc nL ret cd ix i else false) else (if i.2.1 = 57 then ev_k57 Gc Ct kt Pg sm0 own nm cc nL ret cd ix i else false))))) else (if i.2.1 < 66 then (if i.2.1 < 61 then (if i.2.1 < 60 then (if i.2.1 = 59 then ev_k59 Gc Ct kt Pg sm0 own nm cc nL ret cd ix i else false) else (if i.2.1 = 60 then ev_k60 Gc Ct kt Pg sm0 own nm cc nL ret cd ix i else false)) else (if i.2.1 < 62 then (if i.2.1 = 61 then ev_k61 Gc Ct kt Pg sm0 own nm cc nL ret cd ix i else false) else (if i.2.1 < 63 then (if i.2.1 = 62 then ev_k62 Gc Ct kt Pg sm0 own nm cc nL ret cd ix i else false) else (if i.2.1 = 63 then ev_k63 Gc Ct kt Pg sm0 own nm cc nL ret cd ix i else false)))) else (if i.2.1 < 68 then (if i.2.1 < 67 then (if i.2.1 = 66 then ev_k66 Gc Ct kt Pg sm0 own nm cc nL ret cd ix i else false) else (if i.2.1 = 67 then ev_k67 Gc Ct kt Pg sm0 own nm cc nL ret cd ix i else false)) else (if i.2.1 < 69 then (if i.2.1 = 68 then ev_k68 Gc Ct kt Pg sm0 own nm cc nL ret cd ix i else false) else (if i.2.1 < 70 then (if i.2.1 = 69 then ev_k69 Gc Ct kt Pg sm0 own nm cc nL ret cd ix i else false) else (if i.2.1 = 70 then ev_k70 Gc Ct kt Pg sm0 own nm cc nL ret cd ix i else false)))))) else (if i.2.1 < 81 then (if i.2.1 < 76 then (if i.2.1 < 73 then (if i.2.1 < 72 then (if i.2.1 = 71 then ev_k71 Gc Ct kt Pg sm0 own nm cc nL ret cd ix i else false) else (if i.2.1 = 72 then ev_k72 Gc Ct kt Pg sm0 own nm cc nL ret cd ix i else false)) else (if i.2.1 < 74 then (if i.2.1 = 73 then ev_k73 Gc Ct kt Pg sm0 own nm cc nL ret cd ix i else false) else (if i.2.1 < 75 then (if i.2.1 = 74 then ev_k74 Gc Ct kt Pg sm0 own nm cc nL ret cd ix i else false) else (if i.2.1 = 75 then ev_k75 Gc Ct kt Pg sm0 own nm cc nL ret cd ix i else false)))) else (if i.2.1 < 78 then (if i.2.1 < 77 then (if i.2.1 = 76 then ev_k76 Gc Ct kt Pg sm0 own nm cc nL ret cd ix i else false) else (if i.2.1 = 77 then ev_k77 Gc Ct kt Pg sm0 own nm cc nL ret cd ix i else false)) else (if i.2.1 < 79 then (if i.2.1 = 78 then ev_k78 Gc Ct kt Pg sm0 own nm cc nL ret cd ix i else false) else (if i.2.1 < 80 then (if i.2.1 = 79 then ev_k79 Gc Ct kt Pg sm0 own nm cc nL ret cd ix i else false) else (if i.2.1 = 80 then ev_k80 Gc Ct kt Pg sm0 own nm cc nL ret cd ix i else false))))) else (if i.2.1 < 87 then (if i.2.1 < 83 then (if i.2.1 < 82 then (if i.2.1 = 81 then ev_k81 Gc Ct kt Pg sm0 own nm cc nL ret cd ix i else false) else (if i.2.1 = 82 then ev_k82 Gc Ct kt Pg sm0 own nm cc nL ret cd ix i else false)) else (if i.2.1 < 85 then (if i.2.1 = 83 then ev_k83 Gc Ct kt Pg sm0 own nm cc nL ret cd ix i else false) else (if i.2.1 < 86 then (if i.2.1 = 85 then sx_k85 cc cd ix i else false) else (if i.2.1 = 86 then sx_k86 Gc tt own cc cd ix i else false)))) else (if i.2.1 < 89 then (if i.2.1 < 88 then (if i.2.1 = 87 then sx_k87 cc cd ix else false) else (if i.2.1 = 88 then sx_k88 cc cd ix else false)) else (if i.2.1 < 90 then (if i.2.1 = 89 then sx_k89 cc cd ix else false) else (if i.2.1 < 91 then (if i.2.1 = 90 then sx_k90 Gc kt own cc cd ix i else false) else (if i.2.1 = 91 then sx_k91 Gc own cc cd ix i else false))))))))
theorem sx_op_ok (X : sx_X p s m args c D cl dA kt T tt kd ad A Gs own cc nL) (hGc : ∀ (h : Nat) (w : Cond), ev_hg Gc h = some w → w ∈ Gs) (hG : ∀ w ∈ Gs, (w.onTables && w.keeps) = true ∨ ∃ ty, w = .arrayClass ty) (hT : ev_okD Gs cl Ct Pg) (hsm : sx_SM l D cl dA kt T tt Y Gs Pg sm) (hRf : dd + 1 ≤ R.frames) (hRl : RL ≤ R.locals) (hRl2 : 26 ≤ R.locals) (hret : meth.sig.returnType = ret) (hlk : meth.locks = false) (hr0 : ∃ z, r = r0 ++ z) (hnp : np = r0.length) (hok : sx_ok Gc Ct kt Pg sm0 tt own nm cc nL ret cd st.1 i = true) (h0 : i.2.1 ≠ 0) (h : sx_op Ct T tt Y Md sm dd RL ret np outs cd i st hs = some (out, hs')) (k : ∀ t ∈ out, ∀ x1, sx_g p l e R s m args below meth c (MQ below (sx_Q D cl dA kt T Y kd ad Md hh0 A r0 outs) args s 0 0 A) D cl dA T Y kd ad A hh0 Md nL cd t (r ++ x1)) : sx_g p l e R s m args below meth c (MQ below (sx_Q D cl dA kt T Y kd ad Md hh0 A r0 outs) args s 0 0 A) D cl dA T Y kd ad A hh0 Md nL cd st r := by
  unfold sx_op at h
  unfold sx_ok at hok
  by_cases hlt : i.2.1 < 48
  · rw [if_pos hlt] at h hok
    by_cases hlt : i.2.1 < 19
    · rw [if_pos hlt] at h hok
      by_cases hlt : i.2.1 < 9
      · rw [if_pos hlt] at h hok
        by_cases hlt : i.2.1 < 4
        · rw [if_pos hlt] at h hok
          by_cases hlt : i.2.1 < 2
          · rw [if_pos hlt] at h hok
            by_cases hlt : i.2.1 < 1
            · rw [if_pos hlt] at h hok
              by_cases hop : i.2.1 = 0
              · exact absurd hop h0
              · rw [if_neg hop] at h
                cases h
            · rw [if_neg hlt] at h hok
              by_cases hop : i.2.1 = 1
              · rw [if_pos hop] at h hok
                exact sx_p1 (sm := sm0) X hGc hT hok h k
              · rw [if_neg hop] at h
                cases h
          · rw [if_neg hlt] at h hok
            by_cases hlt : i.2.1 < 3
            · rw [if_pos hlt] at h hok
              by_cases hop : i.2.1 = 2
              · rw [if_pos hop] at h hok
                exact sx_p2 (sm := sm0) X hGc hT hok h k
              · rw [if_neg hop] at h
                cases h
            · rw [if_neg hlt] at h hok
              by_cases hop : i.2.1 = 3
              · rw [if_pos hop] at h hok
                exact sx_p3 (sm := sm0) X hGc hT hok h k
              · rw [if_neg hop] at h
                cases h
        · rw [if_neg hlt] at h hok
          by_cases hlt : i.2.1 < 6
          · rw [if_pos hlt] at h hok
            by_cases hlt : i.2.1 < 5
            · rw [if_pos hlt] at h hok
              by_cases hop : i.2.1 = 4
              · rw [if_pos hop] at h hok
                exact sx_p4 (sm := sm0) X hGc hT hok h k
              · rw [if_neg hop] at h
                cases h
            · rw [if_neg hlt] at h hok
              by_cases hop : i.2.1 = 5
              · rw [if_pos hop] at h hok
                exact sx_p5 (sm := sm0) X hGc hT hok h k
              · rw [if_neg hop] at h
                cases h
          · rw [if_neg hlt] at h hok
            by_cases hlt : i.2.1 < 7
            · rw [if_pos hlt] at h hok
              by_cases hop : i.2.1 = 6
              · rw [if_pos hop] at h hok
                exact sx_p6 (sm := sm0) X hGc hT hok h k
              · rw [if_neg hop] at h
                cases h
            · rw [if_neg hlt] at h hok
              by_cases hlt : i.2.1 < 8
              · rw [if_pos hlt] at h hok
                by_cases hop : i.2.1 = 7
                · rw [if_pos hop] at h hok
                  exact sx_p7 (sm := sm0) X hGc hT hok h k
                · rw [if_neg hop] at h
                  cases h
              · rw [if_neg hlt] at h hok
                by_cases hop : i.2.1 = 8
                · rw [if_pos hop] at h hok
                  exact sx_p8 (sm := sm0) X hGc hT hok h k
                · rw [if_neg hop] at h
                  cases h
      · rw [if_neg hlt] at h hok
        by_cases hlt : i.2.1 < 14
        · rw [if_pos hlt] at h hok
          by_cases hlt : i.2.1 < 11
          · rw [if_pos hlt] at h hok
            by_cases hlt : i.2.1 < 10
            · rw [if_pos hlt] at h hok
              by_cases hop : i.2.1 = 9
              · rw [if_pos hop] at h hok
                exact sx_p9 (sm := sm0) X hGc hT hok h k
              · rw [if_neg hop] at h
                cases h
            · rw [if_neg hlt] at h hok
              by_cases hop : i.2.1 = 10
              · rw [if_pos hop] at h hok
                exact sx_p10 (sm := sm0) X hGc hT hok h k
              · rw [if_neg hop] at h
                cases h
          · rw [if_neg hlt] at h hok
            by_cases hlt : i.2.1 < 12
            · rw [if_pos hlt] at h hok
              by_cases hop : i.2.1 = 11
              · rw [if_pos hop] at h hok
                exact sx_p11 (sm := sm0) X hGc hT hok h k
              · rw [if_neg hop] at h
                cases h
            · rw [if_neg hlt] at h hok
              by_cases hlt : i.2.1 < 13
              · rw [if_pos hlt] at h hok
                by_cases hop : i.2.1 = 12
                · rw [if_pos hop] at h hok
                  exact sx_p12 (sm := sm0) X hGc hT hok h k
                · rw [if_neg hop] at h
                  cases h
              · rw [if_neg hlt] at h hok
                by_cases hop : i.2.1 = 13
                · rw [if_pos hop] at h hok
                  exact sx_p13 (sm := sm0) X hGc hT hok h k
                · rw [if_neg hop] at h
                  cases h
        · rw [if_neg hlt] at h hok
          by_cases hlt : i.2.1 < 16
          · rw [if_pos hlt] at h hok
            by_cases hlt : i.2.1 < 15
            · rw [if_pos hlt] at h hok
              by_cases hop : i.2.1 = 14
              · rw [if_pos hop] at h hok
                exact sx_p14 (sm := sm0) X hGc hT hok h k
              · rw [if_neg hop] at h
                cases h
            · rw [if_neg hlt] at h hok
              by_cases hop : i.2.1 = 15
              · rw [if_pos hop] at h hok
                exact sx_p15 (sm := sm0) X hGc hT hok h k
              · rw [if_neg hop] at h
                cases h
          · rw [if_neg hlt] at h hok
            by_cases hlt : i.2.1 < 17
            · rw [if_pos hlt] at h hok
              by_cases hop : i.2.1 = 16
              · rw [if_pos hop] at h hok
                exact sx_p16 (sm := sm0) X hGc hT hok h k
              · rw [if_neg hop] at h
                cases h
            · rw [if_neg hlt] at h hok
              by_cases hlt : i.2.1 < 18
              · rw [if_pos hlt] at h hok
                by_cases hop : i.2.1 = 17
                · rw [if_pos hop] at h hok
                  exact sx_p17 (sm := sm0) X hGc hT hok h k
                · rw [if_neg hop] at h
                  cases h
              · rw [if_neg hlt] at h hok
                by_cases hop : i.2.1 = 18
                · rw [if_pos hop] at h hok
                  exact sx_p18 (sm := sm0) X hGc hT hok h k
                · rw [if_neg hop] at h
                  cases h
    · rw [if_neg hlt] at h hok
      by_cases hlt : i.2.1 < 28
      · rw [if_pos hlt] at h hok
        by_cases hlt : i.2.1 < 23
        · rw [if_pos hlt] at h hok
          by_cases hlt : i.2.1 < 21
          · rw [if_pos hlt] at h hok
            by_cases hlt : i.2.1 < 20
            · rw [if_pos hlt] at h hok
              by_cases hop : i.2.1 = 19
              · rw [if_pos hop] at h hok
                exact sx_p19 (sm := sm0) X hGc hT hok h k
              · rw [if_neg hop] at h
                cases h
            · rw [if_neg hlt] at h hok
              by_cases hop : i.2.1 = 20
              · rw [if_pos hop] at h hok
                exact sx_p20 (sm := sm0) X hGc hT hok h k
              · rw [if_neg hop] at h
                cases h
          · rw [if_neg hlt] at h hok
            by_cases hlt : i.2.1 < 22
            · rw [if_pos hlt] at h hok
              by_cases hop : i.2.1 = 21
              · rw [if_pos hop] at h hok
                exact sx_p21 (sm := sm0) X hGc hT hok h k
              · rw [if_neg hop] at h
                cases h
            · rw [if_neg hlt] at h hok
              by_cases hop : i.2.1 = 22
              · rw [if_pos hop] at h hok
                exact sx_p22 (sm := sm0) X hGc hT hok h k
              · rw [if_neg hop] at h
                cases h
        · rw [if_neg hlt] at h hok
          by_cases hlt : i.2.1 < 25
          · rw [if_pos hlt] at h hok
            by_cases hlt : i.2.1 < 24
            · rw [if_pos hlt] at h hok
              by_cases hop : i.2.1 = 23
              · rw [if_pos hop] at h hok
                exact sx_p23 (sm := sm0) X hGc hT hok h k
              · rw [if_neg hop] at h
                cases h
            · rw [if_neg hlt] at h hok
              by_cases hop : i.2.1 = 24
              · rw [if_pos hop] at h hok
                exact sx_p24 (sm := sm0) X hGc hT hok h k
              · rw [if_neg hop] at h
                cases h
          · rw [if_neg hlt] at h hok
            by_cases hlt : i.2.1 < 26
            · rw [if_pos hlt] at h hok
              by_cases hop : i.2.1 = 25
              · rw [if_pos hop] at h hok
                exact sx_p25 (sm := sm0) X hGc hT hok h k
              · rw [if_neg hop] at h
                cases h
            · rw [if_neg hlt] at h hok
              by_cases hlt : i.2.1 < 27
              · rw [if_pos hlt] at h hok
                by_cases hop : i.2.1 = 26
                · rw [if_pos hop] at h hok
                  exact sx_p26 (sm := sm0) X hGc hT hok h k
                · rw [if_neg hop] at h
                  cases h
              · rw [if_neg hlt] at h hok
                by_cases hop : i.2.1 = 27
                · rw [if_pos hop] at h hok
                  exact sx_p27 (sm := sm0) X hGc hT hok h k
                · rw [if_neg hop] at h
                  cases h
      · rw [if_neg hlt] at h hok
        by_cases hlt : i.2.1 < 39
        · rw [if_pos hlt] at h hok
          by_cases hlt : i.2.1 < 36
          · rw [if_pos hlt] at h hok
            by_cases hlt : i.2.1 < 29
            · rw [if_pos hlt] at h hok
              by_cases hop : i.2.1 = 28
              · rw [if_pos hop] at h hok
                exact sx_p28 (sm := sm0) X hGc hT (by omega) (by omega) hok h k
              · rw [if_neg hop] at h
                cases h
            · rw [if_neg hlt] at h hok
              by_cases hop : i.2.1 = 29
              · rw [if_pos hop] at h hok
                exact sx_p29 (sm := sm0) X hGc hT (by omega) (by omega) hok h k
              · rw [if_neg hop] at h
                cases h
          · rw [if_neg hlt] at h hok
            by_cases hlt : i.2.1 < 37
            · rw [if_pos hlt] at h hok
              by_cases hop : i.2.1 = 36
              · rw [if_pos hop] at h hok
                exact sx_p36 (sm := sm0) X hGc hT hok h k
              · rw [if_neg hop] at h
                cases h
            · rw [if_neg hlt] at h hok
              by_cases hlt : i.2.1 < 38
              · rw [if_pos hlt] at h hok
                by_cases hop : i.2.1 = 37
                · rw [if_pos hop] at h hok
                  exact sx_p37 (sm := sm0) X hGc hT hok h k
                · rw [if_neg hop] at h
                  cases h
              · rw [if_neg hlt] at h hok
                by_cases hop : i.2.1 = 38
                · rw [if_pos hop] at h hok
                  exact sx_p38 (sm := sm0) X hGc hT hok h k
                · rw [if_neg hop] at h
                  cases h
        · rw [if_neg hlt] at h hok
          by_cases hlt : i.2.1 < 42
          · rw [if_pos hlt] at h hok
            by_cases hlt : i.2.1 < 40
            · rw [if_pos hlt] at h hok
              by_cases hop : i.2.1 = 39
              · rw [if_pos hop] at h hok
                exact sx_p39 (sm := sm0) X hGc hT hok h k
              · rw [if_neg hop] at h
                cases h
            · rw [if_neg hlt] at h hok
              by_cases hop : i.2.1 = 40
              · rw [if_pos hop] at h hok
                exact sx_p40 (sm := sm0) X hGc hT (by omega) (by omega) hok h k
              · rw [if_neg hop] at h
                cases h
          · rw [if_neg hlt] at h hok
            by_cases hlt : i.2.1 < 44
            · rw [if_pos hlt] at h hok
              by_cases hop : i.2.1 = 42
              · rw [if_pos hop] at h hok
                exact sx_p42 (sm := sm0) X hGc hT (by omega) (by omega) hok h k
              · rw [if_neg hop] at h
                cases h
            · rw [if_neg hlt] at h hok
              by_cases hlt : i.2.1 < 47
              · rw [if_pos hlt] at h hok
                by_cases hop : i.2.1 = 44
                · rw [if_pos hop] at h hok
                  exact sx_p44 (sm := sm0) X hGc hT hok h k
                · rw [if_neg hop] at h
                  cases h
              · rw [if_neg hlt] at h hok
                by_cases hop : i.2.1 = 47
                · rw [if_pos hop] at h hok
                  exact sx_p47 (sm := sm0) X hGc hT hok h k
                · rw [if_neg hop] at h
                  cases h
  · rw [if_neg hlt] at h hok
    by_cases hlt : i.2.1 < 71
    · rw [if_pos hlt] at h hok
      by_cases hlt : i.2.1 < 59
      · rw [if_pos hlt] at h hok
        by_cases hlt : i.2.1 < 52
        · rw [if_pos hlt] at h hok
          by_cases hlt : i.2.1 < 50
          · rw [if_pos hlt] at h hok
            by_cases hlt : i.2.1 < 49
            · rw [if_pos hlt] at h hok
              by_cases hop : i.2.1 = 48
              · rw [if_pos hop] at h hok
                exact sx_p48 (sm0 := sm0) X hret hlk hr0 hnp hok h
              · rw [if_neg hop] at h
                cases h
            · rw [if_neg hlt] at h hok
              by_cases hop : i.2.1 = 49
              · rw [if_pos hop] at h hok
                exact sx_p49 (sm0 := sm0) X hret hlk hr0 hnp hok h
              · rw [if_neg hop] at h
                cases h
          · rw [if_neg hlt] at h hok
            by_cases hlt : i.2.1 < 51
            · rw [if_pos hlt] at h hok
              by_cases hop : i.2.1 = 50
              · rw [if_pos hop] at h hok
                exact sx_p50 (sm0 := sm0) X hret hlk hr0 hnp hok h
              · rw [if_neg hop] at h
                cases h
            · rw [if_neg hlt] at h hok
              by_cases hop : i.2.1 = 51
              · rw [if_pos hop] at h hok
                exact sx_p51 (sm := sm0) X hGc hT (by omega) (by omega) hok h k
              · rw [if_neg hop] at h
                cases h
        · rw [if_neg hlt] at h hok
          by_cases hlt : i.2.1 < 54
          · rw [if_pos hlt] at h hok
            by_cases hlt : i.2.1 < 53
            · rw [if_pos hlt] at h hok
              by_cases hop : i.2.1 = 52
              · rw [if_pos hop] at h hok
                exact sx_p52 (sm := sm0) X hGc hT (by omega) (by omega) hok h k
              · rw [if_neg hop] at h
                cases h
            · rw [if_neg hlt] at h hok
              by_cases hop : i.2.1 = 53
              · rw [if_pos hop] at h hok
                exact sx_p53 (sm := sm0) X hGc hT (by omega) (by omega) hok h k
              · rw [if_neg hop] at h
                cases h
          · rw [if_neg hlt] at h hok
            by_cases hlt : i.2.1 < 56
            · rw [if_pos hlt] at h hok
              by_cases hop : i.2.1 = 54
              · rw [if_pos hop] at h hok
                exact sx_p54 (sm := sm0) X hGc hT (by omega) (by omega) hok h k
              · rw [if_neg hop] at h
                cases h
            · rw [if_neg hlt] at h hok
              by_cases hlt : i.2.1 < 57
              · rw [if_pos hlt] at h hok
                by_cases hop : i.2.1 = 56
                · rw [if_pos hop] at h hok
                  exact sx_p56 (sm0 := sm0) X hGc hG hT hsm hRf hRl hok h k
                · rw [if_neg hop] at h
                  cases h
              · rw [if_neg hlt] at h hok
                by_cases hop : i.2.1 = 57
                · rw [if_pos hop] at h hok
                  exact sx_p57 (sm0 := sm0) X hGc hG hT hsm hRf hRl hok h k
                · rw [if_neg hop] at h
                  cases h
      · rw [if_neg hlt] at h hok
        by_cases hlt : i.2.1 < 66
        · rw [if_pos hlt] at h hok
          by_cases hlt : i.2.1 < 61
          · rw [if_pos hlt] at h hok
            by_cases hlt : i.2.1 < 60
            · rw [if_pos hlt] at h hok
              by_cases hop : i.2.1 = 59
              · rw [if_pos hop] at h hok
                exact sx_p59 (sm := sm0) X hGc hT (by omega) (by omega) hok h k
              · rw [if_neg hop] at h
                cases h
            · rw [if_neg hlt] at h hok
              by_cases hop : i.2.1 = 60
              · rw [if_pos hop] at h hok
                exact sx_p60 (sm := sm0) X hGc hT (by omega) (by omega) hok h k
              · rw [if_neg hop] at h
                cases h
          · rw [if_neg hlt] at h hok
            by_cases hlt : i.2.1 < 62
            · rw [if_pos hlt] at h hok
              by_cases hop : i.2.1 = 61
              · rw [if_pos hop] at h hok
                exact sx_p61 (sm := sm0) X hGc hT (by omega) (by omega) hok h k
              · rw [if_neg hop] at h
                cases h
            · rw [if_neg hlt] at h hok
              by_cases hlt : i.2.1 < 63
              · rw [if_pos hlt] at h hok
                by_cases hop : i.2.1 = 62
                · rw [if_pos hop] at h hok
                  exact sx_p62 (sm := sm0) X hGc hT (by omega) (by omega) hok h k
                · rw [if_neg hop] at h
                  cases h
              · rw [if_neg hlt] at h hok
                by_cases hop : i.2.1 = 63
                · rw [if_pos hop] at h hok
                  exact sx_p63 (sm := sm0) X hGc hT (by omega) (by omega) hok h k
                · rw [if_neg hop] at h
                  cases h
        · rw [if_neg hlt] at h hok
          by_cases hlt : i.2.1 < 68
          · rw [if_pos hlt] at h hok
            by_cases hlt : i.2.1 < 67
            · rw [if_pos hlt] at h hok
              by_cases hop : i.2.1 = 66
              · rw [if_pos hop] at h hok
                exact sx_p66 (sm := sm0) X hGc hT hok h k
              · rw [if_neg hop] at h
                cases h
            · rw [if_neg hlt] at h hok
              by_cases hop : i.2.1 = 67
              · rw [if_pos hop] at h hok
                exact sx_p67 (sm := sm0) X hGc hT hok h k
              · rw [if_neg hop] at h
                cases h
          · rw [if_neg hlt] at h hok
            by_cases hlt : i.2.1 < 69
            · rw [if_pos hlt] at h hok
              by_cases hop : i.2.1 = 68
              · rw [if_pos hop] at h hok
                exact sx_p68 (sm := sm0) X hGc hT hok h k
              · rw [if_neg hop] at h
                cases h
            · rw [if_neg hlt] at h hok
              by_cases hlt : i.2.1 < 70
              · rw [if_pos hlt] at h hok
                by_cases hop : i.2.1 = 69
                · rw [if_pos hop] at h hok
                  exact sx_p69 (sm := sm0) X hGc hT hok h k
                · rw [if_neg hop] at h
                  cases h
              · rw [if_neg hlt] at h hok
                by_cases hop : i.2.1 = 70
                · rw [if_pos hop] at h hok
                  exact sx_p70 (sm := sm0) X hGc hT hok h k
                · rw [if_neg hop] at h
                  cases h
    · rw [if_neg hlt] at h hok
      by_cases hlt : i.2.1 < 81
      · rw [if_pos hlt] at h hok
        by_cases hlt : i.2.1 < 76
        · rw [if_pos hlt] at h hok
          by_cases hlt : i.2.1 < 73
          · rw [if_pos hlt] at h hok
            by_cases hlt : i.2.1 < 72
            · rw [if_pos hlt] at h hok
              by_cases hop : i.2.1 = 71
              · rw [if_pos hop] at h hok
                exact sx_p71 (sm := sm0) X hGc hT hok h k
              · rw [if_neg hop] at h
                cases h
            · rw [if_neg hlt] at h hok
              by_cases hop : i.2.1 = 72
              · rw [if_pos hop] at h hok
                exact sx_p72 (sm := sm0) X hGc hT hok h k
              · rw [if_neg hop] at h
                cases h
          · rw [if_neg hlt] at h hok
            by_cases hlt : i.2.1 < 74
            · rw [if_pos hlt] at h hok
              by_cases hop : i.2.1 = 73
              · rw [if_pos hop] at h hok
                exact sx_p73 (sm := sm0) X hGc hT hok h k
              · rw [if_neg hop] at h
                cases h
            · rw [if_neg hlt] at h hok
              by_cases hlt : i.2.1 < 75
              · rw [if_pos hlt] at h hok
                by_cases hop : i.2.1 = 74
                · rw [if_pos hop] at h hok
                  exact sx_p74 (sm := sm0) X hGc hT hok h k
                · rw [if_neg hop] at h
                  cases h
              · rw [if_neg hlt] at h hok
                by_cases hop : i.2.1 = 75
                · rw [if_pos hop] at h hok
                  exact sx_p75 (sm := sm0) X hGc hT hok h k
                · rw [if_neg hop] at h
                  cases h
        · rw [if_neg hlt] at h hok
          by_cases hlt : i.2.1 < 78
          · rw [if_pos hlt] at h hok
            by_cases hlt : i.2.1 < 77
            · rw [if_pos hlt] at h hok
              by_cases hop : i.2.1 = 76
              · rw [if_pos hop] at h hok
                exact sx_p76 (sm := sm0) X hGc hT hok h k
              · rw [if_neg hop] at h
                cases h
            · rw [if_neg hlt] at h hok
              by_cases hop : i.2.1 = 77
              · rw [if_pos hop] at h hok
                exact sx_p77 (sm := sm0) X hGc hT hok h k
              · rw [if_neg hop] at h
                cases h
          · rw [if_neg hlt] at h hok
            by_cases hlt : i.2.1 < 79
            · rw [if_pos hlt] at h hok
              by_cases hop : i.2.1 = 78
              · rw [if_pos hop] at h hok
                exact sx_p78 (sm := sm0) X hGc hT hok h k
              · rw [if_neg hop] at h
                cases h
            · rw [if_neg hlt] at h hok
              by_cases hlt : i.2.1 < 80
              · rw [if_pos hlt] at h hok
                by_cases hop : i.2.1 = 79
                · rw [if_pos hop] at h hok
                  exact sx_p79 (sm := sm0) X hGc hT hok h k
                · rw [if_neg hop] at h
                  cases h
              · rw [if_neg hlt] at h hok
                by_cases hop : i.2.1 = 80
                · rw [if_pos hop] at h hok
                  exact sx_p80 (sm := sm0) X hGc hT hok h k
                · rw [if_neg hop] at h
                  cases h
      · rw [if_neg hlt] at h hok
        by_cases hlt : i.2.1 < 87
        · rw [if_pos hlt] at h hok
          by_cases hlt : i.2.1 < 83
          · rw [if_pos hlt] at h hok
            by_cases hlt : i.2.1 < 82
            · rw [if_pos hlt] at h hok
              by_cases hop : i.2.1 = 81
              · rw [if_pos hop] at h hok
                exact sx_p81 (sm := sm0) X hGc hT hok h k
              · rw [if_neg hop] at h
                cases h
            · rw [if_neg hlt] at h hok
              by_cases hop : i.2.1 = 82
              · rw [if_pos hop] at h hok
                exact sx_p82 (sm := sm0) X hGc hT hok h k
              · rw [if_neg hop] at h
                cases h
          · rw [if_neg hlt] at h hok
            by_cases hlt : i.2.1 < 85
            · rw [if_pos hlt] at h hok
              by_cases hop : i.2.1 = 83
              · rw [if_pos hop] at h hok
                exact sx_p83 (sm := sm0) X hGc hT hok h k
              · rw [if_neg hop] at h
                cases h
            · rw [if_neg hlt] at h hok
              by_cases hlt : i.2.1 < 86
              · rw [if_pos hlt] at h hok
                by_cases hop : i.2.1 = 85
                · rw [if_pos hop] at h hok
                  exact sx_p85 X hok h k
                · rw [if_neg hop] at h
                  cases h
              · rw [if_neg hlt] at h hok
                by_cases hop : i.2.1 = 86
                · rw [if_pos hop] at h hok
                  exact sx_p86 X hGc hT (by omega) (by omega) hok h k
                · rw [if_neg hop] at h
                  cases h
        · rw [if_neg hlt] at h hok
          by_cases hlt : i.2.1 < 89
          · rw [if_pos hlt] at h hok
            by_cases hlt : i.2.1 < 88
            · rw [if_pos hlt] at h hok
              by_cases hop : i.2.1 = 87
              · rw [if_pos hop] at h hok
                exact sx_p87 X hGc hT hok h k
              · rw [if_neg hop] at h
                cases h
            · rw [if_neg hlt] at h hok
              by_cases hop : i.2.1 = 88
              · rw [if_pos hop] at h hok
                exact sx_p88 X hGc hT hok h k
              · rw [if_neg hop] at h
                cases h
          · rw [if_neg hlt] at h hok
            by_cases hlt : i.2.1 < 90
            · rw [if_pos hlt] at h hok
              by_cases hop : i.2.1 = 89
              · rw [if_pos hop] at h hok
                exact sx_p89 X hGc hT hok h k
              · rw [if_neg hop] at h
                cases h
            · rw [if_neg hlt] at h hok
              by_cases hlt : i.2.1 < 91
              · rw [if_pos hlt] at h hok
                by_cases hop : i.2.1 = 90
                · rw [if_pos hop] at h hok
                  exact sx_p90 X hGc hT (by omega) (by omega) hok h k
                · rw [if_neg hop] at h
                  cases h
              · rw [if_neg hlt] at h hok
                by_cases hop : i.2.1 = 91
                · rw [if_pos hop] at h hok
                  exact sx_p91 X hGc hT (by omega) (by omega) hok h k
                · rw [if_neg hop] at h
                  cases h
end SXT
