/-! What the tables give at the law's entry -/
theorem ev_arrT {s : State} {cA : ClassId} {k : Class} {comp : ClassId} {ty : FieldType} (hk : s.vm.classes[cA]? = some k) (hkind : k.kind = .array comp ty) : ArrOfT s cA ty := fun n z => ⟨(fun _ h => by cases h), k, hk, comp, hkind⟩
theorem ev_arr_prim {args : Array Value} {s : State} {ty : FieldType} (h : (Cond.arrayClass ty).before args s = true) (hp : ∀ C, ty ≠ .object C) : ∃ cA : ClassId, ArrOfT s cA ty ∧ va_RA s cA ty := by
  obtain ⟨c, k, comp, h1, h2, h3⟩ := Cond.arrayClass_spec h
  refine ⟨c, ev_arrT h2 h3, ?_⟩
  cases ty with
  | object C => exact absurd rfl (hp C)
  | _ => exact h1
theorem ev_arr_obj {args : Array Value} {s : State} {C : String} (h : (Cond.arrayOver (.object C)).before args s = true) : ∃ cA : ClassId, ArrOfT s cA (.object C) ∧ va_RA s cA (.object C) := by
  obtain ⟨comp, c, k, h1, h2, h3, h4, h5⟩ := Cond.arrayOver_spec h
  exact ⟨c, ev_arrT h3 h4, k, comp, h3, h4, h1, h5⟩
theorem ev_arr_arr {args : Array Value} {s : State} {t : FieldType} (h : (Cond.arrayOver (.array t)).before args s = true) : ∃ cA : ClassId, ArrOfT s cA (.array t) ∧ va_RA s cA (.array t) := by
  obtain ⟨comp, c, k, h1, h2, h3, h4, h5⟩ := arrayOverA_spec h
  exact ⟨c, ev_arrT h3 h4, h5⟩
theorem ct_K {args : Array Value} {s : State} (hts : ∀ w ∈ ct_gs, w.before args s = true) (hb : (Cond.arrayClass .byte).before args s = true) (hi : (Cond.arrayClass .int).before args s = true) (hl : (Cond.arrayClass .long).before args s = true) (hz : (Cond.arrayClass .boolean).before args s = true) (ha : (Cond.arrayOver (.object "TrustedMachine$Applet")).before args s = true) (hse : (Cond.arrayOver (.object "TrustedMachine$Session")).before args s = true) (hbb : (Cond.arrayOver (.array .byte)).before args s = true) (hll : (Cond.arrayOver (.array .long)).before args s = true) : ∃ (D : va_G) (dA : Nat → ClassId), ev_K D ct_cl dA ct_kt s := by
  have h1 : ∀ c : Nat, ∃ p : ClassId × (Nat → Nat), ∀ q : vw_C, ct_cl[c]? = some q → u_Kn s q.1 q.2.1 q.2.2 p.1 p.2 := by
    intro c
    cases hc : ct_all[c]? with
    | none =>
      refine ⟨(0, fun _ => 0), fun q hq => ?_⟩
      have e1 : ct_all.length ≤ c := List.getElem?_eq_none_iff.mp hc
      have e2 : ct_cl.length = ct_all.length := rfl
      rw [List.getElem?_eq_none (by rw [e2]; exact e1)] at hq
      cases hq
    | some q =>
      obtain ⟨a1, a2, a3, a4, a5, a6, a7, a8⟩ := ct_ok.1 c q hc
      obtain ⟨cC, iS, hK⟩ := u_known hts a1 (hts _ a5)
      refine ⟨(cC, iS), fun q' hq' => ?_⟩
      rw [a2] at hq'
      obtain rfl := Option.some.inj hq'
      exact hK
  have h2 : ∀ k : Nat, ∃ cA : ClassId, ∀ ty : FieldType, ct_kt[k]? = some ty → ArrOfT s cA ty ∧ va_RA s cA ty := by
    intro k
    match k with
    | 0 => obtain ⟨c, h⟩ := ev_arr_prim hb (fun C q => by cases q); exact ⟨c, fun ty hty => by obtain rfl := Option.some.inj hty; exact h⟩
    | 1 => obtain ⟨c, h⟩ := ev_arr_prim hi (fun C q => by cases q); exact ⟨c, fun ty hty => by obtain rfl := Option.some.inj hty; exact h⟩
    | 2 => obtain ⟨c, h⟩ := ev_arr_prim hl (fun C q => by cases q); exact ⟨c, fun ty hty => by obtain rfl := Option.some.inj hty; exact h⟩
    | 3 => obtain ⟨c, h⟩ := ev_arr_prim hz (fun C q => by cases q); exact ⟨c, fun ty hty => by obtain rfl := Option.some.inj hty; exact h⟩
    | 4 => obtain ⟨c, h⟩ := ev_arr_obj ha; exact ⟨c, fun ty hty => by obtain rfl := Option.some.inj hty; exact h⟩
    | 5 => obtain ⟨c, h⟩ := ev_arr_obj hse; exact ⟨c, fun ty hty => by obtain rfl := Option.some.inj hty; exact h⟩
    | 6 => obtain ⟨c, h⟩ := ev_arr_arr hbb; exact ⟨c, fun ty hty => by obtain rfl := Option.some.inj hty; exact h⟩
    | 7 => obtain ⟨c, h⟩ := ev_arr_arr hll; exact ⟨c, fun ty hty => by obtain rfl := Option.some.inj hty; exact h⟩
    | k + 8 => exact ⟨0, fun ty hty => by simp [ct_kt] at hty⟩
  obtain ⟨f, hf⟩ := Classical.axiomOfChoice h1
  obtain ⟨g, hg⟩ := Classical.axiomOfChoice h2
  refine ⟨(fun c => (f c).1, fun c => (f c).2), g, ⟨fun c q hq => hf c q hq, fun k q hq => ?_⟩, fun k C hk => ?_, fun k t hk => ?_⟩
  · unfold ev_tys at hq
    rw [List.getElem?_map] at hq
    cases hr : (List.range ct_kt.length)[k]? with
    | none => rw [hr] at hq; cases hq
    | some j =>
      rw [hr] at hq
      obtain rfl := Option.some.inj hq
      have hjk : j = k := by
        have := List.getElem?_eq_some_iff.mp hr
        obtain ⟨h3, h4⟩ := this
        rw [List.getElem_range] at h4
        exact h4.symm
      subst hjk
      have hlt : j < ct_kt.length := by
        have := (List.getElem?_eq_some_iff.mp hr).1
        rwa [List.length_range] at this
      exact hg j _ (by show ct_kt[j]? = some (ct_kt.getD j FieldType.int); rw [List.getD_eq_getElem?_getD, List.getElem?_eq_getElem hlt]; rfl)
  · match k, hk with
    | 4, hk => obtain rfl : "TrustedMachine$Applet" = C := by have := Option.some.inj hk; exact FieldType.object.inj this
               exact va_AO.of ha
    | 5, hk => obtain rfl : "TrustedMachine$Session" = C := by have := Option.some.inj hk; exact FieldType.object.inj this
               exact va_AO.of hse
    | 0, hk => cases Option.some.inj hk
    | 1, hk => cases Option.some.inj hk
    | 2, hk => cases Option.some.inj hk
    | 3, hk => cases Option.some.inj hk
    | 6, hk => cases Option.some.inj hk
    | 7, hk => cases Option.some.inj hk
    | k + 8, hk => simp [ct_kt] at hk
  · match k, hk with
    | 6, hk => obtain rfl : FieldType.byte = t := by have := Option.some.inj hk; exact FieldType.array.inj this
               exact hbb
    | 7, hk => obtain rfl : FieldType.long = t := by have := Option.some.inj hk; exact FieldType.array.inj this
               exact hll
    | 0, hk => cases Option.some.inj hk
    | 1, hk => cases Option.some.inj hk
    | 2, hk => cases Option.some.inj hk
    | 3, hk => cases Option.some.inj hk
    | 4, hk => cases Option.some.inj hk
    | 5, hk => cases Option.some.inj hk
    | k + 8, hk => simp [ct_kt] at hk
