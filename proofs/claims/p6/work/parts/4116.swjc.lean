/-! The calls by contract, with what they do to the relation. Written by a program (wip/start/gen4116.py). -/
theorem sw_rpT {x : Int} {v : Int32} {ad : List Nat} {hu : sx_H} (b : sx_res sz_Y [x] sw_kd ad hu tz38_C.2.2.2.2.2.2.2.2.2 (some (.int v))) : v.toInt = if 0 ≤ x ∧ x ≤ 63 then 1 else 0 := by
  obtain ⟨o, ho, x1, c1, c2, c3, c4⟩ := b
  simp only [tz38_C, List.mem_cons, List.not_mem_nil, or_false] at ho
  rcases ho with rfl | rfl | rfl
  all_goals
    obtain rfl := sz_bn c1
    obtain ⟨i, e, h⟩ := sx_vr.int c3 rfl
    cases e
    simp [sx_fs, sx_ev, sx_dot] at c2 h
    split <;> omega
theorem sw_rpR {x : Int} {v : Int32} {ad : List Nat} {hu : sx_H} (b : sx_res sz_Y [x] sw_kd ad hu rz40_C.2.2.2.2.2.2.2.2.2 (some (.int v))) : v.toInt = if 0 ≤ x ∧ x ≤ 63 then 1 else 0 := by
  obtain ⟨o, ho, x1, c1, c2, c3, c4⟩ := b
  simp only [rz40_C, List.mem_cons, List.not_mem_nil, or_false] at ho
  rcases ho with rfl | rfl | rfl
  all_goals
    obtain rfl := sz_bn c1
    obtain ⟨i, e, h⟩ := sx_vr.int c3 rfl
    cases e
    simp [sx_fs, sx_ev, sx_dot] at c2 h
    split <;> omega
set_option maxRecDepth 100000 in
theorem sw_k692 : sw_kd[692]? = some (92, 0) := by decide +kernel
set_option maxRecDepth 100000 in
theorem sw_k792 : sw_kd[792]? = some (212, 0) := by decide +kernel
theorem jo_T_feed {l : Launch} {D : va_G} {dA : Nat → ClassId} {ad : List Nat} {hh : sx_H} {ax : Nat} {n1 n2 n3 n4 n5 : Int32} {o o' : Option (Int × Int)} (ha : ad[0]? = some ax) (hI : sw_I hh) (hm : jT hh o) (ho : jR hh o') : sw_Ok l D dA ad room_1 (sy_my 0 17 18) prog_1_method_2_code 6 ((some .boolean)) [Value.ref ax, Value.int n1, Value.int n2, Value.int n3, Value.int n4, Value.int n5] hh (fun rv hu => sw_I hu ∧ jT hu (jn_feed o) ∧ jR hu o' ∧ ∃ v : Int32, rv = some (.int v)) := by
  have hPg : sy_pg[1]? = some ((sy_my 0 17 18, prog_1_method_2_code, 6, (some .boolean)), sy_c1) := rfl
  cases o with
  | none =>
    exact ⟨tz1_C, [n1.toInt, n2.toInt, n3.toInt, n4.toInt, n5.toInt], ((tz1_M l D dA) tz1_C List.mem_cons_self _ _ _ _ _ hPg).2, ⟨by decide, by decide⟩, sw_bI [n1, n2, n3, n4, n5], (fun f hf => by cases hf), ⟨sx_vr.rf ⟨0, 0, _, rfl, rfl, ha, rfl⟩, sx_vr.it (by simp [sx_ev, sx_dot]), sx_vr.it (by simp [sx_ev, sx_dot]), sx_vr.it (by simp [sx_ev, sx_dot]), sx_vr.it (by simp [sx_ev, sx_dot]), sx_vr.it (by simp [sx_ev, sx_dot]), trivial⟩, sw_gI_ok (by decide +kernel) hI, fun rv hu b c => ⟨sw_iI_ok (q := tz1_C) (by decide +kernel) b c hI, jT_frA (by decide +kernel) c hm, jR_fr (by decide +kernel) c ho, sw_rI_ok (q := tz1_C) (by decide +kernel) b⟩⟩
  | some q =>
    obtain ⟨a1, a2, a3, a4, a5, a6⟩ := hm
    refine ⟨kz1_C, [n1.toInt, n2.toInt, n3.toInt, n4.toInt, n5.toInt, q.1], ((kz1_M l D dA) kz1_C List.mem_cons_self _ _ _ _ _ hPg).2, ⟨by decide, by decide⟩, ⟨(sw_i32 n1).1, (sw_i32 n1).2, (sw_i32 n2).1, (sw_i32 n2).2, (sw_i32 n3).1, (sw_i32 n3).2, (sw_i32 n4).1, (sw_i32 n4).2, (sw_i32 n5).1, (sw_i32 n5).2, a4.1, a4.2, trivial⟩, (fun f hf => by cases hf), ⟨sx_vr.rf ⟨0, 0, _, rfl, rfl, ha, rfl⟩, sx_vr.it (by simp [sx_ev, sx_dot]), sx_vr.it (by simp [sx_ev, sx_dot]), sx_vr.it (by simp [sx_ev, sx_dot]), sx_vr.it (by simp [sx_ev, sx_dot]), sx_vr.it (by simp [sx_ev, sx_dot]), trivial⟩, ⟨fun g hg => ?_, sw_gP_ok (by decide +kernel) hI⟩, fun rv hu b c => ⟨sw_iI_ok (q := kz1_C) (by decide +kernel) b c hI, ?_⟩⟩
    · simp only [kz1_C, List.mem_cons, List.not_mem_nil, or_false] at hg
      subst hg
      simp [sx_ev, sx_dot, a3]
    have ho' := jR_fr (Mc := kz1_C.2.2.2.2.2.2.2.2.1) (by decide +kernel) c ho
    obtain ⟨ou, hou, x1, c1, c2, c3, c4⟩ := b
    simp only [kz1_C, List.mem_cons, List.not_mem_nil, or_false] at hou
    rcases hou with rfl | rfl
    · obtain rfl := sz_bn c1
      obtain ⟨v, rfl, hv⟩ := sw_rri c3
      simp [sx_ev, sx_dot] at hv
      simp [sx_fs, sx_ev, sx_dot] at c2
      have cg := c4.1
      simp [sx_ev, sx_dot] at cg
      have e1 : hu 91 0 9 = hh 91 0 9 := c 91 0 9 (by decide +kernel)
      have e2 : hu 85 0 11 = hh 85 0 11 := c 85 0 11 (by decide +kernel)
      have e4 : ∀ i : Int, hu 87 i 3 = hh 87 i 3 := fun i => c 87 i 3 (by decide +kernel)
      refine ⟨⟨by omega, by omega, ?_, ?_, a5, fun j h0 h8 => by rw [e4]; exact a6 j h0 h8⟩, ho', v, rfl⟩
      · dsimp only; split <;> omega
      · dsimp only; split <;> omega
    · obtain rfl := sz_bn c1
      obtain ⟨v, rfl, hv⟩ := sw_rri c3
      simp [sx_ev, sx_dot] at hv
      simp [sx_fs, sx_ev, sx_dot] at c2
      have cg := c4.1
      simp [sx_ev, sx_dot] at cg
      have e1 : hu 91 0 9 = hh 91 0 9 := c 91 0 9 (by decide +kernel)
      have e2 : hu 85 0 11 = hh 85 0 11 := c 85 0 11 (by decide +kernel)
      have e4 : ∀ i : Int, hu 87 i 3 = hh 87 i 3 := fun i => c 87 i 3 (by decide +kernel)
      refine ⟨⟨by omega, by omega, ?_, ?_, a5, fun j h0 h8 => by rw [e4]; exact a6 j h0 h8⟩, ho', v, rfl⟩
      · dsimp only; split <;> omega
      · dsimp only; split <;> omega
theorem jo_R_feed {l : Launch} {D : va_G} {dA : Nat → ClassId} {ad : List Nat} {hh : sx_H} {ax : Nat} {n1 n2 n3 n4 n5 : Int32} {o o' : Option (Int × Int)} (ha : ad[692]? = some ax) (hI : sw_I hh) (hm : jR hh o) (ho : jT hh o') (hz : ∀ q, o = some q → (0 ≤ q.1 ∧ q.1 ≤ 1100) ∧ (0 ≤ q.2 ∧ q.2 ≤ 8)) : sw_Ok l D dA ad room_1 (sy_my 12 17 18) prog_14_method_3_code 8 ((some .boolean)) [Value.ref ax, Value.int n1, Value.int n2, Value.int n3, Value.int n4, Value.int n5] hh (fun rv hu => sw_I hu ∧ jR hu (jn_feed o) ∧ jT hu o' ∧ ∃ v : Int32, rv = some (.int v)) := by
  have hPg : sy_pg[196]? = some ((sy_my 12 17 18, prog_14_method_3_code, 8, (some .boolean)), sy_c196) := rfl
  cases o with
  | none =>
    exact ⟨rz0_C, [n1.toInt, n2.toInt, n3.toInt, n4.toInt, n5.toInt], ((rz0_M l D dA) rz0_C List.mem_cons_self _ _ _ _ _ hPg).2, ⟨by decide, by decide⟩, sw_bI [n1, n2, n3, n4, n5], (fun f hf => by cases hf), ⟨sx_vr.rf ⟨692, 0, _, sw_k692, rfl, ha, rfl⟩, sx_vr.it (by simp [sx_ev, sx_dot]), sx_vr.it (by simp [sx_ev, sx_dot]), sx_vr.it (by simp [sx_ev, sx_dot]), sx_vr.it (by simp [sx_ev, sx_dot]), sx_vr.it (by simp [sx_ev, sx_dot]), trivial⟩, sw_gI_ok (by decide +kernel) hI, fun rv hu b c => ⟨sw_iI_ok (q := rz0_C) (by decide +kernel) b c hI, jR_frA (by decide +kernel) c hm, jT_fr (by decide +kernel) c ho, sw_rI_ok (q := rz0_C) (by decide +kernel) b⟩⟩
  | some q =>
    obtain ⟨a1, a2, a3, a4⟩ := hm
    obtain ⟨z1, z2⟩ := hz q rfl
    refine ⟨kz39_C, [n1.toInt, n2.toInt, n3.toInt, n4.toInt, n5.toInt, q.1], ((kz39_M l D dA) kz39_C List.mem_cons_self _ _ _ _ _ hPg).2, ⟨by decide, by decide⟩, ⟨(sw_i32 n1).1, (sw_i32 n1).2, (sw_i32 n2).1, (sw_i32 n2).2, (sw_i32 n3).1, (sw_i32 n3).2, (sw_i32 n4).1, (sw_i32 n4).2, (sw_i32 n5).1, (sw_i32 n5).2, z1.1, z1.2, trivial⟩, (fun f hf => by cases hf), ⟨sx_vr.rf ⟨692, 0, _, sw_k692, rfl, ha, rfl⟩, sx_vr.it (by simp [sx_ev, sx_dot]), sx_vr.it (by simp [sx_ev, sx_dot]), sx_vr.it (by simp [sx_ev, sx_dot]), sx_vr.it (by simp [sx_ev, sx_dot]), sx_vr.it (by simp [sx_ev, sx_dot]), trivial⟩, ⟨fun g hg => ?_, sw_gP_ok (by decide +kernel) hI⟩, fun rv hu b c => ⟨sw_iI_ok (q := kz39_C) (by decide +kernel) b c hI, ?_⟩⟩
    · simp only [kz39_C, List.mem_cons, List.not_mem_nil, or_false] at hg
      subst hg
      simp [sx_ev, sx_dot, a3]
    have ho' := jT_fr (Mc := kz39_C.2.2.2.2.2.2.2.2.1) (by decide +kernel) c ho
    obtain ⟨ou, hou, x1, c1, c2, c3, c4⟩ := b
    simp only [kz39_C, List.mem_cons, List.not_mem_nil, or_false] at hou
    rcases hou with rfl | rfl
    · obtain rfl := sz_bn c1
      obtain ⟨v, rfl, hv⟩ := sw_rri c3
      simp [sx_ev, sx_dot] at hv
      simp [sx_fs, sx_ev, sx_dot] at c2
      have cg := c4.1
      simp [sx_ev, sx_dot] at cg
      have e1 : hu 92 0 4 = hh 92 0 4 := c 92 0 4 (by decide +kernel)
      have e2 : hu 92 0 3 = hh 92 0 3 := c 92 0 3 (by decide +kernel)
      have e4 : hu 92 0 11 = hh 92 0 11 := c 92 0 11 (by decide +kernel)
      refine ⟨⟨by omega, by omega, ?_, by omega⟩, ho', v, rfl⟩
      dsimp only; split <;> omega
    · obtain rfl := sz_bn c1
      obtain ⟨v, rfl, hv⟩ := sw_rri c3
      simp [sx_ev, sx_dot] at hv
      simp [sx_fs, sx_ev, sx_dot] at c2
      have cg := c4.1
      simp [sx_ev, sx_dot] at cg
      have e1 : hu 92 0 4 = hh 92 0 4 := c 92 0 4 (by decide +kernel)
      have e2 : hu 92 0 3 = hh 92 0 3 := c 92 0 3 (by decide +kernel)
      have e4 : hu 92 0 11 = hh 92 0 11 := c 92 0 11 (by decide +kernel)
      refine ⟨⟨by omega, by omega, ?_, by omega⟩, ho', v, rfl⟩
      dsimp only; split <;> omega
theorem jo_T_end {l : Launch} {D : va_G} {dA : Nat → ClassId} {ad : List Nat} {hh : sx_H} {ax : Nat} {n1 : Int32} {o o' : Option (Int × Int)} (ha : ad[0]? = some ax) (hI : sw_I hh) (hm : jT hh o) (ho : jR hh o') : sw_Ok l D dA ad room_1 (sy_my 0 19 20) prog_1_method_3_code 2 ((some .boolean)) [Value.ref ax, Value.int n1] hh (fun rv hu => sw_I hu ∧ jT hu (jn_end n1.toInt o) ∧ jR hu o' ∧ ∃ v : Int32, rv = some (.int v)) := by
  have hPg : sy_pg[2]? = some ((sy_my 0 19 20, prog_1_method_3_code, 2, (some .boolean)), sy_c2) := rfl
  cases o with
  | none =>
    exact ⟨tz2_C, [n1.toInt], ((tz2_M l D dA) tz2_C List.mem_cons_self _ _ _ _ _ hPg).2, ⟨by decide, by decide⟩, sw_bI [n1], (fun f hf => by cases hf), ⟨sx_vr.rf ⟨0, 0, _, rfl, rfl, ha, rfl⟩, sx_vr.it (by simp [sx_ev, sx_dot]), trivial⟩, sw_gI_ok (by decide +kernel) hI, fun rv hu b c => ⟨sw_iI_ok (q := tz2_C) (by decide +kernel) b c hI, jT_frA (by decide +kernel) c hm, jR_fr (by decide +kernel) c ho, sw_rI_ok (q := tz2_C) (by decide +kernel) b⟩⟩
  | some q =>
    obtain ⟨a1, a2, a3, a4, a5, a6⟩ := hm
    refine ⟨kz2_C, [n1.toInt, q.1], ((kz2_M l D dA) kz2_C List.mem_cons_self _ _ _ _ _ hPg).2, ⟨by decide, by decide⟩, ⟨(sw_i32 n1).1, (sw_i32 n1).2, a4.1, a4.2, trivial⟩, (fun f hf => by cases hf), ⟨sx_vr.rf ⟨0, 0, _, rfl, rfl, ha, rfl⟩, sx_vr.it (by simp [sx_ev, sx_dot]), trivial⟩, ⟨fun g hg => ?_, sw_gP_ok (by decide +kernel) hI⟩, fun rv hu b c => ⟨sw_iI_ok (q := kz2_C) (by decide +kernel) b c hI, ?_⟩⟩
    · simp only [kz2_C, List.mem_cons, List.not_mem_nil, or_false] at hg
      subst hg
      simp [sx_ev, sx_dot, a3]
    have ho' := jR_fr (Mc := kz2_C.2.2.2.2.2.2.2.2.1) (by decide +kernel) c ho
    obtain ⟨ou, hou, x1, c1, c2, c3, c4⟩ := b
    simp only [kz2_C, List.mem_cons, List.not_mem_nil, or_false] at hou
    rcases hou with rfl | rfl | rfl
    · obtain rfl := sz_bn c1
      obtain ⟨v, rfl, hv⟩ := sw_rri c3
      simp [sx_ev, sx_dot] at hv
      simp [sx_fs, sx_ev, sx_dot] at c2
      have cg := c4.1
      simp [sx_ev, sx_dot] at cg
      have e1 : hu 91 0 9 = hh 91 0 9 := c 91 0 9 (by decide +kernel)
      have e2 : hu 85 0 11 = hh 85 0 11 := c 85 0 11 (by decide +kernel)
      have e4 : ∀ i : Int, hu 87 i 3 = hh 87 i 3 := fun i => c 87 i 3 (by decide +kernel)
      refine ⟨⟨by omega, by omega, ?_, ?_, a5, fun j h0 h8 => by rw [e4]; exact a6 j h0 h8⟩, ho', v, rfl⟩
      · dsimp only; split <;> omega
      · dsimp only; split <;> omega
    · obtain rfl := sz_bn c1
      obtain ⟨v, rfl, hv⟩ := sw_rri c3
      simp [sx_ev, sx_dot] at hv
      simp [sx_fs, sx_ev, sx_dot] at c2
      have cg := c4.1
      simp [sx_ev, sx_dot] at cg
      have e1 : hu 91 0 9 = hh 91 0 9 := c 91 0 9 (by decide +kernel)
      have e2 : hu 85 0 11 = hh 85 0 11 := c 85 0 11 (by decide +kernel)
      have e4 : ∀ i : Int, hu 87 i 3 = hh 87 i 3 := fun i => c 87 i 3 (by decide +kernel)
      refine ⟨⟨by omega, by omega, ?_, ?_, a5, fun j h0 h8 => by rw [e4]; exact a6 j h0 h8⟩, ho', v, rfl⟩
      · dsimp only; split <;> omega
      · dsimp only; split <;> omega
    · obtain rfl := sz_bn c1
      obtain ⟨v, rfl, hv⟩ := sw_rri c3
      simp [sx_ev, sx_dot] at hv
      simp [sx_fs, sx_ev, sx_dot] at c2
      have cg := c4.1
      simp [sx_ev, sx_dot] at cg
      have e1 : hu 91 0 9 = hh 91 0 9 := c 91 0 9 (by decide +kernel)
      have e2 : hu 85 0 11 = hh 85 0 11 := c 85 0 11 (by decide +kernel)
      have e4 : ∀ i : Int, hu 87 i 3 = hh 87 i 3 := fun i => c 87 i 3 (by decide +kernel)
      refine ⟨⟨by omega, by omega, ?_, ?_, a5, fun j h0 h8 => by rw [e4]; exact a6 j h0 h8⟩, ho', v, rfl⟩
      · dsimp only; split <;> omega
      · dsimp only; split <;> omega
theorem jo_R_end {l : Launch} {D : va_G} {dA : Nat → ClassId} {ad : List Nat} {hh : sx_H} {ax : Nat} {n1 : Int32} {o o' : Option (Int × Int)} (ha : ad[692]? = some ax) (hI : sw_I hh) (hm : jR hh o) (ho : jT hh o') (hz : ∀ q, o = some q → (0 ≤ q.1 ∧ q.1 ≤ 1100) ∧ (0 ≤ q.2 ∧ q.2 ≤ 8)) : sw_Ok l D dA ad room_1 (sy_my 12 19 20) prog_14_method_4_code 2 ((some .boolean)) [Value.ref ax, Value.int n1] hh (fun rv hu => sw_I hu ∧ jR hu (jn_end n1.toInt o) ∧ jT hu o' ∧ ∃ v : Int32, rv = some (.int v)) := by
  have hPg : sy_pg[197]? = some ((sy_my 12 19 20, prog_14_method_4_code, 2, (some .boolean)), sy_c197) := rfl
  cases o with
  | none =>
    exact ⟨rz1_C, [n1.toInt], ((rz1_M l D dA) rz1_C List.mem_cons_self _ _ _ _ _ hPg).2, ⟨by decide, by decide⟩, sw_bI [n1], (fun f hf => by cases hf), ⟨sx_vr.rf ⟨692, 0, _, sw_k692, rfl, ha, rfl⟩, sx_vr.it (by simp [sx_ev, sx_dot]), trivial⟩, sw_gI_ok (by decide +kernel) hI, fun rv hu b c => ⟨sw_iI_ok (q := rz1_C) (by decide +kernel) b c hI, jR_frA (by decide +kernel) c hm, jT_fr (by decide +kernel) c ho, sw_rI_ok (q := rz1_C) (by decide +kernel) b⟩⟩
  | some q =>
    obtain ⟨a1, a2, a3, a4⟩ := hm
    obtain ⟨z1, z2⟩ := hz q rfl
    refine ⟨kz40_C, [n1.toInt, q.1], ((kz40_M l D dA) kz40_C List.mem_cons_self _ _ _ _ _ hPg).2, ⟨by decide, by decide⟩, ⟨(sw_i32 n1).1, (sw_i32 n1).2, z1.1, z1.2, trivial⟩, (fun f hf => by cases hf), ⟨sx_vr.rf ⟨692, 0, _, sw_k692, rfl, ha, rfl⟩, sx_vr.it (by simp [sx_ev, sx_dot]), trivial⟩, ⟨fun g hg => ?_, sw_gP_ok (by decide +kernel) hI⟩, fun rv hu b c => ⟨sw_iI_ok (q := kz40_C) (by decide +kernel) b c hI, ?_⟩⟩
    · simp only [kz40_C, List.mem_cons, List.not_mem_nil, or_false] at hg
      subst hg
      simp [sx_ev, sx_dot, a3]
    have ho' := jT_fr (Mc := kz40_C.2.2.2.2.2.2.2.2.1) (by decide +kernel) c ho
    obtain ⟨ou, hou, x1, c1, c2, c3, c4⟩ := b
    simp only [kz40_C, List.mem_cons, List.not_mem_nil, or_false] at hou
    rcases hou with rfl | rfl | rfl
    · obtain rfl := sz_bn c1
      obtain ⟨v, rfl, hv⟩ := sw_rri c3
      simp [sx_ev, sx_dot] at hv
      simp [sx_fs, sx_ev, sx_dot] at c2
      have cg := c4.1
      simp [sx_ev, sx_dot] at cg
      have e1 : hu 92 0 4 = hh 92 0 4 := c 92 0 4 (by decide +kernel)
      have e2 : hu 92 0 3 = hh 92 0 3 := c 92 0 3 (by decide +kernel)
      have e4 : hu 92 0 11 = hh 92 0 11 := c 92 0 11 (by decide +kernel)
      refine ⟨⟨by omega, by omega, ?_, by omega⟩, ho', v, rfl⟩
      dsimp only; split <;> omega
    · obtain rfl := sz_bn c1
      obtain ⟨v, rfl, hv⟩ := sw_rri c3
      simp [sx_ev, sx_dot] at hv
      simp [sx_fs, sx_ev, sx_dot] at c2
      have cg := c4.1
      simp [sx_ev, sx_dot] at cg
      have e1 : hu 92 0 4 = hh 92 0 4 := c 92 0 4 (by decide +kernel)
      have e2 : hu 92 0 3 = hh 92 0 3 := c 92 0 3 (by decide +kernel)
      have e4 : hu 92 0 11 = hh 92 0 11 := c 92 0 11 (by decide +kernel)
      refine ⟨⟨by omega, by omega, ?_, by omega⟩, ho', v, rfl⟩
      dsimp only; split <;> omega
    · obtain rfl := sz_bn c1
      obtain ⟨v, rfl, hv⟩ := sw_rri c3
      simp [sx_ev, sx_dot] at hv
      simp [sx_fs, sx_ev, sx_dot] at c2
      have cg := c4.1
      simp [sx_ev, sx_dot] at cg
      have e1 : hu 92 0 4 = hh 92 0 4 := c 92 0 4 (by decide +kernel)
      have e2 : hu 92 0 3 = hh 92 0 3 := c 92 0 3 (by decide +kernel)
      have e4 : hu 92 0 11 = hh 92 0 11 := c 92 0 11 (by decide +kernel)
      refine ⟨⟨by omega, by omega, ?_, by omega⟩, ho', v, rfl⟩
      dsimp only; split <;> omega
theorem jo_T_burn {l : Launch} {D : va_G} {dA : Nat → ClassId} {ad : List Nat} {hh : sx_H} {ax : Nat} {n1 : Int32} {o o' : Option (Int × Int)} (ha : ad[0]? = some ax) (hI : sw_I hh) (hm : jT hh o) (ho : jR hh o') : sw_Ok l D dA ad room_1 (sy_my 0 27 28) prog_1_method_4_code 3 ((some .int)) [Value.ref ax, Value.int n1] hh (fun rv hu => sw_I hu ∧ jT hu (jn_burn n1.toInt o) ∧ jR hu o' ∧ ∃ v : Int32, rv = some (.int v) ∧ v.toInt = ja_burn n1.toInt o) := by
  have hPg : sy_pg[6]? = some ((sy_my 0 27 28, prog_1_method_4_code, 3, (some .int)), sy_c6) := rfl
  cases o with
  | none =>
    have e2 : hh 91 0 9 = 1 := hm
    refine ⟨kz3_C, [n1.toInt, 1], ((kz3_M l D dA) kz3_C List.mem_cons_self _ _ _ _ _ hPg).2, ⟨by decide, by decide⟩, ⟨(sw_i32 n1).1, (sw_i32 n1).2, (by decide), (by decide), trivial⟩, (fun f hf => by cases hf), ⟨sx_vr.rf ⟨0, 0, _, rfl, rfl, ha, rfl⟩, sx_vr.it (by simp [sx_ev, sx_dot]), trivial⟩, ⟨fun g hg => ?_, sw_gP_ok (by decide +kernel) hI⟩, fun rv hu b c => ⟨sw_iI_ok (q := kz3_C) (by decide +kernel) b c hI, ?_⟩⟩
    · simp only [kz3_C, List.mem_cons, List.not_mem_nil, or_false] at hg
      subst hg
      simp [sx_ev, sx_dot, e2]
    have ho' := jR_fr (Mc := kz3_C.2.2.2.2.2.2.2.2.1) (by decide +kernel) c ho
    obtain ⟨ou, hou, x1, c1, c2, c3, c4⟩ := b
    simp only [kz3_C, List.mem_cons, List.not_mem_nil, or_false] at hou
    subst hou
    obtain rfl := sz_bn c1
    obtain ⟨v, rfl, hv⟩ := sw_rri c3
    simp [sx_ev, sx_dot] at hv
    exact ⟨jT_frA (Mc := kz3_C.2.2.2.2.2.2.2.2.1) (by decide +kernel) c hm, ho', v, rfl, by simp [ja_burn]; omega⟩
  | some q =>
    obtain ⟨q1, q2⟩ := q
    obtain ⟨a1, a2, a3, a4, a5, a6⟩ := id hm
    dsimp only at a3 a4 a5 a6
    obtain ⟨u0, w0⟩ := a6 0 (by decide) (by decide)
    obtain ⟨u1, w1⟩ := a6 1 (by decide) (by decide)
    obtain ⟨u2, w2⟩ := a6 2 (by decide) (by decide)
    obtain ⟨u3, w3⟩ := a6 3 (by decide) (by decide)
    obtain ⟨u4, w4⟩ := a6 4 (by decide) (by decide)
    obtain ⟨u5, w5⟩ := a6 5 (by decide) (by decide)
    obtain ⟨u6, w6⟩ := a6 6 (by decide) (by decide)
    obtain ⟨u7, w7⟩ := a6 7 (by decide) (by decide)
    have hq : q2 = 0 ∨ q2 = 1 ∨ q2 = 2 ∨ q2 = 3 ∨ q2 = 4 ∨ q2 = 5 ∨ q2 = 6 ∨ q2 = 7 ∨ q2 = 8 := by omega
    rcases hq with rfl | rfl | rfl | rfl | rfl | rfl | rfl | rfl | rfl
    · have k0 : -1 ≤ hh 87 0 3 ∧ hh 87 0 3 ≤ -1 := by omega
      have k1 : -1 ≤ hh 87 1 3 ∧ hh 87 1 3 ≤ -1 := by omega
      have k2 : -1 ≤ hh 87 2 3 ∧ hh 87 2 3 ≤ -1 := by omega
      have k3 : -1 ≤ hh 87 3 3 ∧ hh 87 3 3 ≤ -1 := by omega
      have k4 : -1 ≤ hh 87 4 3 ∧ hh 87 4 3 ≤ -1 := by omega
      have k5 : -1 ≤ hh 87 5 3 ∧ hh 87 5 3 ≤ -1 := by omega
      have k6 : -1 ≤ hh 87 6 3 ∧ hh 87 6 3 ≤ -1 := by omega
      have k7 : -1 ≤ hh 87 7 3 ∧ hh 87 7 3 ≤ -1 := by omega
      refine ⟨kz11_C, [n1.toInt, 0, hh 87 0 3, hh 87 1 3, hh 87 2 3, hh 87 3 3, hh 87 4 3, hh 87 5 3, hh 87 6 3, hh 87 7 3], ((kz11_M l D dA) kz11_C List.mem_cons_self _ _ _ _ _ hPg).2, ⟨by decide, by decide⟩, ⟨(sw_i32 n1).1, (sw_i32 n1).2, (by decide), (by decide), k0.1, k0.2, k1.1, k1.2, k2.1, k2.2, k3.1, k3.2, k4.1, k4.2, k5.1, k5.2, k6.1, k6.2, k7.1, k7.2, trivial⟩, (fun f hf => by cases hf), ⟨sx_vr.rf ⟨0, 0, _, rfl, rfl, ha, rfl⟩, sx_vr.it (by simp [sx_ev, sx_dot]), trivial⟩, ⟨fun g hg => ?_, sw_gP_ok (by decide +kernel) hI⟩, fun rv hu b c => ⟨sw_iI_ok (q := kz11_C) (by decide +kernel) b c hI, ?_⟩⟩
      · simp only [kz11_C, List.mem_cons, List.not_mem_nil, or_false] at hg
        rcases hg with rfl | rfl | rfl | rfl | rfl | rfl | rfl | rfl | rfl <;> simp [sx_ev, sx_dot, a1]
      have ho' := jR_fr (Mc := kz11_C.2.2.2.2.2.2.2.2.1) (by decide +kernel) c ho
      obtain ⟨ou, hou, x1, c1, c2, c3, c4⟩ := b
      simp only [kz11_C, List.mem_cons, List.not_mem_nil, or_false] at hou
      rcases hou with rfl | rfl | rfl
      · obtain rfl := sz_bn c1
        obtain ⟨v, rfl, hv⟩ := sw_rri c3
        simp [sx_ev, sx_dot] at hv
        simp [sx_fs, sx_ev, sx_dot] at c2
        have cg := c4.1
        simp [sx_ev, sx_dot] at cg
        have e1 : hu 91 0 9 = hh 91 0 9 := c 91 0 9 (by decide +kernel)
        have e2 : hu 85 0 11 = hh 85 0 11 := c 85 0 11 (by decide +kernel)
        have e3 : hu 91 0 8 = hh 91 0 8 := c 91 0 8 (by decide +kernel)
        refine ⟨⟨by omega, by omega, by dsimp only; omega, a4, by dsimp only; split <;> omega, fun j h0 h8 => ?_⟩, ho', v, rfl, ?_⟩
        · have hj : j = 0 ∨ j = 1 ∨ j = 2 ∨ j = 3 ∨ j = 4 ∨ j = 5 ∨ j = 6 ∨ j = 7 := by omega
          dsimp only
          have hs : (if 0 ≤ n1.toInt ∧ n1.toInt ≤ 7 ∧ (0 : Int) < 8 then (0 : Int) + 1 else 0) = 0 := by split <;> omega
          rw [hs]
          rcases hj with rfl | rfl | rfl | rfl | rfl | rfl | rfl | rfl <;> omega
        · show v.toInt = if 0 ≤ n1.toInt ∧ n1.toInt ≤ 7 ∧ (0 : Int) < 8 then 0 else -1
          split <;> omega
      · obtain rfl := sz_bn c1
        obtain ⟨v, rfl, hv⟩ := sw_rri c3
        simp [sx_ev, sx_dot] at hv
        simp [sx_fs, sx_ev, sx_dot] at c2
        have cg := c4.1
        simp [sx_ev, sx_dot] at cg
        have e1 : hu 91 0 9 = hh 91 0 9 := c 91 0 9 (by decide +kernel)
        have e2 : hu 85 0 11 = hh 85 0 11 := c 85 0 11 (by decide +kernel)
        have e3 : hu 91 0 8 = hh 91 0 8 := c 91 0 8 (by decide +kernel)
        refine ⟨⟨by omega, by omega, by dsimp only; omega, a4, by dsimp only; split <;> omega, fun j h0 h8 => ?_⟩, ho', v, rfl, ?_⟩
        · have hj : j = 0 ∨ j = 1 ∨ j = 2 ∨ j = 3 ∨ j = 4 ∨ j = 5 ∨ j = 6 ∨ j = 7 := by omega
          dsimp only
          have hs : (if 0 ≤ n1.toInt ∧ n1.toInt ≤ 7 ∧ (0 : Int) < 8 then (0 : Int) + 1 else 0) = 1 := by split <;> omega
          rw [hs]
          rcases hj with rfl | rfl | rfl | rfl | rfl | rfl | rfl | rfl <;> omega
        · show v.toInt = if 0 ≤ n1.toInt ∧ n1.toInt ≤ 7 ∧ (0 : Int) < 8 then 0 else -1
          split <;> omega
      · obtain rfl := sz_bn c1
        obtain ⟨v, rfl, hv⟩ := sw_rri c3
        simp [sx_ev, sx_dot] at hv
        simp [sx_fs, sx_ev, sx_dot] at c2
        have cg := c4.1
        simp [sx_ev, sx_dot] at cg
        have e1 : hu 91 0 9 = hh 91 0 9 := c 91 0 9 (by decide +kernel)
        have e2 : hu 85 0 11 = hh 85 0 11 := c 85 0 11 (by decide +kernel)
        have e3 : hu 91 0 8 = hh 91 0 8 := c 91 0 8 (by decide +kernel)
        refine ⟨⟨by omega, by omega, by dsimp only; omega, a4, by dsimp only; split <;> omega, fun j h0 h8 => ?_⟩, ho', v, rfl, ?_⟩
        · have hj : j = 0 ∨ j = 1 ∨ j = 2 ∨ j = 3 ∨ j = 4 ∨ j = 5 ∨ j = 6 ∨ j = 7 := by omega
          dsimp only
          have hs : (if 0 ≤ n1.toInt ∧ n1.toInt ≤ 7 ∧ (0 : Int) < 8 then (0 : Int) + 1 else 0) = 0 := by split <;> omega
          rw [hs]
          rcases hj with rfl | rfl | rfl | rfl | rfl | rfl | rfl | rfl <;> omega
        · show v.toInt = if 0 ≤ n1.toInt ∧ n1.toInt ≤ 7 ∧ (0 : Int) < 8 then 0 else -1
          split <;> omega
    · have k0 : 0 ≤ hh 87 0 3 ∧ hh 87 0 3 ≤ 7 := by omega
      have k1 : -1 ≤ hh 87 1 3 ∧ hh 87 1 3 ≤ -1 := by omega
      have k2 : -1 ≤ hh 87 2 3 ∧ hh 87 2 3 ≤ -1 := by omega
      have k3 : -1 ≤ hh 87 3 3 ∧ hh 87 3 3 ≤ -1 := by omega
      have k4 : -1 ≤ hh 87 4 3 ∧ hh 87 4 3 ≤ -1 := by omega
      have k5 : -1 ≤ hh 87 5 3 ∧ hh 87 5 3 ≤ -1 := by omega
      have k6 : -1 ≤ hh 87 6 3 ∧ hh 87 6 3 ≤ -1 := by omega
      have k7 : -1 ≤ hh 87 7 3 ∧ hh 87 7 3 ≤ -1 := by omega
      refine ⟨kz12_C, [n1.toInt, 0, hh 87 0 3, hh 87 1 3, hh 87 2 3, hh 87 3 3, hh 87 4 3, hh 87 5 3, hh 87 6 3, hh 87 7 3], ((kz12_M l D dA) kz12_C List.mem_cons_self _ _ _ _ _ hPg).2, ⟨by decide, by decide⟩, ⟨(sw_i32 n1).1, (sw_i32 n1).2, (by decide), (by decide), k0.1, k0.2, k1.1, k1.2, k2.1, k2.2, k3.1, k3.2, k4.1, k4.2, k5.1, k5.2, k6.1, k6.2, k7.1, k7.2, trivial⟩, (fun f hf => by cases hf), ⟨sx_vr.rf ⟨0, 0, _, rfl, rfl, ha, rfl⟩, sx_vr.it (by simp [sx_ev, sx_dot]), trivial⟩, ⟨fun g hg => ?_, sw_gP_ok (by decide +kernel) hI⟩, fun rv hu b c => ⟨sw_iI_ok (q := kz12_C) (by decide +kernel) b c hI, ?_⟩⟩
      · simp only [kz12_C, List.mem_cons, List.not_mem_nil, or_false] at hg
        rcases hg with rfl | rfl | rfl | rfl | rfl | rfl | rfl | rfl | rfl <;> simp [sx_ev, sx_dot, a1]
      have ho' := jR_fr (Mc := kz12_C.2.2.2.2.2.2.2.2.1) (by decide +kernel) c ho
      obtain ⟨ou, hou, x1, c1, c2, c3, c4⟩ := b
      simp only [kz12_C, List.mem_cons, List.not_mem_nil, or_false] at hou
      rcases hou with rfl | rfl | rfl
      · obtain rfl := sz_bn c1
        obtain ⟨v, rfl, hv⟩ := sw_rri c3
        simp [sx_ev, sx_dot] at hv
        simp [sx_fs, sx_ev, sx_dot] at c2
        have cg := c4.1
        simp [sx_ev, sx_dot] at cg
        have e1 : hu 91 0 9 = hh 91 0 9 := c 91 0 9 (by decide +kernel)
        have e2 : hu 85 0 11 = hh 85 0 11 := c 85 0 11 (by decide +kernel)
        have e3 : hu 91 0 8 = hh 91 0 8 := c 91 0 8 (by decide +kernel)
        refine ⟨⟨by omega, by omega, by dsimp only; omega, a4, by dsimp only; split <;> omega, fun j h0 h8 => ?_⟩, ho', v, rfl, ?_⟩
        · have hj : j = 0 ∨ j = 1 ∨ j = 2 ∨ j = 3 ∨ j = 4 ∨ j = 5 ∨ j = 6 ∨ j = 7 := by omega
          dsimp only
          have hs : (if 0 ≤ n1.toInt ∧ n1.toInt ≤ 7 ∧ (1 : Int) < 8 then (1 : Int) + 1 else 1) = 1 := by split <;> omega
          rw [hs]
          rcases hj with rfl | rfl | rfl | rfl | rfl | rfl | rfl | rfl <;> omega
        · show v.toInt = if 0 ≤ n1.toInt ∧ n1.toInt ≤ 7 ∧ (1 : Int) < 8 then 1 else -1
          split <;> omega
      · obtain rfl := sz_bn c1
        obtain ⟨v, rfl, hv⟩ := sw_rri c3
        simp [sx_ev, sx_dot] at hv
        simp [sx_fs, sx_ev, sx_dot] at c2
        have cg := c4.1
        simp [sx_ev, sx_dot] at cg
        have e1 : hu 91 0 9 = hh 91 0 9 := c 91 0 9 (by decide +kernel)
        have e2 : hu 85 0 11 = hh 85 0 11 := c 85 0 11 (by decide +kernel)
        have e3 : hu 91 0 8 = hh 91 0 8 := c 91 0 8 (by decide +kernel)
        refine ⟨⟨by omega, by omega, by dsimp only; omega, a4, by dsimp only; split <;> omega, fun j h0 h8 => ?_⟩, ho', v, rfl, ?_⟩
        · have hj : j = 0 ∨ j = 1 ∨ j = 2 ∨ j = 3 ∨ j = 4 ∨ j = 5 ∨ j = 6 ∨ j = 7 := by omega
          dsimp only
          have hs : (if 0 ≤ n1.toInt ∧ n1.toInt ≤ 7 ∧ (1 : Int) < 8 then (1 : Int) + 1 else 1) = 2 := by split <;> omega
          rw [hs]
          rcases hj with rfl | rfl | rfl | rfl | rfl | rfl | rfl | rfl <;> omega
        · show v.toInt = if 0 ≤ n1.toInt ∧ n1.toInt ≤ 7 ∧ (1 : Int) < 8 then 1 else -1
          split <;> omega
      · obtain rfl := sz_bn c1
        obtain ⟨v, rfl, hv⟩ := sw_rri c3
        simp [sx_ev, sx_dot] at hv
        simp [sx_fs, sx_ev, sx_dot] at c2
        have cg := c4.1
        simp [sx_ev, sx_dot] at cg
        have e1 : hu 91 0 9 = hh 91 0 9 := c 91 0 9 (by decide +kernel)
        have e2 : hu 85 0 11 = hh 85 0 11 := c 85 0 11 (by decide +kernel)
        have e3 : hu 91 0 8 = hh 91 0 8 := c 91 0 8 (by decide +kernel)
        refine ⟨⟨by omega, by omega, by dsimp only; omega, a4, by dsimp only; split <;> omega, fun j h0 h8 => ?_⟩, ho', v, rfl, ?_⟩
        · have hj : j = 0 ∨ j = 1 ∨ j = 2 ∨ j = 3 ∨ j = 4 ∨ j = 5 ∨ j = 6 ∨ j = 7 := by omega
          dsimp only
          have hs : (if 0 ≤ n1.toInt ∧ n1.toInt ≤ 7 ∧ (1 : Int) < 8 then (1 : Int) + 1 else 1) = 1 := by split <;> omega
          rw [hs]
          rcases hj with rfl | rfl | rfl | rfl | rfl | rfl | rfl | rfl <;> omega
        · show v.toInt = if 0 ≤ n1.toInt ∧ n1.toInt ≤ 7 ∧ (1 : Int) < 8 then 1 else -1
          split <;> omega
    · have k0 : 0 ≤ hh 87 0 3 ∧ hh 87 0 3 ≤ 7 := by omega
      have k1 : 0 ≤ hh 87 1 3 ∧ hh 87 1 3 ≤ 7 := by omega
      have k2 : -1 ≤ hh 87 2 3 ∧ hh 87 2 3 ≤ -1 := by omega
      have k3 : -1 ≤ hh 87 3 3 ∧ hh 87 3 3 ≤ -1 := by omega
      have k4 : -1 ≤ hh 87 4 3 ∧ hh 87 4 3 ≤ -1 := by omega
      have k5 : -1 ≤ hh 87 5 3 ∧ hh 87 5 3 ≤ -1 := by omega
      have k6 : -1 ≤ hh 87 6 3 ∧ hh 87 6 3 ≤ -1 := by omega
      have k7 : -1 ≤ hh 87 7 3 ∧ hh 87 7 3 ≤ -1 := by omega
      refine ⟨kz13_C, [n1.toInt, 0, hh 87 0 3, hh 87 1 3, hh 87 2 3, hh 87 3 3, hh 87 4 3, hh 87 5 3, hh 87 6 3, hh 87 7 3], ((kz13_M l D dA) kz13_C List.mem_cons_self _ _ _ _ _ hPg).2, ⟨by decide, by decide⟩, ⟨(sw_i32 n1).1, (sw_i32 n1).2, (by decide), (by decide), k0.1, k0.2, k1.1, k1.2, k2.1, k2.2, k3.1, k3.2, k4.1, k4.2, k5.1, k5.2, k6.1, k6.2, k7.1, k7.2, trivial⟩, (fun f hf => by cases hf), ⟨sx_vr.rf ⟨0, 0, _, rfl, rfl, ha, rfl⟩, sx_vr.it (by simp [sx_ev, sx_dot]), trivial⟩, ⟨fun g hg => ?_, sw_gP_ok (by decide +kernel) hI⟩, fun rv hu b c => ⟨sw_iI_ok (q := kz13_C) (by decide +kernel) b c hI, ?_⟩⟩
      · simp only [kz13_C, List.mem_cons, List.not_mem_nil, or_false] at hg
        rcases hg with rfl | rfl | rfl | rfl | rfl | rfl | rfl | rfl | rfl <;> simp [sx_ev, sx_dot, a1]
      have ho' := jR_fr (Mc := kz13_C.2.2.2.2.2.2.2.2.1) (by decide +kernel) c ho
      obtain ⟨ou, hou, x1, c1, c2, c3, c4⟩ := b
      simp only [kz13_C, List.mem_cons, List.not_mem_nil, or_false] at hou
      rcases hou with rfl | rfl | rfl
      · obtain rfl := sz_bn c1
        obtain ⟨v, rfl, hv⟩ := sw_rri c3
        simp [sx_ev, sx_dot] at hv
        simp [sx_fs, sx_ev, sx_dot] at c2
        have cg := c4.1
        simp [sx_ev, sx_dot] at cg
        have e1 : hu 91 0 9 = hh 91 0 9 := c 91 0 9 (by decide +kernel)
        have e2 : hu 85 0 11 = hh 85 0 11 := c 85 0 11 (by decide +kernel)
        have e3 : hu 91 0 8 = hh 91 0 8 := c 91 0 8 (by decide +kernel)
        refine ⟨⟨by omega, by omega, by dsimp only; omega, a4, by dsimp only; split <;> omega, fun j h0 h8 => ?_⟩, ho', v, rfl, ?_⟩
        · have hj : j = 0 ∨ j = 1 ∨ j = 2 ∨ j = 3 ∨ j = 4 ∨ j = 5 ∨ j = 6 ∨ j = 7 := by omega
          dsimp only
          have hs : (if 0 ≤ n1.toInt ∧ n1.toInt ≤ 7 ∧ (2 : Int) < 8 then (2 : Int) + 1 else 2) = 2 := by split <;> omega
          rw [hs]
          rcases hj with rfl | rfl | rfl | rfl | rfl | rfl | rfl | rfl <;> omega
        · show v.toInt = if 0 ≤ n1.toInt ∧ n1.toInt ≤ 7 ∧ (2 : Int) < 8 then 2 else -1
          split <;> omega
      · obtain rfl := sz_bn c1
        obtain ⟨v, rfl, hv⟩ := sw_rri c3
        simp [sx_ev, sx_dot] at hv
        simp [sx_fs, sx_ev, sx_dot] at c2
        have cg := c4.1
        simp [sx_ev, sx_dot] at cg
        have e1 : hu 91 0 9 = hh 91 0 9 := c 91 0 9 (by decide +kernel)
        have e2 : hu 85 0 11 = hh 85 0 11 := c 85 0 11 (by decide +kernel)
        have e3 : hu 91 0 8 = hh 91 0 8 := c 91 0 8 (by decide +kernel)
        refine ⟨⟨by omega, by omega, by dsimp only; omega, a4, by dsimp only; split <;> omega, fun j h0 h8 => ?_⟩, ho', v, rfl, ?_⟩
        · have hj : j = 0 ∨ j = 1 ∨ j = 2 ∨ j = 3 ∨ j = 4 ∨ j = 5 ∨ j = 6 ∨ j = 7 := by omega
          dsimp only
          have hs : (if 0 ≤ n1.toInt ∧ n1.toInt ≤ 7 ∧ (2 : Int) < 8 then (2 : Int) + 1 else 2) = 3 := by split <;> omega
          rw [hs]
          rcases hj with rfl | rfl | rfl | rfl | rfl | rfl | rfl | rfl <;> omega
        · show v.toInt = if 0 ≤ n1.toInt ∧ n1.toInt ≤ 7 ∧ (2 : Int) < 8 then 2 else -1
          split <;> omega
      · obtain rfl := sz_bn c1
        obtain ⟨v, rfl, hv⟩ := sw_rri c3
        simp [sx_ev, sx_dot] at hv
        simp [sx_fs, sx_ev, sx_dot] at c2
        have cg := c4.1
        simp [sx_ev, sx_dot] at cg
        have e1 : hu 91 0 9 = hh 91 0 9 := c 91 0 9 (by decide +kernel)
        have e2 : hu 85 0 11 = hh 85 0 11 := c 85 0 11 (by decide +kernel)
        have e3 : hu 91 0 8 = hh 91 0 8 := c 91 0 8 (by decide +kernel)
        refine ⟨⟨by omega, by omega, by dsimp only; omega, a4, by dsimp only; split <;> omega, fun j h0 h8 => ?_⟩, ho', v, rfl, ?_⟩
        · have hj : j = 0 ∨ j = 1 ∨ j = 2 ∨ j = 3 ∨ j = 4 ∨ j = 5 ∨ j = 6 ∨ j = 7 := by omega
          dsimp only
          have hs : (if 0 ≤ n1.toInt ∧ n1.toInt ≤ 7 ∧ (2 : Int) < 8 then (2 : Int) + 1 else 2) = 2 := by split <;> omega
          rw [hs]
          rcases hj with rfl | rfl | rfl | rfl | rfl | rfl | rfl | rfl <;> omega
        · show v.toInt = if 0 ≤ n1.toInt ∧ n1.toInt ≤ 7 ∧ (2 : Int) < 8 then 2 else -1
          split <;> omega
    · have k0 : 0 ≤ hh 87 0 3 ∧ hh 87 0 3 ≤ 7 := by omega
      have k1 : 0 ≤ hh 87 1 3 ∧ hh 87 1 3 ≤ 7 := by omega
      have k2 : 0 ≤ hh 87 2 3 ∧ hh 87 2 3 ≤ 7 := by omega
      have k3 : -1 ≤ hh 87 3 3 ∧ hh 87 3 3 ≤ -1 := by omega
      have k4 : -1 ≤ hh 87 4 3 ∧ hh 87 4 3 ≤ -1 := by omega
      have k5 : -1 ≤ hh 87 5 3 ∧ hh 87 5 3 ≤ -1 := by omega
      have k6 : -1 ≤ hh 87 6 3 ∧ hh 87 6 3 ≤ -1 := by omega
      have k7 : -1 ≤ hh 87 7 3 ∧ hh 87 7 3 ≤ -1 := by omega
      refine ⟨kz14_C, [n1.toInt, 0, hh 87 0 3, hh 87 1 3, hh 87 2 3, hh 87 3 3, hh 87 4 3, hh 87 5 3, hh 87 6 3, hh 87 7 3], ((kz14_M l D dA) kz14_C List.mem_cons_self _ _ _ _ _ hPg).2, ⟨by decide, by decide⟩, ⟨(sw_i32 n1).1, (sw_i32 n1).2, (by decide), (by decide), k0.1, k0.2, k1.1, k1.2, k2.1, k2.2, k3.1, k3.2, k4.1, k4.2, k5.1, k5.2, k6.1, k6.2, k7.1, k7.2, trivial⟩, (fun f hf => by cases hf), ⟨sx_vr.rf ⟨0, 0, _, rfl, rfl, ha, rfl⟩, sx_vr.it (by simp [sx_ev, sx_dot]), trivial⟩, ⟨fun g hg => ?_, sw_gP_ok (by decide +kernel) hI⟩, fun rv hu b c => ⟨sw_iI_ok (q := kz14_C) (by decide +kernel) b c hI, ?_⟩⟩
      · simp only [kz14_C, List.mem_cons, List.not_mem_nil, or_false] at hg
        rcases hg with rfl | rfl | rfl | rfl | rfl | rfl | rfl | rfl | rfl <;> simp [sx_ev, sx_dot, a1]
      have ho' := jR_fr (Mc := kz14_C.2.2.2.2.2.2.2.2.1) (by decide +kernel) c ho
      obtain ⟨ou, hou, x1, c1, c2, c3, c4⟩ := b
      simp only [kz14_C, List.mem_cons, List.not_mem_nil, or_false] at hou
      rcases hou with rfl | rfl | rfl
      · obtain rfl := sz_bn c1
        obtain ⟨v, rfl, hv⟩ := sw_rri c3
        simp [sx_ev, sx_dot] at hv
        simp [sx_fs, sx_ev, sx_dot] at c2
        have cg := c4.1
        simp [sx_ev, sx_dot] at cg
        have e1 : hu 91 0 9 = hh 91 0 9 := c 91 0 9 (by decide +kernel)
        have e2 : hu 85 0 11 = hh 85 0 11 := c 85 0 11 (by decide +kernel)
        have e3 : hu 91 0 8 = hh 91 0 8 := c 91 0 8 (by decide +kernel)
        refine ⟨⟨by omega, by omega, by dsimp only; omega, a4, by dsimp only; split <;> omega, fun j h0 h8 => ?_⟩, ho', v, rfl, ?_⟩
        · have hj : j = 0 ∨ j = 1 ∨ j = 2 ∨ j = 3 ∨ j = 4 ∨ j = 5 ∨ j = 6 ∨ j = 7 := by omega
          dsimp only
          have hs : (if 0 ≤ n1.toInt ∧ n1.toInt ≤ 7 ∧ (3 : Int) < 8 then (3 : Int) + 1 else 3) = 3 := by split <;> omega
          rw [hs]
          rcases hj with rfl | rfl | rfl | rfl | rfl | rfl | rfl | rfl <;> omega
        · show v.toInt = if 0 ≤ n1.toInt ∧ n1.toInt ≤ 7 ∧ (3 : Int) < 8 then 3 else -1
          split <;> omega
      · obtain rfl := sz_bn c1
        obtain ⟨v, rfl, hv⟩ := sw_rri c3
        simp [sx_ev, sx_dot] at hv
        simp [sx_fs, sx_ev, sx_dot] at c2
        have cg := c4.1
        simp [sx_ev, sx_dot] at cg
        have e1 : hu 91 0 9 = hh 91 0 9 := c 91 0 9 (by decide +kernel)
        have e2 : hu 85 0 11 = hh 85 0 11 := c 85 0 11 (by decide +kernel)
        have e3 : hu 91 0 8 = hh 91 0 8 := c 91 0 8 (by decide +kernel)
        refine ⟨⟨by omega, by omega, by dsimp only; omega, a4, by dsimp only; split <;> omega, fun j h0 h8 => ?_⟩, ho', v, rfl, ?_⟩
        · have hj : j = 0 ∨ j = 1 ∨ j = 2 ∨ j = 3 ∨ j = 4 ∨ j = 5 ∨ j = 6 ∨ j = 7 := by omega
          dsimp only
          have hs : (if 0 ≤ n1.toInt ∧ n1.toInt ≤ 7 ∧ (3 : Int) < 8 then (3 : Int) + 1 else 3) = 4 := by split <;> omega
          rw [hs]
          rcases hj with rfl | rfl | rfl | rfl | rfl | rfl | rfl | rfl <;> omega
        · show v.toInt = if 0 ≤ n1.toInt ∧ n1.toInt ≤ 7 ∧ (3 : Int) < 8 then 3 else -1
          split <;> omega
      · obtain rfl := sz_bn c1
        obtain ⟨v, rfl, hv⟩ := sw_rri c3
        simp [sx_ev, sx_dot] at hv
        simp [sx_fs, sx_ev, sx_dot] at c2
        have cg := c4.1
        simp [sx_ev, sx_dot] at cg
        have e1 : hu 91 0 9 = hh 91 0 9 := c 91 0 9 (by decide +kernel)
        have e2 : hu 85 0 11 = hh 85 0 11 := c 85 0 11 (by decide +kernel)
        have e3 : hu 91 0 8 = hh 91 0 8 := c 91 0 8 (by decide +kernel)
        refine ⟨⟨by omega, by omega, by dsimp only; omega, a4, by dsimp only; split <;> omega, fun j h0 h8 => ?_⟩, ho', v, rfl, ?_⟩
        · have hj : j = 0 ∨ j = 1 ∨ j = 2 ∨ j = 3 ∨ j = 4 ∨ j = 5 ∨ j = 6 ∨ j = 7 := by omega
          dsimp only
          have hs : (if 0 ≤ n1.toInt ∧ n1.toInt ≤ 7 ∧ (3 : Int) < 8 then (3 : Int) + 1 else 3) = 3 := by split <;> omega
          rw [hs]
          rcases hj with rfl | rfl | rfl | rfl | rfl | rfl | rfl | rfl <;> omega
        · show v.toInt = if 0 ≤ n1.toInt ∧ n1.toInt ≤ 7 ∧ (3 : Int) < 8 then 3 else -1
          split <;> omega
    · have k0 : 0 ≤ hh 87 0 3 ∧ hh 87 0 3 ≤ 7 := by omega
      have k1 : 0 ≤ hh 87 1 3 ∧ hh 87 1 3 ≤ 7 := by omega
      have k2 : 0 ≤ hh 87 2 3 ∧ hh 87 2 3 ≤ 7 := by omega
      have k3 : 0 ≤ hh 87 3 3 ∧ hh 87 3 3 ≤ 7 := by omega
      have k4 : -1 ≤ hh 87 4 3 ∧ hh 87 4 3 ≤ -1 := by omega
      have k5 : -1 ≤ hh 87 5 3 ∧ hh 87 5 3 ≤ -1 := by omega
      have k6 : -1 ≤ hh 87 6 3 ∧ hh 87 6 3 ≤ -1 := by omega
      have k7 : -1 ≤ hh 87 7 3 ∧ hh 87 7 3 ≤ -1 := by omega
      refine ⟨kz15_C, [n1.toInt, 0, hh 87 0 3, hh 87 1 3, hh 87 2 3, hh 87 3 3, hh 87 4 3, hh 87 5 3, hh 87 6 3, hh 87 7 3], ((kz15_M l D dA) kz15_C List.mem_cons_self _ _ _ _ _ hPg).2, ⟨by decide, by decide⟩, ⟨(sw_i32 n1).1, (sw_i32 n1).2, (by decide), (by decide), k0.1, k0.2, k1.1, k1.2, k2.1, k2.2, k3.1, k3.2, k4.1, k4.2, k5.1, k5.2, k6.1, k6.2, k7.1, k7.2, trivial⟩, (fun f hf => by cases hf), ⟨sx_vr.rf ⟨0, 0, _, rfl, rfl, ha, rfl⟩, sx_vr.it (by simp [sx_ev, sx_dot]), trivial⟩, ⟨fun g hg => ?_, sw_gP_ok (by decide +kernel) hI⟩, fun rv hu b c => ⟨sw_iI_ok (q := kz15_C) (by decide +kernel) b c hI, ?_⟩⟩
      · simp only [kz15_C, List.mem_cons, List.not_mem_nil, or_false] at hg
        rcases hg with rfl | rfl | rfl | rfl | rfl | rfl | rfl | rfl | rfl <;> simp [sx_ev, sx_dot, a1]
      have ho' := jR_fr (Mc := kz15_C.2.2.2.2.2.2.2.2.1) (by decide +kernel) c ho
      obtain ⟨ou, hou, x1, c1, c2, c3, c4⟩ := b
      simp only [kz15_C, List.mem_cons, List.not_mem_nil, or_false] at hou
      rcases hou with rfl | rfl | rfl
      · obtain rfl := sz_bn c1
        obtain ⟨v, rfl, hv⟩ := sw_rri c3
        simp [sx_ev, sx_dot] at hv
        simp [sx_fs, sx_ev, sx_dot] at c2
        have cg := c4.1
        simp [sx_ev, sx_dot] at cg
        have e1 : hu 91 0 9 = hh 91 0 9 := c 91 0 9 (by decide +kernel)
        have e2 : hu 85 0 11 = hh 85 0 11 := c 85 0 11 (by decide +kernel)
        have e3 : hu 91 0 8 = hh 91 0 8 := c 91 0 8 (by decide +kernel)
        refine ⟨⟨by omega, by omega, by dsimp only; omega, a4, by dsimp only; split <;> omega, fun j h0 h8 => ?_⟩, ho', v, rfl, ?_⟩
        · have hj : j = 0 ∨ j = 1 ∨ j = 2 ∨ j = 3 ∨ j = 4 ∨ j = 5 ∨ j = 6 ∨ j = 7 := by omega
          dsimp only
          have hs : (if 0 ≤ n1.toInt ∧ n1.toInt ≤ 7 ∧ (4 : Int) < 8 then (4 : Int) + 1 else 4) = 4 := by split <;> omega
          rw [hs]
          rcases hj with rfl | rfl | rfl | rfl | rfl | rfl | rfl | rfl <;> omega
        · show v.toInt = if 0 ≤ n1.toInt ∧ n1.toInt ≤ 7 ∧ (4 : Int) < 8 then 4 else -1
          split <;> omega
      · obtain rfl := sz_bn c1
        obtain ⟨v, rfl, hv⟩ := sw_rri c3
        simp [sx_ev, sx_dot] at hv
        simp [sx_fs, sx_ev, sx_dot] at c2
        have cg := c4.1
        simp [sx_ev, sx_dot] at cg
        have e1 : hu 91 0 9 = hh 91 0 9 := c 91 0 9 (by decide +kernel)
        have e2 : hu 85 0 11 = hh 85 0 11 := c 85 0 11 (by decide +kernel)
        have e3 : hu 91 0 8 = hh 91 0 8 := c 91 0 8 (by decide +kernel)
        refine ⟨⟨by omega, by omega, by dsimp only; omega, a4, by dsimp only; split <;> omega, fun j h0 h8 => ?_⟩, ho', v, rfl, ?_⟩
        · have hj : j = 0 ∨ j = 1 ∨ j = 2 ∨ j = 3 ∨ j = 4 ∨ j = 5 ∨ j = 6 ∨ j = 7 := by omega
          dsimp only
          have hs : (if 0 ≤ n1.toInt ∧ n1.toInt ≤ 7 ∧ (4 : Int) < 8 then (4 : Int) + 1 else 4) = 5 := by split <;> omega
          rw [hs]
          rcases hj with rfl | rfl | rfl | rfl | rfl | rfl | rfl | rfl <;> omega
        · show v.toInt = if 0 ≤ n1.toInt ∧ n1.toInt ≤ 7 ∧ (4 : Int) < 8 then 4 else -1
          split <;> omega
      · obtain rfl := sz_bn c1
        obtain ⟨v, rfl, hv⟩ := sw_rri c3
        simp [sx_ev, sx_dot] at hv
        simp [sx_fs, sx_ev, sx_dot] at c2
        have cg := c4.1
        simp [sx_ev, sx_dot] at cg
        have e1 : hu 91 0 9 = hh 91 0 9 := c 91 0 9 (by decide +kernel)
        have e2 : hu 85 0 11 = hh 85 0 11 := c 85 0 11 (by decide +kernel)
        have e3 : hu 91 0 8 = hh 91 0 8 := c 91 0 8 (by decide +kernel)
        refine ⟨⟨by omega, by omega, by dsimp only; omega, a4, by dsimp only; split <;> omega, fun j h0 h8 => ?_⟩, ho', v, rfl, ?_⟩
        · have hj : j = 0 ∨ j = 1 ∨ j = 2 ∨ j = 3 ∨ j = 4 ∨ j = 5 ∨ j = 6 ∨ j = 7 := by omega
          dsimp only
          have hs : (if 0 ≤ n1.toInt ∧ n1.toInt ≤ 7 ∧ (4 : Int) < 8 then (4 : Int) + 1 else 4) = 4 := by split <;> omega
          rw [hs]
          rcases hj with rfl | rfl | rfl | rfl | rfl | rfl | rfl | rfl <;> omega
        · show v.toInt = if 0 ≤ n1.toInt ∧ n1.toInt ≤ 7 ∧ (4 : Int) < 8 then 4 else -1
          split <;> omega
    · have k0 : 0 ≤ hh 87 0 3 ∧ hh 87 0 3 ≤ 7 := by omega
      have k1 : 0 ≤ hh 87 1 3 ∧ hh 87 1 3 ≤ 7 := by omega
      have k2 : 0 ≤ hh 87 2 3 ∧ hh 87 2 3 ≤ 7 := by omega
      have k3 : 0 ≤ hh 87 3 3 ∧ hh 87 3 3 ≤ 7 := by omega
      have k4 : 0 ≤ hh 87 4 3 ∧ hh 87 4 3 ≤ 7 := by omega
      have k5 : -1 ≤ hh 87 5 3 ∧ hh 87 5 3 ≤ -1 := by omega
      have k6 : -1 ≤ hh 87 6 3 ∧ hh 87 6 3 ≤ -1 := by omega
      have k7 : -1 ≤ hh 87 7 3 ∧ hh 87 7 3 ≤ -1 := by omega
      refine ⟨kz16_C, [n1.toInt, 0, hh 87 0 3, hh 87 1 3, hh 87 2 3, hh 87 3 3, hh 87 4 3, hh 87 5 3, hh 87 6 3, hh 87 7 3], ((kz16_M l D dA) kz16_C List.mem_cons_self _ _ _ _ _ hPg).2, ⟨by decide, by decide⟩, ⟨(sw_i32 n1).1, (sw_i32 n1).2, (by decide), (by decide), k0.1, k0.2, k1.1, k1.2, k2.1, k2.2, k3.1, k3.2, k4.1, k4.2, k5.1, k5.2, k6.1, k6.2, k7.1, k7.2, trivial⟩, (fun f hf => by cases hf), ⟨sx_vr.rf ⟨0, 0, _, rfl, rfl, ha, rfl⟩, sx_vr.it (by simp [sx_ev, sx_dot]), trivial⟩, ⟨fun g hg => ?_, sw_gP_ok (by decide +kernel) hI⟩, fun rv hu b c => ⟨sw_iI_ok (q := kz16_C) (by decide +kernel) b c hI, ?_⟩⟩
      · simp only [kz16_C, List.mem_cons, List.not_mem_nil, or_false] at hg
        rcases hg with rfl | rfl | rfl | rfl | rfl | rfl | rfl | rfl | rfl <;> simp [sx_ev, sx_dot, a1]
      have ho' := jR_fr (Mc := kz16_C.2.2.2.2.2.2.2.2.1) (by decide +kernel) c ho
      obtain ⟨ou, hou, x1, c1, c2, c3, c4⟩ := b
      simp only [kz16_C, List.mem_cons, List.not_mem_nil, or_false] at hou
      rcases hou with rfl | rfl | rfl
      · obtain rfl := sz_bn c1
        obtain ⟨v, rfl, hv⟩ := sw_rri c3
        simp [sx_ev, sx_dot] at hv
        simp [sx_fs, sx_ev, sx_dot] at c2
        have cg := c4.1
        simp [sx_ev, sx_dot] at cg
        have e1 : hu 91 0 9 = hh 91 0 9 := c 91 0 9 (by decide +kernel)
        have e2 : hu 85 0 11 = hh 85 0 11 := c 85 0 11 (by decide +kernel)
        have e3 : hu 91 0 8 = hh 91 0 8 := c 91 0 8 (by decide +kernel)
        refine ⟨⟨by omega, by omega, by dsimp only; omega, a4, by dsimp only; split <;> omega, fun j h0 h8 => ?_⟩, ho', v, rfl, ?_⟩
        · have hj : j = 0 ∨ j = 1 ∨ j = 2 ∨ j = 3 ∨ j = 4 ∨ j = 5 ∨ j = 6 ∨ j = 7 := by omega
          dsimp only
          have hs : (if 0 ≤ n1.toInt ∧ n1.toInt ≤ 7 ∧ (5 : Int) < 8 then (5 : Int) + 1 else 5) = 5 := by split <;> omega
          rw [hs]
          rcases hj with rfl | rfl | rfl | rfl | rfl | rfl | rfl | rfl <;> omega
        · show v.toInt = if 0 ≤ n1.toInt ∧ n1.toInt ≤ 7 ∧ (5 : Int) < 8 then 5 else -1
          split <;> omega
      · obtain rfl := sz_bn c1
        obtain ⟨v, rfl, hv⟩ := sw_rri c3
        simp [sx_ev, sx_dot] at hv
        simp [sx_fs, sx_ev, sx_dot] at c2
        have cg := c4.1
        simp [sx_ev, sx_dot] at cg
        have e1 : hu 91 0 9 = hh 91 0 9 := c 91 0 9 (by decide +kernel)
        have e2 : hu 85 0 11 = hh 85 0 11 := c 85 0 11 (by decide +kernel)
        have e3 : hu 91 0 8 = hh 91 0 8 := c 91 0 8 (by decide +kernel)
        refine ⟨⟨by omega, by omega, by dsimp only; omega, a4, by dsimp only; split <;> omega, fun j h0 h8 => ?_⟩, ho', v, rfl, ?_⟩
        · have hj : j = 0 ∨ j = 1 ∨ j = 2 ∨ j = 3 ∨ j = 4 ∨ j = 5 ∨ j = 6 ∨ j = 7 := by omega
          dsimp only
          have hs : (if 0 ≤ n1.toInt ∧ n1.toInt ≤ 7 ∧ (5 : Int) < 8 then (5 : Int) + 1 else 5) = 6 := by split <;> omega
          rw [hs]
          rcases hj with rfl | rfl | rfl | rfl | rfl | rfl | rfl | rfl <;> omega
        · show v.toInt = if 0 ≤ n1.toInt ∧ n1.toInt ≤ 7 ∧ (5 : Int) < 8 then 5 else -1
          split <;> omega
      · obtain rfl := sz_bn c1
        obtain ⟨v, rfl, hv⟩ := sw_rri c3
        simp [sx_ev, sx_dot] at hv
        simp [sx_fs, sx_ev, sx_dot] at c2
        have cg := c4.1
        simp [sx_ev, sx_dot] at cg
        have e1 : hu 91 0 9 = hh 91 0 9 := c 91 0 9 (by decide +kernel)
        have e2 : hu 85 0 11 = hh 85 0 11 := c 85 0 11 (by decide +kernel)
        have e3 : hu 91 0 8 = hh 91 0 8 := c 91 0 8 (by decide +kernel)
        refine ⟨⟨by omega, by omega, by dsimp only; omega, a4, by dsimp only; split <;> omega, fun j h0 h8 => ?_⟩, ho', v, rfl, ?_⟩
        · have hj : j = 0 ∨ j = 1 ∨ j = 2 ∨ j = 3 ∨ j = 4 ∨ j = 5 ∨ j = 6 ∨ j = 7 := by omega
          dsimp only
          have hs : (if 0 ≤ n1.toInt ∧ n1.toInt ≤ 7 ∧ (5 : Int) < 8 then (5 : Int) + 1 else 5) = 5 := by split <;> omega
          rw [hs]
          rcases hj with rfl | rfl | rfl | rfl | rfl | rfl | rfl | rfl <;> omega
        · show v.toInt = if 0 ≤ n1.toInt ∧ n1.toInt ≤ 7 ∧ (5 : Int) < 8 then 5 else -1
          split <;> omega
    · have k0 : 0 ≤ hh 87 0 3 ∧ hh 87 0 3 ≤ 7 := by omega
      have k1 : 0 ≤ hh 87 1 3 ∧ hh 87 1 3 ≤ 7 := by omega
      have k2 : 0 ≤ hh 87 2 3 ∧ hh 87 2 3 ≤ 7 := by omega
      have k3 : 0 ≤ hh 87 3 3 ∧ hh 87 3 3 ≤ 7 := by omega
      have k4 : 0 ≤ hh 87 4 3 ∧ hh 87 4 3 ≤ 7 := by omega
      have k5 : 0 ≤ hh 87 5 3 ∧ hh 87 5 3 ≤ 7 := by omega
      have k6 : -1 ≤ hh 87 6 3 ∧ hh 87 6 3 ≤ -1 := by omega
      have k7 : -1 ≤ hh 87 7 3 ∧ hh 87 7 3 ≤ -1 := by omega
      refine ⟨kz17_C, [n1.toInt, 0, hh 87 0 3, hh 87 1 3, hh 87 2 3, hh 87 3 3, hh 87 4 3, hh 87 5 3, hh 87 6 3, hh 87 7 3], ((kz17_M l D dA) kz17_C List.mem_cons_self _ _ _ _ _ hPg).2, ⟨by decide, by decide⟩, ⟨(sw_i32 n1).1, (sw_i32 n1).2, (by decide), (by decide), k0.1, k0.2, k1.1, k1.2, k2.1, k2.2, k3.1, k3.2, k4.1, k4.2, k5.1, k5.2, k6.1, k6.2, k7.1, k7.2, trivial⟩, (fun f hf => by cases hf), ⟨sx_vr.rf ⟨0, 0, _, rfl, rfl, ha, rfl⟩, sx_vr.it (by simp [sx_ev, sx_dot]), trivial⟩, ⟨fun g hg => ?_, sw_gP_ok (by decide +kernel) hI⟩, fun rv hu b c => ⟨sw_iI_ok (q := kz17_C) (by decide +kernel) b c hI, ?_⟩⟩
      · simp only [kz17_C, List.mem_cons, List.not_mem_nil, or_false] at hg
        rcases hg with rfl | rfl | rfl | rfl | rfl | rfl | rfl | rfl | rfl <;> simp [sx_ev, sx_dot, a1]
      have ho' := jR_fr (Mc := kz17_C.2.2.2.2.2.2.2.2.1) (by decide +kernel) c ho
      obtain ⟨ou, hou, x1, c1, c2, c3, c4⟩ := b
      simp only [kz17_C, List.mem_cons, List.not_mem_nil, or_false] at hou
      rcases hou with rfl | rfl | rfl
      · obtain rfl := sz_bn c1
        obtain ⟨v, rfl, hv⟩ := sw_rri c3
        simp [sx_ev, sx_dot] at hv
        simp [sx_fs, sx_ev, sx_dot] at c2
        have cg := c4.1
        simp [sx_ev, sx_dot] at cg
        have e1 : hu 91 0 9 = hh 91 0 9 := c 91 0 9 (by decide +kernel)
        have e2 : hu 85 0 11 = hh 85 0 11 := c 85 0 11 (by decide +kernel)
        have e3 : hu 91 0 8 = hh 91 0 8 := c 91 0 8 (by decide +kernel)
        refine ⟨⟨by omega, by omega, by dsimp only; omega, a4, by dsimp only; split <;> omega, fun j h0 h8 => ?_⟩, ho', v, rfl, ?_⟩
        · have hj : j = 0 ∨ j = 1 ∨ j = 2 ∨ j = 3 ∨ j = 4 ∨ j = 5 ∨ j = 6 ∨ j = 7 := by omega
          dsimp only
          have hs : (if 0 ≤ n1.toInt ∧ n1.toInt ≤ 7 ∧ (6 : Int) < 8 then (6 : Int) + 1 else 6) = 6 := by split <;> omega
          rw [hs]
          rcases hj with rfl | rfl | rfl | rfl | rfl | rfl | rfl | rfl <;> omega
        · show v.toInt = if 0 ≤ n1.toInt ∧ n1.toInt ≤ 7 ∧ (6 : Int) < 8 then 6 else -1
          split <;> omega
      · obtain rfl := sz_bn c1
        obtain ⟨v, rfl, hv⟩ := sw_rri c3
        simp [sx_ev, sx_dot] at hv
        simp [sx_fs, sx_ev, sx_dot] at c2
        have cg := c4.1
        simp [sx_ev, sx_dot] at cg
        have e1 : hu 91 0 9 = hh 91 0 9 := c 91 0 9 (by decide +kernel)
        have e2 : hu 85 0 11 = hh 85 0 11 := c 85 0 11 (by decide +kernel)
        have e3 : hu 91 0 8 = hh 91 0 8 := c 91 0 8 (by decide +kernel)
        refine ⟨⟨by omega, by omega, by dsimp only; omega, a4, by dsimp only; split <;> omega, fun j h0 h8 => ?_⟩, ho', v, rfl, ?_⟩
        · have hj : j = 0 ∨ j = 1 ∨ j = 2 ∨ j = 3 ∨ j = 4 ∨ j = 5 ∨ j = 6 ∨ j = 7 := by omega
          dsimp only
          have hs : (if 0 ≤ n1.toInt ∧ n1.toInt ≤ 7 ∧ (6 : Int) < 8 then (6 : Int) + 1 else 6) = 7 := by split <;> omega
          rw [hs]
          rcases hj with rfl | rfl | rfl | rfl | rfl | rfl | rfl | rfl <;> omega
        · show v.toInt = if 0 ≤ n1.toInt ∧ n1.toInt ≤ 7 ∧ (6 : Int) < 8 then 6 else -1
          split <;> omega
      · obtain rfl := sz_bn c1
        obtain ⟨v, rfl, hv⟩ := sw_rri c3
        simp [sx_ev, sx_dot] at hv
        simp [sx_fs, sx_ev, sx_dot] at c2
        have cg := c4.1
        simp [sx_ev, sx_dot] at cg
        have e1 : hu 91 0 9 = hh 91 0 9 := c 91 0 9 (by decide +kernel)
        have e2 : hu 85 0 11 = hh 85 0 11 := c 85 0 11 (by decide +kernel)
        have e3 : hu 91 0 8 = hh 91 0 8 := c 91 0 8 (by decide +kernel)
        refine ⟨⟨by omega, by omega, by dsimp only; omega, a4, by dsimp only; split <;> omega, fun j h0 h8 => ?_⟩, ho', v, rfl, ?_⟩
        · have hj : j = 0 ∨ j = 1 ∨ j = 2 ∨ j = 3 ∨ j = 4 ∨ j = 5 ∨ j = 6 ∨ j = 7 := by omega
          dsimp only
          have hs : (if 0 ≤ n1.toInt ∧ n1.toInt ≤ 7 ∧ (6 : Int) < 8 then (6 : Int) + 1 else 6) = 6 := by split <;> omega
          rw [hs]
          rcases hj with rfl | rfl | rfl | rfl | rfl | rfl | rfl | rfl <;> omega
        · show v.toInt = if 0 ≤ n1.toInt ∧ n1.toInt ≤ 7 ∧ (6 : Int) < 8 then 6 else -1
          split <;> omega
    · have k0 : 0 ≤ hh 87 0 3 ∧ hh 87 0 3 ≤ 7 := by omega
      have k1 : 0 ≤ hh 87 1 3 ∧ hh 87 1 3 ≤ 7 := by omega
      have k2 : 0 ≤ hh 87 2 3 ∧ hh 87 2 3 ≤ 7 := by omega
      have k3 : 0 ≤ hh 87 3 3 ∧ hh 87 3 3 ≤ 7 := by omega
      have k4 : 0 ≤ hh 87 4 3 ∧ hh 87 4 3 ≤ 7 := by omega
      have k5 : 0 ≤ hh 87 5 3 ∧ hh 87 5 3 ≤ 7 := by omega
      have k6 : 0 ≤ hh 87 6 3 ∧ hh 87 6 3 ≤ 7 := by omega
      have k7 : -1 ≤ hh 87 7 3 ∧ hh 87 7 3 ≤ -1 := by omega
      refine ⟨kz18_C, [n1.toInt, 0, hh 87 0 3, hh 87 1 3, hh 87 2 3, hh 87 3 3, hh 87 4 3, hh 87 5 3, hh 87 6 3, hh 87 7 3], ((kz18_M l D dA) kz18_C List.mem_cons_self _ _ _ _ _ hPg).2, ⟨by decide, by decide⟩, ⟨(sw_i32 n1).1, (sw_i32 n1).2, (by decide), (by decide), k0.1, k0.2, k1.1, k1.2, k2.1, k2.2, k3.1, k3.2, k4.1, k4.2, k5.1, k5.2, k6.1, k6.2, k7.1, k7.2, trivial⟩, (fun f hf => by cases hf), ⟨sx_vr.rf ⟨0, 0, _, rfl, rfl, ha, rfl⟩, sx_vr.it (by simp [sx_ev, sx_dot]), trivial⟩, ⟨fun g hg => ?_, sw_gP_ok (by decide +kernel) hI⟩, fun rv hu b c => ⟨sw_iI_ok (q := kz18_C) (by decide +kernel) b c hI, ?_⟩⟩
      · simp only [kz18_C, List.mem_cons, List.not_mem_nil, or_false] at hg
        rcases hg with rfl | rfl | rfl | rfl | rfl | rfl | rfl | rfl | rfl <;> simp [sx_ev, sx_dot, a1]
      have ho' := jR_fr (Mc := kz18_C.2.2.2.2.2.2.2.2.1) (by decide +kernel) c ho
      obtain ⟨ou, hou, x1, c1, c2, c3, c4⟩ := b
      simp only [kz18_C, List.mem_cons, List.not_mem_nil, or_false] at hou
      rcases hou with rfl | rfl | rfl
      · obtain rfl := sz_bn c1
        obtain ⟨v, rfl, hv⟩ := sw_rri c3
        simp [sx_ev, sx_dot] at hv
        simp [sx_fs, sx_ev, sx_dot] at c2
        have cg := c4.1
        simp [sx_ev, sx_dot] at cg
        have e1 : hu 91 0 9 = hh 91 0 9 := c 91 0 9 (by decide +kernel)
        have e2 : hu 85 0 11 = hh 85 0 11 := c 85 0 11 (by decide +kernel)
        have e3 : hu 91 0 8 = hh 91 0 8 := c 91 0 8 (by decide +kernel)
        refine ⟨⟨by omega, by omega, by dsimp only; omega, a4, by dsimp only; split <;> omega, fun j h0 h8 => ?_⟩, ho', v, rfl, ?_⟩
        · have hj : j = 0 ∨ j = 1 ∨ j = 2 ∨ j = 3 ∨ j = 4 ∨ j = 5 ∨ j = 6 ∨ j = 7 := by omega
          dsimp only
          have hs : (if 0 ≤ n1.toInt ∧ n1.toInt ≤ 7 ∧ (7 : Int) < 8 then (7 : Int) + 1 else 7) = 7 := by split <;> omega
          rw [hs]
          rcases hj with rfl | rfl | rfl | rfl | rfl | rfl | rfl | rfl <;> omega
        · show v.toInt = if 0 ≤ n1.toInt ∧ n1.toInt ≤ 7 ∧ (7 : Int) < 8 then 7 else -1
          split <;> omega
      · obtain rfl := sz_bn c1
        obtain ⟨v, rfl, hv⟩ := sw_rri c3
        simp [sx_ev, sx_dot] at hv
        simp [sx_fs, sx_ev, sx_dot] at c2
        have cg := c4.1
        simp [sx_ev, sx_dot] at cg
        have e1 : hu 91 0 9 = hh 91 0 9 := c 91 0 9 (by decide +kernel)
        have e2 : hu 85 0 11 = hh 85 0 11 := c 85 0 11 (by decide +kernel)
        have e3 : hu 91 0 8 = hh 91 0 8 := c 91 0 8 (by decide +kernel)
        refine ⟨⟨by omega, by omega, by dsimp only; omega, a4, by dsimp only; split <;> omega, fun j h0 h8 => ?_⟩, ho', v, rfl, ?_⟩
        · have hj : j = 0 ∨ j = 1 ∨ j = 2 ∨ j = 3 ∨ j = 4 ∨ j = 5 ∨ j = 6 ∨ j = 7 := by omega
          dsimp only
          have hs : (if 0 ≤ n1.toInt ∧ n1.toInt ≤ 7 ∧ (7 : Int) < 8 then (7 : Int) + 1 else 7) = 8 := by split <;> omega
          rw [hs]
          rcases hj with rfl | rfl | rfl | rfl | rfl | rfl | rfl | rfl <;> omega
        · show v.toInt = if 0 ≤ n1.toInt ∧ n1.toInt ≤ 7 ∧ (7 : Int) < 8 then 7 else -1
          split <;> omega
      · obtain rfl := sz_bn c1
        obtain ⟨v, rfl, hv⟩ := sw_rri c3
        simp [sx_ev, sx_dot] at hv
        simp [sx_fs, sx_ev, sx_dot] at c2
        have cg := c4.1
        simp [sx_ev, sx_dot] at cg
        have e1 : hu 91 0 9 = hh 91 0 9 := c 91 0 9 (by decide +kernel)
        have e2 : hu 85 0 11 = hh 85 0 11 := c 85 0 11 (by decide +kernel)
        have e3 : hu 91 0 8 = hh 91 0 8 := c 91 0 8 (by decide +kernel)
        refine ⟨⟨by omega, by omega, by dsimp only; omega, a4, by dsimp only; split <;> omega, fun j h0 h8 => ?_⟩, ho', v, rfl, ?_⟩
        · have hj : j = 0 ∨ j = 1 ∨ j = 2 ∨ j = 3 ∨ j = 4 ∨ j = 5 ∨ j = 6 ∨ j = 7 := by omega
          dsimp only
          have hs : (if 0 ≤ n1.toInt ∧ n1.toInt ≤ 7 ∧ (7 : Int) < 8 then (7 : Int) + 1 else 7) = 7 := by split <;> omega
          rw [hs]
          rcases hj with rfl | rfl | rfl | rfl | rfl | rfl | rfl | rfl <;> omega
        · show v.toInt = if 0 ≤ n1.toInt ∧ n1.toInt ≤ 7 ∧ (7 : Int) < 8 then 7 else -1
          split <;> omega
    · have k0 : 0 ≤ hh 87 0 3 ∧ hh 87 0 3 ≤ 7 := by omega
      have k1 : 0 ≤ hh 87 1 3 ∧ hh 87 1 3 ≤ 7 := by omega
      have k2 : 0 ≤ hh 87 2 3 ∧ hh 87 2 3 ≤ 7 := by omega
      have k3 : 0 ≤ hh 87 3 3 ∧ hh 87 3 3 ≤ 7 := by omega
      have k4 : 0 ≤ hh 87 4 3 ∧ hh 87 4 3 ≤ 7 := by omega
      have k5 : 0 ≤ hh 87 5 3 ∧ hh 87 5 3 ≤ 7 := by omega
      have k6 : 0 ≤ hh 87 6 3 ∧ hh 87 6 3 ≤ 7 := by omega
      have k7 : 0 ≤ hh 87 7 3 ∧ hh 87 7 3 ≤ 7 := by omega
      refine ⟨kz19_C, [n1.toInt, 0, hh 87 0 3, hh 87 1 3, hh 87 2 3, hh 87 3 3, hh 87 4 3, hh 87 5 3, hh 87 6 3, hh 87 7 3], ((kz19_M l D dA) kz19_C List.mem_cons_self _ _ _ _ _ hPg).2, ⟨by decide, by decide⟩, ⟨(sw_i32 n1).1, (sw_i32 n1).2, (by decide), (by decide), k0.1, k0.2, k1.1, k1.2, k2.1, k2.2, k3.1, k3.2, k4.1, k4.2, k5.1, k5.2, k6.1, k6.2, k7.1, k7.2, trivial⟩, (fun f hf => by cases hf), ⟨sx_vr.rf ⟨0, 0, _, rfl, rfl, ha, rfl⟩, sx_vr.it (by simp [sx_ev, sx_dot]), trivial⟩, ⟨fun g hg => ?_, sw_gP_ok (by decide +kernel) hI⟩, fun rv hu b c => ⟨sw_iI_ok (q := kz19_C) (by decide +kernel) b c hI, ?_⟩⟩
      · simp only [kz19_C, List.mem_cons, List.not_mem_nil, or_false] at hg
        rcases hg with rfl | rfl | rfl | rfl | rfl | rfl | rfl | rfl | rfl <;> simp [sx_ev, sx_dot, a1]
      have ho' := jR_fr (Mc := kz19_C.2.2.2.2.2.2.2.2.1) (by decide +kernel) c ho
      obtain ⟨ou, hou, x1, c1, c2, c3, c4⟩ := b
      simp only [kz19_C, List.mem_cons, List.not_mem_nil, or_false] at hou
      rcases hou with rfl | rfl | rfl
      · obtain rfl := sz_bn c1
        obtain ⟨v, rfl, hv⟩ := sw_rri c3
        simp [sx_ev, sx_dot] at hv
        simp [sx_fs, sx_ev, sx_dot] at c2
        have e1 : hu 91 0 9 = hh 91 0 9 := c 91 0 9 (by decide +kernel)
        have e2 : hu 85 0 11 = hh 85 0 11 := c 85 0 11 (by decide +kernel)
        have e3 : hu 91 0 8 = hh 91 0 8 := c 91 0 8 (by decide +kernel)
        have g0 : hu 87 0 3 = hh 87 0 3 := c 87 0 3 (by decide +kernel)
        have g1 : hu 87 1 3 = hh 87 1 3 := c 87 1 3 (by decide +kernel)
        have g2 : hu 87 2 3 = hh 87 2 3 := c 87 2 3 (by decide +kernel)
        have g3 : hu 87 3 3 = hh 87 3 3 := c 87 3 3 (by decide +kernel)
        have g4 : hu 87 4 3 = hh 87 4 3 := c 87 4 3 (by decide +kernel)
        have g5 : hu 87 5 3 = hh 87 5 3 := c 87 5 3 (by decide +kernel)
        have g6 : hu 87 6 3 = hh 87 6 3 := c 87 6 3 (by decide +kernel)
        have g7 : hu 87 7 3 = hh 87 7 3 := c 87 7 3 (by decide +kernel)
        refine ⟨⟨by omega, by omega, by dsimp only; omega, a4, by dsimp only; split <;> omega, fun j h0 h8 => ?_⟩, ho', v, rfl, ?_⟩
        · have hj : j = 0 ∨ j = 1 ∨ j = 2 ∨ j = 3 ∨ j = 4 ∨ j = 5 ∨ j = 6 ∨ j = 7 := by omega
          dsimp only
          have hs : (if 0 ≤ n1.toInt ∧ n1.toInt ≤ 7 ∧ (8 : Int) < 8 then (8 : Int) + 1 else 8) = 8 := by split <;> omega
          rw [hs]
          rcases hj with rfl | rfl | rfl | rfl | rfl | rfl | rfl | rfl <;> omega
        · show v.toInt = if 0 ≤ n1.toInt ∧ n1.toInt ≤ 7 ∧ (8 : Int) < 8 then 8 else -1
          split <;> omega
      · obtain rfl := sz_bn c1
        obtain ⟨v, rfl, hv⟩ := sw_rri c3
        simp [sx_ev, sx_dot] at hv
        simp [sx_fs, sx_ev, sx_dot] at c2
        have e1 : hu 91 0 9 = hh 91 0 9 := c 91 0 9 (by decide +kernel)
        have e2 : hu 85 0 11 = hh 85 0 11 := c 85 0 11 (by decide +kernel)
        have e3 : hu 91 0 8 = hh 91 0 8 := c 91 0 8 (by decide +kernel)
        have g0 : hu 87 0 3 = hh 87 0 3 := c 87 0 3 (by decide +kernel)
        have g1 : hu 87 1 3 = hh 87 1 3 := c 87 1 3 (by decide +kernel)
        have g2 : hu 87 2 3 = hh 87 2 3 := c 87 2 3 (by decide +kernel)
        have g3 : hu 87 3 3 = hh 87 3 3 := c 87 3 3 (by decide +kernel)
        have g4 : hu 87 4 3 = hh 87 4 3 := c 87 4 3 (by decide +kernel)
        have g5 : hu 87 5 3 = hh 87 5 3 := c 87 5 3 (by decide +kernel)
        have g6 : hu 87 6 3 = hh 87 6 3 := c 87 6 3 (by decide +kernel)
        have g7 : hu 87 7 3 = hh 87 7 3 := c 87 7 3 (by decide +kernel)
        refine ⟨⟨by omega, by omega, by dsimp only; omega, a4, by dsimp only; split <;> omega, fun j h0 h8 => ?_⟩, ho', v, rfl, ?_⟩
        · have hj : j = 0 ∨ j = 1 ∨ j = 2 ∨ j = 3 ∨ j = 4 ∨ j = 5 ∨ j = 6 ∨ j = 7 := by omega
          dsimp only
          have hs : (if 0 ≤ n1.toInt ∧ n1.toInt ≤ 7 ∧ (8 : Int) < 8 then (8 : Int) + 1 else 8) = 8 := by split <;> omega
          rw [hs]
          rcases hj with rfl | rfl | rfl | rfl | rfl | rfl | rfl | rfl <;> omega
        · show v.toInt = if 0 ≤ n1.toInt ∧ n1.toInt ≤ 7 ∧ (8 : Int) < 8 then 8 else -1
          split <;> omega
      · obtain rfl := sz_bn c1
        obtain ⟨v, rfl, hv⟩ := sw_rri c3
        simp [sx_ev, sx_dot] at hv
        simp [sx_fs, sx_ev, sx_dot] at c2
        have e1 : hu 91 0 9 = hh 91 0 9 := c 91 0 9 (by decide +kernel)
        have e2 : hu 85 0 11 = hh 85 0 11 := c 85 0 11 (by decide +kernel)
        have e3 : hu 91 0 8 = hh 91 0 8 := c 91 0 8 (by decide +kernel)
        have g0 : hu 87 0 3 = hh 87 0 3 := c 87 0 3 (by decide +kernel)
        have g1 : hu 87 1 3 = hh 87 1 3 := c 87 1 3 (by decide +kernel)
        have g2 : hu 87 2 3 = hh 87 2 3 := c 87 2 3 (by decide +kernel)
        have g3 : hu 87 3 3 = hh 87 3 3 := c 87 3 3 (by decide +kernel)
        have g4 : hu 87 4 3 = hh 87 4 3 := c 87 4 3 (by decide +kernel)
        have g5 : hu 87 5 3 = hh 87 5 3 := c 87 5 3 (by decide +kernel)
        have g6 : hu 87 6 3 = hh 87 6 3 := c 87 6 3 (by decide +kernel)
        have g7 : hu 87 7 3 = hh 87 7 3 := c 87 7 3 (by decide +kernel)
        refine ⟨⟨by omega, by omega, by dsimp only; omega, a4, by dsimp only; split <;> omega, fun j h0 h8 => ?_⟩, ho', v, rfl, ?_⟩
        · have hj : j = 0 ∨ j = 1 ∨ j = 2 ∨ j = 3 ∨ j = 4 ∨ j = 5 ∨ j = 6 ∨ j = 7 := by omega
          dsimp only
          have hs : (if 0 ≤ n1.toInt ∧ n1.toInt ≤ 7 ∧ (8 : Int) < 8 then (8 : Int) + 1 else 8) = 8 := by split <;> omega
          rw [hs]
          rcases hj with rfl | rfl | rfl | rfl | rfl | rfl | rfl | rfl <;> omega
        · show v.toInt = if 0 ≤ n1.toInt ∧ n1.toInt ≤ 7 ∧ (8 : Int) < 8 then 8 else -1
          split <;> omega
theorem jo_R_burn {l : Launch} {D : va_G} {dA : Nat → ClassId} {ad : List Nat} {hh : sx_H} {ax : Nat} {n1 : Int32} {o o' : Option (Int × Int)} (ha : ad[692]? = some ax) (hI : sw_I hh) (hm : jR hh o) (ho : jT hh o') (hz : ∀ q, o = some q → (0 ≤ q.1 ∧ q.1 ≤ 1100) ∧ (0 ≤ q.2 ∧ q.2 ≤ 8)) : sw_Ok l D dA ad room_1 (sy_my 12 27 28) prog_14_method_5_code 3 ((some .int)) [Value.ref ax, Value.int n1] hh (fun rv hu => sw_I hu ∧ jR hu (jn_burn n1.toInt o) ∧ jT hu o' ∧ ∃ v : Int32, rv = some (.int v) ∧ v.toInt = ja_burn n1.toInt o) := by
  have hPg : sy_pg[202]? = some ((sy_my 12 27 28, prog_14_method_5_code, 3, (some .int)), sy_c202) := rfl
  cases o with
  | none =>
    have e2 : hh 92 0 4 = 1 := hm
    refine ⟨kz41_C, [n1.toInt, 1], ((kz41_M l D dA) kz41_C List.mem_cons_self _ _ _ _ _ hPg).2, ⟨by decide, by decide⟩, ⟨(sw_i32 n1).1, (sw_i32 n1).2, (by decide), (by decide), trivial⟩, (fun f hf => by cases hf), ⟨sx_vr.rf ⟨692, 0, _, sw_k692, rfl, ha, rfl⟩, sx_vr.it (by simp [sx_ev, sx_dot]), trivial⟩, ⟨fun g hg => ?_, sw_gP_ok (by decide +kernel) hI⟩, fun rv hu b c => ⟨sw_iI_ok (q := kz41_C) (by decide +kernel) b c hI, ?_⟩⟩
    · simp only [kz41_C, List.mem_cons, List.not_mem_nil, or_false] at hg
      subst hg
      simp [sx_ev, sx_dot, e2]
    have ho' := jT_fr (Mc := kz41_C.2.2.2.2.2.2.2.2.1) (by decide +kernel) c ho
    obtain ⟨ou, hou, x1, c1, c2, c3, c4⟩ := b
    simp only [kz41_C, List.mem_cons, List.not_mem_nil, or_false] at hou
    rcases hou with rfl | rfl | rfl
    · obtain rfl := sz_bn c1
      obtain ⟨v, rfl, hv⟩ := sw_rri c3
      simp [sx_ev, sx_dot] at hv
      simp [sx_fs, sx_ev, sx_dot] at c2
      have cg := c4.1
      simp [sx_ev, sx_dot] at cg
      exact ⟨jR_frA (Mc := kz41_C.2.2.2.2.2.2.2.2.1) (by decide +kernel) c hm, ho', v, rfl, by simp [ja_burn]; omega⟩
    · obtain rfl := sz_bn c1
      obtain ⟨v, rfl, hv⟩ := sw_rri c3
      simp [sx_ev, sx_dot] at hv
      simp [sx_fs, sx_ev, sx_dot] at c2
      have cg := c4.1
      simp [sx_ev, sx_dot] at cg
      exact ⟨jR_frA (Mc := kz41_C.2.2.2.2.2.2.2.2.1) (by decide +kernel) c hm, ho', v, rfl, by simp [ja_burn]; omega⟩
    · obtain rfl := sz_bn c1
      obtain ⟨v, rfl, hv⟩ := sw_rri c3
      simp [sx_ev, sx_dot] at hv
      simp [sx_fs, sx_ev, sx_dot] at c2
      have cg := c4.1
      simp [sx_ev, sx_dot] at cg
      exact ⟨jR_frA (Mc := kz41_C.2.2.2.2.2.2.2.2.1) (by decide +kernel) c hm, ho', v, rfl, by simp [ja_burn]; omega⟩
  | some q =>
    obtain ⟨a1, a2, a3, a4⟩ := hm
    obtain ⟨z1, z2⟩ := hz q rfl
    refine ⟨kz46_C, [n1.toInt, 0, q.2], ((kz46_M l D dA) kz46_C List.mem_cons_self _ _ _ _ _ hPg).2, ⟨by decide, by decide⟩, ⟨(sw_i32 n1).1, (sw_i32 n1).2, (by decide), (by decide), z2.1, z2.2, trivial⟩, (fun f hf => by cases hf), ⟨sx_vr.rf ⟨692, 0, _, sw_k692, rfl, ha, rfl⟩, sx_vr.it (by simp [sx_ev, sx_dot]), trivial⟩, ⟨fun g hg => ?_, sw_gP_ok (by decide +kernel) hI⟩, fun rv hu b c => ⟨sw_iI_ok (q := kz46_C) (by decide +kernel) b c hI, ?_⟩⟩
    · simp only [kz46_C, List.mem_cons, List.not_mem_nil, or_false] at hg
      rcases hg with rfl | rfl <;> simp [sx_ev, sx_dot, a1, a4]
    have ho' := jT_fr (Mc := kz46_C.2.2.2.2.2.2.2.2.1) (by decide +kernel) c ho
    obtain ⟨ou, hou, x1, c1, c2, c3, c4⟩ := b
    simp only [kz46_C, List.mem_cons, List.not_mem_nil, or_false] at hou
    rcases hou with rfl | rfl | rfl | rfl
    · obtain rfl := sz_bn c1
      obtain ⟨v, rfl, hv⟩ := sw_rri c3
      simp [sx_ev, sx_dot] at hv
      simp [sx_fs, sx_ev, sx_dot] at c2
      have cg := c4.1
      simp [sx_ev, sx_dot] at cg
      have e1 : hu 92 0 4 = hh 92 0 4 := c 92 0 4 (by decide +kernel)
      have e2 : hu 92 0 3 = hh 92 0 3 := c 92 0 3 (by decide +kernel)
      have e4 : hu 92 0 2 = hh 92 0 2 := c 92 0 2 (by decide +kernel)
      refine ⟨⟨by omega, by omega, by omega, ?_⟩, ho', v, rfl, ?_⟩
      · dsimp only; split <;> omega
      · show v.toInt = if 0 ≤ n1.toInt ∧ n1.toInt ≤ 7 ∧ q.2 < 8 then q.2 else -1
        split <;> omega
    · obtain rfl := sz_bn c1
      obtain ⟨v, rfl, hv⟩ := sw_rri c3
      simp [sx_ev, sx_dot] at hv
      simp [sx_fs, sx_ev, sx_dot] at c2
      have cg := c4.1
      simp [sx_ev, sx_dot] at cg
      have e1 : hu 92 0 4 = hh 92 0 4 := c 92 0 4 (by decide +kernel)
      have e2 : hu 92 0 3 = hh 92 0 3 := c 92 0 3 (by decide +kernel)
      have e4 : hu 92 0 2 = hh 92 0 2 := c 92 0 2 (by decide +kernel)
      refine ⟨⟨by omega, by omega, by omega, ?_⟩, ho', v, rfl, ?_⟩
      · dsimp only; split <;> omega
      · show v.toInt = if 0 ≤ n1.toInt ∧ n1.toInt ≤ 7 ∧ q.2 < 8 then q.2 else -1
        split <;> omega
    · obtain rfl := sz_bn c1
      obtain ⟨v, rfl, hv⟩ := sw_rri c3
      simp [sx_ev, sx_dot] at hv
      simp [sx_fs, sx_ev, sx_dot] at c2
      have cg := c4.1
      simp [sx_ev, sx_dot] at cg
      have e1 : hu 92 0 4 = hh 92 0 4 := c 92 0 4 (by decide +kernel)
      have e2 : hu 92 0 3 = hh 92 0 3 := c 92 0 3 (by decide +kernel)
      have e4 : hu 92 0 2 = hh 92 0 2 := c 92 0 2 (by decide +kernel)
      refine ⟨⟨by omega, by omega, by omega, ?_⟩, ho', v, rfl, ?_⟩
      · dsimp only; split <;> omega
      · show v.toInt = if 0 ≤ n1.toInt ∧ n1.toInt ≤ 7 ∧ q.2 < 8 then q.2 else -1
        split <;> omega
    · obtain rfl := sz_bn c1
      obtain ⟨v, rfl, hv⟩ := sw_rri c3
      simp [sx_ev, sx_dot] at hv
      simp [sx_fs, sx_ev, sx_dot] at c2
      have cg := c4.1
      simp [sx_ev, sx_dot] at cg
      have e1 : hu 92 0 4 = hh 92 0 4 := c 92 0 4 (by decide +kernel)
      have e2 : hu 92 0 3 = hh 92 0 3 := c 92 0 3 (by decide +kernel)
      have e4 : hu 92 0 2 = hh 92 0 2 := c 92 0 2 (by decide +kernel)
      refine ⟨⟨by omega, by omega, by omega, ?_⟩, ho', v, rfl, ?_⟩
      · dsimp only; split <;> omega
      · show v.toInt = if 0 ≤ n1.toInt ∧ n1.toInt ≤ 7 ∧ q.2 < 8 then q.2 else -1
        split <;> omega
theorem jo_T_key {l : Launch} {D : va_G} {dA : Nat → ClassId} {ad : List Nat} {hh : sx_H} {ax : Nat} {o o' : Option (Int × Int)} (ha : ad[0]? = some ax) (hI : sw_I hh) (hm : jT hh o) (ho : jR hh o') : sw_Ok l D dA ad room_1 (sy_my 0 29 30) prog_1_method_5_code 1 ((some .boolean)) [Value.ref ax] hh (fun rv hu => sw_I hu ∧ jT hu (jn_key o) ∧ jR hu o' ∧ ∃ v : Int32, rv = some (.int v) ∧ v.toInt = ja_key o) := by
  have hPg : sy_pg[7]? = some ((sy_my 0 29 30, prog_1_method_5_code, 1, (some .boolean)), sy_c7) := rfl
  cases o with
  | none =>
    have e2 : hh 91 0 9 = 1 := hm
    refine ⟨kz20_C, [1], ((kz20_M l D dA) kz20_C List.mem_cons_self _ _ _ _ _ hPg).2, ⟨by decide, by decide⟩, ⟨(by decide), (by decide), trivial⟩, (fun f hf => by cases hf), ⟨sx_vr.rf ⟨0, 0, _, rfl, rfl, ha, rfl⟩, trivial⟩, ⟨fun g hg => ?_, sw_gP_ok (by decide +kernel) hI⟩, fun rv hu b c => ⟨sw_iI_ok (q := kz20_C) (by decide +kernel) b c hI, ?_⟩⟩
    · simp only [kz20_C, List.mem_cons, List.not_mem_nil, or_false] at hg
      subst hg
      simp [sx_ev, sx_dot, e2]
    have ho' := jR_fr (Mc := kz20_C.2.2.2.2.2.2.2.2.1) (by decide +kernel) c ho
    obtain ⟨ou, hou, x1, c1, c2, c3, c4⟩ := b
    simp only [kz20_C, List.mem_cons, List.not_mem_nil, or_false] at hou
    subst hou
    obtain rfl := sz_bn c1
    obtain ⟨v, rfl, hv⟩ := sw_rri c3
    simp [sx_ev, sx_dot] at hv
    exact ⟨jT_frA (Mc := kz20_C.2.2.2.2.2.2.2.2.1) (by decide +kernel) c hm, ho', v, rfl, by simp [ja_key]; omega⟩
  | some q =>
    obtain ⟨a1, a2, a3, a4, a5, a6⟩ := hm
    refine ⟨kz21_C, [0, q.1], ((kz21_M l D dA) kz21_C List.mem_cons_self _ _ _ _ _ hPg).2, ⟨by decide, by decide⟩, ⟨(by decide), (by decide), a4.1, a4.2, trivial⟩, (fun f hf => by cases hf), ⟨sx_vr.rf ⟨0, 0, _, rfl, rfl, ha, rfl⟩, trivial⟩, ⟨fun g hg => ?_, sw_gP_ok (by decide +kernel) hI⟩, fun rv hu b c => ⟨sw_iI_ok (q := kz21_C) (by decide +kernel) b c hI, ?_⟩⟩
    · simp only [kz21_C, List.mem_cons, List.not_mem_nil, or_false] at hg
      rcases hg with rfl | rfl <;> simp [sx_ev, sx_dot, a1, a3]
    have ho' := jR_fr (Mc := kz21_C.2.2.2.2.2.2.2.2.1) (by decide +kernel) c ho
    obtain ⟨ou, hou, x1, c1, c2, c3, c4⟩ := b
    simp only [kz21_C, List.mem_cons, List.not_mem_nil, or_false] at hou
    rcases hou with rfl | rfl
    · obtain rfl := sz_bn c1
      obtain ⟨v, rfl, hv⟩ := sw_rri c3
      simp [sx_ev, sx_dot] at hv
      simp [sx_fs, sx_ev, sx_dot] at c2
      have cg := c4.1
      simp [sx_ev, sx_dot] at cg
      have e1 : hu 91 0 9 = hh 91 0 9 := c 91 0 9 (by decide +kernel)
      have e2 : hu 85 0 11 = hh 85 0 11 := c 85 0 11 (by decide +kernel)
      have e4 : ∀ i : Int, hu 87 i 3 = hh 87 i 3 := fun i => c 87 i 3 (by decide +kernel)
      refine ⟨⟨by omega, by omega, ?_, ?_, a5, fun j h0 h8 => by rw [e4]; exact a6 j h0 h8⟩, ho', v, rfl, ?_⟩
      · dsimp only; split <;> omega
      · dsimp only; split <;> omega
      · show v.toInt = if 32 ≤ q.1 then 1 else 0
        split <;> omega
    · obtain rfl := sz_bn c1
      obtain ⟨v, rfl, hv⟩ := sw_rri c3
      simp [sx_ev, sx_dot] at hv
      simp [sx_fs, sx_ev, sx_dot] at c2
      have cg := c4.1
      simp [sx_ev, sx_dot] at cg
      have e1 : hu 91 0 9 = hh 91 0 9 := c 91 0 9 (by decide +kernel)
      have e2 : hu 85 0 11 = hh 85 0 11 := c 85 0 11 (by decide +kernel)
      have e4 : ∀ i : Int, hu 87 i 3 = hh 87 i 3 := fun i => c 87 i 3 (by decide +kernel)
      refine ⟨⟨by omega, by omega, ?_, ?_, a5, fun j h0 h8 => by rw [e4]; exact a6 j h0 h8⟩, ho', v, rfl, ?_⟩
      · dsimp only; split <;> omega
      · dsimp only; split <;> omega
      · show v.toInt = if 32 ≤ q.1 then 1 else 0
        split <;> omega
theorem jo_R_key {l : Launch} {D : va_G} {dA : Nat → ClassId} {ad : List Nat} {hh : sx_H} {ax : Nat} {o o' : Option (Int × Int)} (ha : ad[692]? = some ax) (hI : sw_I hh) (hm : jR hh o) (ho : jT hh o') (hz : ∀ q, o = some q → (0 ≤ q.1 ∧ q.1 ≤ 1100) ∧ (0 ≤ q.2 ∧ q.2 ≤ 8)) : sw_Ok l D dA ad room_1 (sy_my 12 29 30) prog_14_method_6_code 2 ((some .boolean)) [Value.ref ax] hh (fun rv hu => sw_I hu ∧ jR hu (jn_key o) ∧ jT hu o' ∧ ∃ v : Int32, rv = some (.int v) ∧ v.toInt = ja_key o) := by
  have hPg : sy_pg[203]? = some ((sy_my 12 29 30, prog_14_method_6_code, 2, (some .boolean)), sy_c203) := rfl
  cases o with
  | none =>
    have e2 : hh 92 0 4 = 1 := hm
    refine ⟨kz47_C, [1], ((kz47_M l D dA) kz47_C List.mem_cons_self _ _ _ _ _ hPg).2, ⟨by decide, by decide⟩, ⟨(by decide), (by decide), trivial⟩, (fun f hf => by cases hf), ⟨sx_vr.rf ⟨692, 0, _, sw_k692, rfl, ha, rfl⟩, trivial⟩, ⟨fun g hg => ?_, sw_gP_ok (by decide +kernel) hI⟩, fun rv hu b c => ⟨sw_iI_ok (q := kz47_C) (by decide +kernel) b c hI, ?_⟩⟩
    · simp only [kz47_C, List.mem_cons, List.not_mem_nil, or_false] at hg
      subst hg
      simp [sx_ev, sx_dot, e2]
    have ho' := jT_fr (Mc := kz47_C.2.2.2.2.2.2.2.2.1) (by decide +kernel) c ho
    obtain ⟨ou, hou, x1, c1, c2, c3, c4⟩ := b
    simp only [kz47_C, List.mem_cons, List.not_mem_nil, or_false] at hou
    subst hou
    obtain rfl := sz_bn c1
    obtain ⟨v, rfl, hv⟩ := sw_rri c3
    simp [sx_ev, sx_dot] at hv
    have cg := c4.1
    simp [sx_ev, sx_dot] at cg
    exact ⟨jR_frA (Mc := kz47_C.2.2.2.2.2.2.2.2.1) (by decide +kernel) c hm, ho', v, rfl, by simp [ja_key]; omega⟩
  | some q =>
    obtain ⟨a1, a2, a3, a4⟩ := hm
    obtain ⟨z1, z2⟩ := hz q rfl
    refine ⟨kz48_C, [0, q.1], ((kz48_M l D dA) kz48_C List.mem_cons_self _ _ _ _ _ hPg).2, ⟨by decide, by decide⟩, ⟨(by decide), (by decide), z1.1, z1.2, trivial⟩, (fun f hf => by cases hf), ⟨sx_vr.rf ⟨692, 0, _, sw_k692, rfl, ha, rfl⟩, trivial⟩, ⟨fun g hg => ?_, sw_gP_ok (by decide +kernel) hI⟩, fun rv hu b c => ⟨sw_iI_ok (q := kz48_C) (by decide +kernel) b c hI, ?_⟩⟩
    · simp only [kz48_C, List.mem_cons, List.not_mem_nil, or_false] at hg
      rcases hg with rfl | rfl <;> simp [sx_ev, sx_dot, a1, a3]
    have ho' := jT_fr (Mc := kz48_C.2.2.2.2.2.2.2.2.1) (by decide +kernel) c ho
    obtain ⟨ou, hou, x1, c1, c2, c3, c4⟩ := b
    simp only [kz48_C, List.mem_cons, List.not_mem_nil, or_false] at hou
    rcases hou with rfl | rfl
    · obtain rfl := sz_bn c1
      obtain ⟨v, rfl, hv⟩ := sw_rri c3
      simp [sx_ev, sx_dot] at hv
      simp [sx_fs, sx_ev, sx_dot] at c2
      have cg := c4.1
      simp [sx_ev, sx_dot] at cg
      have e1 : hu 92 0 4 = hh 92 0 4 := c 92 0 4 (by decide +kernel)
      have e2 : hu 92 0 3 = hh 92 0 3 := c 92 0 3 (by decide +kernel)
      have e4 : hu 92 0 11 = hh 92 0 11 := c 92 0 11 (by decide +kernel)
      refine ⟨⟨by omega, by omega, ?_, by omega⟩, ho', v, rfl, ?_⟩
      · dsimp only; split <;> omega
      · show v.toInt = if 32 ≤ q.1 then 1 else 0
        split <;> omega
    · obtain rfl := sz_bn c1
      obtain ⟨v, rfl, hv⟩ := sw_rri c3
      simp [sx_ev, sx_dot] at hv
      simp [sx_fs, sx_ev, sx_dot] at c2
      have cg := c4.1
      simp [sx_ev, sx_dot] at cg
      have e1 : hu 92 0 4 = hh 92 0 4 := c 92 0 4 (by decide +kernel)
      have e2 : hu 92 0 3 = hh 92 0 3 := c 92 0 3 (by decide +kernel)
      have e4 : hu 92 0 11 = hh 92 0 11 := c 92 0 11 (by decide +kernel)
      refine ⟨⟨by omega, by omega, ?_, by omega⟩, ho', v, rfl, ?_⟩
      · dsimp only; split <;> omega
      · show v.toInt = if 32 ≤ q.1 then 1 else 0
        split <;> omega
theorem jo_T_product {l : Launch} {D : va_G} {dA : Nat → ClassId} {ad : List Nat} {hh : sx_H} {ax : Nat} {n1 n2 n3 : Int32} {o o' : Option (Int × Int)} (ha : ad[0]? = some ax) (hI : sw_I hh) (hm : jT hh o) (ho : jR hh o') : sw_Ok l D dA ad room_1 (sy_my 0 31 32) prog_1_method_6_code 4 ((some .boolean)) [Value.ref ax, Value.int n1, Value.int n2, Value.int n3] hh (fun rv hu => sw_I hu ∧ jT hu (jn_id o) ∧ jR hu o' ∧ ∃ v : Int32, rv = some (.int v) ∧ v.toInt = ja_product n1.toInt n2.toInt n3.toInt o) := by
  have hPg : sy_pg[8]? = some ((sy_my 0 31 32, prog_1_method_6_code, 4, (some .boolean)), sy_c8) := rfl
  cases o with
  | none =>
    have e2 : hh 91 0 9 = 1 := hm
    refine ⟨kz22_C, [n1.toInt, n2.toInt, n3.toInt, 1], ((kz22_M l D dA) kz22_C List.mem_cons_self _ _ _ _ _ hPg).2, ⟨by decide, by decide⟩, ⟨(sw_i32 n1).1, (sw_i32 n1).2, (sw_i32 n2).1, (sw_i32 n2).2, (sw_i32 n3).1, (sw_i32 n3).2, (by decide), (by decide), trivial⟩, (fun f hf => by cases hf), ⟨sx_vr.rf ⟨0, 0, _, rfl, rfl, ha, rfl⟩, sx_vr.it (by simp [sx_ev, sx_dot]), sx_vr.it (by simp [sx_ev, sx_dot]), sx_vr.it (by simp [sx_ev, sx_dot]), trivial⟩, ⟨fun g hg => ?_, sw_gP_ok (by decide +kernel) hI⟩, fun rv hu b c => ⟨sw_iI_ok (q := kz22_C) (by decide +kernel) b c hI, ?_⟩⟩
    · simp only [kz22_C, List.mem_cons, List.not_mem_nil, or_false] at hg
      subst hg
      simp [sx_ev, sx_dot, e2]
    have ho' := jR_fr (Mc := kz22_C.2.2.2.2.2.2.2.2.1) (by decide +kernel) c ho
    obtain ⟨ou, hou, x1, c1, c2, c3, c4⟩ := b
    simp only [kz22_C, List.mem_cons, List.not_mem_nil, or_false] at hou
    subst hou
    obtain rfl := sz_bn c1
    obtain ⟨v, rfl, hv⟩ := sw_rri c3
    simp [sx_ev, sx_dot] at hv
    exact ⟨jT_frA (Mc := kz22_C.2.2.2.2.2.2.2.2.1) (by decide +kernel) c hm, ho', v, rfl, by simp [ja_product]; omega⟩
  | some q =>
    obtain ⟨a1, a2, a3, a4, a5, a6⟩ := id hm
    by_cases hr : 0 ≤ n1.toInt ∧ n1.toInt < 8
    · obtain ⟨w1, w2⟩ := a6 n1.toInt hr.1 hr.2
      have w3 : -1 ≤ hh 87 n1.toInt 3 ∧ hh 87 n1.toInt 3 ≤ 7 := by omega
      have w4 : n1.toInt ≤ 7 := by omega
      refine ⟨kz23_C, [n1.toInt, n2.toInt, n3.toInt, 0, hh 87 n1.toInt 3], ((kz23_M l D dA) kz23_C List.mem_cons_self _ _ _ _ _ hPg).2, ⟨by decide, by decide⟩, ⟨hr.1, w4, (sw_i32 n2).1, (sw_i32 n2).2, (sw_i32 n3).1, (sw_i32 n3).2, (by decide), (by decide), w3.1, w3.2, trivial⟩, (fun f hf => by cases hf), ⟨sx_vr.rf ⟨0, 0, _, rfl, rfl, ha, rfl⟩, sx_vr.it (by simp [sx_ev, sx_dot]), sx_vr.it (by simp [sx_ev, sx_dot]), sx_vr.it (by simp [sx_ev, sx_dot]), trivial⟩, ⟨fun g hg => ?_, sw_gP_ok (by decide +kernel) hI⟩, fun rv hu b c => ⟨sw_iI_ok (q := kz23_C) (by decide +kernel) b c hI, ?_⟩⟩
      · simp only [kz23_C, List.mem_cons, List.not_mem_nil, or_false] at hg
        rcases hg with rfl | rfl <;> simp [sx_ev, sx_dot, a1]
      have ho' := jR_fr (Mc := kz23_C.2.2.2.2.2.2.2.2.1) (by decide +kernel) c ho
      obtain ⟨ou, hou, x1, c1, c2, c3, c4⟩ := b
      simp only [kz23_C, List.mem_cons, List.not_mem_nil, or_false] at hou
      rcases hou with rfl | rfl | rfl | rfl | rfl | rfl
      · obtain rfl := sz_bn c1
        obtain ⟨v, rfl, hv⟩ := sw_rri c3
        simp [sx_ev, sx_dot] at hv
        simp [sx_fs, sx_ev, sx_dot] at c2
        refine ⟨jT_fr (Mc := kz23_C.2.2.2.2.2.2.2.2.1) (by decide +kernel) c hm, ho', v, rfl, ?_⟩
        show v.toInt = if 0 ≤ n1.toInt ∧ n1.toInt < q.2 ∧ 0 ≤ n2.toInt ∧ n2.toInt ≤ 7 ∧ 0 ≤ n3.toInt ∧ n3.toInt ≤ 9999 then 1 else 0
        split <;> omega
      · obtain rfl := sz_bn c1
        obtain ⟨v, rfl, hv⟩ := sw_rri c3
        simp [sx_ev, sx_dot] at hv
        simp [sx_fs, sx_ev, sx_dot] at c2
        refine ⟨jT_fr (Mc := kz23_C.2.2.2.2.2.2.2.2.1) (by decide +kernel) c hm, ho', v, rfl, ?_⟩
        show v.toInt = if 0 ≤ n1.toInt ∧ n1.toInt < q.2 ∧ 0 ≤ n2.toInt ∧ n2.toInt ≤ 7 ∧ 0 ≤ n3.toInt ∧ n3.toInt ≤ 9999 then 1 else 0
        split <;> omega
      · obtain rfl := sz_bn c1
        obtain ⟨v, rfl, hv⟩ := sw_rri c3
        simp [sx_ev, sx_dot] at hv
        simp [sx_fs, sx_ev, sx_dot] at c2
        refine ⟨jT_fr (Mc := kz23_C.2.2.2.2.2.2.2.2.1) (by decide +kernel) c hm, ho', v, rfl, ?_⟩
        show v.toInt = if 0 ≤ n1.toInt ∧ n1.toInt < q.2 ∧ 0 ≤ n2.toInt ∧ n2.toInt ≤ 7 ∧ 0 ≤ n3.toInt ∧ n3.toInt ≤ 9999 then 1 else 0
        split <;> omega
      · obtain rfl := sz_bn c1
        obtain ⟨v, rfl, hv⟩ := sw_rri c3
        simp [sx_ev, sx_dot] at hv
        simp [sx_fs, sx_ev, sx_dot] at c2
        have cg := c4.1
        simp [sx_ev, sx_dot] at cg
        refine ⟨jT_fr (Mc := kz23_C.2.2.2.2.2.2.2.2.1) (by decide +kernel) c hm, ho', v, rfl, ?_⟩
        show v.toInt = if 0 ≤ n1.toInt ∧ n1.toInt < q.2 ∧ 0 ≤ n2.toInt ∧ n2.toInt ≤ 7 ∧ 0 ≤ n3.toInt ∧ n3.toInt ≤ 9999 then 1 else 0
        split <;> omega
      · obtain rfl := sz_bn c1
        obtain ⟨v, rfl, hv⟩ := sw_rri c3
        simp [sx_ev, sx_dot] at hv
        simp [sx_fs, sx_ev, sx_dot] at c2
        refine ⟨jT_fr (Mc := kz23_C.2.2.2.2.2.2.2.2.1) (by decide +kernel) c hm, ho', v, rfl, ?_⟩
        show v.toInt = if 0 ≤ n1.toInt ∧ n1.toInt < q.2 ∧ 0 ≤ n2.toInt ∧ n2.toInt ≤ 7 ∧ 0 ≤ n3.toInt ∧ n3.toInt ≤ 9999 then 1 else 0
        split <;> omega
      · obtain rfl := sz_bn c1
        obtain ⟨v, rfl, hv⟩ := sw_rri c3
        simp [sx_ev, sx_dot] at hv
        simp [sx_fs, sx_ev, sx_dot] at c2
        refine ⟨jT_fr (Mc := kz23_C.2.2.2.2.2.2.2.2.1) (by decide +kernel) c hm, ho', v, rfl, ?_⟩
        show v.toInt = if 0 ≤ n1.toInt ∧ n1.toInt < q.2 ∧ 0 ≤ n2.toInt ∧ n2.toInt ≤ 7 ∧ 0 ≤ n3.toInt ∧ n3.toInt ≤ 9999 then 1 else 0
        split <;> omega
    · refine ⟨kz24_C, [n1.toInt, n2.toInt, n3.toInt, 0], ((kz24_M l D dA) kz24_C List.mem_cons_self _ _ _ _ _ hPg).2, ⟨by decide, by decide⟩, ⟨(sw_i32 n1).1, (sw_i32 n1).2, (sw_i32 n2).1, (sw_i32 n2).2, (sw_i32 n3).1, (sw_i32 n3).2, (by decide), (by decide), trivial⟩, (fun f hf => by cases hf), ⟨sx_vr.rf ⟨0, 0, _, rfl, rfl, ha, rfl⟩, sx_vr.it (by simp [sx_ev, sx_dot]), sx_vr.it (by simp [sx_ev, sx_dot]), sx_vr.it (by simp [sx_ev, sx_dot]), trivial⟩, ⟨fun g hg => ?_, sw_gP_ok (by decide +kernel) hI⟩, fun rv hu b c => ⟨sw_iI_ok (q := kz24_C) (by decide +kernel) b c hI, ?_⟩⟩
      · simp only [kz24_C, List.mem_cons, List.not_mem_nil, or_false] at hg
        subst hg
        simp [sx_ev, sx_dot, a1]
      have ho' := jR_fr (Mc := kz24_C.2.2.2.2.2.2.2.2.1) (by decide +kernel) c ho
      obtain ⟨ou, hou, x1, c1, c2, c3, c4⟩ := b
      simp only [kz24_C, List.mem_cons, List.not_mem_nil, or_false] at hou
      rcases hou with rfl | rfl | rfl | rfl | rfl | rfl | rfl | rfl
      · obtain rfl := sz_bn c1
        obtain ⟨v, rfl, hv⟩ := sw_rri c3
        simp [sx_ev, sx_dot] at hv
        simp [sx_fs, sx_ev, sx_dot] at c2
        refine ⟨jT_fr (Mc := kz24_C.2.2.2.2.2.2.2.2.1) (by decide +kernel) c hm, ho', v, rfl, ?_⟩
        show v.toInt = if 0 ≤ n1.toInt ∧ n1.toInt < q.2 ∧ 0 ≤ n2.toInt ∧ n2.toInt ≤ 7 ∧ 0 ≤ n3.toInt ∧ n3.toInt ≤ 9999 then 1 else 0
        split <;> omega
      · obtain rfl := sz_bn c1
        obtain ⟨v, rfl, hv⟩ := sw_rri c3
        simp [sx_ev, sx_dot] at hv
        simp [sx_fs, sx_ev, sx_dot] at c2
        refine ⟨jT_fr (Mc := kz24_C.2.2.2.2.2.2.2.2.1) (by decide +kernel) c hm, ho', v, rfl, ?_⟩
        show v.toInt = if 0 ≤ n1.toInt ∧ n1.toInt < q.2 ∧ 0 ≤ n2.toInt ∧ n2.toInt ≤ 7 ∧ 0 ≤ n3.toInt ∧ n3.toInt ≤ 9999 then 1 else 0
        split <;> omega
      · obtain rfl := sz_bn c1
        obtain ⟨v, rfl, hv⟩ := sw_rri c3
        simp [sx_ev, sx_dot] at hv
        simp [sx_fs, sx_ev, sx_dot] at c2
        refine ⟨jT_fr (Mc := kz24_C.2.2.2.2.2.2.2.2.1) (by decide +kernel) c hm, ho', v, rfl, ?_⟩
        show v.toInt = if 0 ≤ n1.toInt ∧ n1.toInt < q.2 ∧ 0 ≤ n2.toInt ∧ n2.toInt ≤ 7 ∧ 0 ≤ n3.toInt ∧ n3.toInt ≤ 9999 then 1 else 0
        split <;> omega
      · obtain rfl := sz_bn c1
        obtain ⟨v, rfl, hv⟩ := sw_rri c3
        simp [sx_ev, sx_dot] at hv
        simp [sx_fs, sx_ev, sx_dot] at c2
        refine ⟨jT_fr (Mc := kz24_C.2.2.2.2.2.2.2.2.1) (by decide +kernel) c hm, ho', v, rfl, ?_⟩
        show v.toInt = if 0 ≤ n1.toInt ∧ n1.toInt < q.2 ∧ 0 ≤ n2.toInt ∧ n2.toInt ≤ 7 ∧ 0 ≤ n3.toInt ∧ n3.toInt ≤ 9999 then 1 else 0
        split <;> omega
      · obtain rfl := sz_bn c1
        obtain ⟨v, rfl, hv⟩ := sw_rri c3
        simp [sx_ev, sx_dot] at hv
        simp [sx_fs, sx_ev, sx_dot] at c2
        refine ⟨jT_fr (Mc := kz24_C.2.2.2.2.2.2.2.2.1) (by decide +kernel) c hm, ho', v, rfl, ?_⟩
        show v.toInt = if 0 ≤ n1.toInt ∧ n1.toInt < q.2 ∧ 0 ≤ n2.toInt ∧ n2.toInt ≤ 7 ∧ 0 ≤ n3.toInt ∧ n3.toInt ≤ 9999 then 1 else 0
        split <;> omega
      · obtain rfl := sz_bn c1
        obtain ⟨v, rfl, hv⟩ := sw_rri c3
        simp [sx_ev, sx_dot] at hv
        simp [sx_fs, sx_ev, sx_dot] at c2
        have cg := c4.1
        simp [sx_ev, sx_dot] at cg
        refine ⟨jT_fr (Mc := kz24_C.2.2.2.2.2.2.2.2.1) (by decide +kernel) c hm, ho', v, rfl, ?_⟩
        show v.toInt = if 0 ≤ n1.toInt ∧ n1.toInt < q.2 ∧ 0 ≤ n2.toInt ∧ n2.toInt ≤ 7 ∧ 0 ≤ n3.toInt ∧ n3.toInt ≤ 9999 then 1 else 0
        split <;> omega
      · obtain rfl := sz_bn c1
        obtain ⟨v, rfl, hv⟩ := sw_rri c3
        simp [sx_ev, sx_dot] at hv
        simp [sx_fs, sx_ev, sx_dot] at c2
        refine ⟨jT_fr (Mc := kz24_C.2.2.2.2.2.2.2.2.1) (by decide +kernel) c hm, ho', v, rfl, ?_⟩
        show v.toInt = if 0 ≤ n1.toInt ∧ n1.toInt < q.2 ∧ 0 ≤ n2.toInt ∧ n2.toInt ≤ 7 ∧ 0 ≤ n3.toInt ∧ n3.toInt ≤ 9999 then 1 else 0
        split <;> omega
      · obtain rfl := sz_bn c1
        obtain ⟨v, rfl, hv⟩ := sw_rri c3
        simp [sx_ev, sx_dot] at hv
        simp [sx_fs, sx_ev, sx_dot] at c2
        refine ⟨jT_fr (Mc := kz24_C.2.2.2.2.2.2.2.2.1) (by decide +kernel) c hm, ho', v, rfl, ?_⟩
        show v.toInt = if 0 ≤ n1.toInt ∧ n1.toInt < q.2 ∧ 0 ≤ n2.toInt ∧ n2.toInt ≤ 7 ∧ 0 ≤ n3.toInt ∧ n3.toInt ≤ 9999 then 1 else 0
        split <;> omega
theorem jo_R_product {l : Launch} {D : va_G} {dA : Nat → ClassId} {ad : List Nat} {hh : sx_H} {ax : Nat} {n1 n2 n3 : Int32} {o o' : Option (Int × Int)} (ha : ad[692]? = some ax) (hI : sw_I hh) (hm : jR hh o) (ho : jT hh o') (hz : ∀ q, o = some q → (0 ≤ q.1 ∧ q.1 ≤ 1100) ∧ (0 ≤ q.2 ∧ q.2 ≤ 8)) : sw_Ok l D dA ad room_1 (sy_my 12 31 32) prog_14_method_7_code 4 ((some .boolean)) [Value.ref ax, Value.int n1, Value.int n2, Value.int n3] hh (fun rv hu => sw_I hu ∧ jR hu (jn_id o) ∧ jT hu o' ∧ ∃ v : Int32, rv = some (.int v) ∧ v.toInt = ja_product n1.toInt n2.toInt n3.toInt o) := by
  have hPg : sy_pg[204]? = some ((sy_my 12 31 32, prog_14_method_7_code, 4, (some .boolean)), sy_c204) := rfl
  cases o with
  | none =>
    have e2 : hh 92 0 4 = 1 := hm
    refine ⟨kz49_C, [n1.toInt, n2.toInt, n3.toInt, 1], ((kz49_M l D dA) kz49_C List.mem_cons_self _ _ _ _ _ hPg).2, ⟨by decide, by decide⟩, ⟨(sw_i32 n1).1, (sw_i32 n1).2, (sw_i32 n2).1, (sw_i32 n2).2, (sw_i32 n3).1, (sw_i32 n3).2, (by decide), (by decide), trivial⟩, (fun f hf => by cases hf), ⟨sx_vr.rf ⟨692, 0, _, sw_k692, rfl, ha, rfl⟩, sx_vr.it (by simp [sx_ev, sx_dot]), sx_vr.it (by simp [sx_ev, sx_dot]), sx_vr.it (by simp [sx_ev, sx_dot]), trivial⟩, ⟨fun g hg => ?_, sw_gP_ok (by decide +kernel) hI⟩, fun rv hu b c => ⟨sw_iI_ok (q := kz49_C) (by decide +kernel) b c hI, ?_⟩⟩
    · simp only [kz49_C, List.mem_cons, List.not_mem_nil, or_false] at hg
      subst hg
      simp [sx_ev, sx_dot, e2]
    have ho' := jT_fr (Mc := kz49_C.2.2.2.2.2.2.2.2.1) (by decide +kernel) c ho
    obtain ⟨ou, hou, x1, c1, c2, c3, c4⟩ := b
    simp only [kz49_C, List.mem_cons, List.not_mem_nil, or_false] at hou
    rcases hou with rfl | rfl | rfl | rfl | rfl | rfl | rfl
    · obtain rfl := sz_bn c1
      obtain ⟨v, rfl, hv⟩ := sw_rri c3
      simp [sx_ev, sx_dot] at hv
      simp [sx_fs, sx_ev, sx_dot] at c2
      have cg := c4.1
      simp [sx_ev, sx_dot] at cg
      exact ⟨jR_frA (Mc := kz49_C.2.2.2.2.2.2.2.2.1) (by decide +kernel) c hm, ho', v, rfl, by simp [ja_product]; omega⟩
    · obtain rfl := sz_bn c1
      obtain ⟨v, rfl, hv⟩ := sw_rri c3
      simp [sx_ev, sx_dot] at hv
      simp [sx_fs, sx_ev, sx_dot] at c2
      have cg := c4.1
      simp [sx_ev, sx_dot] at cg
      exact ⟨jR_frA (Mc := kz49_C.2.2.2.2.2.2.2.2.1) (by decide +kernel) c hm, ho', v, rfl, by simp [ja_product]; omega⟩
    · obtain rfl := sz_bn c1
      obtain ⟨v, rfl, hv⟩ := sw_rri c3
      simp [sx_ev, sx_dot] at hv
      simp [sx_fs, sx_ev, sx_dot] at c2
      have cg := c4.1
      simp [sx_ev, sx_dot] at cg
      exact ⟨jR_frA (Mc := kz49_C.2.2.2.2.2.2.2.2.1) (by decide +kernel) c hm, ho', v, rfl, by simp [ja_product]; omega⟩
    · obtain rfl := sz_bn c1
      obtain ⟨v, rfl, hv⟩ := sw_rri c3
      simp [sx_ev, sx_dot] at hv
      simp [sx_fs, sx_ev, sx_dot] at c2
      have cg := c4.1
      simp [sx_ev, sx_dot] at cg
      exact ⟨jR_frA (Mc := kz49_C.2.2.2.2.2.2.2.2.1) (by decide +kernel) c hm, ho', v, rfl, by simp [ja_product]; omega⟩
    · obtain rfl := sz_bn c1
      obtain ⟨v, rfl, hv⟩ := sw_rri c3
      simp [sx_ev, sx_dot] at hv
      simp [sx_fs, sx_ev, sx_dot] at c2
      have cg := c4.1
      simp [sx_ev, sx_dot] at cg
      exact ⟨jR_frA (Mc := kz49_C.2.2.2.2.2.2.2.2.1) (by decide +kernel) c hm, ho', v, rfl, by simp [ja_product]; omega⟩
    · obtain rfl := sz_bn c1
      obtain ⟨v, rfl, hv⟩ := sw_rri c3
      simp [sx_ev, sx_dot] at hv
      simp [sx_fs, sx_ev, sx_dot] at c2
      have cg := c4.1
      simp [sx_ev, sx_dot] at cg
      exact ⟨jR_frA (Mc := kz49_C.2.2.2.2.2.2.2.2.1) (by decide +kernel) c hm, ho', v, rfl, by simp [ja_product]; omega⟩
    · obtain rfl := sz_bn c1
      obtain ⟨v, rfl, hv⟩ := sw_rri c3
      simp [sx_ev, sx_dot] at hv
      simp [sx_fs, sx_ev, sx_dot] at c2
      have cg := c4.1
      simp [sx_ev, sx_dot] at cg
      exact ⟨jR_frA (Mc := kz49_C.2.2.2.2.2.2.2.2.1) (by decide +kernel) c hm, ho', v, rfl, by simp [ja_product]; omega⟩
  | some q =>
    obtain ⟨a1, a2, a3, a4⟩ := id hm
    obtain ⟨z1, z2⟩ := hz q rfl
    refine ⟨kz50_C, [n1.toInt, n2.toInt, n3.toInt, 0, q.2], ((kz50_M l D dA) kz50_C List.mem_cons_self _ _ _ _ _ hPg).2, ⟨by decide, by decide⟩, ⟨(sw_i32 n1).1, (sw_i32 n1).2, (sw_i32 n2).1, (sw_i32 n2).2, (sw_i32 n3).1, (sw_i32 n3).2, (by decide), (by decide), z2.1, z2.2, trivial⟩, (fun f hf => by cases hf), ⟨sx_vr.rf ⟨692, 0, _, sw_k692, rfl, ha, rfl⟩, sx_vr.it (by simp [sx_ev, sx_dot]), sx_vr.it (by simp [sx_ev, sx_dot]), sx_vr.it (by simp [sx_ev, sx_dot]), trivial⟩, ⟨fun g hg => ?_, sw_gP_ok (by decide +kernel) hI⟩, fun rv hu b c => ⟨sw_iI_ok (q := kz50_C) (by decide +kernel) b c hI, ?_⟩⟩
    · simp only [kz50_C, List.mem_cons, List.not_mem_nil, or_false] at hg
      rcases hg with rfl | rfl <;> simp [sx_ev, sx_dot, a1, a4]
    have ho' := jT_fr (Mc := kz50_C.2.2.2.2.2.2.2.2.1) (by decide +kernel) c ho
    obtain ⟨ou, hou, x1, c1, c2, c3, c4⟩ := b
    simp only [kz50_C, List.mem_cons, List.not_mem_nil, or_false] at hou
    rcases hou with rfl | rfl | rfl | rfl | rfl | rfl | rfl
    · obtain rfl := sz_bn c1
      obtain ⟨v, rfl, hv⟩ := sw_rri c3
      simp [sx_ev, sx_dot] at hv
      simp [sx_fs, sx_ev, sx_dot] at c2
      have cg := c4.1
      simp [sx_ev, sx_dot] at cg
      refine ⟨jR_fr (Mc := kz50_C.2.2.2.2.2.2.2.2.1) (by decide +kernel) c hm, ho', v, rfl, ?_⟩
      show v.toInt = if 0 ≤ n1.toInt ∧ n1.toInt < q.2 ∧ 0 ≤ n2.toInt ∧ n2.toInt ≤ 7 ∧ 0 ≤ n3.toInt ∧ n3.toInt ≤ 9999 then 1 else 0
      split <;> omega
    · obtain rfl := sz_bn c1
      obtain ⟨v, rfl, hv⟩ := sw_rri c3
      simp [sx_ev, sx_dot] at hv
      simp [sx_fs, sx_ev, sx_dot] at c2
      have cg := c4.1
      simp [sx_ev, sx_dot] at cg
      refine ⟨jR_fr (Mc := kz50_C.2.2.2.2.2.2.2.2.1) (by decide +kernel) c hm, ho', v, rfl, ?_⟩
      show v.toInt = if 0 ≤ n1.toInt ∧ n1.toInt < q.2 ∧ 0 ≤ n2.toInt ∧ n2.toInt ≤ 7 ∧ 0 ≤ n3.toInt ∧ n3.toInt ≤ 9999 then 1 else 0
      split <;> omega
    · obtain rfl := sz_bn c1
      obtain ⟨v, rfl, hv⟩ := sw_rri c3
      simp [sx_ev, sx_dot] at hv
      simp [sx_fs, sx_ev, sx_dot] at c2
      have cg := c4.1
      simp [sx_ev, sx_dot] at cg
      refine ⟨jR_fr (Mc := kz50_C.2.2.2.2.2.2.2.2.1) (by decide +kernel) c hm, ho', v, rfl, ?_⟩
      show v.toInt = if 0 ≤ n1.toInt ∧ n1.toInt < q.2 ∧ 0 ≤ n2.toInt ∧ n2.toInt ≤ 7 ∧ 0 ≤ n3.toInt ∧ n3.toInt ≤ 9999 then 1 else 0
      split <;> omega
    · obtain rfl := sz_bn c1
      obtain ⟨v, rfl, hv⟩ := sw_rri c3
      simp [sx_ev, sx_dot] at hv
      simp [sx_fs, sx_ev, sx_dot] at c2
      have cg := c4.1
      simp [sx_ev, sx_dot] at cg
      refine ⟨jR_fr (Mc := kz50_C.2.2.2.2.2.2.2.2.1) (by decide +kernel) c hm, ho', v, rfl, ?_⟩
      show v.toInt = if 0 ≤ n1.toInt ∧ n1.toInt < q.2 ∧ 0 ≤ n2.toInt ∧ n2.toInt ≤ 7 ∧ 0 ≤ n3.toInt ∧ n3.toInt ≤ 9999 then 1 else 0
      split <;> omega
    · obtain rfl := sz_bn c1
      obtain ⟨v, rfl, hv⟩ := sw_rri c3
      simp [sx_ev, sx_dot] at hv
      simp [sx_fs, sx_ev, sx_dot] at c2
      have cg := c4.1
      simp [sx_ev, sx_dot] at cg
      refine ⟨jR_fr (Mc := kz50_C.2.2.2.2.2.2.2.2.1) (by decide +kernel) c hm, ho', v, rfl, ?_⟩
      show v.toInt = if 0 ≤ n1.toInt ∧ n1.toInt < q.2 ∧ 0 ≤ n2.toInt ∧ n2.toInt ≤ 7 ∧ 0 ≤ n3.toInt ∧ n3.toInt ≤ 9999 then 1 else 0
      split <;> omega
    · obtain rfl := sz_bn c1
      obtain ⟨v, rfl, hv⟩ := sw_rri c3
      simp [sx_ev, sx_dot] at hv
      simp [sx_fs, sx_ev, sx_dot] at c2
      have cg := c4.1
      simp [sx_ev, sx_dot] at cg
      refine ⟨jR_fr (Mc := kz50_C.2.2.2.2.2.2.2.2.1) (by decide +kernel) c hm, ho', v, rfl, ?_⟩
      show v.toInt = if 0 ≤ n1.toInt ∧ n1.toInt < q.2 ∧ 0 ≤ n2.toInt ∧ n2.toInt ≤ 7 ∧ 0 ≤ n3.toInt ∧ n3.toInt ≤ 9999 then 1 else 0
      split <;> omega
    · obtain rfl := sz_bn c1
      obtain ⟨v, rfl, hv⟩ := sw_rri c3
      simp [sx_ev, sx_dot] at hv
      simp [sx_fs, sx_ev, sx_dot] at c2
      have cg := c4.1
      simp [sx_ev, sx_dot] at cg
      refine ⟨jR_fr (Mc := kz50_C.2.2.2.2.2.2.2.2.1) (by decide +kernel) c hm, ho', v, rfl, ?_⟩
      show v.toInt = if 0 ≤ n1.toInt ∧ n1.toInt < q.2 ∧ 0 ≤ n2.toInt ∧ n2.toInt ≤ 7 ∧ 0 ≤ n3.toInt ∧ n3.toInt ≤ 9999 then 1 else 0
      split <;> omega
theorem jo_T_boot {l : Launch} {D : va_G} {dA : Nat → ClassId} {ad : List Nat} {hh : sx_H} {ax : Nat} {o o' : Option (Int × Int)} (ha : ad[0]? = some ax) (hI : sw_I hh) (hm : jT hh o) (ho : jR hh o') : sw_Ok l D dA ad room_1 (sy_my 0 39 30) prog_1_method_7_code 1 ((some .boolean)) [Value.ref ax] hh (fun rv hu => sw_I hu ∧ jT hu (jn_boot o) ∧ jR hu o' ∧ ∃ v : Int32, rv = some (.int v)) := by
  have hPg : sy_pg[15]? = some ((sy_my 0 39 30, prog_1_method_7_code, 1, (some .boolean)), sy_c15) := rfl
  cases o with
  | none =>
    have e2 : hh 91 0 9 = 1 := hm
    refine ⟨kz32_C, [1], ((kz32_M l D dA) kz32_C List.mem_cons_self _ _ _ _ _ hPg).2, ⟨by decide, by decide⟩, ⟨(by decide), (by decide), trivial⟩, (fun f hf => by cases hf), ⟨sx_vr.rf ⟨0, 0, _, rfl, rfl, ha, rfl⟩, trivial⟩, ⟨fun g hg => ?_, sw_gP_ok (by decide +kernel) hI⟩, fun rv hu b c => ⟨sw_iI_ok (q := kz32_C) (by decide +kernel) b c hI, ?_⟩⟩
    · simp only [kz32_C, List.mem_cons, List.not_mem_nil, or_false] at hg
      subst hg
      simp [sx_ev, sx_dot, e2]
    have ho' := jR_fr (Mc := kz32_C.2.2.2.2.2.2.2.2.1) (by decide +kernel) c ho
    obtain ⟨ou, hou, x1, c1, c2, c3, c4⟩ := b
    simp only [kz32_C, List.mem_cons, List.not_mem_nil, or_false] at hou
    rcases hou with rfl | rfl
    · obtain rfl := sz_bn c1
      obtain ⟨v, rfl, hv⟩ := sw_rri c3
      simp [sx_ev, sx_dot] at hv
      have cg := c4.1
      simp [sx_ev, sx_dot] at cg
      have e9 : hu 91 0 9 = 1 := by omega
      exact ⟨e9, ho', v, rfl⟩
    · obtain ⟨x0, rfl⟩ : ∃ x0, x1 = [x0] := by
        rcases x1 with _ | ⟨x0, _ | ⟨x2, x3⟩⟩
        · exact c1.elim
        · exact ⟨x0, rfl⟩
        · exact c1.2.2.elim
      obtain ⟨v, rfl, hv⟩ := sw_rri c3
      simp [sx_ev, sx_dot] at hv
      have cg := c4.1
      simp [sx_ev, sx_dot] at cg
      have e9 : hu 91 0 9 = 1 := by omega
      exact ⟨e9, ho', v, rfl⟩
  | some q =>
    have a1 := hm.1
    have a2 := hm.2.1
    refine ⟨kz33_C, [0, 1], ((kz33_M l D dA) kz33_C List.mem_cons_self _ _ _ _ _ hPg).2, ⟨by decide, by decide⟩, ⟨(by decide), (by decide), (by decide), (by decide), trivial⟩, (fun f hf => by cases hf), ⟨sx_vr.rf ⟨0, 0, _, rfl, rfl, ha, rfl⟩, trivial⟩, ⟨fun g hg => ?_, sw_gP_ok (by decide +kernel) hI⟩, fun rv hu b c => ⟨sw_iI_ok (q := kz33_C) (by decide +kernel) b c hI, ?_⟩⟩
    · simp only [kz33_C, List.mem_cons, List.not_mem_nil, or_false] at hg
      rcases hg with rfl | rfl <;> simp [sx_ev, sx_dot, a1, a2]
    have ho' := jR_fr (Mc := kz33_C.2.2.2.2.2.2.2.2.1) (by decide +kernel) c ho
    obtain ⟨ou, hou, x1, c1, c2, c3, c4⟩ := b
    simp only [kz33_C, List.mem_cons, List.not_mem_nil, or_false] at hou
    subst hou
    obtain rfl := sz_bn c1
    obtain ⟨v, rfl, hv⟩ := sw_rri c3
    simp [sx_ev, sx_dot] at hv
    have cg := c4.1
    simp [sx_ev, sx_dot] at cg
    have e9 : hu 91 0 9 = 1 := by omega
    exact ⟨e9, ho', v, rfl⟩
theorem jo_R_boot {l : Launch} {D : va_G} {dA : Nat → ClassId} {ad : List Nat} {hh : sx_H} {ax : Nat} {o o' : Option (Int × Int)} (ha : ad[692]? = some ax) (hI : sw_I hh) (hm : jR hh o) (ho : jT hh o') : sw_Ok l D dA ad room_1 (sy_my 12 39 30) prog_14_method_8_code 2 ((some .boolean)) [Value.ref ax] hh (fun rv hu => sw_I hu ∧ jR hu (jn_boot o) ∧ jT hu o' ∧ ∃ v : Int32, rv = some (.int v)) := by
  have hPg : sy_pg[224]? = some ((sy_my 12 39 30, prog_14_method_8_code, 2, (some .boolean)), sy_c224) := rfl
  cases o with
  | none =>
    have e2 : hh 92 0 4 = 1 := hm
    refine ⟨kz51_C, [1], ((kz51_M l D dA) kz51_C List.mem_cons_self _ _ _ _ _ hPg).2, ⟨by decide, by decide⟩, ⟨(by decide), (by decide), trivial⟩, (fun f hf => by cases hf), ⟨sx_vr.rf ⟨692, 0, _, sw_k692, rfl, ha, rfl⟩, trivial⟩, ⟨fun g hg => ?_, sw_gP_ok (by decide +kernel) hI⟩, fun rv hu b c => ⟨sw_iI_ok (q := kz51_C) (by decide +kernel) b c hI, ?_⟩⟩
    · simp only [kz51_C, List.mem_cons, List.not_mem_nil, or_false] at hg
      subst hg
      simp [sx_ev, sx_dot, e2]
    have ho' := jT_fr (Mc := kz51_C.2.2.2.2.2.2.2.2.1) (by decide +kernel) c ho
    obtain ⟨ou, hou, x1, c1, c2, c3, c4⟩ := b
    simp only [kz51_C, List.mem_cons, List.not_mem_nil, or_false] at hou
    rcases hou with rfl | rfl
    · obtain ⟨x0, rfl⟩ : ∃ x0, x1 = [x0] := by
        rcases x1 with _ | ⟨x0, _ | ⟨x2, x3⟩⟩
        · exact c1.elim
        · exact ⟨x0, rfl⟩
        · exact c1.2.2.elim
      obtain ⟨v, rfl, hv⟩ := sw_rri c3
      simp [sx_ev, sx_dot] at hv
      have cg := c4.1
      simp [sx_ev, sx_dot] at cg
      have e9 : hu 92 0 4 = 1 := by omega
      exact ⟨e9, ho', v, rfl⟩
    · obtain rfl := sz_bn c1
      obtain ⟨v, rfl, hv⟩ := sw_rri c3
      simp [sx_ev, sx_dot] at hv
      have cg := c4.1
      simp [sx_ev, sx_dot] at cg
      have e9 : hu 92 0 4 = 1 := by omega
      exact ⟨e9, ho', v, rfl⟩
  | some q =>
    have a1 := hm.1
    have a2 := hm.2.1
    refine ⟨kz73_C, [0, 0], ((kz73_M l D dA) kz73_C List.mem_cons_self _ _ _ _ _ hPg).2, ⟨by decide, by decide⟩, ⟨(by decide), (by decide), (by decide), (by decide), trivial⟩, (fun f hf => by cases hf), ⟨sx_vr.rf ⟨692, 0, _, sw_k692, rfl, ha, rfl⟩, trivial⟩, ⟨fun g hg => ?_, sw_gP_ok (by decide +kernel) hI⟩, fun rv hu b c => ⟨sw_iI_ok (q := kz73_C) (by decide +kernel) b c hI, ?_⟩⟩
    · simp only [kz73_C, List.mem_cons, List.not_mem_nil, or_false] at hg
      rcases hg with rfl | rfl <;> simp [sx_ev, sx_dot, a1, a2]
    have ho' := jT_fr (Mc := kz73_C.2.2.2.2.2.2.2.2.1) (by decide +kernel) c ho
    obtain ⟨ou, hou, x1, c1, c2, c3, c4⟩ := b
    simp only [kz73_C, List.mem_cons, List.not_mem_nil, or_false] at hou
    subst hou
    obtain rfl := sz_bn c1
    obtain ⟨v, rfl, hv⟩ := sw_rri c3
    simp [sx_ev, sx_dot] at hv
    have cg := c4.1
    simp [sx_ev, sx_dot] at cg
    have e9 : hu 92 0 4 = 1 := by omega
    exact ⟨e9, ho', v, rfl⟩
theorem jo_T_power {l : Launch} {D : va_G} {dA : Nat → ClassId} {ad : List Nat} {hh : sx_H} {ax : Nat} {n1 : Int32} {o o' : Option (Int × Int)} (ha : ad[0]? = some ax) (hI : sw_I hh) (hm : jT hh o) (ho : jR hh o') : sw_Ok l D dA ad room_1 (sy_my 0 40 41) prog_1_method_8_code 2 (none) [Value.ref ax, Value.int n1] hh (fun rv hu => sw_I hu ∧ jT hu (jn_id o) ∧ jR hu o' ∧ rv = none) := by
  have hPg : sy_pg[16]? = some ((sy_my 0 40 41, prog_1_method_8_code, 2, none), sy_c16) := rfl
  exact ⟨tz21_C, [n1.toInt], ((tz21_M l D dA) tz21_C List.mem_cons_self _ _ _ _ _ hPg).2, ⟨by decide, by decide⟩, sw_bI [n1], (fun f hf => by cases hf), ⟨sx_vr.rf ⟨0, 0, _, rfl, rfl, ha, rfl⟩, sx_vr.it (by simp [sx_ev, sx_dot]), trivial⟩, sw_gI_ok (by decide +kernel) hI, fun rv hu b c => ⟨sw_iI_ok (q := tz21_C) (by decide +kernel) b c hI, jT_fr (by decide +kernel) c hm, jR_fr (by decide +kernel) c ho, sw_rN_ok (q := tz21_C) (by decide +kernel) b⟩⟩
theorem jo_R_power {l : Launch} {D : va_G} {dA : Nat → ClassId} {ad : List Nat} {hh : sx_H} {ax : Nat} {n1 : Int32} {o o' : Option (Int × Int)} (ha : ad[692]? = some ax) (hI : sw_I hh) (hm : jR hh o) (ho : jT hh o') : sw_Ok l D dA ad room_1 (sy_my 12 40 41) prog_14_method_10_code 2 (none) [Value.ref ax, Value.int n1] hh (fun rv hu => sw_I hu ∧ jR hu (jn_id o) ∧ jT hu o' ∧ rv = none) := by
  have hPg : sy_pg[225]? = some ((sy_my 12 40 41, prog_14_method_10_code, 2, none), sy_c225) := rfl
  exact ⟨rz31_C, [n1.toInt], ((rz31_M l D dA) rz31_C List.mem_cons_self _ _ _ _ _ hPg).2, ⟨by decide, by decide⟩, sw_bI [n1], (fun f hf => by cases hf), ⟨sx_vr.rf ⟨692, 0, _, sw_k692, rfl, ha, rfl⟩, sx_vr.it (by simp [sx_ev, sx_dot]), trivial⟩, sw_gI_ok (by decide +kernel) hI, fun rv hu b c => ⟨sw_iI_ok (q := rz31_C) (by decide +kernel) b c hI, jR_fr (by decide +kernel) c hm, jT_fr (by decide +kernel) c ho, sw_rN_ok (q := rz31_C) (by decide +kernel) b⟩⟩
theorem jo_T_isDown {l : Launch} {D : va_G} {dA : Nat → ClassId} {ad : List Nat} {hh : sx_H} {ax : Nat} {o o' : Option (Int × Int)} (ha : ad[0]? = some ax) (hI : sw_I hh) (hm : jT hh o) (ho : jR hh o') : sw_Ok l D dA ad room_1 (sy_my 0 42 30) prog_1_method_9_code 1 ((some .boolean)) [Value.ref ax] hh (fun rv hu => sw_I hu ∧ jT hu (jn_id o) ∧ jR hu o' ∧ ∃ v : Int32, rv = some (.int v)) := by
  have hPg : sy_pg[17]? = some ((sy_my 0 42 30, prog_1_method_9_code, 1, (some .boolean)), sy_c17) := rfl
  exact ⟨tz22_C, [], ((tz22_M l D dA) tz22_C List.mem_cons_self _ _ _ _ _ hPg).2, ⟨by decide, by decide⟩, sw_bI [], (fun f hf => by cases hf), ⟨sx_vr.rf ⟨0, 0, _, rfl, rfl, ha, rfl⟩, trivial⟩, sw_gI_ok (by decide +kernel) hI, fun rv hu b c => ⟨sw_iI_ok (q := tz22_C) (by decide +kernel) b c hI, jT_fr (by decide +kernel) c hm, jR_fr (by decide +kernel) c ho, sw_rI_ok (q := tz22_C) (by decide +kernel) b⟩⟩
theorem jo_R_isDown {l : Launch} {D : va_G} {dA : Nat → ClassId} {ad : List Nat} {hh : sx_H} {ax : Nat} {o o' : Option (Int × Int)} (ha : ad[692]? = some ax) (hI : sw_I hh) (hm : jR hh o) (ho : jT hh o') : sw_Ok l D dA ad room_1 (sy_my 12 42 30) prog_14_method_11_code 1 ((some .boolean)) [Value.ref ax] hh (fun rv hu => sw_I hu ∧ jR hu (jn_id o) ∧ jT hu o' ∧ ∃ v : Int32, rv = some (.int v)) := by
  have hPg : sy_pg[226]? = some ((sy_my 12 42 30, prog_14_method_11_code, 1, (some .boolean)), sy_c226) := rfl
  exact ⟨rz32_C, [], ((rz32_M l D dA) rz32_C List.mem_cons_self _ _ _ _ _ hPg).2, ⟨by decide, by decide⟩, sw_bI [], (fun f hf => by cases hf), ⟨sx_vr.rf ⟨692, 0, _, sw_k692, rfl, ha, rfl⟩, trivial⟩, sw_gI_ok (by decide +kernel) hI, fun rv hu b c => ⟨sw_iI_ok (q := rz32_C) (by decide +kernel) b c hI, jR_fr (by decide +kernel) c hm, jT_fr (by decide +kernel) c ho, sw_rI_ok (q := rz32_C) (by decide +kernel) b⟩⟩
theorem jo_T_call {l : Launch} {D : va_G} {dA : Nat → ClassId} {ad : List Nat} {hh : sx_H} {ax : Nat} {n1 n2 n3 n4 : Int32} {o o' : Option (Int × Int)} (ha : ad[0]? = some ax) (hI : sw_I hh) (hm : jT hh o) (ho : jR hh o') : sw_Ok l D dA ad room_1 (sy_my 0 243 134) prog_1_method_10_code 7 ((some .int)) [Value.ref ax, Value.int n1, Value.int n2, Value.int n3, Value.int n4] hh (fun rv hu => sw_I hu ∧ jT hu (jn_id o) ∧ jR hu o' ∧ ∃ v : Int32, rv = some (.int v)) := by
  have hPg : sy_pg[181]? = some ((sy_my 0 243 134, prog_1_method_10_code, 7, (some .int)), sy_c181) := rfl
  cases o with
  | none =>
    exact ⟨tz402_C, [n1.toInt, n2.toInt, n3.toInt, n4.toInt], ((tz402_M l D dA) tz402_C List.mem_cons_self _ _ _ _ _ hPg).2, ⟨by decide, by decide⟩, sw_bI [n1, n2, n3, n4], (fun f hf => by cases hf), ⟨sx_vr.rf ⟨0, 0, _, rfl, rfl, ha, rfl⟩, sx_vr.it (by simp [sx_ev, sx_dot]), sx_vr.it (by simp [sx_ev, sx_dot]), sx_vr.it (by simp [sx_ev, sx_dot]), sx_vr.it (by simp [sx_ev, sx_dot]), trivial⟩, sw_gI_ok (by decide +kernel) hI, fun rv hu b c => ⟨sw_iI_ok (q := tz402_C) (by decide +kernel) b c hI, jT_frA (by decide +kernel) c hm, jR_fr (by decide +kernel) c ho, sw_rI_ok (q := tz402_C) (by decide +kernel) b⟩⟩
  | some q =>
    have e2 : hh 85 0 11 = 1 := hm.2.1
    refine ⟨kz36_C, [n1.toInt, n2.toInt, n3.toInt, n4.toInt, 1], ((kz36_M l D dA) kz36_C List.mem_cons_self _ _ _ _ _ hPg).2, ⟨by decide, by decide⟩, ⟨(sw_i32 n1).1, (sw_i32 n1).2, (sw_i32 n2).1, (sw_i32 n2).2, (sw_i32 n3).1, (sw_i32 n3).2, (sw_i32 n4).1, (sw_i32 n4).2, (by decide), (by decide), trivial⟩, (fun f hf => by cases hf), ⟨sx_vr.rf ⟨0, 0, _, rfl, rfl, ha, rfl⟩, sx_vr.it (by simp [sx_ev, sx_dot]), sx_vr.it (by simp [sx_ev, sx_dot]), sx_vr.it (by simp [sx_ev, sx_dot]), sx_vr.it (by simp [sx_ev, sx_dot]), trivial⟩, ⟨fun g hg => ?_, sw_gP_ok (by decide +kernel) hI⟩, fun rv hu b c => ⟨sw_iI_ok (q := kz36_C) (by decide +kernel) b c hI, ?_⟩⟩
    · simp only [kz36_C, List.mem_cons, List.not_mem_nil, or_false] at hg
      subst hg
      simp [sx_ev, sx_dot, e2]
    have ho' := jR_fr (Mc := kz36_C.2.2.2.2.2.2.2.2.1) (by decide +kernel) c ho
    obtain ⟨ou, hou, x1, c1, c2, c3, c4⟩ := b
    simp only [kz36_C, List.mem_cons, List.not_mem_nil, or_false] at hou
    subst hou
    obtain rfl := sz_bn c1
    obtain ⟨v, rfl, hv⟩ := sw_rri c3
    simp [sx_ev, sx_dot] at hv
    exact ⟨jT_fr (Mc := kz36_C.2.2.2.2.2.2.2.2.1) (by decide +kernel) c hm, ho', v, rfl⟩
theorem jo_R_call {l : Launch} {D : va_G} {dA : Nat → ClassId} {ad : List Nat} {hh : sx_H} {ax : Nat} {n1 n2 n3 n4 : Int32} {o o' : Option (Int × Int)} (ha : ad[692]? = some ax) (hI : sw_I hh) (hm : jR hh o) (ho : jT hh o') : sw_Ok l D dA ad room_1 (sy_my 12 243 134) prog_14_method_63_code 5 ((some .int)) [Value.ref ax, Value.int n1, Value.int n2, Value.int n3, Value.int n4] hh (fun rv hu => sw_I hu ∧ jR hu (jn_id o) ∧ jT hu o' ∧ ∃ v : Int32, rv = some (.int v)) := by
  have hPg : sy_pg[339]? = some ((sy_my 12 243 134, prog_14_method_63_code, 5, (some .int)), sy_c339) := rfl
  cases o with
  | none =>
    exact ⟨rz266_C, [n1.toInt, n2.toInt, n3.toInt, n4.toInt], ((rz266_M l D dA) rz266_C List.mem_cons_self _ _ _ _ _ hPg).2, ⟨by decide, by decide⟩, sw_bI [n1, n2, n3, n4], (fun f hf => by cases hf), ⟨sx_vr.rf ⟨692, 0, _, sw_k692, rfl, ha, rfl⟩, sx_vr.it (by simp [sx_ev, sx_dot]), sx_vr.it (by simp [sx_ev, sx_dot]), sx_vr.it (by simp [sx_ev, sx_dot]), sx_vr.it (by simp [sx_ev, sx_dot]), trivial⟩, sw_gI_ok (by decide +kernel) hI, fun rv hu b c => ⟨sw_iI_ok (q := rz266_C) (by decide +kernel) b c hI, jR_frA (by decide +kernel) c hm, jT_fr (by decide +kernel) c ho, sw_rI_ok (q := rz266_C) (by decide +kernel) b⟩⟩
  | some q =>
    have e2 : hh 92 0 3 = 0 := hm.2.1
    refine ⟨kz75_C, [n1.toInt, n2.toInt, n3.toInt, n4.toInt, 0], ((kz75_M l D dA) kz75_C List.mem_cons_self _ _ _ _ _ hPg).2, ⟨by decide, by decide⟩, ⟨(sw_i32 n1).1, (sw_i32 n1).2, (sw_i32 n2).1, (sw_i32 n2).2, (sw_i32 n3).1, (sw_i32 n3).2, (sw_i32 n4).1, (sw_i32 n4).2, (by decide), (by decide), trivial⟩, (fun f hf => by cases hf), ⟨sx_vr.rf ⟨692, 0, _, sw_k692, rfl, ha, rfl⟩, sx_vr.it (by simp [sx_ev, sx_dot]), sx_vr.it (by simp [sx_ev, sx_dot]), sx_vr.it (by simp [sx_ev, sx_dot]), sx_vr.it (by simp [sx_ev, sx_dot]), trivial⟩, ⟨fun g hg => ?_, sw_gP_ok (by decide +kernel) hI⟩, fun rv hu b c => ⟨sw_iI_ok (q := kz75_C) (by decide +kernel) b c hI, ?_⟩⟩
    · simp only [kz75_C, List.mem_cons, List.not_mem_nil, or_false] at hg
      subst hg
      simp [sx_ev, sx_dot, e2]
    have ho' := jT_fr (Mc := kz75_C.2.2.2.2.2.2.2.2.1) (by decide +kernel) c ho
    obtain ⟨ou, hou, x1, c1, c2, c3, c4⟩ := b
    simp only [kz75_C, List.mem_cons, List.not_mem_nil, or_false] at hou
    subst hou
    obtain rfl := sz_bn c1
    obtain ⟨v, rfl, hv⟩ := sw_rri c3
    simp [sx_ev, sx_dot] at hv
    have cg := c4.1
    simp [sx_ev, sx_dot] at cg
    exact ⟨jR_fr (Mc := kz75_C.2.2.2.2.2.2.2.2.1) (by decide +kernel) c hm, ho', v, rfl⟩
theorem jo_R_result {l : Launch} {D : va_G} {dA : Nat → ClassId} {ad : List Nat} {hh : sx_H} {ax : Nat} {n1 : Int32} {o o' : Option (Int × Int)} (ha : ad[692]? = some ax) (hI : sw_I hh) (hm : jR hh o) (ho : jT hh o') : sw_Ok l D dA ad room_1 (sy_my 12 244 28) prog_14_method_62_code 2 ((some .int)) [Value.ref ax, Value.int n1] hh (fun rv hu => sw_I hu ∧ jR hu (jn_id o) ∧ jT hu o' ∧ ∃ v : Int32, rv = some (.int v)) := by
  have hPg : sy_pg[232]? = some ((sy_my 12 244 28, prog_14_method_62_code, 2, (some .int)), sy_c232) := rfl
  exact ⟨rz33_C, [n1.toInt], ((rz33_M l D dA) rz33_C List.mem_cons_self _ _ _ _ _ hPg).2, ⟨by decide, by decide⟩, sw_bI [n1], (fun f hf => by cases hf), ⟨sx_vr.rf ⟨692, 0, _, sw_k692, rfl, ha, rfl⟩, sx_vr.it (by simp [sx_ev, sx_dot]), trivial⟩, sw_gI_ok (by decide +kernel) hI, fun rv hu b c => ⟨sw_iI_ok (q := rz33_C) (by decide +kernel) b c hI, jR_fr (by decide +kernel) c hm, jT_fr (by decide +kernel) c ho, sw_rI_ok (q := rz33_C) (by decide +kernel) b⟩⟩
theorem jo_T_load {l : Launch} {D : va_G} {dA : Nat → ClassId} {ad : List Nat} {hh : sx_H} {ax : Nat} {n1 : Int32} {o o' : Option (Int × Int)} (ha : ad[0]? = some ax) (hI : sw_I hh) (hm : jT hh o) (ho : jR hh o') : sw_Ok l D dA ad room_1 (sy_my 0 245 28) prog_1_method_12_code 2 ((some .int)) [Value.ref ax, Value.int n1] hh (fun rv hu => sw_I hu ∧ jT hu (jn_id o) ∧ jR hu o' ∧ ∃ v : Int32, rv = some (.int v)) := by
  have hPg : sy_pg[183]? = some ((sy_my 0 245 28, prog_1_method_12_code, 2, (some .int)), sy_c183) := rfl
  exact ⟨tz25_C, [n1.toInt], ((tz25_M l D dA) tz25_C List.mem_cons_self _ _ _ _ _ hPg).2, ⟨by decide, by decide⟩, sw_bI [n1], (fun f hf => by cases hf), ⟨sx_vr.rf ⟨0, 0, _, rfl, rfl, ha, rfl⟩, sx_vr.it (by simp [sx_ev, sx_dot]), trivial⟩, sw_gI_ok (by decide +kernel) hI, fun rv hu b c => ⟨sw_iI_ok (q := tz25_C) (by decide +kernel) b c hI, jT_fr (by decide +kernel) c hm, jR_fr (by decide +kernel) c ho, sw_rI_ok (q := tz25_C) (by decide +kernel) b⟩⟩
theorem jo_R_load {l : Launch} {D : va_G} {dA : Nat → ClassId} {ad : List Nat} {hh : sx_H} {ax : Nat} {n1 : Int32} {o o' : Option (Int × Int)} (ha : ad[692]? = some ax) (hI : sw_I hh) (hm : jR hh o) (ho : jT hh o') : sw_Ok l D dA ad room_1 (sy_my 12 245 28) prog_14_method_58_code 2 ((some .int)) [Value.ref ax, Value.int n1] hh (fun rv hu => sw_I hu ∧ jR hu (jn_id o) ∧ jT hu o' ∧ ∃ v : Int32, rv = some (.int v)) := by
  have hPg : sy_pg[228]? = some ((sy_my 12 245 28, prog_14_method_58_code, 2, (some .int)), sy_c228) := rfl
  exact ⟨rz35_C, [n1.toInt], ((rz35_M l D dA) rz35_C List.mem_cons_self _ _ _ _ _ hPg).2, ⟨by decide, by decide⟩, sw_bI [n1], (fun f hf => by cases hf), ⟨sx_vr.rf ⟨692, 0, _, sw_k692, rfl, ha, rfl⟩, sx_vr.it (by simp [sx_ev, sx_dot]), trivial⟩, sw_gI_ok (by decide +kernel) hI, fun rv hu b c => ⟨sw_iI_ok (q := rz35_C) (by decide +kernel) b c hI, jR_fr (by decide +kernel) c hm, jT_fr (by decide +kernel) c ho, sw_rI_ok (q := rz35_C) (by decide +kernel) b⟩⟩
theorem jo_T_store {l : Launch} {D : va_G} {dA : Nat → ClassId} {ad : List Nat} {hh : sx_H} {ax : Nat} {n1 : Int32} {o o' : Option (Int × Int)} (ha : ad[0]? = some ax) (hI : sw_I hh) (hm : jT hh o) (ho : jR hh o') : sw_Ok l D dA ad room_1 (sy_my 0 246 20) prog_1_method_13_code 2 ((some .boolean)) [Value.ref ax, Value.int n1] hh (fun rv hu => sw_I hu ∧ jT hu (jn_id o) ∧ jR hu o' ∧ ∃ v : Int32, rv = some (.int v)) := by
  have hPg : sy_pg[184]? = some ((sy_my 0 246 20, prog_1_method_13_code, 2, (some .boolean)), sy_c184) := rfl
  cases o with
  | none =>
    exact ⟨tz28_C, [n1.toInt], ((tz28_M l D dA) tz28_C List.mem_cons_self _ _ _ _ _ hPg).2, ⟨by decide, by decide⟩, sw_bI [n1], (fun f hf => by cases hf), ⟨sx_vr.rf ⟨0, 0, _, rfl, rfl, ha, rfl⟩, sx_vr.it (by simp [sx_ev, sx_dot]), trivial⟩, sw_gI_ok (by decide +kernel) hI, fun rv hu b c => ⟨sw_iI_ok (q := tz28_C) (by decide +kernel) b c hI, jT_frA (by decide +kernel) c hm, jR_fr (by decide +kernel) c ho, sw_rI_ok (q := tz28_C) (by decide +kernel) b⟩⟩
  | some q =>
    have e2 : hh 85 0 11 = 1 := hm.2.1
    refine ⟨kz38_C, [n1.toInt, 1], ((kz38_M l D dA) kz38_C List.mem_cons_self _ _ _ _ _ hPg).2, ⟨by decide, by decide⟩, ⟨(sw_i32 n1).1, (sw_i32 n1).2, (by decide), (by decide), trivial⟩, (fun f hf => by cases hf), ⟨sx_vr.rf ⟨0, 0, _, rfl, rfl, ha, rfl⟩, sx_vr.it (by simp [sx_ev, sx_dot]), trivial⟩, ⟨fun g hg => ?_, sw_gP_ok (by decide +kernel) hI⟩, fun rv hu b c => ⟨sw_iI_ok (q := kz38_C) (by decide +kernel) b c hI, ?_⟩⟩
    · simp only [kz38_C, List.mem_cons, List.not_mem_nil, or_false] at hg
      subst hg
      simp [sx_ev, sx_dot, e2]
    have ho' := jR_fr (Mc := kz38_C.2.2.2.2.2.2.2.2.1) (by decide +kernel) c ho
    obtain ⟨ou, hou, x1, c1, c2, c3, c4⟩ := b
    simp only [kz38_C, List.mem_cons, List.not_mem_nil, or_false] at hou
    subst hou
    obtain rfl := sz_bn c1
    obtain ⟨v, rfl, hv⟩ := sw_rri c3
    simp [sx_ev, sx_dot] at hv
    exact ⟨jT_fr (Mc := kz38_C.2.2.2.2.2.2.2.2.1) (by decide +kernel) c hm, ho', v, rfl⟩
theorem jo_R_store {l : Launch} {D : va_G} {dA : Nat → ClassId} {ad : List Nat} {hh : sx_H} {ax : Nat} {n1 : Int32} {o o' : Option (Int × Int)} (ha : ad[692]? = some ax) (hI : sw_I hh) (hm : jR hh o) (ho : jT hh o') : sw_Ok l D dA ad room_1 (sy_my 12 246 20) prog_14_method_59_code 3 ((some .boolean)) [Value.ref ax, Value.int n1] hh (fun rv hu => sw_I hu ∧ jR hu (jn_id o) ∧ jT hu o' ∧ ∃ v : Int32, rv = some (.int v)) := by
  have hPg : sy_pg[229]? = some ((sy_my 12 246 20, prog_14_method_59_code, 3, (some .boolean)), sy_c229) := rfl
  cases o with
  | none =>
    exact ⟨rz36_C, [n1.toInt], ((rz36_M l D dA) rz36_C List.mem_cons_self _ _ _ _ _ hPg).2, ⟨by decide, by decide⟩, sw_bI [n1], (fun f hf => by cases hf), ⟨sx_vr.rf ⟨692, 0, _, sw_k692, rfl, ha, rfl⟩, sx_vr.it (by simp [sx_ev, sx_dot]), trivial⟩, sw_gI_ok (by decide +kernel) hI, fun rv hu b c => ⟨sw_iI_ok (q := rz36_C) (by decide +kernel) b c hI, jR_frA (by decide +kernel) c hm, jT_fr (by decide +kernel) c ho, sw_rI_ok (q := rz36_C) (by decide +kernel) b⟩⟩
  | some q =>
    have e2 : hh 92 0 3 = 0 := hm.2.1
    refine ⟨kz77_C, [n1.toInt, 0], ((kz77_M l D dA) kz77_C List.mem_cons_self _ _ _ _ _ hPg).2, ⟨by decide, by decide⟩, ⟨(sw_i32 n1).1, (sw_i32 n1).2, (by decide), (by decide), trivial⟩, (fun f hf => by cases hf), ⟨sx_vr.rf ⟨692, 0, _, sw_k692, rfl, ha, rfl⟩, sx_vr.it (by simp [sx_ev, sx_dot]), trivial⟩, ⟨fun g hg => ?_, sw_gP_ok (by decide +kernel) hI⟩, fun rv hu b c => ⟨sw_iI_ok (q := kz77_C) (by decide +kernel) b c hI, ?_⟩⟩
    · simp only [kz77_C, List.mem_cons, List.not_mem_nil, or_false] at hg
      subst hg
      simp [sx_ev, sx_dot, e2]
    have ho' := jT_fr (Mc := kz77_C.2.2.2.2.2.2.2.2.1) (by decide +kernel) c ho
    obtain ⟨ou, hou, x1, c1, c2, c3, c4⟩ := b
    simp only [kz77_C, List.mem_cons, List.not_mem_nil, or_false] at hou
    subst hou
    obtain rfl := sz_bn c1
    obtain ⟨v, rfl, hv⟩ := sw_rri c3
    simp [sx_ev, sx_dot] at hv
    have cg := c4.1
    simp [sx_ev, sx_dot] at cg
    exact ⟨jR_fr (Mc := kz77_C.2.2.2.2.2.2.2.2.1) (by decide +kernel) c hm, ho', v, rfl⟩
theorem jo_T_go {l : Launch} {D : va_G} {dA : Nat → ClassId} {ad : List Nat} {hh : sx_H} {ax : Nat} {n1 : Int32} {o o' : Option (Int × Int)} (ha : ad[0]? = some ax) (hI : sw_I hh) (hm : jT hh o) (ho : jR hh o') : sw_Ok l D dA ad room_1 (sy_my 0 247 20) prog_1_method_14_code 2 ((some .boolean)) [Value.ref ax, Value.int n1] hh (fun rv hu => sw_I hu ∧ jT hu (jn_id o) ∧ jR hu o' ∧ ∃ v : Int32, rv = some (.int v)) := by
  have hPg : sy_pg[185]? = some ((sy_my 0 247 20, prog_1_method_14_code, 2, (some .boolean)), sy_c185) := rfl
  exact ⟨tz29_C, [n1.toInt], ((tz29_M l D dA) tz29_C List.mem_cons_self _ _ _ _ _ hPg).2, ⟨by decide, by decide⟩, sw_bI [n1], (fun f hf => by cases hf), ⟨sx_vr.rf ⟨0, 0, _, rfl, rfl, ha, rfl⟩, sx_vr.it (by simp [sx_ev, sx_dot]), trivial⟩, sw_gI_ok (by decide +kernel) hI, fun rv hu b c => ⟨sw_iI_ok (q := tz29_C) (by decide +kernel) b c hI, jT_fr (by decide +kernel) c hm, jR_fr (by decide +kernel) c ho, sw_rI_ok (q := tz29_C) (by decide +kernel) b⟩⟩
theorem jo_R_go {l : Launch} {D : va_G} {dA : Nat → ClassId} {ad : List Nat} {hh : sx_H} {ax : Nat} {n1 : Int32} {o o' : Option (Int × Int)} (ha : ad[692]? = some ax) (hI : sw_I hh) (hm : jR hh o) (ho : jT hh o') : sw_Ok l D dA ad room_1 (sy_my 12 247 20) prog_14_method_151_code 2 ((some .boolean)) [Value.ref ax, Value.int n1] hh (fun rv hu => sw_I hu ∧ jR hu (jn_id o) ∧ jT hu o' ∧ ∃ v : Int32, rv = some (.int v)) := by
  have hPg : sy_pg[340]? = some ((sy_my 12 247 20, prog_14_method_151_code, 2, (some .boolean)), sy_c340) := rfl
  exact ⟨rz37_C, [n1.toInt], ((rz37_M l D dA) rz37_C List.mem_cons_self _ _ _ _ _ hPg).2, ⟨by decide, by decide⟩, sw_bI [n1], (fun f hf => by cases hf), ⟨sx_vr.rf ⟨692, 0, _, sw_k692, rfl, ha, rfl⟩, sx_vr.it (by simp [sx_ev, sx_dot]), trivial⟩, sw_gI_ok (by decide +kernel) hI, fun rv hu b c => ⟨sw_iI_ok (q := rz37_C) (by decide +kernel) b c hI, jR_fr (by decide +kernel) c hm, jT_fr (by decide +kernel) c ho, sw_rI_ok (q := rz37_C) (by decide +kernel) b⟩⟩
theorem jo_T_walk {l : Launch} {D : va_G} {dA : Nat → ClassId} {ad : List Nat} {hh : sx_H} {ax : Nat} {n1 : Int32} {o o' : Option (Int × Int)} (ha : ad[0]? = some ax) (hI : sw_I hh) (hm : jT hh o) (ho : jR hh o') : sw_Ok l D dA ad room_1 (sy_my 0 250 28) prog_1_method_15_code 6 ((some .int)) [Value.ref ax, Value.int n1] hh (fun rv hu => sw_I hu ∧ jT hu (jn_id o) ∧ jR hu o' ∧ ∃ v : Int32, rv = some (.int v)) := by
  have hPg : sy_pg[189]? = some ((sy_my 0 250 28, prog_1_method_15_code, 6, (some .int)), sy_c189) := rfl
  cases o with
  | none =>
    exact ⟨tz406_C, [n1.toInt], ((tz406_M l D dA) tz406_C List.mem_cons_self _ _ _ _ _ hPg).2, ⟨by decide, by decide⟩, sw_bI [n1], (fun f hf => by cases hf), ⟨sx_vr.rf ⟨0, 0, _, rfl, rfl, ha, rfl⟩, sx_vr.it (by simp [sx_ev, sx_dot]), trivial⟩, sw_gI_ok (by decide +kernel) hI, fun rv hu b c => ⟨sw_iI_ok (q := tz406_C) (by decide +kernel) b c hI, jT_frA (by decide +kernel) c hm, jR_fr (by decide +kernel) c ho, sw_rI_ok (q := tz406_C) (by decide +kernel) b⟩⟩
  | some q =>
    have e2 : hh 85 0 11 = 1 := hm.2.1
    refine ⟨kz37_C, [n1.toInt, 1], ((kz37_M l D dA) kz37_C List.mem_cons_self _ _ _ _ _ hPg).2, ⟨by decide, by decide⟩, ⟨(sw_i32 n1).1, (sw_i32 n1).2, (by decide), (by decide), trivial⟩, (fun f hf => by cases hf), ⟨sx_vr.rf ⟨0, 0, _, rfl, rfl, ha, rfl⟩, sx_vr.it (by simp [sx_ev, sx_dot]), trivial⟩, ⟨fun g hg => ?_, sw_gP_ok (by decide +kernel) hI⟩, fun rv hu b c => ⟨sw_iI_ok (q := kz37_C) (by decide +kernel) b c hI, ?_⟩⟩
    · simp only [kz37_C, List.mem_cons, List.not_mem_nil, or_false] at hg
      subst hg
      simp [sx_ev, sx_dot, e2]
    have ho' := jR_fr (Mc := kz37_C.2.2.2.2.2.2.2.2.1) (by decide +kernel) c ho
    obtain ⟨ou, hou, x1, c1, c2, c3, c4⟩ := b
    simp only [kz37_C, List.mem_cons, List.not_mem_nil, or_false] at hou
    rcases hou with rfl | rfl | rfl
    · obtain rfl := sz_bn c1
      obtain ⟨v, rfl, hv⟩ := sw_rri c3
      simp [sx_ev, sx_dot] at hv
      simp [sx_fs, sx_ev, sx_dot] at c2
      exact ⟨jT_fr (Mc := kz37_C.2.2.2.2.2.2.2.2.1) (by decide +kernel) c hm, ho', v, rfl⟩
    · obtain rfl := sz_bn c1
      obtain ⟨v, rfl, hv⟩ := sw_rri c3
      simp [sx_ev, sx_dot] at hv
      simp [sx_fs, sx_ev, sx_dot] at c2
      exact ⟨jT_fr (Mc := kz37_C.2.2.2.2.2.2.2.2.1) (by decide +kernel) c hm, ho', v, rfl⟩
    · obtain rfl := sz_bn c1
      obtain ⟨v, rfl, hv⟩ := sw_rri c3
      simp [sx_ev, sx_dot] at hv
      simp [sx_fs, sx_ev, sx_dot] at c2
      exact ⟨jT_fr (Mc := kz37_C.2.2.2.2.2.2.2.2.1) (by decide +kernel) c hm, ho', v, rfl⟩
theorem jo_R_walk {l : Launch} {D : va_G} {dA : Nat → ClassId} {ad : List Nat} {hh : sx_H} {ax : Nat} {n1 : Int32} {o o' : Option (Int × Int)} (ha : ad[692]? = some ax) (hI : sw_I hh) (hm : jR hh o) (ho : jT hh o') : sw_Ok l D dA ad room_1 (sy_my 12 250 28) prog_14_method_153_code 3 ((some .int)) [Value.ref ax, Value.int n1] hh (fun rv hu => sw_I hu ∧ jR hu (jn_id o) ∧ jT hu o' ∧ ∃ v : Int32, rv = some (.int v)) := by
  have hPg : sy_pg[344]? = some ((sy_my 12 250 28, prog_14_method_153_code, 3, (some .int)), sy_c344) := rfl
  cases o with
  | none =>
    exact ⟨rz269_C, [n1.toInt], ((rz269_M l D dA) rz269_C List.mem_cons_self _ _ _ _ _ hPg).2, ⟨by decide, by decide⟩, sw_bI [n1], (fun f hf => by cases hf), ⟨sx_vr.rf ⟨692, 0, _, sw_k692, rfl, ha, rfl⟩, sx_vr.it (by simp [sx_ev, sx_dot]), trivial⟩, sw_gI_ok (by decide +kernel) hI, fun rv hu b c => ⟨sw_iI_ok (q := rz269_C) (by decide +kernel) b c hI, jR_frA (by decide +kernel) c hm, jT_fr (by decide +kernel) c ho, sw_rI_ok (q := rz269_C) (by decide +kernel) b⟩⟩
  | some q =>
    have e2 : hh 92 0 3 = 0 := hm.2.1
    refine ⟨kz76_C, [n1.toInt, 0], ((kz76_M l D dA) kz76_C List.mem_cons_self _ _ _ _ _ hPg).2, ⟨by decide, by decide⟩, ⟨(sw_i32 n1).1, (sw_i32 n1).2, (by decide), (by decide), trivial⟩, (fun f hf => by cases hf), ⟨sx_vr.rf ⟨692, 0, _, sw_k692, rfl, ha, rfl⟩, sx_vr.it (by simp [sx_ev, sx_dot]), trivial⟩, ⟨fun g hg => ?_, sw_gP_ok (by decide +kernel) hI⟩, fun rv hu b c => ⟨sw_iI_ok (q := kz76_C) (by decide +kernel) b c hI, ?_⟩⟩
    · simp only [kz76_C, List.mem_cons, List.not_mem_nil, or_false] at hg
      subst hg
      simp [sx_ev, sx_dot, e2]
    have ho' := jT_fr (Mc := kz76_C.2.2.2.2.2.2.2.2.1) (by decide +kernel) c ho
    obtain ⟨ou, hou, x1, c1, c2, c3, c4⟩ := b
    simp only [kz76_C, List.mem_cons, List.not_mem_nil, or_false] at hou
    rcases hou with rfl | rfl | rfl | rfl
    · obtain rfl := sz_bn c1
      obtain ⟨v, rfl, hv⟩ := sw_rri c3
      simp [sx_ev, sx_dot] at hv
      simp [sx_fs, sx_ev, sx_dot] at c2
      have cg := c4.1
      simp [sx_ev, sx_dot] at cg
      exact ⟨jR_fr (Mc := kz76_C.2.2.2.2.2.2.2.2.1) (by decide +kernel) c hm, ho', v, rfl⟩
    · obtain rfl := sz_bn c1
      obtain ⟨v, rfl, hv⟩ := sw_rri c3
      simp [sx_ev, sx_dot] at hv
      simp [sx_fs, sx_ev, sx_dot] at c2
      have cg := c4.1
      simp [sx_ev, sx_dot] at cg
      exact ⟨jR_fr (Mc := kz76_C.2.2.2.2.2.2.2.2.1) (by decide +kernel) c hm, ho', v, rfl⟩
    · obtain ⟨x0, rfl⟩ : ∃ x0, x1 = [x0] := by
        rcases x1 with _ | ⟨x0, _ | ⟨x2, x3⟩⟩
        · exact c1.elim
        · exact ⟨x0, rfl⟩
        · exact c1.2.2.elim
      obtain ⟨v, rfl, hv⟩ := sw_rri c3
      simp [sx_ev, sx_dot] at hv
      simp [sx_fs, sx_ev, sx_dot] at c2
      have cg := c4.1
      simp [sx_ev, sx_dot] at cg
      exact ⟨jR_fr (Mc := kz76_C.2.2.2.2.2.2.2.2.1) (by decide +kernel) c hm, ho', v, rfl⟩
    · obtain ⟨x0, rfl⟩ : ∃ x0, x1 = [x0] := by
        rcases x1 with _ | ⟨x0, _ | ⟨x2, x3⟩⟩
        · exact c1.elim
        · exact ⟨x0, rfl⟩
        · exact c1.2.2.elim
      obtain ⟨v, rfl, hv⟩ := sw_rri c3
      simp [sx_ev, sx_dot] at hv
      simp [sx_fs, sx_ev, sx_dot] at c2
      have cg := c4.1
      simp [sx_ev, sx_dot] at cg
      exact ⟨jR_fr (Mc := kz76_C.2.2.2.2.2.2.2.2.1) (by decide +kernel) c hm, ho', v, rfl⟩
theorem jo_R_register {l : Launch} {D : va_G} {dA : Nat → ClassId} {ad : List Nat} {hh : sx_H} {ax : Nat} {n1 : Int32} {o o' : Option (Int × Int)} (ha : ad[692]? = some ax) (hI : sw_I hh) (hm : jR hh o) (ho : jT hh o') : sw_Ok l D dA ad room_1 (sy_my 12 251 28) prog_14_method_152_code 2 ((some .int)) [Value.ref ax, Value.int n1] hh (fun rv hu => sw_I hu ∧ jR hu (jn_id o) ∧ jT hu o' ∧ ∃ v : Int32, rv = some (.int v)) := by
  have hPg : sy_pg[341]? = some ((sy_my 12 251 28, prog_14_method_152_code, 2, (some .int)), sy_c341) := rfl
  exact ⟨rz38_C, [n1.toInt], ((rz38_M l D dA) rz38_C List.mem_cons_self _ _ _ _ _ hPg).2, ⟨by decide, by decide⟩, sw_bI [n1], (fun f hf => by cases hf), ⟨sx_vr.rf ⟨692, 0, _, sw_k692, rfl, ha, rfl⟩, sx_vr.it (by simp [sx_ev, sx_dot]), trivial⟩, sw_gI_ok (by decide +kernel) hI, fun rv hu b c => ⟨sw_iI_ok (q := rz38_C) (by decide +kernel) b c hI, jR_fr (by decide +kernel) c hm, jT_fr (by decide +kernel) c ho, sw_rI_ok (q := rz38_C) (by decide +kernel) b⟩⟩
theorem jo_R_disk {l : Launch} {D : va_G} {dA : Nat → ClassId} {ad : List Nat} {hh : sx_H} {ax : Nat} {n1 n2 n3 : Int32} {o o' : Option (Int × Int)} (ha : ad[692]? = some ax) (hI : sw_I hh) (hm : jR hh o) (ho : jT hh o') : sw_Ok l D dA ad room_1 (sy_my 12 254 79) prog_14_method_60_code 4 ((some .int)) [Value.ref ax, Value.int n1, Value.int n2, Value.int n3] hh (fun rv hu => sw_I hu ∧ jR hu (jn_id o) ∧ jT hu o' ∧ ∃ v : Int32, rv = some (.int v)) := by
  have hPg : sy_pg[230]? = some ((sy_my 12 254 79, prog_14_method_60_code, 4, (some .int)), sy_c230) := rfl
  exact ⟨rz39_C, [n1.toInt, n2.toInt, n3.toInt], ((rz39_M l D dA) rz39_C List.mem_cons_self _ _ _ _ _ hPg).2, ⟨by decide, by decide⟩, sw_bI [n1, n2, n3], (fun f hf => by cases hf), ⟨sx_vr.rf ⟨692, 0, _, sw_k692, rfl, ha, rfl⟩, sx_vr.it (by simp [sx_ev, sx_dot]), sx_vr.it (by simp [sx_ev, sx_dot]), sx_vr.it (by simp [sx_ev, sx_dot]), trivial⟩, sw_gI_ok (by decide +kernel) hI, fun rv hu b c => ⟨sw_iI_ok (q := rz39_C) (by decide +kernel) b c hI, jR_fr (by decide +kernel) c hm, jT_fr (by decide +kernel) c ho, sw_rI_ok (q := rz39_C) (by decide +kernel) b⟩⟩
theorem jo_T_replay {l : Launch} {D : va_G} {dA : Nat → ClassId} {ad : List Nat} {hh : sx_H} {ax : Nat} {n1 : Int32} {o o' : Option (Int × Int)} (ha : ad[0]? = some ax) (hI : sw_I hh) (hm : jT hh o) (ho : jR hh o') : sw_Ok l D dA ad room_1 (sy_my 0 256 20) prog_1_method_18_code 2 ((some .boolean)) [Value.ref ax, Value.int n1] hh (fun rv hu => sw_I hu ∧ jT hu (jn_id o) ∧ jR hu o' ∧ ∃ v : Int32, rv = some (.int v) ∧ v.toInt = ja_replay n1.toInt o) := by
  have hPg : sy_pg[195]? = some ((sy_my 0 256 20, prog_1_method_18_code, 2, (some .boolean)), sy_c195) := rfl
  exact ⟨tz38_C, [n1.toInt], ((tz38_M l D dA) tz38_C List.mem_cons_self _ _ _ _ _ hPg).2, ⟨by decide, by decide⟩, sw_bI [n1], (fun f hf => by cases hf), ⟨sx_vr.rf ⟨0, 0, _, rfl, rfl, ha, rfl⟩, sx_vr.it (by simp [sx_ev, sx_dot]), trivial⟩, sw_gI_ok (by decide +kernel) hI, fun rv hu b c => ⟨sw_iI_ok (q := tz38_C) (by decide +kernel) b c hI, jT_fr (by decide +kernel) c hm, jR_fr (by decide +kernel) c ho, (by
    obtain ⟨v, e⟩ := sw_rI_ok (q := tz38_C) (by decide +kernel) b
    subst e
    exact ⟨v, rfl, sw_rpT b⟩)⟩⟩
theorem jo_R_replay {l : Launch} {D : va_G} {dA : Nat → ClassId} {ad : List Nat} {hh : sx_H} {ax : Nat} {n1 : Int32} {o o' : Option (Int × Int)} (ha : ad[692]? = some ax) (hI : sw_I hh) (hm : jR hh o) (ho : jT hh o') : sw_Ok l D dA ad room_1 (sy_my 12 256 20) prog_14_method_61_code 3 ((some .boolean)) [Value.ref ax, Value.int n1] hh (fun rv hu => sw_I hu ∧ jR hu (jn_id o) ∧ jT hu o' ∧ ∃ v : Int32, rv = some (.int v) ∧ v.toInt = ja_replay n1.toInt o) := by
  have hPg : sy_pg[231]? = some ((sy_my 12 256 20, prog_14_method_61_code, 3, (some .boolean)), sy_c231) := rfl
  exact ⟨rz40_C, [n1.toInt], ((rz40_M l D dA) rz40_C List.mem_cons_self _ _ _ _ _ hPg).2, ⟨by decide, by decide⟩, sw_bI [n1], (fun f hf => by cases hf), ⟨sx_vr.rf ⟨692, 0, _, sw_k692, rfl, ha, rfl⟩, sx_vr.it (by simp [sx_ev, sx_dot]), trivial⟩, sw_gI_ok (by decide +kernel) hI, fun rv hu b c => ⟨sw_iI_ok (q := rz40_C) (by decide +kernel) b c hI, jR_fr (by decide +kernel) c hm, jT_fr (by decide +kernel) c ho, (by
    obtain ⟨v, e⟩ := sw_rI_ok (q := rz40_C) (by decide +kernel) b
    subst e
    exact ⟨v, rfl, sw_rpR b⟩)⟩⟩
