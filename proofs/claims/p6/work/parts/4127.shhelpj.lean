/-! The law's helpers where nothing is thrown. Written by a program (wip/start/genJ.py). -/
theorem sw_kpo : ∀ id ∈ sw_ids, sx_kp (sz_su id) [(212, 999)] = true := by decide +kernel
theorem sw_I.out {hu : sx_H} (hI : sw_I hu) (g : Int → Int) : sw_I (sx_up hu 212 0 g) := by
  have hf : sx_fr [(212, 999)] hu (sx_up hu 212 0 g) := fun k i f hin => by
    refine congrFun (sx_up_n (fun q => ?_)) f
    rw [q.1] at hin
    simp [sx_in] at hin
  have h1 : ∀ id ∈ sw_ids, sz_pr id [] (sx_up hu 212 0 g) := fun id hi => sz_Y.ok id [] hu _ (fun k i f hin => hf k i f (sx_kp_ok (sw_kpo id hi) hin)) (hI.pr hi)
  unfold sw_ids at h1
  exact ⟨h1 0 (by simp), h1 11 (by simp), h1 14 (by simp), h1 16 (by simp), h1 34 (by simp), h1 36 (by simp)⟩
theorem jT_out {hu : sx_H} {o : Option (Int × Int)} (h : jT hu o) (g : Int → Int) : jT (sx_up hu 212 0 g) o := jT_co (congrFun (sx_up_n (fun q => absurd q.1 (by decide))) 9) (congrFun (sx_up_n (fun q => absurd q.1 (by decide))) 8) (congrFun (sx_up_n (fun q => absurd q.1 (by decide))) 11) (fun i => congrFun (sx_up_n (fun q => absurd q.1 (by decide))) 3) h
theorem jR_out {hu : sx_H} {o : Option (Int × Int)} (h : jR hu o) (g : Int → Int) : jR (sx_up hu 212 0 g) o := jR_co (congrFun (sx_up_n (fun q => absurd q.1 (by decide))) 4) (congrFun (sx_up_n (fun q => absurd q.1 (by decide))) 3) (congrFun (sx_up_n (fun q => absurd q.1 (by decide))) 2) (congrFun (sx_up_n (fun q => absurd q.1 (by decide))) 11) h
/-- what goes on over a helper -/
def sw_L (hh hu : sx_H) : Prop := sw_I hu ∧ (∀ o : Option (Int × Int), jT hh o → jT hu o) ∧ ∀ o : Option (Int × Int), jR hh o → jR hu o
/-- how a helper ends that throws nothing -/
def sh_Q (hh : sx_H) (D : va_G) (dA : Nat → ClassId) (ad : List Nat) (A : Nat → Prop) : Array Value → State → Outcome → State → Prop := fun _ st oc t => (∃ (u : va_W) (hu : sx_H), oc = .returned (some (.int 0)) ∧ sw_L hh hu ∧ sx_wr sz_T sw_kd ad dA u hu ∧ va_P D ct_cl u t.heap ∧ va_D A u) ∧ va_F A st t
theorem sh_ret {p : Program} {l : Launch} {e : Env} {R : Room} {s : State} {m : MethodId} {args : Array Value} {below : List Frame} {meth : Method} {c : Code} {Q : State → Prop} {D : va_G} {dA : Nat → ClassId} {ad : List Nat} {A : Nat → Prop} {ws : va_W} {hh : sx_H} {H : Heap} {locs : List Loc} {ls : Array Slot} {pc cells slots : Nat} {rest st0 : List Value} {a : Array Value} (hr : va_Run p l e R s m args below meth c H locs cells slots 0 0 (F0 m pc ls st0) rest (sh_Q hh D dA ad (va_A ws H.size) a) (va_A ws H.size)) (hA : ∀ q, s.heap.size ≤ q → A q) (hWd : sw_Wd D dA ad A s ws hh H locs)
    (kk : ∀ (u : va_W) (hu : sx_H) (H1 : Heap) (locs1 : List Loc), sw_Wd D dA ad A s u hu H1 locs1 → sw_L hh hu → W p l e R s m args below meth c H1 locs1 cells slots Q (F0 m (pc + 3) ls (.int 0 :: rest))) : W p l e R s m args below meth c H locs cells slots Q (F0 m pc ls st0) := by
  obtain ⟨h4, h6, h7, h8⟩ := hWd
  have hfr := ev_free h7 h8 hA
  intro T hT X
  obtain ⟨v, st0', t, T', L, h0, X', hL, e1, e2, ⟨⟨u, hu, hv, b1, b2, b3, b4⟩, hz, hk⟩, st⟩ := hr T hT X
  cases hv
  rw [h0] at hz hk
  obtain ⟨t2, a1, c1⟩ := kk u hu T'.heap (locs ++ L) ⟨b2, by rw [e1]; exact b3, b4.weaken (fun _ _ _ h => hfr _ h), ⟨Nat.le_trans h8.1 (by rw [e1]; exact hz), fun q g1 g2 => by rw [e1, hk q (Nat.lt_of_lt_of_le g1 h8.1) (fun z => g2 (hfr q z))]; exact h8.2.1 q g1 g2, fun q hq => by
      rcases List.mem_append.mp hq with h | h
      · exact h8.2.2 q h
      · exact hfr _ (hL q h)⟩⟩ b1 T' rfl X'
  exact ⟨t2, st t2 a1, c1⟩
/-- a helper has answered 1: all that was there is as it was -/
theorem sh_ret1 {p : Program} {l : Launch} {e : Env} {R : Room} {s : State} {m : MethodId} {args : Array Value} {below : List Frame} {meth : Method} {c : Code} {Q : State → Prop} {D : va_G} {dA : Nat → ClassId} {ad : List Nat} {A : Nat → Prop} {ws : va_W} {hh : sx_H} {H : Heap} {locs : List Loc} {ls : Array Slot} {pc mc ms cells slots : Nat} {rest st0 : List Value} {a : Array Value} (hr : va_Run p l e R s m args below meth c H locs cells slots mc ms (F0 m pc ls st0) rest (th_Qh a) (fun _ => False)) (hWd : sw_Wd D dA ad A s ws hh H locs)
    (kk : ∀ (H1 : Heap) (locs1 : List Loc), sw_Wd D dA ad A s ws hh H1 locs1 → W p l e R s m args below meth c H1 locs1 (cells + mc) (slots + ms) Q (F0 m (pc + 3) ls (.int 1 :: rest))) : W p l e R s m args below meth c H locs cells slots Q (F0 m pc ls st0) := by
  obtain ⟨h4, h6, h7, h8⟩ := hWd
  intro T hT X
  obtain ⟨v, st0', t, T', L, h0, X', hL, e1, e2, ⟨hv, hz, hk⟩, st⟩ := hr T hT X
  cases hv
  rw [h0] at hz hk
  obtain ⟨t2, a1, c1⟩ := kk T'.heap (locs ++ L) ⟨h4, fun j q hq => by
      have h9 := h6 j q hq
      refine h9.kept ?_
      rw [e1]
      exact hk _ h9.lt, h7, ⟨Nat.le_trans h8.1 (by rw [e1]; exact hz), fun q g1 g2 => by rw [e1, hk q (Nat.lt_of_lt_of_le g1 h8.1)]; exact h8.2.1 q g1 g2, fun q hq => by
      rcases List.mem_append.mp hq with h | h
      · exact h8.2.2 q h
      · exact (hL q h).elim⟩⟩ T' rfl X'
  exact ⟨t2, st t2 a1, c1⟩
theorem sh_result {l : Launch} {D : va_G} {dA : Nat → ClassId} {ad : List Nat} {ws : va_W} {hh : sx_H} {sz ax ao : Nat} {i : Int32} (hi : 0 ≤ i.toInt ∧ i.toInt ≤ 3) (ha : ad[0]? = some ax) (ho : ad[792]? = some ao) (hwr : sx_wr sz_T sw_kd ad dA ws hh) (hI : sw_I hh) : Met l ⟨"TrustedMachineLaw", "result", "(LTrustedMachine;I[J)I"⟩ (Cond.codeWith ⟨"TrustedMachineLaw", "result", "(LTrustedMachine;I[J)I"⟩ method_3_code 4 (some .int) [(0, 9, 12, 13)] :: Cond.methodLink "TrustedMachineLaw" 7 ⟨"TrustedMachine", "result", "(I)I"⟩ :: sy_gs) (sx_rm 10 400) (sx_P D ct_cl dA ct_kt sz_T sy_tb sw_kd ad [Value.ref ax, Value.int i, Value.ref ao] ws sz) (sh_Q hh D dA ad (va_A ws sz)) 0 0 (va_A ws sz) := by
  refine va_MetW (hh := [(0, 9, 12, 13)]) (by decide) rfl ?_
  intro p e s m args below meth c s₁ B hml hv
  obtain ⟨rfl, hsz, hPs, hK, hD0, hTb, hTs⟩ := hv
  have hts := atoms_spec (ws := _ :: Cond.methodLink "TrustedMachineLaw" 7 ⟨"TrustedMachine", "result", "(I)I"⟩ :: sy_gs) B.pre
  have hown : s.vm.findClass "TrustedMachineLaw" = some m.cls := findClass_of_methodNamed B.named
  subst hsz
  have hD := hD0.self (sz := s.heap.size)
  have hl := lv_entry [Value.ref ax, Value.int i, Value.ref ao] (n := 4) (Nat.le_of_ble_eq_true rfl)
  rw [lg_entry_eq]
  generalize (lg_sl [Value.ref ax, Value.int i, Value.ref ao] ++ List.replicate (4 - (lg_sl [Value.ref ax, Value.int i, Value.ref ao]).length) Slot.unset).toArray = ls at hl ⊢
  have X : sx_X p s m [Value.ref ax, Value.int i, Value.ref ao].toArray c D ct_cl dA ct_kt sz_T sy_tb sw_kd ad (va_A ws s.heap.size) sy_gs "TrustedMachineLaw" method_3_code 4 := ⟨⟨⟨B.exec, B.bytes, hml, hown, fun w hw => hts w (List.mem_cons_of_mem _ (List.mem_cons_of_mem _ hw))⟩, hK, fun q hq => Or.inr hq, hTb⟩, hTs, sw_sg⟩
  have hW0 : sw_Wd D dA ad (va_A ws s.heap.size) s ws hh s.heap [] := ⟨hwr, hPs, hD, va_S.rf⟩
  refine lv_aload_n (k := 2) B.exec B.bytes (by decide +kernel) rfl (lv_at hl 2 rfl) ?_
  refine lv_iconst (n := 0) (v := nI 0) B.exec B.bytes (by decide +kernel) (by decide +kernel) ?_
  refine lv_aload_n (k := 0) B.exec B.bytes (by decide +kernel) rfl (lv_at hl 0 rfl) ?_
  refine lv_iload_n (k := 1) B.exec B.bytes (by decide +kernel) rfl (lv_at hl 1 rfl) ?_
  have hPg : sy_pg[182]? = some ((sy_my 0 244 28, prog_1_method_11_code, 2, (some .int)), sy_c182) := rfl
  refine sw_V (q := tz23_C) (r0 := [i.toInt]) (ys := [.int i]) (rs := [.int (nI 0), .ref ao]) (n := 1) X ((tz23_M l D dA) tz23_C List.mem_cons_self _ _ _ _ _ hPg).2 (sy_okDD.2 182 _ _ _ _ _ hPg) (sy_hgm 707 _ rfl) (hts _ (List.mem_cons_of_mem _ List.mem_cons_self)) (sy_hgm 708 _ rfl) (sy_hgm 709 _ rfl) (by decide +kernel) ⟨by decide, by decide⟩ (j9 := 0) rfl ha rfl rfl rfl ⟨hi.1, hi.2, trivial⟩ (fun f hf => by cases hf) ⟨sx_vr.rf ⟨0, 0, _, rfl, rfl, ha, rfl⟩, sx_vr.it (by simp [sx_ev, sx_dot]), trivial⟩ (sw_gI_ok (by decide +kernel) hI) hW0 rfl hl.1 (Nat.le_of_ble_eq_true rfl) (by decide +kernel) ⟨Nat.zero_le _, Nat.zero_le _⟩ (fun rv u hu H1 locs1 b1 b2 b3 => ?_)
  have hI1 := sw_iI_ok (q := tz23_C) (by decide +kernel) b1 b2 hI
  obtain ⟨v, rfl⟩ := sw_rI_ok (q := tz23_C) (by decide +kernel) b1
  refine lv_i2l (v := v.toInt64) B.exec B.bytes (by decide +kernel) rfl ?_
  obtain ⟨E, hE, hcr⟩ := b3.1.at (j := 792) (k := 212) (c := 0) sw_k792 rfl (by decide) ho
  obtain ⟨f, rfl⟩ := hcr.longs rfl
  refine va_last B.exec B.bytes X.1.2.1.1 b3.2.1 b3.2.2.1 b3.2.2.2 792 2 hE (ev_tys_at rfl) (vp_in_nI (n := 0) (by decide) (by decide)) (by decide +kernel) (fun H2 locs2 g6 g7 g8 => ?_)
  refine lv_goto (off := 6) (tgt := 15) B.exec B.bytes (by decide +kernel) (by decide) ?_
  refine lv_iconst (n := 0) (v := 0) B.exec B.bytes (by decide +kernel) (by decide +kernel) ?_
  refine W.iret B.exec B.bytes B.returns (fun t ht _ => ⟨⟨_, _, rfl, ⟨hI1.out (fun _ => 0), fun o h => jT_out (jT_fr (Mc := tz23_C.2.2.2.2.2.2.2.2.1) (by decide +kernel) b2 h) _, fun o h => jR_out (jR_fr (Mc := tz23_C.2.2.2.2.2.2.2.2.1) (by decide +kernel) b2 h) _⟩, ?_, by rw [ht]; exact g6, g7⟩, g8.F ht⟩) (fun q hq => g8.2.2 q hq) (by decide +kernel) B.notSynchronized
  exact sx_wr.set sw_sg b3.1 (j := 792) (k := 212) (c := 0) sw_k792 rfl ho hE (Or.inr (Or.inr (Or.inr ⟨rfl, _, rfl⟩)))
theorem sh_register {l : Launch} {D : va_G} {dA : Nat → ClassId} {ad : List Nat} {ws : va_W} {hh : sx_H} {sz ax ao : Nat} {i : Int32} (hi : 0 ≤ i.toInt ∧ i.toInt ≤ 17) (ha : ad[0]? = some ax) (ho : ad[792]? = some ao) (hwr : sx_wr sz_T sw_kd ad dA ws hh) (hI : sw_I hh) : Met l ⟨"TrustedMachineLaw", "register", "(LTrustedMachine;I[J)I"⟩ (Cond.codeWith ⟨"TrustedMachineLaw", "register", "(LTrustedMachine;I[J)I"⟩ method_4_code 4 (some .int) [(0, 9, 12, 13)] :: Cond.methodLink "TrustedMachineLaw" 15 ⟨"TrustedMachine", "register", "(I)I"⟩ :: sy_gs) (sx_rm 10 400) (sx_P D ct_cl dA ct_kt sz_T sy_tb sw_kd ad [Value.ref ax, Value.int i, Value.ref ao] ws sz) (sh_Q hh D dA ad (va_A ws sz)) 0 0 (va_A ws sz) := by
  refine va_MetW (hh := [(0, 9, 12, 13)]) (by decide) rfl ?_
  intro p e s m args below meth c s₁ B hml hv
  obtain ⟨rfl, hsz, hPs, hK, hD0, hTb, hTs⟩ := hv
  have hts := atoms_spec (ws := _ :: Cond.methodLink "TrustedMachineLaw" 15 ⟨"TrustedMachine", "register", "(I)I"⟩ :: sy_gs) B.pre
  have hown : s.vm.findClass "TrustedMachineLaw" = some m.cls := findClass_of_methodNamed B.named
  subst hsz
  have hD := hD0.self (sz := s.heap.size)
  have hl := lv_entry [Value.ref ax, Value.int i, Value.ref ao] (n := 4) (Nat.le_of_ble_eq_true rfl)
  rw [lg_entry_eq]
  generalize (lg_sl [Value.ref ax, Value.int i, Value.ref ao] ++ List.replicate (4 - (lg_sl [Value.ref ax, Value.int i, Value.ref ao]).length) Slot.unset).toArray = ls at hl ⊢
  have X : sx_X p s m [Value.ref ax, Value.int i, Value.ref ao].toArray c D ct_cl dA ct_kt sz_T sy_tb sw_kd ad (va_A ws s.heap.size) sy_gs "TrustedMachineLaw" method_4_code 4 := ⟨⟨⟨B.exec, B.bytes, hml, hown, fun w hw => hts w (List.mem_cons_of_mem _ (List.mem_cons_of_mem _ hw))⟩, hK, fun q hq => Or.inr hq, hTb⟩, hTs, sw_sg⟩
  have hW0 : sw_Wd D dA ad (va_A ws s.heap.size) s ws hh s.heap [] := ⟨hwr, hPs, hD, va_S.rf⟩
  refine lv_aload_n (k := 2) B.exec B.bytes (by decide +kernel) rfl (lv_at hl 2 rfl) ?_
  refine lv_iconst (n := 0) (v := nI 0) B.exec B.bytes (by decide +kernel) (by decide +kernel) ?_
  refine lv_aload_n (k := 0) B.exec B.bytes (by decide +kernel) rfl (lv_at hl 0 rfl) ?_
  refine lv_iload_n (k := 1) B.exec B.bytes (by decide +kernel) rfl (lv_at hl 1 rfl) ?_
  have hPg : sy_pg[190]? = some ((sy_my 0 251 28, prog_1_method_16_code, 2, (some .int)), sy_c190) := rfl
  refine sw_V (q := tz30_C) (r0 := [i.toInt]) (ys := [.int i]) (rs := [.int (nI 0), .ref ao]) (n := 1) X ((tz30_M l D dA) tz30_C List.mem_cons_self _ _ _ _ _ hPg).2 (sy_okDD.2 190 _ _ _ _ _ hPg) (sy_hgm 739 _ rfl) (hts _ (List.mem_cons_of_mem _ List.mem_cons_self)) (sy_hgm 740 _ rfl) (sy_hgm 741 _ rfl) (by decide +kernel) ⟨by decide, by decide⟩ (j9 := 0) rfl ha rfl rfl rfl ⟨hi.1, hi.2, trivial⟩ (fun f hf => by cases hf) ⟨sx_vr.rf ⟨0, 0, _, rfl, rfl, ha, rfl⟩, sx_vr.it (by simp [sx_ev, sx_dot]), trivial⟩ (sw_gI_ok (by decide +kernel) hI) hW0 rfl hl.1 (Nat.le_of_ble_eq_true rfl) (by decide +kernel) ⟨Nat.zero_le _, Nat.zero_le _⟩ (fun rv u hu H1 locs1 b1 b2 b3 => ?_)
  have hI1 := sw_iI_ok (q := tz30_C) (by decide +kernel) b1 b2 hI
  obtain ⟨v, rfl⟩ := sw_rI_ok (q := tz30_C) (by decide +kernel) b1
  refine lv_i2l (v := v.toInt64) B.exec B.bytes (by decide +kernel) rfl ?_
  obtain ⟨E, hE, hcr⟩ := b3.1.at (j := 792) (k := 212) (c := 0) sw_k792 rfl (by decide) ho
  obtain ⟨f, rfl⟩ := hcr.longs rfl
  refine va_last B.exec B.bytes X.1.2.1.1 b3.2.1 b3.2.2.1 b3.2.2.2 792 2 hE (ev_tys_at rfl) (vp_in_nI (n := 0) (by decide) (by decide)) (by decide +kernel) (fun H2 locs2 g6 g7 g8 => ?_)
  refine lv_goto (off := 6) (tgt := 15) B.exec B.bytes (by decide +kernel) (by decide) ?_
  refine lv_iconst (n := 0) (v := 0) B.exec B.bytes (by decide +kernel) (by decide +kernel) ?_
  refine W.iret B.exec B.bytes B.returns (fun t ht _ => ⟨⟨_, _, rfl, ⟨hI1.out (fun _ => 0), fun o h => jT_out (jT_fr (Mc := tz30_C.2.2.2.2.2.2.2.2.1) (by decide +kernel) b2 h) _, fun o h => jR_out (jR_fr (Mc := tz30_C.2.2.2.2.2.2.2.2.1) (by decide +kernel) b2 h) _⟩, ?_, by rw [ht]; exact g6, g7⟩, g8.F ht⟩) (fun q hq => g8.2.2 q hq) (by decide +kernel) B.notSynchronized
  exact sx_wr.set sw_sg b3.1 (j := 792) (k := 212) (c := 0) sw_k792 rfl ho hE (Or.inr (Or.inr (Or.inr ⟨rfl, _, rfl⟩)))
theorem sh_disk {l : Launch} {D : va_G} {dA : Nat → ClassId} {ad : List Nat} {ws : va_W} {hh : sx_H} {sz ax ao : Nat} {i j k : Int32} (hi : 0 ≤ i.toInt ∧ i.toInt ≤ 63) (hj : 0 ≤ j.toInt ∧ j.toInt ≤ 255) (ha : ad[0]? = some ax) (ho : ad[792]? = some ao) (hwr : sx_wr sz_T sw_kd ad dA ws hh) (hI : sw_I hh) : Met l ⟨"TrustedMachineLaw", "disk", "(LTrustedMachine;III[J)I"⟩ (Cond.codeWith ⟨"TrustedMachineLaw", "disk", "(LTrustedMachine;III[J)I"⟩ method_5_code 6 (some .int) [(0, 12, 15, 22)] :: Cond.methodLink "TrustedMachineLaw" 18 ⟨"TrustedMachine", "disk", "(III)I"⟩ :: sy_gs) (sx_rm 10 400) (sx_P D ct_cl dA ct_kt sz_T sy_tb sw_kd ad [Value.ref ax, Value.int i, Value.int j, Value.int k, Value.ref ao] ws sz) (sh_Q hh D dA ad (va_A ws sz)) 0 0 (va_A ws sz) := by
  refine va_MetW (hh := [(0, 12, 15, 22)]) (by decide) rfl ?_
  intro p e s m args below meth c s₁ B hml hv
  obtain ⟨rfl, hsz, hPs, hK, hD0, hTb, hTs⟩ := hv
  have hts := atoms_spec (ws := _ :: Cond.methodLink "TrustedMachineLaw" 18 ⟨"TrustedMachine", "disk", "(III)I"⟩ :: sy_gs) B.pre
  have hown : s.vm.findClass "TrustedMachineLaw" = some m.cls := findClass_of_methodNamed B.named
  subst hsz
  have hD := hD0.self (sz := s.heap.size)
  have hl := lv_entry [Value.ref ax, Value.int i, Value.int j, Value.int k, Value.ref ao] (n := 6) (Nat.le_of_ble_eq_true rfl)
  rw [lg_entry_eq]
  generalize (lg_sl [Value.ref ax, Value.int i, Value.int j, Value.int k, Value.ref ao] ++ List.replicate (6 - (lg_sl [Value.ref ax, Value.int i, Value.int j, Value.int k, Value.ref ao]).length) Slot.unset).toArray = ls at hl ⊢
  have X : sx_X p s m [Value.ref ax, Value.int i, Value.int j, Value.int k, Value.ref ao].toArray c D ct_cl dA ct_kt sz_T sy_tb sw_kd ad (va_A ws s.heap.size) sy_gs "TrustedMachineLaw" method_5_code 6 := ⟨⟨⟨B.exec, B.bytes, hml, hown, fun w hw => hts w (List.mem_cons_of_mem _ (List.mem_cons_of_mem _ hw))⟩, hK, fun q hq => Or.inr hq, hTb⟩, hTs, sw_sg⟩
  have hW0 : sw_Wd D dA ad (va_A ws s.heap.size) s ws hh s.heap [] := ⟨hwr, hPs, hD, va_S.rf⟩
  refine lv_aload (i := 4) B.exec B.bytes (by decide +kernel) (lv_at hl 4 rfl) ?_
  refine lv_iconst (n := 0) (v := nI 0) B.exec B.bytes (by decide +kernel) (by decide +kernel) ?_
  refine lv_aload_n (k := 0) B.exec B.bytes (by decide +kernel) rfl (lv_at hl 0 rfl) ?_
  refine lv_iload_n (k := 1) B.exec B.bytes (by decide +kernel) rfl (lv_at hl 1 rfl) ?_
  refine lv_iload_n (k := 2) B.exec B.bytes (by decide +kernel) rfl (lv_at hl 2 rfl) ?_
  refine lv_iload_n (k := 3) B.exec B.bytes (by decide +kernel) rfl (lv_at hl 3 rfl) ?_
  have hPg : sy_pg[193]? = some ((sy_my 0 254 79, prog_1_method_17_code, 4, (some .int)), sy_c193) := rfl
  refine sw_V (q := tz36_C) (r0 := [i.toInt, j.toInt, k.toInt]) (ys := [.int k, .int j, .int i]) (rs := [.int (nI 0), .ref ao]) (n := 3) X ((tz36_M l D dA) tz36_C List.mem_cons_self _ _ _ _ _ hPg).2 (sy_okDD.2 193 _ _ _ _ _ hPg) (sy_hgm 751 _ rfl) (hts _ (List.mem_cons_of_mem _ List.mem_cons_self)) (sy_hgm 752 _ rfl) (sy_hgm 753 _ rfl) (by decide +kernel) ⟨by decide, by decide⟩ (j9 := 0) rfl ha rfl rfl rfl ⟨hi.1, hi.2, hj.1, hj.2, (sw_i32 k).1, (sw_i32 k).2, trivial⟩ (fun f hf => by
      simp only [tz36_C, List.mem_cons, List.not_mem_nil, or_false] at hf
      rcases hf with rfl | rfl | rfl | rfl <;> simp [sx_ev, sx_dot] <;> omega) ⟨sx_vr.rf ⟨0, 0, _, rfl, rfl, ha, rfl⟩, sx_vr.it (by simp [sx_ev, sx_dot]), sx_vr.it (by simp [sx_ev, sx_dot]), sx_vr.it (by simp [sx_ev, sx_dot]), trivial⟩ (sw_gI_ok (by decide +kernel) hI) hW0 rfl hl.1 (Nat.le_of_ble_eq_true rfl) (by decide +kernel) ⟨Nat.zero_le _, Nat.zero_le _⟩ (fun rv u hu H1 locs1 b1 b2 b3 => ?_)
  have hI1 := sw_iI_ok (q := tz36_C) (by decide +kernel) b1 b2 hI
  obtain ⟨v, rfl⟩ := sw_rI_ok (q := tz36_C) (by decide +kernel) b1
  refine lv_i2l (v := v.toInt64) B.exec B.bytes (by decide +kernel) rfl ?_
  obtain ⟨E, hE, hcr⟩ := b3.1.at (j := 792) (k := 212) (c := 0) sw_k792 rfl (by decide) ho
  obtain ⟨f, rfl⟩ := hcr.longs rfl
  refine va_last B.exec B.bytes X.1.2.1.1 b3.2.1 b3.2.2.1 b3.2.2.2 792 2 hE (ev_tys_at rfl) (vp_in_nI (n := 0) (by decide) (by decide)) (by decide +kernel) (fun H2 locs2 g6 g7 g8 => ?_)
  refine lv_goto (off := 7) (tgt := 19) B.exec B.bytes (by decide +kernel) (by decide) ?_
  refine lv_iconst (n := 0) (v := 0) B.exec B.bytes (by decide +kernel) (by decide +kernel) ?_
  refine W.iret B.exec B.bytes B.returns (fun t ht _ => ⟨⟨_, _, rfl, ⟨hI1.out (fun _ => 0), fun o h => jT_out (jT_fr (Mc := tz36_C.2.2.2.2.2.2.2.2.1) (by decide +kernel) b2 h) _, fun o h => jR_out (jR_fr (Mc := tz36_C.2.2.2.2.2.2.2.2.1) (by decide +kernel) b2 h) _⟩, ?_, by rw [ht]; exact g6, g7⟩, g8.F ht⟩) (fun q hq => g8.2.2 q hq) (by decide +kernel) B.notSynchronized
  exact sx_wr.set sw_sg b3.1 (j := 792) (k := 212) (c := 0) sw_k792 rfl ho hE (Or.inr (Or.inr (Or.inr ⟨rfl, _, rfl⟩)))
