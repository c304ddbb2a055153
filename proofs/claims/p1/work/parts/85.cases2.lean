/-! The law's cases result and register. Written by a program (wip/tools/gen85.py). -/
theorem th_hin_result : ∀ w ∈ th_hw_result, w ∈ lw_tbl := List.forall_mem_cons.mpr ⟨ev_wd_in (h := 7091) rfl, List.forall_mem_cons.mpr ⟨ev_wd_in (h := 7092) rfl, List.forall_mem_cons.mpr ⟨ev_wd_in (h := 7093) rfl, List.forall_mem_cons.mpr ⟨ev_wd_in (h := 1) rfl, List.forall_mem_cons.mpr ⟨ev_wd_in (h := 7090) rfl, List.forall_mem_cons.mpr ⟨ev_wd_in (h := 7094) rfl, th_in1⟩⟩⟩⟩⟩⟩
theorem th_hgood_result : ∀ w ∈ th_hw_result, (w.onTables && w.keeps) = true ∨ ∃ ty, w = .arrayClass ty := List.forall_mem_cons.mpr ⟨Or.inl rfl, List.forall_mem_cons.mpr ⟨Or.inl rfl, List.forall_mem_cons.mpr ⟨Or.inl rfl, List.forall_mem_cons.mpr ⟨Or.inl rfl, List.forall_mem_cons.mpr ⟨Or.inl rfl, List.forall_mem_cons.mpr ⟨Or.inl rfl, th_good1⟩⟩⟩⟩⟩⟩
theorem th_hin_register : ∀ w ∈ th_hw_register, w ∈ lw_tbl := List.forall_mem_cons.mpr ⟨ev_wd_in (h := 7126) rfl, List.forall_mem_cons.mpr ⟨ev_wd_in (h := 7127) rfl, List.forall_mem_cons.mpr ⟨ev_wd_in (h := 7128) rfl, List.forall_mem_cons.mpr ⟨ev_wd_in (h := 1) rfl, List.forall_mem_cons.mpr ⟨ev_wd_in (h := 7090) rfl, List.forall_mem_cons.mpr ⟨ev_wd_in (h := 7129) rfl, th_in1⟩⟩⟩⟩⟩⟩
theorem th_hgood_register : ∀ w ∈ th_hw_register, (w.onTables && w.keeps) = true ∨ ∃ ty, w = .arrayClass ty := List.forall_mem_cons.mpr ⟨Or.inl rfl, List.forall_mem_cons.mpr ⟨Or.inl rfl, List.forall_mem_cons.mpr ⟨Or.inl rfl, List.forall_mem_cons.mpr ⟨Or.inl rfl, List.forall_mem_cons.mpr ⟨Or.inl rfl, List.forall_mem_cons.mpr ⟨Or.inl rfl, th_good1⟩⟩⟩⟩⟩⟩
theorem th_hin_disk : ∀ w ∈ th_hw_disk, w ∈ lw_tbl := List.forall_mem_cons.mpr ⟨ev_wd_in (h := 7135) rfl, List.forall_mem_cons.mpr ⟨ev_wd_in (h := 7136) rfl, List.forall_mem_cons.mpr ⟨ev_wd_in (h := 7137) rfl, List.forall_mem_cons.mpr ⟨ev_wd_in (h := 1) rfl, List.forall_mem_cons.mpr ⟨ev_wd_in (h := 7134) rfl, List.forall_mem_cons.mpr ⟨ev_wd_in (h := 7138) rfl, th_in2⟩⟩⟩⟩⟩⟩
theorem th_hgood_disk : ∀ w ∈ th_hw_disk, (w.onTables && w.keeps) = true ∨ ∃ ty, w = .arrayClass ty := List.forall_mem_cons.mpr ⟨Or.inl rfl, List.forall_mem_cons.mpr ⟨Or.inl rfl, List.forall_mem_cons.mpr ⟨Or.inl rfl, List.forall_mem_cons.mpr ⟨Or.inl rfl, List.forall_mem_cons.mpr ⟨Or.inl rfl, List.forall_mem_cons.mpr ⟨Or.inl rfl, th_good2⟩⟩⟩⟩⟩⟩
theorem lw_Zs {p : Program} {s : State} {m : MethodId} {meth : Method} {c : Code} {b L : Nat} {xs : Nat → Int32} (C0 : lw_At p s m meth c b L xs) : th_Zs s s.heap := by
  obtain ⟨h1, h2, h3, h4⟩ := lw_n1 C0.2.2.2.2.2.2.2.2.2
  have hA : ∀ a : Nat, a < s.heap.size → ¬ (fun _ : Nat => False) a := fun _ _ h => h
  exact ⟨⟨va_Zqof (C0.2.2.2.2.2.1 _ (ev_wd_in (h := 4025) rfl)) (C0.2.2.2.2.2.1 _ (ev_wd_in (h := 16) rfl)) (flat_of_before _ h1 _ (List.mem_of_getElem? (i := 291) rfl)) hA, va_Zqof (C0.2.2.2.2.2.1 _ (ev_wd_in (h := 4027) rfl)) (C0.2.2.2.2.2.1 _ (ev_wd_in (h := 16) rfl)) (flat_of_before _ h1 _ (List.mem_of_getElem? (i := 292) rfl)) hA⟩, (C0.2.2.2.2.2.1 _ (ev_wd_in (h := 4025) rfl)), (C0.2.2.2.2.2.1 _ (ev_wd_in (h := 4027) rfl))⟩
theorem lw_Zu {s U : State} {H : Heap} {locs : List Loc} (hz : th_Zs s s.heap) (hS : va_S (lw_A s) s.heap H locs) (hU : U.heap = H) (hW : s.WarmedH U.vm) : th_Zs U U.heap := by
  rw [hU]
  refine (hz.moved hW.alike).kept (fun a ha => hS.2.1 a ha (fun h => ?_))
  have h : s.heap.size ≤ a := h
  omega
set_option maxRecDepth 100000 in
theorem ct_lwo : ct_lw[792]? = some (3, 2, 1, []) := rfl
set_option maxRecDepth 100000 in
theorem ct_lws : ct_lw.set 792 (3, 2, 1, []) = ct_lw := ev_eqW_r (by decide +kernel)
theorem lw_c9a {p : Program} {l : Launch} {e : Env} {s : State} {m : MethodId} {below : List Frame} {meth : Method} {c : Code} {b : Nat} {xs : Nat → Int32} (C0 : lw_At p s m meth c b 6 xs) {D : va_G} {dA : Nat → ClassId} (X : ev_X p s m #[Value.ref b] c D ct_cl dA ct_kt (lw_A s) ct_gs R_law code 7) {ws : va_W} {H : Heap} {locs : List Loc} {ls : Array Slot} {ax am ao : Nat} (hl : lv_has ls 7 [(4, .int 0), (3, .ref ao), (2, .ref am), (1, .ref ax), (0, .ref b)]) (ha : (ws.map Prod.fst)[0]? = some ax) (hm : (ws.map Prod.fst)[692]? = some am) (hao : (ws.map Prod.fst)[792]? = some ao) (hW : ev_Wd D ct_cl dA (lw_A s) s ct_lw ws H locs) (hfl : l.flags = pinnedFlags ++ [noTraceFlag]) (h1 : ev_in (0, 0, 2147483647) (xs 1)) : W p l e room_1 s m #[Value.ref b] below meth c H locs 793 215028 (lw_Z below #[Value.ref b] s) (F0 m 419 ls []) := by
  have hX := C0.2.2.2.2.2.2.1
  have hbl := C0.2.2.2.2.2.2.2.1
  have hz := lw_Zs C0
  obtain ⟨q, hstr⟩ := th_str (C0.2.2.2.2.2.1 _ (ev_wd_in (h := 7119) rfl))
  refine lv_aload_n (k := 1) X.1.1 X.1.2.1 (by decide +kernel) rfl (lv_at hl 3 rfl) ?_
  refine ev_w_scr (j := 1) X.1.1 X.1.2.1 hX hbl (lw_nA hbl) hW.2.2.2 hl (k0 := 4) (k4 := 0) rfl rfl (by decide) (by decide) (by decide +kernel) (by decide +kernel) (by decide +kernel) (by decide +kernel) (by decide +kernel) ?_
  refine lv_aload_n (k := 3) X.1.1 X.1.2.1 (by decide +kernel) rfl (lv_at hl 1 rfl) ?_
  have hrec : ∃ cell : Cell, H[ax]? = some cell ∧ cell.vm.isStatics = false ∧ s.vm.findClass "TrustedMachine" = some cell.cls := by
    obtain ⟨E, hE, hcr⟩ := hW.1.at (k := 0) (c := (0, 0, 0, [(2, 1, 0), (2, 226, 0), (2, 4, 0), (2, 10, 0), (2, 20, 0), (2, 499, 0), (2, 526, 0), (2, 690, 0), (0, 2147483648, 2147483648), (0, 2147483648, 2147483648), (2, 691, 0), (0, 2147483648, 2147483648), (0, 2147483648, 2147483648)])) rfl ha
    rcases hcr with ⟨-, gs, rfl, -⟩ | ⟨h, -⟩ | ⟨h, -⟩ | ⟨h, -⟩ | ⟨h, -⟩
    · exact va_recv X.2.1.1 hW.2.1 (q := ct_cl.getD 0 ("", ct_T0, 0)) rfl hE
    all_goals exact absurd h (by decide)
  refine th_ret1 (th_runS (As := [Value.ref ax, Value.int (xs 1), Value.ref ao]) (rest := []) (hh := [(0, 9, 12, 13)]) (bytes := method_3_code) (maxL := 4) (ret := some .int) X.1 (th_h_result hfl (b := ax) (q := q) (ao := ao) (Or.inl (th_neg h1))) th_Ph_blind rfl rfl (by decide) (by decide) (fun w hw a' U hU => ?_) List.mem_cons_self (C0.2.2.2.2.2.1 _ (ev_wd_in (h := 0) rfl)) (C0.2.2.2.2.2.1 _ (ev_wd_in (h := 7087) rfl)) (C0.2.2.2.2.2.1 _ (ev_wd_in (h := 7088) rfl)) ⟨by decide, by decide⟩ (show (parseMethodDescriptor "(LTrustedMachine;I[J)I").map (fun d => d.parameters.length) = some 3 from by decide +kernel) (fun U hU hWu => ⟨rfl, ?_, vk_R.warm hWu hstr, lw_Zu hz hW.2.2.2 hU hWu⟩) rfl hl.1 rfl (Nat.le_of_ble_eq_true rfl) (show decode code 427 = .ok (.invokestatic 70, 3) from by decide +kernel) ⟨by decide, by decide⟩) hW (fun H1 locs1 hW1 => ?_)
  · rcases List.mem_cons.mp hw with rfl | hw
    · exact word_at hU (Or.inl rfl) (C0.2.2.2.2.2.1 _ (ev_wd_in (h := 7089) rfl))
    · exact word_at hU (th_hgood_result w hw) (C0.2.2.2.2.2.1 _ (th_hin_result w hw))
  · rw [hU]
    obtain ⟨cell, r1, r2, r3⟩ := hrec
    exact ⟨cell, r1, r2, by rw [hWu.alike.findClass]; exact r3⟩
  refine lv_istore (i := 5) (lv' := [(5, .int 1), (4, .int 0), (3, .ref ao), (2, .ref am), (1, .ref ax), (0, .ref b)]) X.1.1 X.1.2.1 (by decide +kernel) hl (by decide) rfl (fun ls1 hl1 => ?_)
  refine lv_aload_n (k := 2) X.1.1 X.1.2.1 (by decide +kernel) rfl (lv_at hl1 3 rfl) ?_
  refine ev_w_scr (j := 1) X.1.1 X.1.2.1 hX hbl (lw_nA hbl) hW1.2.2.2 hl1 (k0 := 5) (k4 := 1) rfl rfl (by decide) (by decide) (by decide +kernel) (by decide +kernel) (by decide +kernel) (by decide +kernel) (by decide +kernel) ?_
  refine ev_w_cX (sm := ct_S149) (kc := 34) (qc := (82, 3, [(0, 0), (1, 1), (1, 6), (1, 7), (1, 8), (1, 9), (1, 10), (1, 12), (1, 13), (1, 14), (1, 15), (1, 16), (1, 19), (1, 20), (1, 21), (1, 22), (1, 23), (1, 24), (1, 25), (1, 26), (1, 27), (1, 28), (1, 31), (1, 32), (1, 33), (1, 34), (1, 35), (1, 36), (1, 37), (1, 38), (1, 39), (1, 40), (1, 41), (1, 42), (1, 43), (1, 44), (1, 45), (1, 46), (1, 47), (1, 48), (1, 49), (1, 50), (1, 51), (1, 52), (1, 53), (1, 54), (1, 55), (1, 56), (1, 57), (1, 58), (1, 59), (1, 60), (1, 61), (1, 62), (1, 63), (1, 64), (1, 65), (1, 66), (1, 67), (1, 68), (1, 69), (1, 70), (1, 71), (1, 72), (1, 73), (1, 74), (1, 75), (1, 76), (1, 77), (1, 78), (1, 79), (1, 80), (1, 81), (1, 82), (1, 83), (1, 84), (1, 85), (1, 86), (1, 87), (1, 88), (1, 89), (1, 90), (1, 91), (1, 92), (1, 93), (1, 94), (1, 95), (1, 96), (1, 97), (1, 101), (1, 102), (1, 112), (1, 114), (1, 115), (1, 116), (1, 117), (1, 118), (1, 119), (1, 120), (1, 121)], [(2, 0, 0), (0, 0, 2147483647)], ct_w114, ct_r114)) (dd := 9) (o := 692) (ci := 12) (S1 := [(0, 0, 2147483647)]) (is := [692, 693, 694, 695, 696, 697, 698, 699, 700, 701, 702, 703, 704, 705, 706, 707, 708, 709, 710, 711, 712, 713, 714, 715, 716, 717, 718, 719, 720, 721, 722, 723, 724, 725, 726, 727, 728, 729, 730, 731, 732, 733, 734, 735, 736, 737, 738, 739, 740, 741, 742, 743, 744, 745, 746, 747, 748, 749, 750, 751, 752, 753, 754, 755, 756, 757, 758, 759, 760, 761, 762, 763, 764, 765, 766, 767, 768, 769, 770, 771, 772, 773, 774, 775, 776, 777, 778, 779, 780, 781, 782, 783, 784, 785, 786, 787, 788, 789, 790, 791]) (ys := [.int (xs 1)]) (rs := []) (r := some (0, 2147483648, 2147483648)) (mc := 0) (ms := 0) (n := 1) X ct_good (ct_SM149 l D dA) rfl rfl (by decide +kernel) rfl rfl rfl (ct_hg 315 _ rfl) (ct_hg 316 _ rfl) (C0.2.2.2.2.2.1 _ (ev_wd_in (h := 10087) rfl)) (ct_hg 317 _ rfl) (ct_hg 318 _ rfl) (by decide +kernel) (by decide) ⟨by decide, by decide⟩ hW1 ⟨ev_vr.it rfl h1, trivial⟩ hm hl1.1 (Nat.le_of_ble_eq_true rfl) ⟨by decide, by decide⟩ (by decide +kernel) (fun rv2 ws2 H2 locs2 hx2 hr2 hW2 hk2 _ => ?_)
  obtain rfl := lw_ex hr2 (by decide +kernel)
  show W p l e room_1 s m #[Value.ref b] below meth c H2 locs2 _ _ _ (F0 m 442 ls1 [.int (ev_un 2147483648)])
  refine lv_istore (i := 6) (lv' := [(6, .int (ev_un 2147483648)), (5, .int 1), (4, .int 0), (3, .ref ao), (2, .ref am), (1, .ref ax), (0, .ref b)]) X.1.1 X.1.2.1 (by decide +kernel) hl1 (by decide) rfl (fun ls2 hl2 => ?_)
  refine lv_aload_n (k := 2) X.1.1 X.1.2.1 (by decide +kernel) rfl (lv_at hl2 4 rfl) ?_
  refine ev_w_cX (sm := ct_S149) (kc := 0) (qc := (42, 3, [(0, 0), (1, 1), (1, 6), (1, 7), (1, 8), (1, 9), (1, 10), (1, 12), (1, 13), (1, 14), (1, 15), (1, 16), (1, 19), (1, 20), (1, 21), (1, 22), (1, 23), (1, 24), (1, 25), (1, 26), (1, 27), (1, 28), (1, 31), (1, 32), (1, 33), (1, 34), (1, 35), (1, 36), (1, 37), (1, 38), (1, 39), (1, 40), (1, 41), (1, 42), (1, 43), (1, 44), (1, 45), (1, 46), (1, 47), (1, 48), (1, 49), (1, 50), (1, 51), (1, 52), (1, 53), (1, 54), (1, 55), (1, 56), (1, 57), (1, 58), (1, 59), (1, 60), (1, 61), (1, 62), (1, 63), (1, 64), (1, 65), (1, 66), (1, 67), (1, 68), (1, 69), (1, 70), (1, 71), (1, 72), (1, 73), (1, 74), (1, 75), (1, 76), (1, 77), (1, 78), (1, 79), (1, 80), (1, 81), (1, 82), (1, 83), (1, 84), (1, 85), (1, 86), (1, 87), (1, 88), (1, 89), (1, 90), (1, 91), (1, 92), (1, 93), (1, 94), (1, 95), (1, 96), (1, 97), (1, 101), (1, 102), (1, 112), (1, 114), (1, 115), (1, 116), (1, 117), (1, 118), (1, 119), (1, 120), (1, 121)], [(2, 0, 0)], ct_w148, ct_r148)) (dd := 9) (o := 692) (ci := 12) (S1 := []) (is := [692, 693, 694, 695, 696, 697, 698, 699, 700, 701, 702, 703, 704, 705, 706, 707, 708, 709, 710, 711, 712, 713, 714, 715, 716, 717, 718, 719, 720, 721, 722, 723, 724, 725, 726, 727, 728, 729, 730, 731, 732, 733, 734, 735, 736, 737, 738, 739, 740, 741, 742, 743, 744, 745, 746, 747, 748, 749, 750, 751, 752, 753, 754, 755, 756, 757, 758, 759, 760, 761, 762, 763, 764, 765, 766, 767, 768, 769, 770, 771, 772, 773, 774, 775, 776, 777, 778, 779, 780, 781, 782, 783, 784, 785, 786, 787, 788, 789, 790, 791]) (ys := []) (rs := []) (r := some (0, 2147483649, 2147483649)) (mc := 0) (ms := 0) (n := 0) X ct_good (ct_SM149 l D dA) rfl rfl (by decide +kernel) rfl rfl rfl (ct_hg 159 _ rfl) (ct_hg 160 _ rfl) (C0.2.2.2.2.2.1 _ (ev_wd_in (h := 9174) rfl)) (ct_hg 161 _ rfl) (ct_hg 162 _ rfl) (by decide +kernel) (by decide) ⟨by decide, by decide⟩ hW2 trivial (hx2 _ _ hm) hl2.1 (Nat.le_of_ble_eq_true rfl) ⟨by decide, by decide⟩ (by decide +kernel) (fun rv3 ws3 H3 locs3 hx3 hr3 hW3 hk3 _ => ?_)
  obtain rfl := lw_ex hr3 (by decide +kernel)
  show W p l e room_1 s m #[Value.ref b] below meth c H3 locs3 _ _ _ (F0 m 448 ls2 [.int (ev_un 2147483649)])
  refine lv_iload (i := 5) X.1.1 X.1.2.1 (by decide +kernel) (lv_at hl2 1 rfl) ?_
  refine lv_icmp_eq (off := 5) (tgt := 455) X.1.1 X.1.2.1 (by decide +kernel) (by decide) (fun _ => ?_) (fun h => absurd (by decide +kernel) h)
  refine lv_iload (i := 5) X.1.1 X.1.2.1 (by decide +kernel) (lv_at hl2 1 rfl) ?_
  refine lv_if_ne (off := 15) (tgt := 472) X.1.1 X.1.2.1 (by decide +kernel) (by decide) (fun _ => ?_) (fun h => absurd h (by decide))
  refine lv_goto (off := 264) (tgt := 736) X.1.1 X.1.2.1 (by decide +kernel) (by decide) ?_
  exact lw_tail C0 (lv_sub hl2 [2, 3, 4, 5, 6] (l' := [(4, .int 0), (3, .ref ao), (2, .ref am), (1, .ref ax), (0, .ref b)]) rfl) (by simp) hW3.2.2.2 (by decide) (by decide)
theorem lw_c9c {p : Program} {l : Launch} {e : Env} {s : State} {m : MethodId} {below : List Frame} {meth : Method} {c : Code} {b : Nat} {xs : Nat → Int32} (C0 : lw_At p s m meth c b 6 xs) {D : va_G} {dA : Nat → ClassId} (X : ev_X p s m #[Value.ref b] c D ct_cl dA ct_kt (lw_A s) ct_gs R_law code 7) {ws : va_W} {H : Heap} {locs : List Loc} {ls : Array Slot} {ax am ao : Nat} (hl : lv_has ls 7 [(4, .int 0), (3, .ref ao), (2, .ref am), (1, .ref ax), (0, .ref b)]) (ha : (ws.map Prod.fst)[0]? = some ax) (hm : (ws.map Prod.fst)[692]? = some am) (hao : (ws.map Prod.fst)[792]? = some ao) (hW : ev_Wd D ct_cl dA (lw_A s) s ct_lw ws H locs) (hfl : l.flags = pinnedFlags ++ [noTraceFlag]) (h1 : ev_in (0, 2147483652, 4294967295) (xs 1)) : W p l e room_1 s m #[Value.ref b] below meth c H locs 793 215028 (lw_Z below #[Value.ref b] s) (F0 m 419 ls []) := by
  have hX := C0.2.2.2.2.2.2.1
  have hbl := C0.2.2.2.2.2.2.2.1
  have hz := lw_Zs C0
  obtain ⟨q, hstr⟩ := th_str (C0.2.2.2.2.2.1 _ (ev_wd_in (h := 7119) rfl))
  refine lv_aload_n (k := 1) X.1.1 X.1.2.1 (by decide +kernel) rfl (lv_at hl 3 rfl) ?_
  refine ev_w_scr (j := 1) X.1.1 X.1.2.1 hX hbl (lw_nA hbl) hW.2.2.2 hl (k0 := 4) (k4 := 0) rfl rfl (by decide) (by decide) (by decide +kernel) (by decide +kernel) (by decide +kernel) (by decide +kernel) (by decide +kernel) ?_
  refine lv_aload_n (k := 3) X.1.1 X.1.2.1 (by decide +kernel) rfl (lv_at hl 1 rfl) ?_
  have hrec : ∃ cell : Cell, H[ax]? = some cell ∧ cell.vm.isStatics = false ∧ s.vm.findClass "TrustedMachine" = some cell.cls := by
    obtain ⟨E, hE, hcr⟩ := hW.1.at (k := 0) (c := (0, 0, 0, [(2, 1, 0), (2, 226, 0), (2, 4, 0), (2, 10, 0), (2, 20, 0), (2, 499, 0), (2, 526, 0), (2, 690, 0), (0, 2147483648, 2147483648), (0, 2147483648, 2147483648), (2, 691, 0), (0, 2147483648, 2147483648), (0, 2147483648, 2147483648)])) rfl ha
    rcases hcr with ⟨-, gs, rfl, -⟩ | ⟨h, -⟩ | ⟨h, -⟩ | ⟨h, -⟩ | ⟨h, -⟩
    · exact va_recv X.2.1.1 hW.2.1 (q := ct_cl.getD 0 ("", ct_T0, 0)) rfl hE
    all_goals exact absurd h (by decide)
  refine th_ret1 (th_runS (As := [Value.ref ax, Value.int (xs 1), Value.ref ao]) (rest := []) (hh := [(0, 9, 12, 13)]) (bytes := method_3_code) (maxL := 4) (ret := some .int) X.1 (th_h_result hfl (b := ax) (q := q) (ao := ao) (Or.inr (th_gt (n := 3) (by decide) h1))) th_Ph_blind rfl rfl (by decide) (by decide) (fun w hw a' U hU => ?_) List.mem_cons_self (C0.2.2.2.2.2.1 _ (ev_wd_in (h := 0) rfl)) (C0.2.2.2.2.2.1 _ (ev_wd_in (h := 7087) rfl)) (C0.2.2.2.2.2.1 _ (ev_wd_in (h := 7088) rfl)) ⟨by decide, by decide⟩ (show (parseMethodDescriptor "(LTrustedMachine;I[J)I").map (fun d => d.parameters.length) = some 3 from by decide +kernel) (fun U hU hWu => ⟨rfl, ?_, vk_R.warm hWu hstr, lw_Zu hz hW.2.2.2 hU hWu⟩) rfl hl.1 rfl (Nat.le_of_ble_eq_true rfl) (show decode code 427 = .ok (.invokestatic 70, 3) from by decide +kernel) ⟨by decide, by decide⟩) hW (fun H1 locs1 hW1 => ?_)
  · rcases List.mem_cons.mp hw with rfl | hw
    · exact word_at hU (Or.inl rfl) (C0.2.2.2.2.2.1 _ (ev_wd_in (h := 7089) rfl))
    · exact word_at hU (th_hgood_result w hw) (C0.2.2.2.2.2.1 _ (th_hin_result w hw))
  · rw [hU]
    obtain ⟨cell, r1, r2, r3⟩ := hrec
    exact ⟨cell, r1, r2, by rw [hWu.alike.findClass]; exact r3⟩
  refine lv_istore (i := 5) (lv' := [(5, .int 1), (4, .int 0), (3, .ref ao), (2, .ref am), (1, .ref ax), (0, .ref b)]) X.1.1 X.1.2.1 (by decide +kernel) hl (by decide) rfl (fun ls1 hl1 => ?_)
  refine lv_aload_n (k := 2) X.1.1 X.1.2.1 (by decide +kernel) rfl (lv_at hl1 3 rfl) ?_
  refine ev_w_scr (j := 1) X.1.1 X.1.2.1 hX hbl (lw_nA hbl) hW1.2.2.2 hl1 (k0 := 5) (k4 := 1) rfl rfl (by decide) (by decide) (by decide +kernel) (by decide +kernel) (by decide +kernel) (by decide +kernel) (by decide +kernel) ?_
  refine ev_w_cX (sm := ct_S149) (kc := 33) (qc := (82, 3, [(0, 0), (1, 1), (1, 6), (1, 7), (1, 8), (1, 9), (1, 10), (1, 12), (1, 13), (1, 14), (1, 15), (1, 16), (1, 19), (1, 20), (1, 21), (1, 22), (1, 23), (1, 24), (1, 25), (1, 26), (1, 27), (1, 28), (1, 31), (1, 32), (1, 33), (1, 34), (1, 35), (1, 36), (1, 37), (1, 38), (1, 39), (1, 40), (1, 41), (1, 42), (1, 43), (1, 44), (1, 45), (1, 46), (1, 47), (1, 48), (1, 49), (1, 50), (1, 51), (1, 52), (1, 53), (1, 54), (1, 55), (1, 56), (1, 57), (1, 58), (1, 59), (1, 60), (1, 61), (1, 62), (1, 63), (1, 64), (1, 65), (1, 66), (1, 67), (1, 68), (1, 69), (1, 70), (1, 71), (1, 72), (1, 73), (1, 74), (1, 75), (1, 76), (1, 77), (1, 78), (1, 79), (1, 80), (1, 81), (1, 82), (1, 83), (1, 84), (1, 85), (1, 86), (1, 87), (1, 88), (1, 89), (1, 90), (1, 91), (1, 92), (1, 93), (1, 94), (1, 95), (1, 96), (1, 97), (1, 101), (1, 102), (1, 112), (1, 114), (1, 115), (1, 116), (1, 117), (1, 118), (1, 119), (1, 120), (1, 121)], [(2, 0, 0), (0, 2147483652, 4294967295)], ct_w115, ct_r115)) (dd := 9) (o := 692) (ci := 12) (S1 := [(0, 2147483652, 4294967295)]) (is := [692, 693, 694, 695, 696, 697, 698, 699, 700, 701, 702, 703, 704, 705, 706, 707, 708, 709, 710, 711, 712, 713, 714, 715, 716, 717, 718, 719, 720, 721, 722, 723, 724, 725, 726, 727, 728, 729, 730, 731, 732, 733, 734, 735, 736, 737, 738, 739, 740, 741, 742, 743, 744, 745, 746, 747, 748, 749, 750, 751, 752, 753, 754, 755, 756, 757, 758, 759, 760, 761, 762, 763, 764, 765, 766, 767, 768, 769, 770, 771, 772, 773, 774, 775, 776, 777, 778, 779, 780, 781, 782, 783, 784, 785, 786, 787, 788, 789, 790, 791]) (ys := [.int (xs 1)]) (rs := []) (r := some (0, 2147483648, 2147483648)) (mc := 0) (ms := 0) (n := 1) X ct_good (ct_SM149 l D dA) rfl rfl (by decide +kernel) rfl rfl rfl (ct_hg 315 _ rfl) (ct_hg 316 _ rfl) (C0.2.2.2.2.2.1 _ (ev_wd_in (h := 10087) rfl)) (ct_hg 317 _ rfl) (ct_hg 318 _ rfl) (by decide +kernel) (by decide) ⟨by decide, by decide⟩ hW1 ⟨ev_vr.it rfl h1, trivial⟩ hm hl1.1 (Nat.le_of_ble_eq_true rfl) ⟨by decide, by decide⟩ (by decide +kernel) (fun rv2 ws2 H2 locs2 hx2 hr2 hW2 hk2 _ => ?_)
  obtain rfl := lw_ex hr2 (by decide +kernel)
  show W p l e room_1 s m #[Value.ref b] below meth c H2 locs2 _ _ _ (F0 m 442 ls1 [.int (ev_un 2147483648)])
  refine lv_istore (i := 6) (lv' := [(6, .int (ev_un 2147483648)), (5, .int 1), (4, .int 0), (3, .ref ao), (2, .ref am), (1, .ref ax), (0, .ref b)]) X.1.1 X.1.2.1 (by decide +kernel) hl1 (by decide) rfl (fun ls2 hl2 => ?_)
  refine lv_aload_n (k := 2) X.1.1 X.1.2.1 (by decide +kernel) rfl (lv_at hl2 4 rfl) ?_
  refine ev_w_cX (sm := ct_S149) (kc := 0) (qc := (42, 3, [(0, 0), (1, 1), (1, 6), (1, 7), (1, 8), (1, 9), (1, 10), (1, 12), (1, 13), (1, 14), (1, 15), (1, 16), (1, 19), (1, 20), (1, 21), (1, 22), (1, 23), (1, 24), (1, 25), (1, 26), (1, 27), (1, 28), (1, 31), (1, 32), (1, 33), (1, 34), (1, 35), (1, 36), (1, 37), (1, 38), (1, 39), (1, 40), (1, 41), (1, 42), (1, 43), (1, 44), (1, 45), (1, 46), (1, 47), (1, 48), (1, 49), (1, 50), (1, 51), (1, 52), (1, 53), (1, 54), (1, 55), (1, 56), (1, 57), (1, 58), (1, 59), (1, 60), (1, 61), (1, 62), (1, 63), (1, 64), (1, 65), (1, 66), (1, 67), (1, 68), (1, 69), (1, 70), (1, 71), (1, 72), (1, 73), (1, 74), (1, 75), (1, 76), (1, 77), (1, 78), (1, 79), (1, 80), (1, 81), (1, 82), (1, 83), (1, 84), (1, 85), (1, 86), (1, 87), (1, 88), (1, 89), (1, 90), (1, 91), (1, 92), (1, 93), (1, 94), (1, 95), (1, 96), (1, 97), (1, 101), (1, 102), (1, 112), (1, 114), (1, 115), (1, 116), (1, 117), (1, 118), (1, 119), (1, 120), (1, 121)], [(2, 0, 0)], ct_w148, ct_r148)) (dd := 9) (o := 692) (ci := 12) (S1 := []) (is := [692, 693, 694, 695, 696, 697, 698, 699, 700, 701, 702, 703, 704, 705, 706, 707, 708, 709, 710, 711, 712, 713, 714, 715, 716, 717, 718, 719, 720, 721, 722, 723, 724, 725, 726, 727, 728, 729, 730, 731, 732, 733, 734, 735, 736, 737, 738, 739, 740, 741, 742, 743, 744, 745, 746, 747, 748, 749, 750, 751, 752, 753, 754, 755, 756, 757, 758, 759, 760, 761, 762, 763, 764, 765, 766, 767, 768, 769, 770, 771, 772, 773, 774, 775, 776, 777, 778, 779, 780, 781, 782, 783, 784, 785, 786, 787, 788, 789, 790, 791]) (ys := []) (rs := []) (r := some (0, 2147483649, 2147483649)) (mc := 0) (ms := 0) (n := 0) X ct_good (ct_SM149 l D dA) rfl rfl (by decide +kernel) rfl rfl rfl (ct_hg 159 _ rfl) (ct_hg 160 _ rfl) (C0.2.2.2.2.2.1 _ (ev_wd_in (h := 9174) rfl)) (ct_hg 161 _ rfl) (ct_hg 162 _ rfl) (by decide +kernel) (by decide) ⟨by decide, by decide⟩ hW2 trivial (hx2 _ _ hm) hl2.1 (Nat.le_of_ble_eq_true rfl) ⟨by decide, by decide⟩ (by decide +kernel) (fun rv3 ws3 H3 locs3 hx3 hr3 hW3 hk3 _ => ?_)
  obtain rfl := lw_ex hr3 (by decide +kernel)
  show W p l e room_1 s m #[Value.ref b] below meth c H3 locs3 _ _ _ (F0 m 448 ls2 [.int (ev_un 2147483649)])
  refine lv_iload (i := 5) X.1.1 X.1.2.1 (by decide +kernel) (lv_at hl2 1 rfl) ?_
  refine lv_icmp_eq (off := 5) (tgt := 455) X.1.1 X.1.2.1 (by decide +kernel) (by decide) (fun _ => ?_) (fun h => absurd (by decide +kernel) h)
  refine lv_iload (i := 5) X.1.1 X.1.2.1 (by decide +kernel) (lv_at hl2 1 rfl) ?_
  refine lv_if_ne (off := 15) (tgt := 472) X.1.1 X.1.2.1 (by decide +kernel) (by decide) (fun _ => ?_) (fun h => absurd h (by decide))
  refine lv_goto (off := 264) (tgt := 736) X.1.1 X.1.2.1 (by decide +kernel) (by decide) ?_
  exact lw_tail C0 (lv_sub hl2 [2, 3, 4, 5, 6] (l' := [(4, .int 0), (3, .ref ao), (2, .ref am), (1, .ref ax), (0, .ref b)]) rfl) (by simp) hW3.2.2.2 (by decide) (by decide)
theorem lw_c14a {p : Program} {l : Launch} {e : Env} {s : State} {m : MethodId} {below : List Frame} {meth : Method} {c : Code} {b : Nat} {xs : Nat → Int32} (C0 : lw_At p s m meth c b 6 xs) {D : va_G} {dA : Nat → ClassId} (X : ev_X p s m #[Value.ref b] c D ct_cl dA ct_kt (lw_A s) ct_gs R_law code 7) {ws : va_W} {H : Heap} {locs : List Loc} {ls : Array Slot} {ax am ao : Nat} (hl : lv_has ls 7 [(4, .int 0), (3, .ref ao), (2, .ref am), (1, .ref ax), (0, .ref b)]) (ha : (ws.map Prod.fst)[0]? = some ax) (hm : (ws.map Prod.fst)[692]? = some am) (hao : (ws.map Prod.fst)[792]? = some ao) (hW : ev_Wd D ct_cl dA (lw_A s) s ct_lw ws H locs) (hfl : l.flags = pinnedFlags ++ [noTraceFlag]) (h1 : ev_in (0, 0, 2147483647) (xs 1)) : W p l e room_1 s m #[Value.ref b] below meth c H locs 793 215028 (lw_Z below #[Value.ref b] s) (F0 m 575 ls []) := by
  have hX := C0.2.2.2.2.2.2.1
  have hbl := C0.2.2.2.2.2.2.2.1
  have hz := lw_Zs C0
  obtain ⟨q, hstr⟩ := th_str (C0.2.2.2.2.2.1 _ (ev_wd_in (h := 7130) rfl))
  refine lv_aload_n (k := 1) X.1.1 X.1.2.1 (by decide +kernel) rfl (lv_at hl 3 rfl) ?_
  refine ev_w_scr (j := 1) X.1.1 X.1.2.1 hX hbl (lw_nA hbl) hW.2.2.2 hl (k0 := 4) (k4 := 0) rfl rfl (by decide) (by decide) (by decide +kernel) (by decide +kernel) (by decide +kernel) (by decide +kernel) (by decide +kernel) ?_
  refine lv_aload_n (k := 3) X.1.1 X.1.2.1 (by decide +kernel) rfl (lv_at hl 1 rfl) ?_
  have hrec : ∃ cell : Cell, H[ax]? = some cell ∧ cell.vm.isStatics = false ∧ s.vm.findClass "TrustedMachine" = some cell.cls := by
    obtain ⟨E, hE, hcr⟩ := hW.1.at (k := 0) (c := (0, 0, 0, [(2, 1, 0), (2, 226, 0), (2, 4, 0), (2, 10, 0), (2, 20, 0), (2, 499, 0), (2, 526, 0), (2, 690, 0), (0, 2147483648, 2147483648), (0, 2147483648, 2147483648), (2, 691, 0), (0, 2147483648, 2147483648), (0, 2147483648, 2147483648)])) rfl ha
    rcases hcr with ⟨-, gs, rfl, -⟩ | ⟨h, -⟩ | ⟨h, -⟩ | ⟨h, -⟩ | ⟨h, -⟩
    · exact va_recv X.2.1.1 hW.2.1 (q := ct_cl.getD 0 ("", ct_T0, 0)) rfl hE
    all_goals exact absurd h (by decide)
  refine th_ret1 (th_runS (As := [Value.ref ax, Value.int (xs 1), Value.ref ao]) (rest := []) (hh := [(0, 9, 12, 13)]) (bytes := method_4_code) (maxL := 4) (ret := some .int) X.1 (th_h_register hfl (b := ax) (q := q) (ao := ao) (Or.inl (th_neg h1))) th_Ph_blind rfl rfl (by decide) (by decide) (fun w hw a' U hU => ?_) List.mem_cons_self (C0.2.2.2.2.2.1 _ (ev_wd_in (h := 0) rfl)) (C0.2.2.2.2.2.1 _ (ev_wd_in (h := 7123) rfl)) (C0.2.2.2.2.2.1 _ (ev_wd_in (h := 7124) rfl)) ⟨by decide, by decide⟩ (show (parseMethodDescriptor "(LTrustedMachine;I[J)I").map (fun d => d.parameters.length) = some 3 from by decide +kernel) (fun U hU hWu => ⟨rfl, ?_, vk_R.warm hWu hstr, lw_Zu hz hW.2.2.2 hU hWu⟩) rfl hl.1 rfl (Nat.le_of_ble_eq_true rfl) (show decode code 583 = .ok (.invokestatic 96, 3) from by decide +kernel) ⟨by decide, by decide⟩) hW (fun H1 locs1 hW1 => ?_)
  · rcases List.mem_cons.mp hw with rfl | hw
    · exact word_at hU (Or.inl rfl) (C0.2.2.2.2.2.1 _ (ev_wd_in (h := 7125) rfl))
    · exact word_at hU (th_hgood_register w hw) (C0.2.2.2.2.2.1 _ (th_hin_register w hw))
  · rw [hU]
    obtain ⟨cell, r1, r2, r3⟩ := hrec
    exact ⟨cell, r1, r2, by rw [hWu.alike.findClass]; exact r3⟩
  refine lv_istore (i := 5) (lv' := [(5, .int 1), (4, .int 0), (3, .ref ao), (2, .ref am), (1, .ref ax), (0, .ref b)]) X.1.1 X.1.2.1 (by decide +kernel) hl (by decide) rfl (fun ls1 hl1 => ?_)
  refine lv_aload_n (k := 2) X.1.1 X.1.2.1 (by decide +kernel) rfl (lv_at hl1 3 rfl) ?_
  refine ev_w_scr (j := 1) X.1.1 X.1.2.1 hX hbl (lw_nA hbl) hW1.2.2.2 hl1 (k0 := 5) (k4 := 1) rfl rfl (by decide) (by decide) (by decide +kernel) (by decide +kernel) (by decide +kernel) (by decide +kernel) (by decide +kernel) ?_
  refine ev_w_cX (sm := ct_S149) (kc := 28) (qc := (86, 3, [(0, 0), (1, 1), (1, 6), (1, 7), (1, 8), (1, 9), (1, 10), (1, 12), (1, 13), (1, 14), (1, 15), (1, 16), (1, 19), (1, 20), (1, 21), (1, 22), (1, 23), (1, 24), (1, 25), (1, 26), (1, 27), (1, 28), (1, 31), (1, 32), (1, 33), (1, 34), (1, 35), (1, 36), (1, 37), (1, 38), (1, 39), (1, 40), (1, 41), (1, 42), (1, 43), (1, 44), (1, 45), (1, 46), (1, 47), (1, 48), (1, 49), (1, 50), (1, 51), (1, 52), (1, 53), (1, 54), (1, 55), (1, 56), (1, 57), (1, 58), (1, 59), (1, 60), (1, 61), (1, 62), (1, 63), (1, 64), (1, 65), (1, 66), (1, 67), (1, 68), (1, 69), (1, 70), (1, 71), (1, 72), (1, 73), (1, 74), (1, 75), (1, 76), (1, 77), (1, 78), (1, 79), (1, 80), (1, 81), (1, 82), (1, 83), (1, 84), (1, 85), (1, 86), (1, 87), (1, 88), (1, 89), (1, 90), (1, 91), (1, 92), (1, 93), (1, 94), (1, 95), (1, 96), (1, 97), (1, 101), (1, 102), (1, 112), (1, 114), (1, 115), (1, 116), (1, 117), (1, 118), (1, 119), (1, 120), (1, 121)], [(2, 0, 0), (0, 0, 2147483647)], ct_w120, ct_r120)) (dd := 9) (o := 692) (ci := 12) (S1 := [(0, 0, 2147483647)]) (is := [692, 693, 694, 695, 696, 697, 698, 699, 700, 701, 702, 703, 704, 705, 706, 707, 708, 709, 710, 711, 712, 713, 714, 715, 716, 717, 718, 719, 720, 721, 722, 723, 724, 725, 726, 727, 728, 729, 730, 731, 732, 733, 734, 735, 736, 737, 738, 739, 740, 741, 742, 743, 744, 745, 746, 747, 748, 749, 750, 751, 752, 753, 754, 755, 756, 757, 758, 759, 760, 761, 762, 763, 764, 765, 766, 767, 768, 769, 770, 771, 772, 773, 774, 775, 776, 777, 778, 779, 780, 781, 782, 783, 784, 785, 786, 787, 788, 789, 790, 791]) (ys := [.int (xs 1)]) (rs := []) (r := some (0, 2147483648, 2147483648)) (mc := 0) (ms := 0) (n := 1) X ct_good (ct_SM149 l D dA) rfl rfl (by decide +kernel) rfl rfl rfl (ct_hg 331 _ rfl) (ct_hg 332 _ rfl) (C0.2.2.2.2.2.1 _ (ev_wd_in (h := 12057) rfl)) (ct_hg 333 _ rfl) (ct_hg 334 _ rfl) (by decide +kernel) (by decide) ⟨by decide, by decide⟩ hW1 ⟨ev_vr.it rfl h1, trivial⟩ hm hl1.1 (Nat.le_of_ble_eq_true rfl) ⟨by decide, by decide⟩ (by decide +kernel) (fun rv2 ws2 H2 locs2 hx2 hr2 hW2 hk2 _ => ?_)
  obtain rfl := lw_ex hr2 (by decide +kernel)
  show W p l e room_1 s m #[Value.ref b] below meth c H2 locs2 _ _ _ (F0 m 598 ls1 [.int (ev_un 2147483648)])
  refine lv_istore (i := 6) (lv' := [(6, .int (ev_un 2147483648)), (5, .int 1), (4, .int 0), (3, .ref ao), (2, .ref am), (1, .ref ax), (0, .ref b)]) X.1.1 X.1.2.1 (by decide +kernel) hl1 (by decide) rfl (fun ls2 hl2 => ?_)
  refine lv_aload_n (k := 2) X.1.1 X.1.2.1 (by decide +kernel) rfl (lv_at hl2 4 rfl) ?_
  refine ev_w_cX (sm := ct_S149) (kc := 0) (qc := (42, 3, [(0, 0), (1, 1), (1, 6), (1, 7), (1, 8), (1, 9), (1, 10), (1, 12), (1, 13), (1, 14), (1, 15), (1, 16), (1, 19), (1, 20), (1, 21), (1, 22), (1, 23), (1, 24), (1, 25), (1, 26), (1, 27), (1, 28), (1, 31), (1, 32), (1, 33), (1, 34), (1, 35), (1, 36), (1, 37), (1, 38), (1, 39), (1, 40), (1, 41), (1, 42), (1, 43), (1, 44), (1, 45), (1, 46), (1, 47), (1, 48), (1, 49), (1, 50), (1, 51), (1, 52), (1, 53), (1, 54), (1, 55), (1, 56), (1, 57), (1, 58), (1, 59), (1, 60), (1, 61), (1, 62), (1, 63), (1, 64), (1, 65), (1, 66), (1, 67), (1, 68), (1, 69), (1, 70), (1, 71), (1, 72), (1, 73), (1, 74), (1, 75), (1, 76), (1, 77), (1, 78), (1, 79), (1, 80), (1, 81), (1, 82), (1, 83), (1, 84), (1, 85), (1, 86), (1, 87), (1, 88), (1, 89), (1, 90), (1, 91), (1, 92), (1, 93), (1, 94), (1, 95), (1, 96), (1, 97), (1, 101), (1, 102), (1, 112), (1, 114), (1, 115), (1, 116), (1, 117), (1, 118), (1, 119), (1, 120), (1, 121)], [(2, 0, 0)], ct_w148, ct_r148)) (dd := 9) (o := 692) (ci := 12) (S1 := []) (is := [692, 693, 694, 695, 696, 697, 698, 699, 700, 701, 702, 703, 704, 705, 706, 707, 708, 709, 710, 711, 712, 713, 714, 715, 716, 717, 718, 719, 720, 721, 722, 723, 724, 725, 726, 727, 728, 729, 730, 731, 732, 733, 734, 735, 736, 737, 738, 739, 740, 741, 742, 743, 744, 745, 746, 747, 748, 749, 750, 751, 752, 753, 754, 755, 756, 757, 758, 759, 760, 761, 762, 763, 764, 765, 766, 767, 768, 769, 770, 771, 772, 773, 774, 775, 776, 777, 778, 779, 780, 781, 782, 783, 784, 785, 786, 787, 788, 789, 790, 791]) (ys := []) (rs := []) (r := some (0, 2147483649, 2147483649)) (mc := 0) (ms := 0) (n := 0) X ct_good (ct_SM149 l D dA) rfl rfl (by decide +kernel) rfl rfl rfl (ct_hg 159 _ rfl) (ct_hg 160 _ rfl) (C0.2.2.2.2.2.1 _ (ev_wd_in (h := 9174) rfl)) (ct_hg 161 _ rfl) (ct_hg 162 _ rfl) (by decide +kernel) (by decide) ⟨by decide, by decide⟩ hW2 trivial (hx2 _ _ hm) hl2.1 (Nat.le_of_ble_eq_true rfl) ⟨by decide, by decide⟩ (by decide +kernel) (fun rv3 ws3 H3 locs3 hx3 hr3 hW3 hk3 _ => ?_)
  obtain rfl := lw_ex hr3 (by decide +kernel)
  show W p l e room_1 s m #[Value.ref b] below meth c H3 locs3 _ _ _ (F0 m 604 ls2 [.int (ev_un 2147483649)])
  refine lv_iload (i := 5) X.1.1 X.1.2.1 (by decide +kernel) (lv_at hl2 1 rfl) ?_
  refine lv_icmp_eq (off := 5) (tgt := 611) X.1.1 X.1.2.1 (by decide +kernel) (by decide) (fun _ => ?_) (fun h => absurd (by decide +kernel) h)
  refine lv_iload (i := 5) X.1.1 X.1.2.1 (by decide +kernel) (lv_at hl2 1 rfl) ?_
  refine lv_if_ne (off := 15) (tgt := 628) X.1.1 X.1.2.1 (by decide +kernel) (by decide) (fun _ => ?_) (fun h => absurd h (by decide))
  refine lv_goto (off := 108) (tgt := 736) X.1.1 X.1.2.1 (by decide +kernel) (by decide) ?_
  exact lw_tail C0 (lv_sub hl2 [2, 3, 4, 5, 6] (l' := [(4, .int 0), (3, .ref ao), (2, .ref am), (1, .ref ax), (0, .ref b)]) rfl) (by simp) hW3.2.2.2 (by decide) (by decide)
theorem lw_c14c {p : Program} {l : Launch} {e : Env} {s : State} {m : MethodId} {below : List Frame} {meth : Method} {c : Code} {b : Nat} {xs : Nat → Int32} (C0 : lw_At p s m meth c b 6 xs) {D : va_G} {dA : Nat → ClassId} (X : ev_X p s m #[Value.ref b] c D ct_cl dA ct_kt (lw_A s) ct_gs R_law code 7) {ws : va_W} {H : Heap} {locs : List Loc} {ls : Array Slot} {ax am ao : Nat} (hl : lv_has ls 7 [(4, .int 0), (3, .ref ao), (2, .ref am), (1, .ref ax), (0, .ref b)]) (ha : (ws.map Prod.fst)[0]? = some ax) (hm : (ws.map Prod.fst)[692]? = some am) (hao : (ws.map Prod.fst)[792]? = some ao) (hW : ev_Wd D ct_cl dA (lw_A s) s ct_lw ws H locs) (hfl : l.flags = pinnedFlags ++ [noTraceFlag]) (h1 : ev_in (0, 2147483666, 4294967295) (xs 1)) : W p l e room_1 s m #[Value.ref b] below meth c H locs 793 215028 (lw_Z below #[Value.ref b] s) (F0 m 575 ls []) := by
  have hX := C0.2.2.2.2.2.2.1
  have hbl := C0.2.2.2.2.2.2.2.1
  have hz := lw_Zs C0
  obtain ⟨q, hstr⟩ := th_str (C0.2.2.2.2.2.1 _ (ev_wd_in (h := 7130) rfl))
  refine lv_aload_n (k := 1) X.1.1 X.1.2.1 (by decide +kernel) rfl (lv_at hl 3 rfl) ?_
  refine ev_w_scr (j := 1) X.1.1 X.1.2.1 hX hbl (lw_nA hbl) hW.2.2.2 hl (k0 := 4) (k4 := 0) rfl rfl (by decide) (by decide) (by decide +kernel) (by decide +kernel) (by decide +kernel) (by decide +kernel) (by decide +kernel) ?_
  refine lv_aload_n (k := 3) X.1.1 X.1.2.1 (by decide +kernel) rfl (lv_at hl 1 rfl) ?_
  have hrec : ∃ cell : Cell, H[ax]? = some cell ∧ cell.vm.isStatics = false ∧ s.vm.findClass "TrustedMachine" = some cell.cls := by
    obtain ⟨E, hE, hcr⟩ := hW.1.at (k := 0) (c := (0, 0, 0, [(2, 1, 0), (2, 226, 0), (2, 4, 0), (2, 10, 0), (2, 20, 0), (2, 499, 0), (2, 526, 0), (2, 690, 0), (0, 2147483648, 2147483648), (0, 2147483648, 2147483648), (2, 691, 0), (0, 2147483648, 2147483648), (0, 2147483648, 2147483648)])) rfl ha
    rcases hcr with ⟨-, gs, rfl, -⟩ | ⟨h, -⟩ | ⟨h, -⟩ | ⟨h, -⟩ | ⟨h, -⟩
    · exact va_recv X.2.1.1 hW.2.1 (q := ct_cl.getD 0 ("", ct_T0, 0)) rfl hE
    all_goals exact absurd h (by decide)
  refine th_ret1 (th_runS (As := [Value.ref ax, Value.int (xs 1), Value.ref ao]) (rest := []) (hh := [(0, 9, 12, 13)]) (bytes := method_4_code) (maxL := 4) (ret := some .int) X.1 (th_h_register hfl (b := ax) (q := q) (ao := ao) (Or.inr (th_gt (n := 17) (by decide) h1))) th_Ph_blind rfl rfl (by decide) (by decide) (fun w hw a' U hU => ?_) List.mem_cons_self (C0.2.2.2.2.2.1 _ (ev_wd_in (h := 0) rfl)) (C0.2.2.2.2.2.1 _ (ev_wd_in (h := 7123) rfl)) (C0.2.2.2.2.2.1 _ (ev_wd_in (h := 7124) rfl)) ⟨by decide, by decide⟩ (show (parseMethodDescriptor "(LTrustedMachine;I[J)I").map (fun d => d.parameters.length) = some 3 from by decide +kernel) (fun U hU hWu => ⟨rfl, ?_, vk_R.warm hWu hstr, lw_Zu hz hW.2.2.2 hU hWu⟩) rfl hl.1 rfl (Nat.le_of_ble_eq_true rfl) (show decode code 583 = .ok (.invokestatic 96, 3) from by decide +kernel) ⟨by decide, by decide⟩) hW (fun H1 locs1 hW1 => ?_)
  · rcases List.mem_cons.mp hw with rfl | hw
    · exact word_at hU (Or.inl rfl) (C0.2.2.2.2.2.1 _ (ev_wd_in (h := 7125) rfl))
    · exact word_at hU (th_hgood_register w hw) (C0.2.2.2.2.2.1 _ (th_hin_register w hw))
  · rw [hU]
    obtain ⟨cell, r1, r2, r3⟩ := hrec
    exact ⟨cell, r1, r2, by rw [hWu.alike.findClass]; exact r3⟩
  refine lv_istore (i := 5) (lv' := [(5, .int 1), (4, .int 0), (3, .ref ao), (2, .ref am), (1, .ref ax), (0, .ref b)]) X.1.1 X.1.2.1 (by decide +kernel) hl (by decide) rfl (fun ls1 hl1 => ?_)
  refine lv_aload_n (k := 2) X.1.1 X.1.2.1 (by decide +kernel) rfl (lv_at hl1 3 rfl) ?_
  refine ev_w_scr (j := 1) X.1.1 X.1.2.1 hX hbl (lw_nA hbl) hW1.2.2.2 hl1 (k0 := 5) (k4 := 1) rfl rfl (by decide) (by decide) (by decide +kernel) (by decide +kernel) (by decide +kernel) (by decide +kernel) (by decide +kernel) ?_
  refine ev_w_cX (sm := ct_S149) (kc := 27) (qc := (86, 3, [(0, 0), (1, 1), (1, 6), (1, 7), (1, 8), (1, 9), (1, 10), (1, 12), (1, 13), (1, 14), (1, 15), (1, 16), (1, 19), (1, 20), (1, 21), (1, 22), (1, 23), (1, 24), (1, 25), (1, 26), (1, 27), (1, 28), (1, 31), (1, 32), (1, 33), (1, 34), (1, 35), (1, 36), (1, 37), (1, 38), (1, 39), (1, 40), (1, 41), (1, 42), (1, 43), (1, 44), (1, 45), (1, 46), (1, 47), (1, 48), (1, 49), (1, 50), (1, 51), (1, 52), (1, 53), (1, 54), (1, 55), (1, 56), (1, 57), (1, 58), (1, 59), (1, 60), (1, 61), (1, 62), (1, 63), (1, 64), (1, 65), (1, 66), (1, 67), (1, 68), (1, 69), (1, 70), (1, 71), (1, 72), (1, 73), (1, 74), (1, 75), (1, 76), (1, 77), (1, 78), (1, 79), (1, 80), (1, 81), (1, 82), (1, 83), (1, 84), (1, 85), (1, 86), (1, 87), (1, 88), (1, 89), (1, 90), (1, 91), (1, 92), (1, 93), (1, 94), (1, 95), (1, 96), (1, 97), (1, 101), (1, 102), (1, 112), (1, 114), (1, 115), (1, 116), (1, 117), (1, 118), (1, 119), (1, 120), (1, 121)], [(2, 0, 0), (0, 2147483666, 4294967295)], ct_w121, ct_r121)) (dd := 9) (o := 692) (ci := 12) (S1 := [(0, 2147483666, 4294967295)]) (is := [692, 693, 694, 695, 696, 697, 698, 699, 700, 701, 702, 703, 704, 705, 706, 707, 708, 709, 710, 711, 712, 713, 714, 715, 716, 717, 718, 719, 720, 721, 722, 723, 724, 725, 726, 727, 728, 729, 730, 731, 732, 733, 734, 735, 736, 737, 738, 739, 740, 741, 742, 743, 744, 745, 746, 747, 748, 749, 750, 751, 752, 753, 754, 755, 756, 757, 758, 759, 760, 761, 762, 763, 764, 765, 766, 767, 768, 769, 770, 771, 772, 773, 774, 775, 776, 777, 778, 779, 780, 781, 782, 783, 784, 785, 786, 787, 788, 789, 790, 791]) (ys := [.int (xs 1)]) (rs := []) (r := some (0, 2147483648, 2147483648)) (mc := 0) (ms := 0) (n := 1) X ct_good (ct_SM149 l D dA) rfl rfl (by decide +kernel) rfl rfl rfl (ct_hg 331 _ rfl) (ct_hg 332 _ rfl) (C0.2.2.2.2.2.1 _ (ev_wd_in (h := 12057) rfl)) (ct_hg 333 _ rfl) (ct_hg 334 _ rfl) (by decide +kernel) (by decide) ⟨by decide, by decide⟩ hW1 ⟨ev_vr.it rfl h1, trivial⟩ hm hl1.1 (Nat.le_of_ble_eq_true rfl) ⟨by decide, by decide⟩ (by decide +kernel) (fun rv2 ws2 H2 locs2 hx2 hr2 hW2 hk2 _ => ?_)
  obtain rfl := lw_ex hr2 (by decide +kernel)
  show W p l e room_1 s m #[Value.ref b] below meth c H2 locs2 _ _ _ (F0 m 598 ls1 [.int (ev_un 2147483648)])
  refine lv_istore (i := 6) (lv' := [(6, .int (ev_un 2147483648)), (5, .int 1), (4, .int 0), (3, .ref ao), (2, .ref am), (1, .ref ax), (0, .ref b)]) X.1.1 X.1.2.1 (by decide +kernel) hl1 (by decide) rfl (fun ls2 hl2 => ?_)
  refine lv_aload_n (k := 2) X.1.1 X.1.2.1 (by decide +kernel) rfl (lv_at hl2 4 rfl) ?_
  refine ev_w_cX (sm := ct_S149) (kc := 0) (qc := (42, 3, [(0, 0), (1, 1), (1, 6), (1, 7), (1, 8), (1, 9), (1, 10), (1, 12), (1, 13), (1, 14), (1, 15), (1, 16), (1, 19), (1, 20), (1, 21), (1, 22), (1, 23), (1, 24), (1, 25), (1, 26), (1, 27), (1, 28), (1, 31), (1, 32), (1, 33), (1, 34), (1, 35), (1, 36), (1, 37), (1, 38), (1, 39), (1, 40), (1, 41), (1, 42), (1, 43), (1, 44), (1, 45), (1, 46), (1, 47), (1, 48), (1, 49), (1, 50), (1, 51), (1, 52), (1, 53), (1, 54), (1, 55), (1, 56), (1, 57), (1, 58), (1, 59), (1, 60), (1, 61), (1, 62), (1, 63), (1, 64), (1, 65), (1, 66), (1, 67), (1, 68), (1, 69), (1, 70), (1, 71), (1, 72), (1, 73), (1, 74), (1, 75), (1, 76), (1, 77), (1, 78), (1, 79), (1, 80), (1, 81), (1, 82), (1, 83), (1, 84), (1, 85), (1, 86), (1, 87), (1, 88), (1, 89), (1, 90), (1, 91), (1, 92), (1, 93), (1, 94), (1, 95), (1, 96), (1, 97), (1, 101), (1, 102), (1, 112), (1, 114), (1, 115), (1, 116), (1, 117), (1, 118), (1, 119), (1, 120), (1, 121)], [(2, 0, 0)], ct_w148, ct_r148)) (dd := 9) (o := 692) (ci := 12) (S1 := []) (is := [692, 693, 694, 695, 696, 697, 698, 699, 700, 701, 702, 703, 704, 705, 706, 707, 708, 709, 710, 711, 712, 713, 714, 715, 716, 717, 718, 719, 720, 721, 722, 723, 724, 725, 726, 727, 728, 729, 730, 731, 732, 733, 734, 735, 736, 737, 738, 739, 740, 741, 742, 743, 744, 745, 746, 747, 748, 749, 750, 751, 752, 753, 754, 755, 756, 757, 758, 759, 760, 761, 762, 763, 764, 765, 766, 767, 768, 769, 770, 771, 772, 773, 774, 775, 776, 777, 778, 779, 780, 781, 782, 783, 784, 785, 786, 787, 788, 789, 790, 791]) (ys := []) (rs := []) (r := some (0, 2147483649, 2147483649)) (mc := 0) (ms := 0) (n := 0) X ct_good (ct_SM149 l D dA) rfl rfl (by decide +kernel) rfl rfl rfl (ct_hg 159 _ rfl) (ct_hg 160 _ rfl) (C0.2.2.2.2.2.1 _ (ev_wd_in (h := 9174) rfl)) (ct_hg 161 _ rfl) (ct_hg 162 _ rfl) (by decide +kernel) (by decide) ⟨by decide, by decide⟩ hW2 trivial (hx2 _ _ hm) hl2.1 (Nat.le_of_ble_eq_true rfl) ⟨by decide, by decide⟩ (by decide +kernel) (fun rv3 ws3 H3 locs3 hx3 hr3 hW3 hk3 _ => ?_)
  obtain rfl := lw_ex hr3 (by decide +kernel)
  show W p l e room_1 s m #[Value.ref b] below meth c H3 locs3 _ _ _ (F0 m 604 ls2 [.int (ev_un 2147483649)])
  refine lv_iload (i := 5) X.1.1 X.1.2.1 (by decide +kernel) (lv_at hl2 1 rfl) ?_
  refine lv_icmp_eq (off := 5) (tgt := 611) X.1.1 X.1.2.1 (by decide +kernel) (by decide) (fun _ => ?_) (fun h => absurd (by decide +kernel) h)
  refine lv_iload (i := 5) X.1.1 X.1.2.1 (by decide +kernel) (lv_at hl2 1 rfl) ?_
  refine lv_if_ne (off := 15) (tgt := 628) X.1.1 X.1.2.1 (by decide +kernel) (by decide) (fun _ => ?_) (fun h => absurd h (by decide))
  refine lv_goto (off := 108) (tgt := 736) X.1.1 X.1.2.1 (by decide +kernel) (by decide) ?_
  exact lw_tail C0 (lv_sub hl2 [2, 3, 4, 5, 6] (l' := [(4, .int 0), (3, .ref ao), (2, .ref am), (1, .ref ax), (0, .ref b)]) rfl) (by simp) hW3.2.2.2 (by decide) (by decide)
set_option maxRecDepth 100000 in
theorem ct_af9b : ev_aft ct_S149 9 ct_lw [(2, 0, 0), (0, 2147483648, 2147483651)] 22 = ct_lw := ev_eqW_r (by decide +kernel)
theorem th_i9b {l : Launch} {D : va_G} {dA : Nat → ClassId} {ws : va_W} {sz ax ao : Nat} {i : Int32} (hi : ev_in (0, 2147483648, 2147483651) i) (ha : (ws.map Prod.fst)[0]? = some ax) (ho : (ws.map Prod.fst)[792]? = some ao) (hwr : ev_wr dA ct_lw ws) : Met l ⟨"TrustedMachineLaw", "result", "(LTrustedMachine;I[J)I"⟩ (Cond.codeWith ⟨"TrustedMachineLaw", "result", "(LTrustedMachine;I[J)I"⟩ method_3_code 4 (some .int) [(0, 9, 12, 13)] :: Cond.methodLink "TrustedMachineLaw" 7 ⟨"TrustedMachine", "result", "(I)I"⟩ :: ct_gs) (ev_rm 10 0 0) (ev_P D ct_cl dA ct_kt [Value.ref ax, Value.int i, Value.ref ao] ws sz) (th_Qi D ct_cl dA ws (va_A ws sz) ct_lw 792 0) 0 0 (va_A ws sz) := by
  refine va_MetW (hh := [(0, 9, 12, 13)]) (by decide) rfl ?_
  intro p e s m args below meth c s₁ B hml hv
  obtain ⟨rfl, hsz, hPs, hK, hD0, hTb⟩ := hv
  have hts := atoms_spec (ws := _ :: Cond.methodLink "TrustedMachineLaw" 7 ⟨"TrustedMachine", "result", "(I)I"⟩ :: ct_gs) B.pre
  have hown : s.vm.findClass "TrustedMachineLaw" = some m.cls := findClass_of_methodNamed B.named
  subst hsz
  have hD := hD0.self (sz := s.heap.size)
  have hl := lv_entry [Value.ref ax, Value.int i, Value.ref ao] (n := 4) (Nat.le_of_ble_eq_true rfl)
  rw [lg_entry_eq]
  generalize (lg_sl [Value.ref ax, Value.int i, Value.ref ao] ++ List.replicate (4 - (lg_sl [Value.ref ax, Value.int i, Value.ref ao]).length) Slot.unset).toArray = ls at hl ⊢
  have X : ev_X p s m [Value.ref ax, Value.int i, Value.ref ao].toArray c D ct_cl dA ct_kt (va_A ws s.heap.size) ct_gs "TrustedMachineLaw" method_3_code 4 := ⟨⟨B.exec, B.bytes, hml, hown, fun w hw => hts w (List.mem_cons_of_mem _ (List.mem_cons_of_mem _ hw))⟩, hK, fun q hq => Or.inr hq, hTb⟩
  have hW0 : ev_Wd D ct_cl dA (va_A ws s.heap.size) s ct_lw ws s.heap [] := ⟨hwr, hPs, hD, va_S.rf⟩
  refine lv_aload_n (k := 2) B.exec B.bytes (by decide +kernel) rfl (lv_at hl 2 rfl) ?_
  refine lv_iconst (n := 0) (v := nI 0) B.exec B.bytes (by decide +kernel) (by decide +kernel) ?_
  refine lv_aload_n (k := 0) B.exec B.bytes (by decide +kernel) rfl (lv_at hl 0 rfl) ?_
  refine lv_iload_n (k := 1) B.exec B.bytes (by decide +kernel) rfl (lv_at hl 1 rfl) ?_
  refine ev_w_cV (sm := ct_S149) (dd := 9) (o := 0) (ci := 0) (mi := 22) (S1 := [(0, 2147483648, 2147483651)]) (ys := [.int i]) (rs := [.int (nI 0), .ref ao]) (r := some (0, 2147483648, 2147483648)) (mc := 0) (ms := 0) (n := 1) X ct_good (ct_SM149 l D dA) rfl (by decide +kernel) rfl rfl rfl (ct_hg 80 _ rfl) (ct_hg 81 _ rfl) (hts _ (List.mem_cons_of_mem _ List.mem_cons_self)) (ct_hg 82 _ rfl) (ct_hg 83 _ rfl) (by decide +kernel) (by decide) ⟨by decide, by decide⟩ hW0 ⟨ev_vr.it rfl hi, trivial⟩ ha hl.1 (Nat.le_of_ble_eq_true rfl) ⟨by decide, by decide⟩ (by decide +kernel) (fun rv ws1 H1 locs1 hx1 hr1 hW1 => ?_)
  obtain rfl := lw_ex hr1 (by decide +kernel)
  have hW1 : ev_Wd D ct_cl dA (va_A ws s.heap.size) s (ev_aft ct_S149 9 ct_lw [(2, 0, 0), (0, 2147483648, 2147483651)] 22) ws1 H1 locs1 := hW1
  rw [ct_af9b] at hW1
  show W p l e (ev_rm 10 0 0) s m _ below meth c H1 locs1 0 0 _ (F0 m 7 ls [.int (ev_un 2147483648), .int (nI 0), .ref ao])
  refine lv_i2l (v := 0) B.exec B.bytes (by decide +kernel) (by decide +kernel) ?_
  obtain ⟨E, hE, hcr⟩ := hW1.1.at ct_lwo (hx1 _ _ ho)
  obtain ⟨f, rfl⟩ : ∃ f : Nat → Int64, E = .inl (dA 2, 1, .inr (.inl f)) := by
    rcases hcr with ⟨h, -⟩ | ⟨h, -⟩ | ⟨h, -⟩ | ⟨-, f, h⟩ | ⟨h, -⟩
    case inr.inr.inr.inl => exact ⟨f, h⟩
    all_goals exact absurd h (by decide)
  refine va_last B.exec B.bytes X.2.1.1 hW1.2.1 hW1.2.2.1 hW1.2.2.2 792 2 hE (ev_tys_at rfl) (vp_in_nI (n := 0) (by decide) (by decide)) (by decide +kernel) (fun H2 locs2 g6 g7 g8 => ?_)
  refine lv_goto (off := 6) (tgt := 15) B.exec B.bytes (by decide +kernel) (by decide) ?_
  refine lv_iconst (n := 0) (v := 0) B.exec B.bytes (by decide +kernel) (by decide +kernel) ?_
  refine W.iret B.exec B.bytes B.returns (fun t ht _ => ⟨⟨_, rfl, ?_, ?_, by rw [ht]; exact g6, g7, ao, _, List.getElem?_set_self (List.getElem?_eq_some_iff.mp hE).1, ?_⟩, g8.F ht⟩) (fun q hq => g8.2.2 q hq) (by decide +kernel) B.notSynchronized
  · rw [ev_map_set hE]
    exact hx1
  · rw [← ct_lws]
    exact hW1.1.set hE (Or.inr (Or.inr (Or.inr (Or.inl ⟨rfl, _, rfl⟩))))
  · rw [nI_clamp (by decide)]
    simp [vp_updL]
theorem lw_c9b {p : Program} {l : Launch} {e : Env} {s : State} {m : MethodId} {below : List Frame} {meth : Method} {c : Code} {b : Nat} {xs : Nat → Int32} (C0 : lw_At p s m meth c b 6 xs) {D : va_G} {dA : Nat → ClassId} (X : ev_X p s m #[Value.ref b] c D ct_cl dA ct_kt (lw_A s) ct_gs R_law code 7) {ws : va_W} {H : Heap} {locs : List Loc} {ls : Array Slot} {ax am ao : Nat} (hl : lv_has ls 7 [(4, .int 0), (3, .ref ao), (2, .ref am), (1, .ref ax), (0, .ref b)]) (ha : (ws.map Prod.fst)[0]? = some ax) (hm : (ws.map Prod.fst)[692]? = some am) (hao : (ws.map Prod.fst)[792]? = some ao) (hW : ev_Wd D ct_cl dA (lw_A s) s ct_lw ws H locs) (h1 : ev_in (0, 2147483648, 2147483651) (xs 1)) : W p l e room_1 s m #[Value.ref b] below meth c H locs 793 215028 (lw_Z below #[Value.ref b] s) (F0 m 419 ls []) := by
  have hX := C0.2.2.2.2.2.2.1
  have hbl := C0.2.2.2.2.2.2.2.1
  refine lv_aload_n (k := 1) X.1.1 X.1.2.1 (by decide +kernel) rfl (lv_at hl 3 rfl) ?_
  refine ev_w_scr (j := 1) X.1.1 X.1.2.1 hX hbl (lw_nA hbl) hW.2.2.2 hl (k0 := 4) (k4 := 0) rfl rfl (by decide) (by decide) (by decide +kernel) (by decide +kernel) (by decide +kernel) (by decide +kernel) (by decide +kernel) ?_
  refine lv_aload_n (k := 3) X.1.1 X.1.2.1 (by decide +kernel) rfl (lv_at hl 1 rfl) ?_
  have hfr := ev_free hW.2.2.1 hW.2.2.2 X.2.2.1
  refine th_ret0 (po := 792) (x := 0) (w1 := ct_lw) (th_runS (As := [Value.ref ax, Value.int (xs 1), Value.ref ao]) (rest := []) (hh := [(0, 9, 12, 13)]) (bytes := method_3_code) (maxL := 4) (ret := some .int) X.1 (th_i9b (l := l) (D := D) (sz := H.size) h1 ha hao hW.1) ev_P_blind rfl rfl (by decide) (by decide) (fun w hw a' U hU => ?_) List.mem_cons_self (C0.2.2.2.2.2.1 _ (ev_wd_in (h := 0) rfl)) (C0.2.2.2.2.2.1 _ (ev_wd_in (h := 7087) rfl)) (C0.2.2.2.2.2.1 _ (ev_wd_in (h := 7088) rfl)) ⟨by decide, by decide⟩ (show (parseMethodDescriptor "(LTrustedMachine;I[J)I").map (fun d => d.parameters.length) = some 3 from by decide +kernel) (fun U hU hWu => ⟨rfl, by rw [hU], by rw [hU]; exact hW.2.1, ev_K.moved hWu.alike X.2.1, hW.2.2.1.weaken (fun _ _ _ _ => trivial), by rw [hU]; exact ev_tbc X hW.2.2.2 hWu.alike hfr⟩) rfl hl.1 rfl (Nat.le_of_ble_eq_true rfl) (show decode code 427 = .ok (.invokestatic 70, 3) from by decide +kernel) ⟨by decide, by decide⟩) X.2.2.1 hW (fun u H1 locs1 hx1 hW1 hout => ?_)
  · rcases List.mem_cons.mp hw with rfl | hw
    · exact word_at hU (Or.inl rfl) (C0.2.2.2.2.2.1 _ (ev_wd_in (h := 7089) rfl))
    · rcases List.mem_cons.mp hw with rfl | hw
      · exact word_at hU (Or.inl rfl) (C0.2.2.2.2.2.1 _ (ev_wd_in (h := 7091) rfl))
      · exact word_at hU (ct_good w hw) (C0.2.2.2.2.2.1 _ (ct_tbl w hw))
  obtain ⟨a9, f9, hout, hf0⟩ := hout
  refine lv_istore (i := 5) (lv' := [(5, .int 0), (4, .int 0), (3, .ref ao), (2, .ref am), (1, .ref ax), (0, .ref b)]) X.1.1 X.1.2.1 (by decide +kernel) hl (by decide) rfl (fun ls1 hl1 => ?_)
  refine lv_aload_n (k := 2) X.1.1 X.1.2.1 (by decide +kernel) rfl (lv_at hl1 3 rfl) ?_
  refine ev_w_scr (j := 1) X.1.1 X.1.2.1 hX hbl (lw_nA hbl) hW1.2.2.2 hl1 (k0 := 5) (k4 := 1) rfl rfl (by decide) (by decide) (by decide +kernel) (by decide +kernel) (by decide +kernel) (by decide +kernel) (by decide +kernel) ?_
  refine ev_w_cX (sm := ct_S149) (kc := 35) (qc := (82, 3, [(0, 0), (1, 1), (1, 6), (1, 7), (1, 8), (1, 9), (1, 10), (1, 12), (1, 13), (1, 14), (1, 15), (1, 16), (1, 19), (1, 20), (1, 21), (1, 22), (1, 23), (1, 24), (1, 25), (1, 26), (1, 27), (1, 28), (1, 31), (1, 32), (1, 33), (1, 34), (1, 35), (1, 36), (1, 37), (1, 38), (1, 39), (1, 40), (1, 41), (1, 42), (1, 43), (1, 44), (1, 45), (1, 46), (1, 47), (1, 48), (1, 49), (1, 50), (1, 51), (1, 52), (1, 53), (1, 54), (1, 55), (1, 56), (1, 57), (1, 58), (1, 59), (1, 60), (1, 61), (1, 62), (1, 63), (1, 64), (1, 65), (1, 66), (1, 67), (1, 68), (1, 69), (1, 70), (1, 71), (1, 72), (1, 73), (1, 74), (1, 75), (1, 76), (1, 77), (1, 78), (1, 79), (1, 80), (1, 81), (1, 82), (1, 83), (1, 84), (1, 85), (1, 86), (1, 87), (1, 88), (1, 89), (1, 90), (1, 91), (1, 92), (1, 93), (1, 94), (1, 95), (1, 96), (1, 97), (1, 101), (1, 102), (1, 112), (1, 114), (1, 115), (1, 116), (1, 117), (1, 118), (1, 119), (1, 120), (1, 121)], [(2, 0, 0), (0, 2147483648, 2147483651)], ct_w113, ct_r113)) (dd := 9) (o := 692) (ci := 12) (S1 := [(0, 2147483648, 2147483651)]) (is := [692, 693, 694, 695, 696, 697, 698, 699, 700, 701, 702, 703, 704, 705, 706, 707, 708, 709, 710, 711, 712, 713, 714, 715, 716, 717, 718, 719, 720, 721, 722, 723, 724, 725, 726, 727, 728, 729, 730, 731, 732, 733, 734, 735, 736, 737, 738, 739, 740, 741, 742, 743, 744, 745, 746, 747, 748, 749, 750, 751, 752, 753, 754, 755, 756, 757, 758, 759, 760, 761, 762, 763, 764, 765, 766, 767, 768, 769, 770, 771, 772, 773, 774, 775, 776, 777, 778, 779, 780, 781, 782, 783, 784, 785, 786, 787, 788, 789, 790, 791]) (ys := [.int (xs 1)]) (rs := []) (r := some (0, 2147483648, 2147483648)) (mc := 0) (ms := 0) (n := 1) X ct_good (ct_SM149 l D dA) rfl rfl (by decide +kernel) rfl rfl rfl (ct_hg 315 _ rfl) (ct_hg 316 _ rfl) (C0.2.2.2.2.2.1 _ (ev_wd_in (h := 10087) rfl)) (ct_hg 317 _ rfl) (ct_hg 318 _ rfl) (by decide +kernel) (by decide) ⟨by decide, by decide⟩ hW1 ⟨ev_vr.it rfl h1, trivial⟩ (hx1 _ _ hm) hl1.1 (Nat.le_of_ble_eq_true rfl) ⟨by decide, by decide⟩ (by decide +kernel) (fun rv2 ws2 H2 locs2 hx2 hr2 hW2 hk2 _ => ?_)
  obtain rfl := lw_ex hr2 (by decide +kernel)
  show W p l e room_1 s m #[Value.ref b] below meth c H2 locs2 _ _ _ (F0 m 442 ls1 [.int (ev_un 2147483648)])
  refine lv_istore (i := 6) (lv' := [(6, .int (ev_un 2147483648)), (5, .int 0), (4, .int 0), (3, .ref ao), (2, .ref am), (1, .ref ax), (0, .ref b)]) X.1.1 X.1.2.1 (by decide +kernel) hl1 (by decide) rfl (fun ls2 hl2 => ?_)
  refine lv_aload_n (k := 2) X.1.1 X.1.2.1 (by decide +kernel) rfl (lv_at hl2 4 rfl) ?_
  refine ev_w_cX (sm := ct_S149) (kc := 26) (qc := (42, 3, [(0, 0), (1, 1), (1, 6), (1, 7), (1, 8), (1, 9), (1, 10), (1, 12), (1, 13), (1, 14), (1, 15), (1, 16), (1, 19), (1, 20), (1, 21), (1, 22), (1, 23), (1, 24), (1, 25), (1, 26), (1, 27), (1, 28), (1, 31), (1, 32), (1, 33), (1, 34), (1, 35), (1, 36), (1, 37), (1, 38), (1, 39), (1, 40), (1, 41), (1, 42), (1, 43), (1, 44), (1, 45), (1, 46), (1, 47), (1, 48), (1, 49), (1, 50), (1, 51), (1, 52), (1, 53), (1, 54), (1, 55), (1, 56), (1, 57), (1, 58), (1, 59), (1, 60), (1, 61), (1, 62), (1, 63), (1, 64), (1, 65), (1, 66), (1, 67), (1, 68), (1, 69), (1, 70), (1, 71), (1, 72), (1, 73), (1, 74), (1, 75), (1, 76), (1, 77), (1, 78), (1, 79), (1, 80), (1, 81), (1, 82), (1, 83), (1, 84), (1, 85), (1, 86), (1, 87), (1, 88), (1, 89), (1, 90), (1, 91), (1, 92), (1, 93), (1, 94), (1, 95), (1, 96), (1, 97), (1, 101), (1, 102), (1, 112), (1, 114), (1, 115), (1, 116), (1, 117), (1, 118), (1, 119), (1, 120), (1, 121)], [(2, 0, 0)], ct_w122, ct_r122)) (dd := 9) (o := 692) (ci := 12) (S1 := []) (is := [692, 693, 694, 695, 696, 697, 698, 699, 700, 701, 702, 703, 704, 705, 706, 707, 708, 709, 710, 711, 712, 713, 714, 715, 716, 717, 718, 719, 720, 721, 722, 723, 724, 725, 726, 727, 728, 729, 730, 731, 732, 733, 734, 735, 736, 737, 738, 739, 740, 741, 742, 743, 744, 745, 746, 747, 748, 749, 750, 751, 752, 753, 754, 755, 756, 757, 758, 759, 760, 761, 762, 763, 764, 765, 766, 767, 768, 769, 770, 771, 772, 773, 774, 775, 776, 777, 778, 779, 780, 781, 782, 783, 784, 785, 786, 787, 788, 789, 790, 791]) (ys := []) (rs := []) (r := some (0, 2147483648, 2147483648)) (mc := 0) (ms := 0) (n := 0) X ct_good (ct_SM149 l D dA) rfl rfl (by decide +kernel) rfl rfl rfl (ct_hg 159 _ rfl) (ct_hg 160 _ rfl) (C0.2.2.2.2.2.1 _ (ev_wd_in (h := 9174) rfl)) (ct_hg 161 _ rfl) (ct_hg 162 _ rfl) (by decide +kernel) (by decide) ⟨by decide, by decide⟩ hW2 trivial (hx2 _ _ (hx1 _ _ hm)) hl2.1 (Nat.le_of_ble_eq_true rfl) ⟨by decide, by decide⟩ (by decide +kernel) (fun rv3 ws3 H3 locs3 hx3 hr3 hW3 hk3 _ => ?_)
  obtain rfl := lw_ex hr3 (by decide +kernel)
  show W p l e room_1 s m #[Value.ref b] below meth c H3 locs3 _ _ _ (F0 m 448 ls2 [.int (ev_un 2147483648)])
  have hL1 : 792 < u.length := (List.getElem?_eq_some_iff.mp hout).1
  have hout2 : ws2[792]? = u[792]? := hk2 792 hL1 (fun j h => absurd (List.mem_of_getElem? h) (by decide))
  rw [hout] at hout2
  have hout3 : ws3[792]? = ws2[792]? := hk3 792 (List.getElem?_eq_some_iff.mp hout2).1 (fun j h => absurd (List.mem_of_getElem? h) (by decide))
  rw [hout2] at hout3
  have ea : a9 = ao := by
    have h8 := hx3 _ _ (hx2 _ _ (hx1 _ _ hao))
    rw [List.getElem?_map, hout3] at h8
    exact Option.some.inj h8
  rw [ea] at hout3
  refine lv_iload (i := 5) X.1.1 X.1.2.1 (by decide +kernel) (lv_at hl2 1 rfl) ?_
  refine lv_icmp_eq (off := 5) (tgt := 455) X.1.1 X.1.2.1 (by decide +kernel) (by decide) (fun _ => ?_) (fun h => absurd (by decide +kernel) h)
  refine lv_iload (i := 5) X.1.1 X.1.2.1 (by decide +kernel) (lv_at hl2 1 rfl) ?_
  refine lv_if_ne (off := 15) (tgt := 472) X.1.1 X.1.2.1 (by decide +kernel) (by decide) (fun h => absurd rfl h) (fun _ => ?_)
  refine lv_aload_n (k := 3) X.1.1 X.1.2.1 (by decide +kernel) rfl (lv_at hl2 3 rfl) ?_
  refine lv_iconst (n := 0) (v := nI 0) X.1.1 X.1.2.1 (by decide +kernel) (by decide +kernel) ?_
  refine va_lald X.1.1 X.1.2.1 X.2.1.1 hW3.2.1 792 2 hout3 (ev_tys_at rfl) (vp_in_nI (n := 0) (by decide) (by decide)) (by decide +kernel) ?_
  rw [nI_clamp (by decide), hf0]
  refine lv_iload (i := 6) X.1.1 X.1.2.1 (by decide +kernel) (lv_at hl2 0 rfl) ?_
  refine lv_i2l (v := 0) X.1.1 X.1.2.1 (by decide +kernel) (by decide +kernel) ?_
  refine W.lcmp X.1.1 X.1.2.1 (by decide +kernel) ?_
  refine lv_if_eq (off := 5) (tgt := 472) X.1.1 X.1.2.1 (by decide +kernel) (by decide) (fun _ => ?_) (fun h => absurd (by decide +kernel) h)
  refine lv_goto (off := 264) (tgt := 736) X.1.1 X.1.2.1 (by decide +kernel) (by decide) ?_
  exact lw_tail C0 (lv_sub hl2 [2, 3, 4, 5, 6] (l' := [(4, .int 0), (3, .ref ao), (2, .ref am), (1, .ref ax), (0, .ref b)]) rfl) (by simp) hW3.2.2.2 (by decide) (by decide)
set_option maxRecDepth 100000 in
theorem ct_af14b : ev_aft ct_S149 9 ct_lw [(2, 0, 0), (0, 2147483648, 2147483663)] 27 = ct_lw := ev_eqW_r (by decide +kernel)
theorem th_i14b {l : Launch} {D : va_G} {dA : Nat → ClassId} {ws : va_W} {sz ax ao : Nat} {i : Int32} (hi : ev_in (0, 2147483648, 2147483663) i) (ha : (ws.map Prod.fst)[0]? = some ax) (ho : (ws.map Prod.fst)[792]? = some ao) (hwr : ev_wr dA ct_lw ws) : Met l ⟨"TrustedMachineLaw", "register", "(LTrustedMachine;I[J)I"⟩ (Cond.codeWith ⟨"TrustedMachineLaw", "register", "(LTrustedMachine;I[J)I"⟩ method_4_code 4 (some .int) [(0, 9, 12, 13)] :: Cond.methodLink "TrustedMachineLaw" 15 ⟨"TrustedMachine", "register", "(I)I"⟩ :: ct_gs) (ev_rm 10 0 0) (ev_P D ct_cl dA ct_kt [Value.ref ax, Value.int i, Value.ref ao] ws sz) (th_Qi D ct_cl dA ws (va_A ws sz) ct_lw 792 0) 0 0 (va_A ws sz) := by
  refine va_MetW (hh := [(0, 9, 12, 13)]) (by decide) rfl ?_
  intro p e s m args below meth c s₁ B hml hv
  obtain ⟨rfl, hsz, hPs, hK, hD0, hTb⟩ := hv
  have hts := atoms_spec (ws := _ :: Cond.methodLink "TrustedMachineLaw" 15 ⟨"TrustedMachine", "register", "(I)I"⟩ :: ct_gs) B.pre
  have hown : s.vm.findClass "TrustedMachineLaw" = some m.cls := findClass_of_methodNamed B.named
  subst hsz
  have hD := hD0.self (sz := s.heap.size)
  have hl := lv_entry [Value.ref ax, Value.int i, Value.ref ao] (n := 4) (Nat.le_of_ble_eq_true rfl)
  rw [lg_entry_eq]
  generalize (lg_sl [Value.ref ax, Value.int i, Value.ref ao] ++ List.replicate (4 - (lg_sl [Value.ref ax, Value.int i, Value.ref ao]).length) Slot.unset).toArray = ls at hl ⊢
  have X : ev_X p s m [Value.ref ax, Value.int i, Value.ref ao].toArray c D ct_cl dA ct_kt (va_A ws s.heap.size) ct_gs "TrustedMachineLaw" method_4_code 4 := ⟨⟨B.exec, B.bytes, hml, hown, fun w hw => hts w (List.mem_cons_of_mem _ (List.mem_cons_of_mem _ hw))⟩, hK, fun q hq => Or.inr hq, hTb⟩
  have hW0 : ev_Wd D ct_cl dA (va_A ws s.heap.size) s ct_lw ws s.heap [] := ⟨hwr, hPs, hD, va_S.rf⟩
  refine lv_aload_n (k := 2) B.exec B.bytes (by decide +kernel) rfl (lv_at hl 2 rfl) ?_
  refine lv_iconst (n := 0) (v := nI 0) B.exec B.bytes (by decide +kernel) (by decide +kernel) ?_
  refine lv_aload_n (k := 0) B.exec B.bytes (by decide +kernel) rfl (lv_at hl 0 rfl) ?_
  refine lv_iload_n (k := 1) B.exec B.bytes (by decide +kernel) rfl (lv_at hl 1 rfl) ?_
  refine ev_w_cV (sm := ct_S149) (dd := 9) (o := 0) (ci := 0) (mi := 27) (S1 := [(0, 2147483648, 2147483663)]) (ys := [.int i]) (rs := [.int (nI 0), .ref ao]) (r := some (0, 2147483648, 2147483648)) (mc := 0) (ms := 0) (n := 1) X ct_good (ct_SM149 l D dA) rfl (by decide +kernel) rfl rfl rfl (ct_hg 100 _ rfl) (ct_hg 101 _ rfl) (hts _ (List.mem_cons_of_mem _ List.mem_cons_self)) (ct_hg 102 _ rfl) (ct_hg 103 _ rfl) (by decide +kernel) (by decide) ⟨by decide, by decide⟩ hW0 ⟨ev_vr.it rfl hi, trivial⟩ ha hl.1 (Nat.le_of_ble_eq_true rfl) ⟨by decide, by decide⟩ (by decide +kernel) (fun rv ws1 H1 locs1 hx1 hr1 hW1 => ?_)
  obtain rfl := lw_ex hr1 (by decide +kernel)
  have hW1 : ev_Wd D ct_cl dA (va_A ws s.heap.size) s (ev_aft ct_S149 9 ct_lw [(2, 0, 0), (0, 2147483648, 2147483663)] 27) ws1 H1 locs1 := hW1
  rw [ct_af14b] at hW1
  show W p l e (ev_rm 10 0 0) s m _ below meth c H1 locs1 0 0 _ (F0 m 7 ls [.int (ev_un 2147483648), .int (nI 0), .ref ao])
  refine lv_i2l (v := 0) B.exec B.bytes (by decide +kernel) (by decide +kernel) ?_
  obtain ⟨E, hE, hcr⟩ := hW1.1.at ct_lwo (hx1 _ _ ho)
  obtain ⟨f, rfl⟩ : ∃ f : Nat → Int64, E = .inl (dA 2, 1, .inr (.inl f)) := by
    rcases hcr with ⟨h, -⟩ | ⟨h, -⟩ | ⟨h, -⟩ | ⟨-, f, h⟩ | ⟨h, -⟩
    case inr.inr.inr.inl => exact ⟨f, h⟩
    all_goals exact absurd h (by decide)
  refine va_last B.exec B.bytes X.2.1.1 hW1.2.1 hW1.2.2.1 hW1.2.2.2 792 2 hE (ev_tys_at rfl) (vp_in_nI (n := 0) (by decide) (by decide)) (by decide +kernel) (fun H2 locs2 g6 g7 g8 => ?_)
  refine lv_goto (off := 6) (tgt := 15) B.exec B.bytes (by decide +kernel) (by decide) ?_
  refine lv_iconst (n := 0) (v := 0) B.exec B.bytes (by decide +kernel) (by decide +kernel) ?_
  refine W.iret B.exec B.bytes B.returns (fun t ht _ => ⟨⟨_, rfl, ?_, ?_, by rw [ht]; exact g6, g7, ao, _, List.getElem?_set_self (List.getElem?_eq_some_iff.mp hE).1, ?_⟩, g8.F ht⟩) (fun q hq => g8.2.2 q hq) (by decide +kernel) B.notSynchronized
  · rw [ev_map_set hE]
    exact hx1
  · rw [← ct_lws]
    exact hW1.1.set hE (Or.inr (Or.inr (Or.inr (Or.inl ⟨rfl, _, rfl⟩))))
  · rw [nI_clamp (by decide)]
    simp [vp_updL]
theorem lw_c14b {p : Program} {l : Launch} {e : Env} {s : State} {m : MethodId} {below : List Frame} {meth : Method} {c : Code} {b : Nat} {xs : Nat → Int32} (C0 : lw_At p s m meth c b 6 xs) {D : va_G} {dA : Nat → ClassId} (X : ev_X p s m #[Value.ref b] c D ct_cl dA ct_kt (lw_A s) ct_gs R_law code 7) {ws : va_W} {H : Heap} {locs : List Loc} {ls : Array Slot} {ax am ao : Nat} (hl : lv_has ls 7 [(4, .int 0), (3, .ref ao), (2, .ref am), (1, .ref ax), (0, .ref b)]) (ha : (ws.map Prod.fst)[0]? = some ax) (hm : (ws.map Prod.fst)[692]? = some am) (hao : (ws.map Prod.fst)[792]? = some ao) (hW : ev_Wd D ct_cl dA (lw_A s) s ct_lw ws H locs) (h1 : ev_in (0, 2147483648, 2147483663) (xs 1)) : W p l e room_1 s m #[Value.ref b] below meth c H locs 793 215028 (lw_Z below #[Value.ref b] s) (F0 m 575 ls []) := by
  have hX := C0.2.2.2.2.2.2.1
  have hbl := C0.2.2.2.2.2.2.2.1
  refine lv_aload_n (k := 1) X.1.1 X.1.2.1 (by decide +kernel) rfl (lv_at hl 3 rfl) ?_
  refine ev_w_scr (j := 1) X.1.1 X.1.2.1 hX hbl (lw_nA hbl) hW.2.2.2 hl (k0 := 4) (k4 := 0) rfl rfl (by decide) (by decide) (by decide +kernel) (by decide +kernel) (by decide +kernel) (by decide +kernel) (by decide +kernel) ?_
  refine lv_aload_n (k := 3) X.1.1 X.1.2.1 (by decide +kernel) rfl (lv_at hl 1 rfl) ?_
  have hfr := ev_free hW.2.2.1 hW.2.2.2 X.2.2.1
  refine th_ret0 (po := 792) (x := 0) (w1 := ct_lw) (th_runS (As := [Value.ref ax, Value.int (xs 1), Value.ref ao]) (rest := []) (hh := [(0, 9, 12, 13)]) (bytes := method_4_code) (maxL := 4) (ret := some .int) X.1 (th_i14b (l := l) (D := D) (sz := H.size) h1 ha hao hW.1) ev_P_blind rfl rfl (by decide) (by decide) (fun w hw a' U hU => ?_) List.mem_cons_self (C0.2.2.2.2.2.1 _ (ev_wd_in (h := 0) rfl)) (C0.2.2.2.2.2.1 _ (ev_wd_in (h := 7123) rfl)) (C0.2.2.2.2.2.1 _ (ev_wd_in (h := 7124) rfl)) ⟨by decide, by decide⟩ (show (parseMethodDescriptor "(LTrustedMachine;I[J)I").map (fun d => d.parameters.length) = some 3 from by decide +kernel) (fun U hU hWu => ⟨rfl, by rw [hU], by rw [hU]; exact hW.2.1, ev_K.moved hWu.alike X.2.1, hW.2.2.1.weaken (fun _ _ _ _ => trivial), by rw [hU]; exact ev_tbc X hW.2.2.2 hWu.alike hfr⟩) rfl hl.1 rfl (Nat.le_of_ble_eq_true rfl) (show decode code 583 = .ok (.invokestatic 96, 3) from by decide +kernel) ⟨by decide, by decide⟩) X.2.2.1 hW (fun u H1 locs1 hx1 hW1 hout => ?_)
  · rcases List.mem_cons.mp hw with rfl | hw
    · exact word_at hU (Or.inl rfl) (C0.2.2.2.2.2.1 _ (ev_wd_in (h := 7125) rfl))
    · rcases List.mem_cons.mp hw with rfl | hw
      · exact word_at hU (Or.inl rfl) (C0.2.2.2.2.2.1 _ (ev_wd_in (h := 7126) rfl))
      · exact word_at hU (ct_good w hw) (C0.2.2.2.2.2.1 _ (ct_tbl w hw))
  obtain ⟨a9, f9, hout, hf0⟩ := hout
  refine lv_istore (i := 5) (lv' := [(5, .int 0), (4, .int 0), (3, .ref ao), (2, .ref am), (1, .ref ax), (0, .ref b)]) X.1.1 X.1.2.1 (by decide +kernel) hl (by decide) rfl (fun ls1 hl1 => ?_)
  refine lv_aload_n (k := 2) X.1.1 X.1.2.1 (by decide +kernel) rfl (lv_at hl1 3 rfl) ?_
  refine ev_w_scr (j := 1) X.1.1 X.1.2.1 hX hbl (lw_nA hbl) hW1.2.2.2 hl1 (k0 := 5) (k4 := 1) rfl rfl (by decide) (by decide) (by decide +kernel) (by decide +kernel) (by decide +kernel) (by decide +kernel) (by decide +kernel) ?_
  refine ev_w_cX (sm := ct_S149) (kc := 29) (qc := (86, 3, [(0, 0), (1, 1), (1, 6), (1, 7), (1, 8), (1, 9), (1, 10), (1, 12), (1, 13), (1, 14), (1, 15), (1, 16), (1, 19), (1, 20), (1, 21), (1, 22), (1, 23), (1, 24), (1, 25), (1, 26), (1, 27), (1, 28), (1, 31), (1, 32), (1, 33), (1, 34), (1, 35), (1, 36), (1, 37), (1, 38), (1, 39), (1, 40), (1, 41), (1, 42), (1, 43), (1, 44), (1, 45), (1, 46), (1, 47), (1, 48), (1, 49), (1, 50), (1, 51), (1, 52), (1, 53), (1, 54), (1, 55), (1, 56), (1, 57), (1, 58), (1, 59), (1, 60), (1, 61), (1, 62), (1, 63), (1, 64), (1, 65), (1, 66), (1, 67), (1, 68), (1, 69), (1, 70), (1, 71), (1, 72), (1, 73), (1, 74), (1, 75), (1, 76), (1, 77), (1, 78), (1, 79), (1, 80), (1, 81), (1, 82), (1, 83), (1, 84), (1, 85), (1, 86), (1, 87), (1, 88), (1, 89), (1, 90), (1, 91), (1, 92), (1, 93), (1, 94), (1, 95), (1, 96), (1, 97), (1, 101), (1, 102), (1, 112), (1, 114), (1, 115), (1, 116), (1, 117), (1, 118), (1, 119), (1, 120), (1, 121)], [(2, 0, 0), (0, 2147483648, 2147483665)], ct_w119, ct_r119)) (dd := 9) (o := 692) (ci := 12) (S1 := [(0, 2147483648, 2147483663)]) (is := [692, 693, 694, 695, 696, 697, 698, 699, 700, 701, 702, 703, 704, 705, 706, 707, 708, 709, 710, 711, 712, 713, 714, 715, 716, 717, 718, 719, 720, 721, 722, 723, 724, 725, 726, 727, 728, 729, 730, 731, 732, 733, 734, 735, 736, 737, 738, 739, 740, 741, 742, 743, 744, 745, 746, 747, 748, 749, 750, 751, 752, 753, 754, 755, 756, 757, 758, 759, 760, 761, 762, 763, 764, 765, 766, 767, 768, 769, 770, 771, 772, 773, 774, 775, 776, 777, 778, 779, 780, 781, 782, 783, 784, 785, 786, 787, 788, 789, 790, 791]) (ys := [.int (xs 1)]) (rs := []) (r := some (0, 2147483648, 2147483648)) (mc := 0) (ms := 0) (n := 1) X ct_good (ct_SM149 l D dA) rfl rfl (by decide +kernel) rfl rfl rfl (ct_hg 331 _ rfl) (ct_hg 332 _ rfl) (C0.2.2.2.2.2.1 _ (ev_wd_in (h := 12057) rfl)) (ct_hg 333 _ rfl) (ct_hg 334 _ rfl) (by decide +kernel) (by decide) ⟨by decide, by decide⟩ hW1 ⟨ev_vr.it rfl h1, trivial⟩ (hx1 _ _ hm) hl1.1 (Nat.le_of_ble_eq_true rfl) ⟨by decide, by decide⟩ (by decide +kernel) (fun rv2 ws2 H2 locs2 hx2 hr2 hW2 hk2 _ => ?_)
  obtain rfl := lw_ex hr2 (by decide +kernel)
  show W p l e room_1 s m #[Value.ref b] below meth c H2 locs2 _ _ _ (F0 m 598 ls1 [.int (ev_un 2147483648)])
  refine lv_istore (i := 6) (lv' := [(6, .int (ev_un 2147483648)), (5, .int 0), (4, .int 0), (3, .ref ao), (2, .ref am), (1, .ref ax), (0, .ref b)]) X.1.1 X.1.2.1 (by decide +kernel) hl1 (by decide) rfl (fun ls2 hl2 => ?_)
  refine lv_aload_n (k := 2) X.1.1 X.1.2.1 (by decide +kernel) rfl (lv_at hl2 4 rfl) ?_
  refine ev_w_cX (sm := ct_S149) (kc := 26) (qc := (42, 3, [(0, 0), (1, 1), (1, 6), (1, 7), (1, 8), (1, 9), (1, 10), (1, 12), (1, 13), (1, 14), (1, 15), (1, 16), (1, 19), (1, 20), (1, 21), (1, 22), (1, 23), (1, 24), (1, 25), (1, 26), (1, 27), (1, 28), (1, 31), (1, 32), (1, 33), (1, 34), (1, 35), (1, 36), (1, 37), (1, 38), (1, 39), (1, 40), (1, 41), (1, 42), (1, 43), (1, 44), (1, 45), (1, 46), (1, 47), (1, 48), (1, 49), (1, 50), (1, 51), (1, 52), (1, 53), (1, 54), (1, 55), (1, 56), (1, 57), (1, 58), (1, 59), (1, 60), (1, 61), (1, 62), (1, 63), (1, 64), (1, 65), (1, 66), (1, 67), (1, 68), (1, 69), (1, 70), (1, 71), (1, 72), (1, 73), (1, 74), (1, 75), (1, 76), (1, 77), (1, 78), (1, 79), (1, 80), (1, 81), (1, 82), (1, 83), (1, 84), (1, 85), (1, 86), (1, 87), (1, 88), (1, 89), (1, 90), (1, 91), (1, 92), (1, 93), (1, 94), (1, 95), (1, 96), (1, 97), (1, 101), (1, 102), (1, 112), (1, 114), (1, 115), (1, 116), (1, 117), (1, 118), (1, 119), (1, 120), (1, 121)], [(2, 0, 0)], ct_w122, ct_r122)) (dd := 9) (o := 692) (ci := 12) (S1 := []) (is := [692, 693, 694, 695, 696, 697, 698, 699, 700, 701, 702, 703, 704, 705, 706, 707, 708, 709, 710, 711, 712, 713, 714, 715, 716, 717, 718, 719, 720, 721, 722, 723, 724, 725, 726, 727, 728, 729, 730, 731, 732, 733, 734, 735, 736, 737, 738, 739, 740, 741, 742, 743, 744, 745, 746, 747, 748, 749, 750, 751, 752, 753, 754, 755, 756, 757, 758, 759, 760, 761, 762, 763, 764, 765, 766, 767, 768, 769, 770, 771, 772, 773, 774, 775, 776, 777, 778, 779, 780, 781, 782, 783, 784, 785, 786, 787, 788, 789, 790, 791]) (ys := []) (rs := []) (r := some (0, 2147483648, 2147483648)) (mc := 0) (ms := 0) (n := 0) X ct_good (ct_SM149 l D dA) rfl rfl (by decide +kernel) rfl rfl rfl (ct_hg 159 _ rfl) (ct_hg 160 _ rfl) (C0.2.2.2.2.2.1 _ (ev_wd_in (h := 9174) rfl)) (ct_hg 161 _ rfl) (ct_hg 162 _ rfl) (by decide +kernel) (by decide) ⟨by decide, by decide⟩ hW2 trivial (hx2 _ _ (hx1 _ _ hm)) hl2.1 (Nat.le_of_ble_eq_true rfl) ⟨by decide, by decide⟩ (by decide +kernel) (fun rv3 ws3 H3 locs3 hx3 hr3 hW3 hk3 _ => ?_)
  obtain rfl := lw_ex hr3 (by decide +kernel)
  show W p l e room_1 s m #[Value.ref b] below meth c H3 locs3 _ _ _ (F0 m 604 ls2 [.int (ev_un 2147483648)])
  have hL1 : 792 < u.length := (List.getElem?_eq_some_iff.mp hout).1
  have hout2 : ws2[792]? = u[792]? := hk2 792 hL1 (fun j h => absurd (List.mem_of_getElem? h) (by decide))
  rw [hout] at hout2
  have hout3 : ws3[792]? = ws2[792]? := hk3 792 (List.getElem?_eq_some_iff.mp hout2).1 (fun j h => absurd (List.mem_of_getElem? h) (by decide))
  rw [hout2] at hout3
  have ea : a9 = ao := by
    have h8 := hx3 _ _ (hx2 _ _ (hx1 _ _ hao))
    rw [List.getElem?_map, hout3] at h8
    exact Option.some.inj h8
  rw [ea] at hout3
  refine lv_iload (i := 5) X.1.1 X.1.2.1 (by decide +kernel) (lv_at hl2 1 rfl) ?_
  refine lv_icmp_eq (off := 5) (tgt := 611) X.1.1 X.1.2.1 (by decide +kernel) (by decide) (fun _ => ?_) (fun h => absurd (by decide +kernel) h)
  refine lv_iload (i := 5) X.1.1 X.1.2.1 (by decide +kernel) (lv_at hl2 1 rfl) ?_
  refine lv_if_ne (off := 15) (tgt := 628) X.1.1 X.1.2.1 (by decide +kernel) (by decide) (fun h => absurd rfl h) (fun _ => ?_)
  refine lv_aload_n (k := 3) X.1.1 X.1.2.1 (by decide +kernel) rfl (lv_at hl2 3 rfl) ?_
  refine lv_iconst (n := 0) (v := nI 0) X.1.1 X.1.2.1 (by decide +kernel) (by decide +kernel) ?_
  refine va_lald X.1.1 X.1.2.1 X.2.1.1 hW3.2.1 792 2 hout3 (ev_tys_at rfl) (vp_in_nI (n := 0) (by decide) (by decide)) (by decide +kernel) ?_
  rw [nI_clamp (by decide), hf0]
  refine lv_iload (i := 6) X.1.1 X.1.2.1 (by decide +kernel) (lv_at hl2 0 rfl) ?_
  refine lv_i2l (v := 0) X.1.1 X.1.2.1 (by decide +kernel) (by decide +kernel) ?_
  refine W.lcmp X.1.1 X.1.2.1 (by decide +kernel) ?_
  refine lv_if_eq (off := 5) (tgt := 628) X.1.1 X.1.2.1 (by decide +kernel) (by decide) (fun _ => ?_) (fun h => absurd (by decide +kernel) h)
  refine lv_goto (off := 108) (tgt := 736) X.1.1 X.1.2.1 (by decide +kernel) (by decide) ?_
  exact lw_tail C0 (lv_sub hl2 [2, 3, 4, 5, 6] (l' := [(4, .int 0), (3, .ref ao), (2, .ref am), (1, .ref ax), (0, .ref b)]) rfl) (by simp) hW3.2.2.2 (by decide) (by decide)
set_option maxRecDepth 100000 in
theorem ct_af14d : ev_aft ct_S149 9 ct_lw [(2, 0, 0), (0, 2147483664, 2147483664)] 27 = ct_lw := ev_eqW_r (by decide +kernel)
theorem th_i14d {l : Launch} {D : va_G} {dA : Nat → ClassId} {ws : va_W} {sz ax ao : Nat} {i : Int32} (hi : ev_in (0, 2147483664, 2147483664) i) (ha : (ws.map Prod.fst)[0]? = some ax) (ho : (ws.map Prod.fst)[792]? = some ao) (hwr : ev_wr dA ct_lw ws) : Met l ⟨"TrustedMachineLaw", "register", "(LTrustedMachine;I[J)I"⟩ (Cond.codeWith ⟨"TrustedMachineLaw", "register", "(LTrustedMachine;I[J)I"⟩ method_4_code 4 (some .int) [(0, 9, 12, 13)] :: Cond.methodLink "TrustedMachineLaw" 15 ⟨"TrustedMachine", "register", "(I)I"⟩ :: ct_gs) (ev_rm 10 0 0) (ev_P D ct_cl dA ct_kt [Value.ref ax, Value.int i, Value.ref ao] ws sz) (th_Qi D ct_cl dA ws (va_A ws sz) ct_lw 792 0) 0 0 (va_A ws sz) := by
  refine va_MetW (hh := [(0, 9, 12, 13)]) (by decide) rfl ?_
  intro p e s m args below meth c s₁ B hml hv
  obtain ⟨rfl, hsz, hPs, hK, hD0, hTb⟩ := hv
  have hts := atoms_spec (ws := _ :: Cond.methodLink "TrustedMachineLaw" 15 ⟨"TrustedMachine", "register", "(I)I"⟩ :: ct_gs) B.pre
  have hown : s.vm.findClass "TrustedMachineLaw" = some m.cls := findClass_of_methodNamed B.named
  subst hsz
  have hD := hD0.self (sz := s.heap.size)
  have hl := lv_entry [Value.ref ax, Value.int i, Value.ref ao] (n := 4) (Nat.le_of_ble_eq_true rfl)
  rw [lg_entry_eq]
  generalize (lg_sl [Value.ref ax, Value.int i, Value.ref ao] ++ List.replicate (4 - (lg_sl [Value.ref ax, Value.int i, Value.ref ao]).length) Slot.unset).toArray = ls at hl ⊢
  have X : ev_X p s m [Value.ref ax, Value.int i, Value.ref ao].toArray c D ct_cl dA ct_kt (va_A ws s.heap.size) ct_gs "TrustedMachineLaw" method_4_code 4 := ⟨⟨B.exec, B.bytes, hml, hown, fun w hw => hts w (List.mem_cons_of_mem _ (List.mem_cons_of_mem _ hw))⟩, hK, fun q hq => Or.inr hq, hTb⟩
  have hW0 : ev_Wd D ct_cl dA (va_A ws s.heap.size) s ct_lw ws s.heap [] := ⟨hwr, hPs, hD, va_S.rf⟩
  refine lv_aload_n (k := 2) B.exec B.bytes (by decide +kernel) rfl (lv_at hl 2 rfl) ?_
  refine lv_iconst (n := 0) (v := nI 0) B.exec B.bytes (by decide +kernel) (by decide +kernel) ?_
  refine lv_aload_n (k := 0) B.exec B.bytes (by decide +kernel) rfl (lv_at hl 0 rfl) ?_
  refine lv_iload_n (k := 1) B.exec B.bytes (by decide +kernel) rfl (lv_at hl 1 rfl) ?_
  refine ev_w_cV (sm := ct_S149) (dd := 9) (o := 0) (ci := 0) (mi := 27) (S1 := [(0, 2147483664, 2147483664)]) (ys := [.int i]) (rs := [.int (nI 0), .ref ao]) (r := some (0, 2147483648, 2147483648)) (mc := 0) (ms := 0) (n := 1) X ct_good (ct_SM149 l D dA) rfl (by decide +kernel) rfl rfl rfl (ct_hg 100 _ rfl) (ct_hg 101 _ rfl) (hts _ (List.mem_cons_of_mem _ List.mem_cons_self)) (ct_hg 102 _ rfl) (ct_hg 103 _ rfl) (by decide +kernel) (by decide) ⟨by decide, by decide⟩ hW0 ⟨ev_vr.it rfl hi, trivial⟩ ha hl.1 (Nat.le_of_ble_eq_true rfl) ⟨by decide, by decide⟩ (by decide +kernel) (fun rv ws1 H1 locs1 hx1 hr1 hW1 => ?_)
  obtain rfl := lw_ex hr1 (by decide +kernel)
  have hW1 : ev_Wd D ct_cl dA (va_A ws s.heap.size) s (ev_aft ct_S149 9 ct_lw [(2, 0, 0), (0, 2147483664, 2147483664)] 27) ws1 H1 locs1 := hW1
  rw [ct_af14d] at hW1
  show W p l e (ev_rm 10 0 0) s m _ below meth c H1 locs1 0 0 _ (F0 m 7 ls [.int (ev_un 2147483648), .int (nI 0), .ref ao])
  refine lv_i2l (v := 0) B.exec B.bytes (by decide +kernel) (by decide +kernel) ?_
  obtain ⟨E, hE, hcr⟩ := hW1.1.at ct_lwo (hx1 _ _ ho)
  obtain ⟨f, rfl⟩ : ∃ f : Nat → Int64, E = .inl (dA 2, 1, .inr (.inl f)) := by
    rcases hcr with ⟨h, -⟩ | ⟨h, -⟩ | ⟨h, -⟩ | ⟨-, f, h⟩ | ⟨h, -⟩
    case inr.inr.inr.inl => exact ⟨f, h⟩
    all_goals exact absurd h (by decide)
  refine va_last B.exec B.bytes X.2.1.1 hW1.2.1 hW1.2.2.1 hW1.2.2.2 792 2 hE (ev_tys_at rfl) (vp_in_nI (n := 0) (by decide) (by decide)) (by decide +kernel) (fun H2 locs2 g6 g7 g8 => ?_)
  refine lv_goto (off := 6) (tgt := 15) B.exec B.bytes (by decide +kernel) (by decide) ?_
  refine lv_iconst (n := 0) (v := 0) B.exec B.bytes (by decide +kernel) (by decide +kernel) ?_
  refine W.iret B.exec B.bytes B.returns (fun t ht _ => ⟨⟨_, rfl, ?_, ?_, by rw [ht]; exact g6, g7, ao, _, List.getElem?_set_self (List.getElem?_eq_some_iff.mp hE).1, ?_⟩, g8.F ht⟩) (fun q hq => g8.2.2 q hq) (by decide +kernel) B.notSynchronized
  · rw [ev_map_set hE]
    exact hx1
  · rw [← ct_lws]
    exact hW1.1.set hE (Or.inr (Or.inr (Or.inr (Or.inl ⟨rfl, _, rfl⟩))))
  · rw [nI_clamp (by decide)]
    simp [vp_updL]
theorem lw_c14d {p : Program} {l : Launch} {e : Env} {s : State} {m : MethodId} {below : List Frame} {meth : Method} {c : Code} {b : Nat} {xs : Nat → Int32} (C0 : lw_At p s m meth c b 6 xs) {D : va_G} {dA : Nat → ClassId} (X : ev_X p s m #[Value.ref b] c D ct_cl dA ct_kt (lw_A s) ct_gs R_law code 7) {ws : va_W} {H : Heap} {locs : List Loc} {ls : Array Slot} {ax am ao : Nat} (hl : lv_has ls 7 [(4, .int 0), (3, .ref ao), (2, .ref am), (1, .ref ax), (0, .ref b)]) (ha : (ws.map Prod.fst)[0]? = some ax) (hm : (ws.map Prod.fst)[692]? = some am) (hao : (ws.map Prod.fst)[792]? = some ao) (hW : ev_Wd D ct_cl dA (lw_A s) s ct_lw ws H locs) (h1 : ev_in (0, 2147483664, 2147483664) (xs 1)) : W p l e room_1 s m #[Value.ref b] below meth c H locs 793 215028 (lw_Z below #[Value.ref b] s) (F0 m 575 ls []) := by
  have hX := C0.2.2.2.2.2.2.1
  have hbl := C0.2.2.2.2.2.2.2.1
  refine lv_aload_n (k := 1) X.1.1 X.1.2.1 (by decide +kernel) rfl (lv_at hl 3 rfl) ?_
  refine ev_w_scr (j := 1) X.1.1 X.1.2.1 hX hbl (lw_nA hbl) hW.2.2.2 hl (k0 := 4) (k4 := 0) rfl rfl (by decide) (by decide) (by decide +kernel) (by decide +kernel) (by decide +kernel) (by decide +kernel) (by decide +kernel) ?_
  refine lv_aload_n (k := 3) X.1.1 X.1.2.1 (by decide +kernel) rfl (lv_at hl 1 rfl) ?_
  have hfr := ev_free hW.2.2.1 hW.2.2.2 X.2.2.1
  refine th_ret0 (po := 792) (x := 0) (w1 := ct_lw) (th_runS (As := [Value.ref ax, Value.int (xs 1), Value.ref ao]) (rest := []) (hh := [(0, 9, 12, 13)]) (bytes := method_4_code) (maxL := 4) (ret := some .int) X.1 (th_i14d (l := l) (D := D) (sz := H.size) h1 ha hao hW.1) ev_P_blind rfl rfl (by decide) (by decide) (fun w hw a' U hU => ?_) List.mem_cons_self (C0.2.2.2.2.2.1 _ (ev_wd_in (h := 0) rfl)) (C0.2.2.2.2.2.1 _ (ev_wd_in (h := 7123) rfl)) (C0.2.2.2.2.2.1 _ (ev_wd_in (h := 7124) rfl)) ⟨by decide, by decide⟩ (show (parseMethodDescriptor "(LTrustedMachine;I[J)I").map (fun d => d.parameters.length) = some 3 from by decide +kernel) (fun U hU hWu => ⟨rfl, by rw [hU], by rw [hU]; exact hW.2.1, ev_K.moved hWu.alike X.2.1, hW.2.2.1.weaken (fun _ _ _ _ => trivial), by rw [hU]; exact ev_tbc X hW.2.2.2 hWu.alike hfr⟩) rfl hl.1 rfl (Nat.le_of_ble_eq_true rfl) (show decode code 583 = .ok (.invokestatic 96, 3) from by decide +kernel) ⟨by decide, by decide⟩) X.2.2.1 hW (fun u H1 locs1 hx1 hW1 hout => ?_)
  · rcases List.mem_cons.mp hw with rfl | hw
    · exact word_at hU (Or.inl rfl) (C0.2.2.2.2.2.1 _ (ev_wd_in (h := 7125) rfl))
    · rcases List.mem_cons.mp hw with rfl | hw
      · exact word_at hU (Or.inl rfl) (C0.2.2.2.2.2.1 _ (ev_wd_in (h := 7126) rfl))
      · exact word_at hU (ct_good w hw) (C0.2.2.2.2.2.1 _ (ct_tbl w hw))
  obtain ⟨a9, f9, hout, hf0⟩ := hout
  refine lv_istore (i := 5) (lv' := [(5, .int 0), (4, .int 0), (3, .ref ao), (2, .ref am), (1, .ref ax), (0, .ref b)]) X.1.1 X.1.2.1 (by decide +kernel) hl (by decide) rfl (fun ls1 hl1 => ?_)
  refine lv_aload_n (k := 2) X.1.1 X.1.2.1 (by decide +kernel) rfl (lv_at hl1 3 rfl) ?_
  refine ev_w_scr (j := 1) X.1.1 X.1.2.1 hX hbl (lw_nA hbl) hW1.2.2.2 hl1 (k0 := 5) (k4 := 1) rfl rfl (by decide) (by decide) (by decide +kernel) (by decide +kernel) (by decide +kernel) (by decide +kernel) (by decide +kernel) ?_
  refine ev_w_cX (sm := ct_S149) (kc := 29) (qc := (86, 3, [(0, 0), (1, 1), (1, 6), (1, 7), (1, 8), (1, 9), (1, 10), (1, 12), (1, 13), (1, 14), (1, 15), (1, 16), (1, 19), (1, 20), (1, 21), (1, 22), (1, 23), (1, 24), (1, 25), (1, 26), (1, 27), (1, 28), (1, 31), (1, 32), (1, 33), (1, 34), (1, 35), (1, 36), (1, 37), (1, 38), (1, 39), (1, 40), (1, 41), (1, 42), (1, 43), (1, 44), (1, 45), (1, 46), (1, 47), (1, 48), (1, 49), (1, 50), (1, 51), (1, 52), (1, 53), (1, 54), (1, 55), (1, 56), (1, 57), (1, 58), (1, 59), (1, 60), (1, 61), (1, 62), (1, 63), (1, 64), (1, 65), (1, 66), (1, 67), (1, 68), (1, 69), (1, 70), (1, 71), (1, 72), (1, 73), (1, 74), (1, 75), (1, 76), (1, 77), (1, 78), (1, 79), (1, 80), (1, 81), (1, 82), (1, 83), (1, 84), (1, 85), (1, 86), (1, 87), (1, 88), (1, 89), (1, 90), (1, 91), (1, 92), (1, 93), (1, 94), (1, 95), (1, 96), (1, 97), (1, 101), (1, 102), (1, 112), (1, 114), (1, 115), (1, 116), (1, 117), (1, 118), (1, 119), (1, 120), (1, 121)], [(2, 0, 0), (0, 2147483648, 2147483665)], ct_w119, ct_r119)) (dd := 9) (o := 692) (ci := 12) (S1 := [(0, 2147483664, 2147483664)]) (is := [692, 693, 694, 695, 696, 697, 698, 699, 700, 701, 702, 703, 704, 705, 706, 707, 708, 709, 710, 711, 712, 713, 714, 715, 716, 717, 718, 719, 720, 721, 722, 723, 724, 725, 726, 727, 728, 729, 730, 731, 732, 733, 734, 735, 736, 737, 738, 739, 740, 741, 742, 743, 744, 745, 746, 747, 748, 749, 750, 751, 752, 753, 754, 755, 756, 757, 758, 759, 760, 761, 762, 763, 764, 765, 766, 767, 768, 769, 770, 771, 772, 773, 774, 775, 776, 777, 778, 779, 780, 781, 782, 783, 784, 785, 786, 787, 788, 789, 790, 791]) (ys := [.int (xs 1)]) (rs := []) (r := some (0, 2147483648, 2147483648)) (mc := 0) (ms := 0) (n := 1) X ct_good (ct_SM149 l D dA) rfl rfl (by decide +kernel) rfl rfl rfl (ct_hg 331 _ rfl) (ct_hg 332 _ rfl) (C0.2.2.2.2.2.1 _ (ev_wd_in (h := 12057) rfl)) (ct_hg 333 _ rfl) (ct_hg 334 _ rfl) (by decide +kernel) (by decide) ⟨by decide, by decide⟩ hW1 ⟨ev_vr.it rfl h1, trivial⟩ (hx1 _ _ hm) hl1.1 (Nat.le_of_ble_eq_true rfl) ⟨by decide, by decide⟩ (by decide +kernel) (fun rv2 ws2 H2 locs2 hx2 hr2 hW2 hk2 _ => ?_)
  obtain rfl := lw_ex hr2 (by decide +kernel)
  show W p l e room_1 s m #[Value.ref b] below meth c H2 locs2 _ _ _ (F0 m 598 ls1 [.int (ev_un 2147483648)])
  refine lv_istore (i := 6) (lv' := [(6, .int (ev_un 2147483648)), (5, .int 0), (4, .int 0), (3, .ref ao), (2, .ref am), (1, .ref ax), (0, .ref b)]) X.1.1 X.1.2.1 (by decide +kernel) hl1 (by decide) rfl (fun ls2 hl2 => ?_)
  refine lv_aload_n (k := 2) X.1.1 X.1.2.1 (by decide +kernel) rfl (lv_at hl2 4 rfl) ?_
  refine ev_w_cX (sm := ct_S149) (kc := 26) (qc := (42, 3, [(0, 0), (1, 1), (1, 6), (1, 7), (1, 8), (1, 9), (1, 10), (1, 12), (1, 13), (1, 14), (1, 15), (1, 16), (1, 19), (1, 20), (1, 21), (1, 22), (1, 23), (1, 24), (1, 25), (1, 26), (1, 27), (1, 28), (1, 31), (1, 32), (1, 33), (1, 34), (1, 35), (1, 36), (1, 37), (1, 38), (1, 39), (1, 40), (1, 41), (1, 42), (1, 43), (1, 44), (1, 45), (1, 46), (1, 47), (1, 48), (1, 49), (1, 50), (1, 51), (1, 52), (1, 53), (1, 54), (1, 55), (1, 56), (1, 57), (1, 58), (1, 59), (1, 60), (1, 61), (1, 62), (1, 63), (1, 64), (1, 65), (1, 66), (1, 67), (1, 68), (1, 69), (1, 70), (1, 71), (1, 72), (1, 73), (1, 74), (1, 75), (1, 76), (1, 77), (1, 78), (1, 79), (1, 80), (1, 81), (1, 82), (1, 83), (1, 84), (1, 85), (1, 86), (1, 87), (1, 88), (1, 89), (1, 90), (1, 91), (1, 92), (1, 93), (1, 94), (1, 95), (1, 96), (1, 97), (1, 101), (1, 102), (1, 112), (1, 114), (1, 115), (1, 116), (1, 117), (1, 118), (1, 119), (1, 120), (1, 121)], [(2, 0, 0)], ct_w122, ct_r122)) (dd := 9) (o := 692) (ci := 12) (S1 := []) (is := [692, 693, 694, 695, 696, 697, 698, 699, 700, 701, 702, 703, 704, 705, 706, 707, 708, 709, 710, 711, 712, 713, 714, 715, 716, 717, 718, 719, 720, 721, 722, 723, 724, 725, 726, 727, 728, 729, 730, 731, 732, 733, 734, 735, 736, 737, 738, 739, 740, 741, 742, 743, 744, 745, 746, 747, 748, 749, 750, 751, 752, 753, 754, 755, 756, 757, 758, 759, 760, 761, 762, 763, 764, 765, 766, 767, 768, 769, 770, 771, 772, 773, 774, 775, 776, 777, 778, 779, 780, 781, 782, 783, 784, 785, 786, 787, 788, 789, 790, 791]) (ys := []) (rs := []) (r := some (0, 2147483648, 2147483648)) (mc := 0) (ms := 0) (n := 0) X ct_good (ct_SM149 l D dA) rfl rfl (by decide +kernel) rfl rfl rfl (ct_hg 159 _ rfl) (ct_hg 160 _ rfl) (C0.2.2.2.2.2.1 _ (ev_wd_in (h := 9174) rfl)) (ct_hg 161 _ rfl) (ct_hg 162 _ rfl) (by decide +kernel) (by decide) ⟨by decide, by decide⟩ hW2 trivial (hx2 _ _ (hx1 _ _ hm)) hl2.1 (Nat.le_of_ble_eq_true rfl) ⟨by decide, by decide⟩ (by decide +kernel) (fun rv3 ws3 H3 locs3 hx3 hr3 hW3 hk3 _ => ?_)
  obtain rfl := lw_ex hr3 (by decide +kernel)
  show W p l e room_1 s m #[Value.ref b] below meth c H3 locs3 _ _ _ (F0 m 604 ls2 [.int (ev_un 2147483648)])
  have hL1 : 792 < u.length := (List.getElem?_eq_some_iff.mp hout).1
  have hout2 : ws2[792]? = u[792]? := hk2 792 hL1 (fun j h => absurd (List.mem_of_getElem? h) (by decide))
  rw [hout] at hout2
  have hout3 : ws3[792]? = ws2[792]? := hk3 792 (List.getElem?_eq_some_iff.mp hout2).1 (fun j h => absurd (List.mem_of_getElem? h) (by decide))
  rw [hout2] at hout3
  have ea : a9 = ao := by
    have h8 := hx3 _ _ (hx2 _ _ (hx1 _ _ hao))
    rw [List.getElem?_map, hout3] at h8
    exact Option.some.inj h8
  rw [ea] at hout3
  refine lv_iload (i := 5) X.1.1 X.1.2.1 (by decide +kernel) (lv_at hl2 1 rfl) ?_
  refine lv_icmp_eq (off := 5) (tgt := 611) X.1.1 X.1.2.1 (by decide +kernel) (by decide) (fun _ => ?_) (fun h => absurd (by decide +kernel) h)
  refine lv_iload (i := 5) X.1.1 X.1.2.1 (by decide +kernel) (lv_at hl2 1 rfl) ?_
  refine lv_if_ne (off := 15) (tgt := 628) X.1.1 X.1.2.1 (by decide +kernel) (by decide) (fun h => absurd rfl h) (fun _ => ?_)
  refine lv_aload_n (k := 3) X.1.1 X.1.2.1 (by decide +kernel) rfl (lv_at hl2 3 rfl) ?_
  refine lv_iconst (n := 0) (v := nI 0) X.1.1 X.1.2.1 (by decide +kernel) (by decide +kernel) ?_
  refine va_lald X.1.1 X.1.2.1 X.2.1.1 hW3.2.1 792 2 hout3 (ev_tys_at rfl) (vp_in_nI (n := 0) (by decide) (by decide)) (by decide +kernel) ?_
  rw [nI_clamp (by decide), hf0]
  refine lv_iload (i := 6) X.1.1 X.1.2.1 (by decide +kernel) (lv_at hl2 0 rfl) ?_
  refine lv_i2l (v := 0) X.1.1 X.1.2.1 (by decide +kernel) (by decide +kernel) ?_
  refine W.lcmp X.1.1 X.1.2.1 (by decide +kernel) ?_
  refine lv_if_eq (off := 5) (tgt := 628) X.1.1 X.1.2.1 (by decide +kernel) (by decide) (fun _ => ?_) (fun h => absurd (by decide +kernel) h)
  refine lv_goto (off := 108) (tgt := 736) X.1.1 X.1.2.1 (by decide +kernel) (by decide) ?_
  exact lw_tail C0 (lv_sub hl2 [2, 3, 4, 5, 6] (l' := [(4, .int 0), (3, .ref ao), (2, .ref am), (1, .ref ax), (0, .ref b)]) rfl) (by simp) hW3.2.2.2 (by decide) (by decide)
set_option maxRecDepth 100000 in
theorem ct_af14e : ev_aft ct_S149 9 ct_lw [(2, 0, 0), (0, 2147483665, 2147483665)] 27 = ct_lw := ev_eqW_r (by decide +kernel)
theorem th_i14e {l : Launch} {D : va_G} {dA : Nat → ClassId} {ws : va_W} {sz ax ao : Nat} {i : Int32} (hi : ev_in (0, 2147483665, 2147483665) i) (ha : (ws.map Prod.fst)[0]? = some ax) (ho : (ws.map Prod.fst)[792]? = some ao) (hwr : ev_wr dA ct_lw ws) : Met l ⟨"TrustedMachineLaw", "register", "(LTrustedMachine;I[J)I"⟩ (Cond.codeWith ⟨"TrustedMachineLaw", "register", "(LTrustedMachine;I[J)I"⟩ method_4_code 4 (some .int) [(0, 9, 12, 13)] :: Cond.methodLink "TrustedMachineLaw" 15 ⟨"TrustedMachine", "register", "(I)I"⟩ :: ct_gs) (ev_rm 10 0 0) (ev_P D ct_cl dA ct_kt [Value.ref ax, Value.int i, Value.ref ao] ws sz) (th_Qi D ct_cl dA ws (va_A ws sz) ct_lw 792 0) 0 0 (va_A ws sz) := by
  refine va_MetW (hh := [(0, 9, 12, 13)]) (by decide) rfl ?_
  intro p e s m args below meth c s₁ B hml hv
  obtain ⟨rfl, hsz, hPs, hK, hD0, hTb⟩ := hv
  have hts := atoms_spec (ws := _ :: Cond.methodLink "TrustedMachineLaw" 15 ⟨"TrustedMachine", "register", "(I)I"⟩ :: ct_gs) B.pre
  have hown : s.vm.findClass "TrustedMachineLaw" = some m.cls := findClass_of_methodNamed B.named
  subst hsz
  have hD := hD0.self (sz := s.heap.size)
  have hl := lv_entry [Value.ref ax, Value.int i, Value.ref ao] (n := 4) (Nat.le_of_ble_eq_true rfl)
  rw [lg_entry_eq]
  generalize (lg_sl [Value.ref ax, Value.int i, Value.ref ao] ++ List.replicate (4 - (lg_sl [Value.ref ax, Value.int i, Value.ref ao]).length) Slot.unset).toArray = ls at hl ⊢
  have X : ev_X p s m [Value.ref ax, Value.int i, Value.ref ao].toArray c D ct_cl dA ct_kt (va_A ws s.heap.size) ct_gs "TrustedMachineLaw" method_4_code 4 := ⟨⟨B.exec, B.bytes, hml, hown, fun w hw => hts w (List.mem_cons_of_mem _ (List.mem_cons_of_mem _ hw))⟩, hK, fun q hq => Or.inr hq, hTb⟩
  have hW0 : ev_Wd D ct_cl dA (va_A ws s.heap.size) s ct_lw ws s.heap [] := ⟨hwr, hPs, hD, va_S.rf⟩
  refine lv_aload_n (k := 2) B.exec B.bytes (by decide +kernel) rfl (lv_at hl 2 rfl) ?_
  refine lv_iconst (n := 0) (v := nI 0) B.exec B.bytes (by decide +kernel) (by decide +kernel) ?_
  refine lv_aload_n (k := 0) B.exec B.bytes (by decide +kernel) rfl (lv_at hl 0 rfl) ?_
  refine lv_iload_n (k := 1) B.exec B.bytes (by decide +kernel) rfl (lv_at hl 1 rfl) ?_
  refine ev_w_cV (sm := ct_S149) (dd := 9) (o := 0) (ci := 0) (mi := 27) (S1 := [(0, 2147483665, 2147483665)]) (ys := [.int i]) (rs := [.int (nI 0), .ref ao]) (r := some (0, 2147483648, 2147483648)) (mc := 0) (ms := 0) (n := 1) X ct_good (ct_SM149 l D dA) rfl (by decide +kernel) rfl rfl rfl (ct_hg 100 _ rfl) (ct_hg 101 _ rfl) (hts _ (List.mem_cons_of_mem _ List.mem_cons_self)) (ct_hg 102 _ rfl) (ct_hg 103 _ rfl) (by decide +kernel) (by decide) ⟨by decide, by decide⟩ hW0 ⟨ev_vr.it rfl hi, trivial⟩ ha hl.1 (Nat.le_of_ble_eq_true rfl) ⟨by decide, by decide⟩ (by decide +kernel) (fun rv ws1 H1 locs1 hx1 hr1 hW1 => ?_)
  obtain rfl := lw_ex hr1 (by decide +kernel)
  have hW1 : ev_Wd D ct_cl dA (va_A ws s.heap.size) s (ev_aft ct_S149 9 ct_lw [(2, 0, 0), (0, 2147483665, 2147483665)] 27) ws1 H1 locs1 := hW1
  rw [ct_af14e] at hW1
  show W p l e (ev_rm 10 0 0) s m _ below meth c H1 locs1 0 0 _ (F0 m 7 ls [.int (ev_un 2147483648), .int (nI 0), .ref ao])
  refine lv_i2l (v := 0) B.exec B.bytes (by decide +kernel) (by decide +kernel) ?_
  obtain ⟨E, hE, hcr⟩ := hW1.1.at ct_lwo (hx1 _ _ ho)
  obtain ⟨f, rfl⟩ : ∃ f : Nat → Int64, E = .inl (dA 2, 1, .inr (.inl f)) := by
    rcases hcr with ⟨h, -⟩ | ⟨h, -⟩ | ⟨h, -⟩ | ⟨-, f, h⟩ | ⟨h, -⟩
    case inr.inr.inr.inl => exact ⟨f, h⟩
    all_goals exact absurd h (by decide)
  refine va_last B.exec B.bytes X.2.1.1 hW1.2.1 hW1.2.2.1 hW1.2.2.2 792 2 hE (ev_tys_at rfl) (vp_in_nI (n := 0) (by decide) (by decide)) (by decide +kernel) (fun H2 locs2 g6 g7 g8 => ?_)
  refine lv_goto (off := 6) (tgt := 15) B.exec B.bytes (by decide +kernel) (by decide) ?_
  refine lv_iconst (n := 0) (v := 0) B.exec B.bytes (by decide +kernel) (by decide +kernel) ?_
  refine W.iret B.exec B.bytes B.returns (fun t ht _ => ⟨⟨_, rfl, ?_, ?_, by rw [ht]; exact g6, g7, ao, _, List.getElem?_set_self (List.getElem?_eq_some_iff.mp hE).1, ?_⟩, g8.F ht⟩) (fun q hq => g8.2.2 q hq) (by decide +kernel) B.notSynchronized
  · rw [ev_map_set hE]
    exact hx1
  · rw [← ct_lws]
    exact hW1.1.set hE (Or.inr (Or.inr (Or.inr (Or.inl ⟨rfl, _, rfl⟩))))
  · rw [nI_clamp (by decide)]
    simp [vp_updL]
theorem lw_c14e {p : Program} {l : Launch} {e : Env} {s : State} {m : MethodId} {below : List Frame} {meth : Method} {c : Code} {b : Nat} {xs : Nat → Int32} (C0 : lw_At p s m meth c b 6 xs) {D : va_G} {dA : Nat → ClassId} (X : ev_X p s m #[Value.ref b] c D ct_cl dA ct_kt (lw_A s) ct_gs R_law code 7) {ws : va_W} {H : Heap} {locs : List Loc} {ls : Array Slot} {ax am ao : Nat} (hl : lv_has ls 7 [(4, .int 0), (3, .ref ao), (2, .ref am), (1, .ref ax), (0, .ref b)]) (ha : (ws.map Prod.fst)[0]? = some ax) (hm : (ws.map Prod.fst)[692]? = some am) (hao : (ws.map Prod.fst)[792]? = some ao) (hW : ev_Wd D ct_cl dA (lw_A s) s ct_lw ws H locs) (h1 : ev_in (0, 2147483665, 2147483665) (xs 1)) : W p l e room_1 s m #[Value.ref b] below meth c H locs 793 215028 (lw_Z below #[Value.ref b] s) (F0 m 575 ls []) := by
  have hX := C0.2.2.2.2.2.2.1
  have hbl := C0.2.2.2.2.2.2.2.1
  refine lv_aload_n (k := 1) X.1.1 X.1.2.1 (by decide +kernel) rfl (lv_at hl 3 rfl) ?_
  refine ev_w_scr (j := 1) X.1.1 X.1.2.1 hX hbl (lw_nA hbl) hW.2.2.2 hl (k0 := 4) (k4 := 0) rfl rfl (by decide) (by decide) (by decide +kernel) (by decide +kernel) (by decide +kernel) (by decide +kernel) (by decide +kernel) ?_
  refine lv_aload_n (k := 3) X.1.1 X.1.2.1 (by decide +kernel) rfl (lv_at hl 1 rfl) ?_
  have hfr := ev_free hW.2.2.1 hW.2.2.2 X.2.2.1
  refine th_ret0 (po := 792) (x := 0) (w1 := ct_lw) (th_runS (As := [Value.ref ax, Value.int (xs 1), Value.ref ao]) (rest := []) (hh := [(0, 9, 12, 13)]) (bytes := method_4_code) (maxL := 4) (ret := some .int) X.1 (th_i14e (l := l) (D := D) (sz := H.size) h1 ha hao hW.1) ev_P_blind rfl rfl (by decide) (by decide) (fun w hw a' U hU => ?_) List.mem_cons_self (C0.2.2.2.2.2.1 _ (ev_wd_in (h := 0) rfl)) (C0.2.2.2.2.2.1 _ (ev_wd_in (h := 7123) rfl)) (C0.2.2.2.2.2.1 _ (ev_wd_in (h := 7124) rfl)) ⟨by decide, by decide⟩ (show (parseMethodDescriptor "(LTrustedMachine;I[J)I").map (fun d => d.parameters.length) = some 3 from by decide +kernel) (fun U hU hWu => ⟨rfl, by rw [hU], by rw [hU]; exact hW.2.1, ev_K.moved hWu.alike X.2.1, hW.2.2.1.weaken (fun _ _ _ _ => trivial), by rw [hU]; exact ev_tbc X hW.2.2.2 hWu.alike hfr⟩) rfl hl.1 rfl (Nat.le_of_ble_eq_true rfl) (show decode code 583 = .ok (.invokestatic 96, 3) from by decide +kernel) ⟨by decide, by decide⟩) X.2.2.1 hW (fun u H1 locs1 hx1 hW1 hout => ?_)
  · rcases List.mem_cons.mp hw with rfl | hw
    · exact word_at hU (Or.inl rfl) (C0.2.2.2.2.2.1 _ (ev_wd_in (h := 7125) rfl))
    · rcases List.mem_cons.mp hw with rfl | hw
      · exact word_at hU (Or.inl rfl) (C0.2.2.2.2.2.1 _ (ev_wd_in (h := 7126) rfl))
      · exact word_at hU (ct_good w hw) (C0.2.2.2.2.2.1 _ (ct_tbl w hw))
  obtain ⟨a9, f9, hout, hf0⟩ := hout
  refine lv_istore (i := 5) (lv' := [(5, .int 0), (4, .int 0), (3, .ref ao), (2, .ref am), (1, .ref ax), (0, .ref b)]) X.1.1 X.1.2.1 (by decide +kernel) hl (by decide) rfl (fun ls1 hl1 => ?_)
  refine lv_aload_n (k := 2) X.1.1 X.1.2.1 (by decide +kernel) rfl (lv_at hl1 3 rfl) ?_
  refine ev_w_scr (j := 1) X.1.1 X.1.2.1 hX hbl (lw_nA hbl) hW1.2.2.2 hl1 (k0 := 5) (k4 := 1) rfl rfl (by decide) (by decide) (by decide +kernel) (by decide +kernel) (by decide +kernel) (by decide +kernel) (by decide +kernel) ?_
  refine ev_w_cX (sm := ct_S149) (kc := 29) (qc := (86, 3, [(0, 0), (1, 1), (1, 6), (1, 7), (1, 8), (1, 9), (1, 10), (1, 12), (1, 13), (1, 14), (1, 15), (1, 16), (1, 19), (1, 20), (1, 21), (1, 22), (1, 23), (1, 24), (1, 25), (1, 26), (1, 27), (1, 28), (1, 31), (1, 32), (1, 33), (1, 34), (1, 35), (1, 36), (1, 37), (1, 38), (1, 39), (1, 40), (1, 41), (1, 42), (1, 43), (1, 44), (1, 45), (1, 46), (1, 47), (1, 48), (1, 49), (1, 50), (1, 51), (1, 52), (1, 53), (1, 54), (1, 55), (1, 56), (1, 57), (1, 58), (1, 59), (1, 60), (1, 61), (1, 62), (1, 63), (1, 64), (1, 65), (1, 66), (1, 67), (1, 68), (1, 69), (1, 70), (1, 71), (1, 72), (1, 73), (1, 74), (1, 75), (1, 76), (1, 77), (1, 78), (1, 79), (1, 80), (1, 81), (1, 82), (1, 83), (1, 84), (1, 85), (1, 86), (1, 87), (1, 88), (1, 89), (1, 90), (1, 91), (1, 92), (1, 93), (1, 94), (1, 95), (1, 96), (1, 97), (1, 101), (1, 102), (1, 112), (1, 114), (1, 115), (1, 116), (1, 117), (1, 118), (1, 119), (1, 120), (1, 121)], [(2, 0, 0), (0, 2147483648, 2147483665)], ct_w119, ct_r119)) (dd := 9) (o := 692) (ci := 12) (S1 := [(0, 2147483665, 2147483665)]) (is := [692, 693, 694, 695, 696, 697, 698, 699, 700, 701, 702, 703, 704, 705, 706, 707, 708, 709, 710, 711, 712, 713, 714, 715, 716, 717, 718, 719, 720, 721, 722, 723, 724, 725, 726, 727, 728, 729, 730, 731, 732, 733, 734, 735, 736, 737, 738, 739, 740, 741, 742, 743, 744, 745, 746, 747, 748, 749, 750, 751, 752, 753, 754, 755, 756, 757, 758, 759, 760, 761, 762, 763, 764, 765, 766, 767, 768, 769, 770, 771, 772, 773, 774, 775, 776, 777, 778, 779, 780, 781, 782, 783, 784, 785, 786, 787, 788, 789, 790, 791]) (ys := [.int (xs 1)]) (rs := []) (r := some (0, 2147483648, 2147483648)) (mc := 0) (ms := 0) (n := 1) X ct_good (ct_SM149 l D dA) rfl rfl (by decide +kernel) rfl rfl rfl (ct_hg 331 _ rfl) (ct_hg 332 _ rfl) (C0.2.2.2.2.2.1 _ (ev_wd_in (h := 12057) rfl)) (ct_hg 333 _ rfl) (ct_hg 334 _ rfl) (by decide +kernel) (by decide) ⟨by decide, by decide⟩ hW1 ⟨ev_vr.it rfl h1, trivial⟩ (hx1 _ _ hm) hl1.1 (Nat.le_of_ble_eq_true rfl) ⟨by decide, by decide⟩ (by decide +kernel) (fun rv2 ws2 H2 locs2 hx2 hr2 hW2 hk2 _ => ?_)
  obtain rfl := lw_ex hr2 (by decide +kernel)
  show W p l e room_1 s m #[Value.ref b] below meth c H2 locs2 _ _ _ (F0 m 598 ls1 [.int (ev_un 2147483648)])
  refine lv_istore (i := 6) (lv' := [(6, .int (ev_un 2147483648)), (5, .int 0), (4, .int 0), (3, .ref ao), (2, .ref am), (1, .ref ax), (0, .ref b)]) X.1.1 X.1.2.1 (by decide +kernel) hl1 (by decide) rfl (fun ls2 hl2 => ?_)
  refine lv_aload_n (k := 2) X.1.1 X.1.2.1 (by decide +kernel) rfl (lv_at hl2 4 rfl) ?_
  refine ev_w_cX (sm := ct_S149) (kc := 26) (qc := (42, 3, [(0, 0), (1, 1), (1, 6), (1, 7), (1, 8), (1, 9), (1, 10), (1, 12), (1, 13), (1, 14), (1, 15), (1, 16), (1, 19), (1, 20), (1, 21), (1, 22), (1, 23), (1, 24), (1, 25), (1, 26), (1, 27), (1, 28), (1, 31), (1, 32), (1, 33), (1, 34), (1, 35), (1, 36), (1, 37), (1, 38), (1, 39), (1, 40), (1, 41), (1, 42), (1, 43), (1, 44), (1, 45), (1, 46), (1, 47), (1, 48), (1, 49), (1, 50), (1, 51), (1, 52), (1, 53), (1, 54), (1, 55), (1, 56), (1, 57), (1, 58), (1, 59), (1, 60), (1, 61), (1, 62), (1, 63), (1, 64), (1, 65), (1, 66), (1, 67), (1, 68), (1, 69), (1, 70), (1, 71), (1, 72), (1, 73), (1, 74), (1, 75), (1, 76), (1, 77), (1, 78), (1, 79), (1, 80), (1, 81), (1, 82), (1, 83), (1, 84), (1, 85), (1, 86), (1, 87), (1, 88), (1, 89), (1, 90), (1, 91), (1, 92), (1, 93), (1, 94), (1, 95), (1, 96), (1, 97), (1, 101), (1, 102), (1, 112), (1, 114), (1, 115), (1, 116), (1, 117), (1, 118), (1, 119), (1, 120), (1, 121)], [(2, 0, 0)], ct_w122, ct_r122)) (dd := 9) (o := 692) (ci := 12) (S1 := []) (is := [692, 693, 694, 695, 696, 697, 698, 699, 700, 701, 702, 703, 704, 705, 706, 707, 708, 709, 710, 711, 712, 713, 714, 715, 716, 717, 718, 719, 720, 721, 722, 723, 724, 725, 726, 727, 728, 729, 730, 731, 732, 733, 734, 735, 736, 737, 738, 739, 740, 741, 742, 743, 744, 745, 746, 747, 748, 749, 750, 751, 752, 753, 754, 755, 756, 757, 758, 759, 760, 761, 762, 763, 764, 765, 766, 767, 768, 769, 770, 771, 772, 773, 774, 775, 776, 777, 778, 779, 780, 781, 782, 783, 784, 785, 786, 787, 788, 789, 790, 791]) (ys := []) (rs := []) (r := some (0, 2147483648, 2147483648)) (mc := 0) (ms := 0) (n := 0) X ct_good (ct_SM149 l D dA) rfl rfl (by decide +kernel) rfl rfl rfl (ct_hg 159 _ rfl) (ct_hg 160 _ rfl) (C0.2.2.2.2.2.1 _ (ev_wd_in (h := 9174) rfl)) (ct_hg 161 _ rfl) (ct_hg 162 _ rfl) (by decide +kernel) (by decide) ⟨by decide, by decide⟩ hW2 trivial (hx2 _ _ (hx1 _ _ hm)) hl2.1 (Nat.le_of_ble_eq_true rfl) ⟨by decide, by decide⟩ (by decide +kernel) (fun rv3 ws3 H3 locs3 hx3 hr3 hW3 hk3 _ => ?_)
  obtain rfl := lw_ex hr3 (by decide +kernel)
  show W p l e room_1 s m #[Value.ref b] below meth c H3 locs3 _ _ _ (F0 m 604 ls2 [.int (ev_un 2147483648)])
  have hL1 : 792 < u.length := (List.getElem?_eq_some_iff.mp hout).1
  have hout2 : ws2[792]? = u[792]? := hk2 792 hL1 (fun j h => absurd (List.mem_of_getElem? h) (by decide))
  rw [hout] at hout2
  have hout3 : ws3[792]? = ws2[792]? := hk3 792 (List.getElem?_eq_some_iff.mp hout2).1 (fun j h => absurd (List.mem_of_getElem? h) (by decide))
  rw [hout2] at hout3
  have ea : a9 = ao := by
    have h8 := hx3 _ _ (hx2 _ _ (hx1 _ _ hao))
    rw [List.getElem?_map, hout3] at h8
    exact Option.some.inj h8
  rw [ea] at hout3
  refine lv_iload (i := 5) X.1.1 X.1.2.1 (by decide +kernel) (lv_at hl2 1 rfl) ?_
  refine lv_icmp_eq (off := 5) (tgt := 611) X.1.1 X.1.2.1 (by decide +kernel) (by decide) (fun _ => ?_) (fun h => absurd (by decide +kernel) h)
  refine lv_iload (i := 5) X.1.1 X.1.2.1 (by decide +kernel) (lv_at hl2 1 rfl) ?_
  refine lv_if_ne (off := 15) (tgt := 628) X.1.1 X.1.2.1 (by decide +kernel) (by decide) (fun h => absurd rfl h) (fun _ => ?_)
  refine lv_aload_n (k := 3) X.1.1 X.1.2.1 (by decide +kernel) rfl (lv_at hl2 3 rfl) ?_
  refine lv_iconst (n := 0) (v := nI 0) X.1.1 X.1.2.1 (by decide +kernel) (by decide +kernel) ?_
  refine va_lald X.1.1 X.1.2.1 X.2.1.1 hW3.2.1 792 2 hout3 (ev_tys_at rfl) (vp_in_nI (n := 0) (by decide) (by decide)) (by decide +kernel) ?_
  rw [nI_clamp (by decide), hf0]
  refine lv_iload (i := 6) X.1.1 X.1.2.1 (by decide +kernel) (lv_at hl2 0 rfl) ?_
  refine lv_i2l (v := 0) X.1.1 X.1.2.1 (by decide +kernel) (by decide +kernel) ?_
  refine W.lcmp X.1.1 X.1.2.1 (by decide +kernel) ?_
  refine lv_if_eq (off := 5) (tgt := 628) X.1.1 X.1.2.1 (by decide +kernel) (by decide) (fun _ => ?_) (fun h => absurd (by decide +kernel) h)
  refine lv_goto (off := 108) (tgt := 736) X.1.1 X.1.2.1 (by decide +kernel) (by decide) ?_
  exact lw_tail C0 (lv_sub hl2 [2, 3, 4, 5, 6] (l' := [(4, .int 0), (3, .ref ao), (2, .ref am), (1, .ref ax), (0, .ref b)]) rfl) (by simp) hW3.2.2.2 (by decide) (by decide)
