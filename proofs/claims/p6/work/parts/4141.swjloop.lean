/-! The law: its loop, and the claim. Written by a program (wip/start/genJ.py). -/
set_option maxHeartbeats 4000000 in
theorem sw_loop {p : Program} {e : Env} {s : State} {m : MethodId} {below : List Frame} {meth : Method} {c : Code} (l : Launch) {b L : Nat} {xs : Nat → Int32} (C0 : lw_At p s m meth c b L xs) (hfl : l.flags = pinnedFlags ++ [noTraceFlag]) (hL : L ≤ 3072) {D : va_G} {dA : Nat → ClassId} {ad : List Nat} (X : sx_X p s m #[Value.ref b] c D ct_cl dA ct_kt sz_T sy_tb sw_kd ad (lw_A s) sy_gs R_law code 7) {ax am ao : Nat} (ha : ad[0]? = some ax) (hm : ad[692]? = some am) (hao : ad[792]? = some ao) : ∀ (n i : Nat) (ws : va_W) (hh : sx_H) (H : Heap) (locs : List Loc) (ls : Array Slot) (nc ns : Nat), L < i + n → i ≤ L → lv_has ls 7 [(4, .int (nI i)), (3, .ref ao), (2, .ref am), (1, .ref ax), (0, .ref b)] → sw_Wd D dA ad (lw_A s) s ws hh H locs → sw_K hh → nc ≤ 793 + i → ns ≤ 215028 + i → W p l e room_1 s m #[Value.ref b] below meth c H locs nc ns (lw_Z below #[Value.ref b] s) (F0 m 23 ls [])
  | 0, i, _, _, _, _, _, _, _, hn, hi, _, _, _, _, _ => by omega
  | n + 1, i, ws, hh, H, locs, ls, nc, ns, hn, hi0, hl, hW, hI, hnc, hns => by
    have hX := C0.2.2.2.2.2.2.1
    have hbl := C0.2.2.2.2.2.2.2.1
    have hr1 : room_1.cells = 601024 := rfl
    have hr2 : room_1.slots = 7293034 := rfl
    refine lv_iload (i := 4) X.1.1.1 X.1.1.2.1 (sy_d21 (sy_i1_r lw_by (k := 23) (v := 21) rfl) (sy_i1_r lw_by (k := 24) (v := 4) rfl)) (lv_at hl 0 rfl) ?_
    refine lv_aload_n (k := 0) X.1.1.1 X.1.1.2.1 (sy_d42 (sy_i1_r lw_by (k := 25) (v := 42) rfl)) rfl (lv_at hl 4 rfl) ?_
    refine va_slen X.1.1.1 X.1.1.2.1 hX hbl (lw_nA hbl) hW.2.2.2 (sy_d190 (sy_i1_r lw_by (k := 26) (v := 190) rfl)) ?_
    refine lv_bipush (n := 6) (v := nI 6) X.1.1.1 X.1.1.2.1 (by decide +kernel) (by decide +kernel) ?_
    refine lv_isub X.1.1.1 X.1.1.2.1 (sy_d100 (sy_i1_r lw_by (k := 29) (v := 100) rfl)) ?_
    have hdif : (Int32.ofNat L - nI 6).toInt = (L : Int) - 6 := by
      have e1 : (Int32.ofNat L).toInt = (L : Int) := nI_toInt (n := L) (by omega)
      rw [Int32.toInt_sub, e1, nI_toInt (by omega)]
      exact ev_bm (by omega) (by omega)
    have hni : (nI i).toInt = (i : Int) := nI_toInt (by omega)
    refine lv_icmp_gt (off := ((658 : Nat) : Int) - ((30 : Nat) : Int)) (tgt := 658) X.1.1.1 X.1.1.2.1 (sy_d163 (sy_bj_r lw_by (k := 30) (op := 163) (t := 658) rfl).1 (sy_bj_r lw_by (k := 30) (op := 163) (t := 658) rfl).2) (by decide) (fun _ => ?_) (fun h => ?_)
    · refine lv_iconst (n := 1) (v := 1) X.1.1.1 X.1.1.2.1 (by decide +kernel) (by decide +kernel) ?_
      refine va_forget (fun q hq => hW.2.2.2.2.2 q hq) ?_
      exact W.widen (by omega) (by omega) (lw_ret X.1.1.1 X.1.1.2.1 C0.2.2.1 C0.2.2.2.2.2.2.2.2.1 (by decide +kernel))
    have hi6 : i + 6 ≤ L := by
      rw [Int32.lt_iff_toInt_lt, hdif, hni] at h
      omega
    -- what comes behind a case
    have hT : ∀ (ws1 : va_W) (hh1 : sx_H) (H1 : Heap) (locs1 : List Loc) (ls1 : Array Slot) (nc1 ns1 : Nat), nc1 ≤ nc + 1 → ns1 ≤ ns + 6 → lv_has ls1 7 [(4, .int (nI i)), (3, .ref ao), (2, .ref am), (1, .ref ax), (0, .ref b)] → sw_Wd D dA ad (lw_A s) s ws1 hh1 H1 locs1 → sw_K hh1 → W p l e room_1 s m #[Value.ref b] below meth c H1 locs1 nc1 ns1 (lw_Z below #[Value.ref b] s) (F0 m 652 ls1 []) := by
      intro ws1 hh1 H1 locs1 ls1 nc1 ns1 k1 k2 hl1 hW1 hI1
      refine lv_iinc (n := 6) (k := 0) (v := nI (i + 6)) (lv' := [(4, .int (nI (i + 6))), (3, .ref ao), (2, .ref am), (1, .ref ax), (0, .ref b)]) X.1.1.1 X.1.1.2.1 (by decide +kernel) hl1 rfl ?_ (by decide) rfl (fun ls2 hl2 => ?_)
      · apply Int32.toInt_inj.mp
        have e6 : (Int32.ofInt 6).toInt = 6 := by decide +kernel
        rw [Int32.toInt_add, nI_toInt (by omega), nI_toInt (by omega), e6]
        have h9 : ((i : Int) + 6).bmod (2 ^ 32) = (i : Int) + 6 := ev_bm (by omega) (by omega)
        rw [h9]
        omega
      refine lv_goto (off := ((23 : Nat) : Int) - ((655 : Nat) : Int)) (tgt := 23) X.1.1.1 X.1.1.2.1 (sy_d167 (sy_bj_r lw_by (k := 655) (op := 167) (t := 23) rfl).1 (sy_bj_r lw_by (k := 655) (op := 167) (t := 23) rfl).2) (by decide) ?_
      exact sw_loop l C0 hfl hL X ha hm hao n (i + 6) ws1 hh1 H1 locs1 ls2 nc1 ns1 (by omega) hi6 hl2 hW1 hI1 (by omega) (by omega)
    refine lv_aload_n (k := 0) X.1.1.1 X.1.1.2.1 (sy_d42 (sy_i1_r lw_by (k := 33) (v := 42) rfl)) rfl (lv_at hl 4 rfl) ?_
    refine lv_iload (i := 4) X.1.1.1 X.1.1.2.1 (sy_d21 (sy_i1_r lw_by (k := 34) (v := 21) rfl) (sy_i1_r lw_by (k := 35) (v := 4) rfl)) (lv_at hl 0 rfl) ?_
    refine va_sld X.1.1.1 X.1.1.2.1 hX hbl (lw_nA hbl) hW.2.2.2 (vp_in_nI (n := i) (by omega) (by omega)) (sy_d46 (sy_i1_r lw_by (k := 36) (v := 46) rfl)) ?_
    refine lv_bipush (n := 31) (v := nI 31) X.1.1.1 X.1.1.2.1 (by decide +kernel) (by decide +kernel) ?_
    refine lv_iand X.1.1.1 X.1.1.2.1 (sy_d126 (sy_i1_r lw_by (k := 39) (v := 126) rfl)) ?_
    generalize hv : xs (Int32.toNatClampNeg (nI i)) &&& nI 31 = v
    have hin : ev_in (ev_fand ev_full (0, 2147483679, 2147483679)) v := by rw [← hv]; exact ev_fand_in (ev_full_in _) (ev_in_eq (ev_sx_nI (by decide)))
    have hr : 0 ≤ v.toInt ∧ v.toInt ≤ 31 := by
      have e1 : ev_fand ev_full (0, 2147483679, 2147483679) = (0, 2147483648, 2147483679) := by decide +kernel
      rw [e1] at hin
      obtain ⟨a, b⟩ := hin
      have e2 := ev_sx_eq v
      have a : 2147483648 ≤ ev_sx v := a
      have b : ev_sx v ≤ 2147483679 := b
      omega
    by_cases hd : 16 < v.toInt
    · refine lv_tableOut (dflt := 612) (lo := 0) (hi := 16) (offs := #[84, 157, 182, 207, 220, 269, 282, 305, 318, 379, 407, 432, 457, 482, 507, 535, 587]) (len := 84) (tgt := 652) X.1.1.1 X.1.1.2.1 (by decide +kernel) (Or.inr hd) (by decide) ?_
      exact hT ws hh H locs ls nc ns (by omega) (by omega) hl hW hI
    obtain ⟨k, hk⟩ : ∃ k : Nat, v.toInt = (k : Int) := ⟨v.toInt.toNat, by omega⟩
    have hk17 : k < 17 := by omega
    have hf : nc ≤ room_1.cells ∧ ns ≤ room_1.slots := ⟨by omega, by omega⟩
    have hf1 : nc + 1 ≤ room_1.cells ∧ ns + 6 ≤ room_1.slots := ⟨by omega, by omega⟩
    have hLL : L < 2147483648 := by omega
    have kk := fun ws1 hh1 H1 locs1 q1 q2 => hT ws1 hh1 H1 locs1 ls nc ns (by omega) (by omega) hl q1 q2
    have kk1 := fun ws1 hh1 H1 locs1 ls1 q0 q1 q2 => hT ws1 hh1 H1 locs1 ls1 (nc + 1) (ns + 6) (Nat.le_refl _) (Nat.le_refl _) q0 q1 q2
    match k, hk17, hk with
    | 0, _, hk =>
      refine lv_tableIn (dflt := 612) (lo := 0) (hi := 16) (offs := #[84, 157, 182, 207, 220, 269, 282, 305, 318, 379, 407, 432, 457, 482, 507, 535, 587]) (len := 84) (off := 84) (tgt := 124) X.1.1.1 X.1.1.2.1 (by decide +kernel) (by omega) (by omega) (by rw [hk]; rfl) (by decide) ?_
      exact sw_c0 C0 X hi6 hLL hl ha hm hf hW hI kk
    | 1, _, hk =>
      refine lv_tableIn (dflt := 612) (lo := 0) (hi := 16) (offs := #[84, 157, 182, 207, 220, 269, 282, 305, 318, 379, 407, 432, 457, 482, 507, 535, 587]) (len := 84) (off := 157) (tgt := 197) X.1.1.1 X.1.1.2.1 (by decide +kernel) (by omega) (by omega) (by rw [hk]; rfl) (by decide) ?_
      exact sw_c1 C0 X hi6 hLL hl ha hm hf hW hI kk
    | 2, _, hk =>
      refine lv_tableIn (dflt := 612) (lo := 0) (hi := 16) (offs := #[84, 157, 182, 207, 220, 269, 282, 305, 318, 379, 407, 432, 457, 482, 507, 535, 587]) (len := 84) (off := 182) (tgt := 222) X.1.1.1 X.1.1.2.1 (by decide +kernel) (by omega) (by omega) (by rw [hk]; rfl) (by decide) ?_
      exact sw_c2 C0 X hi6 hLL hl ha hm hf hW hI kk
    | 3, _, hk =>
      refine lv_tableIn (dflt := 612) (lo := 0) (hi := 16) (offs := #[84, 157, 182, 207, 220, 269, 282, 305, 318, 379, 407, 432, 457, 482, 507, 535, 587]) (len := 84) (off := 207) (tgt := 247) X.1.1.1 X.1.1.2.1 (by decide +kernel) (by omega) (by omega) (by rw [hk]; rfl) (by decide) ?_
      exact sw_c3 C0 X hi6 hLL hl ha hm hf hW hI kk
    | 4, _, hk =>
      refine lv_tableIn (dflt := 612) (lo := 0) (hi := 16) (offs := #[84, 157, 182, 207, 220, 269, 282, 305, 318, 379, 407, 432, 457, 482, 507, 535, 587]) (len := 84) (off := 220) (tgt := 260) X.1.1.1 X.1.1.2.1 (by decide +kernel) (by omega) (by omega) (by rw [hk]; rfl) (by decide) ?_
      exact sw_c4 C0 X hi6 hLL hl ha hm hf hW hI kk
    | 5, _, hk =>
      refine lv_tableIn (dflt := 612) (lo := 0) (hi := 16) (offs := #[84, 157, 182, 207, 220, 269, 282, 305, 318, 379, 407, 432, 457, 482, 507, 535, 587]) (len := 84) (off := 269) (tgt := 309) X.1.1.1 X.1.1.2.1 (by decide +kernel) (by omega) (by omega) (by rw [hk]; rfl) (by decide) ?_
      exact sw_c5 C0 X hi6 hLL hl ha hm hf hW hI kk
    | 6, _, hk =>
      refine lv_tableIn (dflt := 612) (lo := 0) (hi := 16) (offs := #[84, 157, 182, 207, 220, 269, 282, 305, 318, 379, 407, 432, 457, 482, 507, 535, 587]) (len := 84) (off := 282) (tgt := 322) X.1.1.1 X.1.1.2.1 (by decide +kernel) (by omega) (by omega) (by rw [hk]; rfl) (by decide) ?_
      exact sw_c6 C0 X hi6 hLL hl ha hm hf hW hI kk
    | 7, _, hk =>
      refine lv_tableIn (dflt := 612) (lo := 0) (hi := 16) (offs := #[84, 157, 182, 207, 220, 269, 282, 305, 318, 379, 407, 432, 457, 482, 507, 535, 587]) (len := 84) (off := 305) (tgt := 345) X.1.1.1 X.1.1.2.1 (by decide +kernel) (by omega) (by omega) (by rw [hk]; rfl) (by decide) ?_
      exact sw_c7 C0 X hi6 hLL hl ha hm hf hW hI kk
    | 8, _, hk =>
      refine lv_tableIn (dflt := 612) (lo := 0) (hi := 16) (offs := #[84, 157, 182, 207, 220, 269, 282, 305, 318, 379, 407, 432, 457, 482, 507, 535, 587]) (len := 84) (off := 318) (tgt := 358) X.1.1.1 X.1.1.2.1 (by decide +kernel) (by omega) (by omega) (by rw [hk]; rfl) (by decide) ?_
      exact sw_c8 C0 X hi6 hLL hl ha hm hf hW hI kk
    | 9, _, hk =>
      refine lv_tableIn (dflt := 612) (lo := 0) (hi := 16) (offs := #[84, 157, 182, 207, 220, 269, 282, 305, 318, 379, 407, 432, 457, 482, 507, 535, 587]) (len := 84) (off := 379) (tgt := 419) X.1.1.1 X.1.1.2.1 (by decide +kernel) (by omega) (by omega) (by rw [hk]; rfl) (by decide) ?_
      by_cases g : 0 ≤ (xs (i + 1)).toInt ∧ (xs (i + 1)).toInt ≤ 3
      · exact sw_c9i C0 hfl X hi6 hLL hl ha hm hao hf1 hW hI kk1 g
      · refine sw_c9o C0 hfl X hi6 hLL hl ha hm hao hf1 hW hI kk1 ?_
        by_cases g1 : (xs (i + 1)).toInt < 0
        · exact Or.inl (sw_lt (by rw [sw_0]; exact g1))
        · exact Or.inr (sw_lt (by rw [nI_toInt (by decide)]; omega))
    | 10, _, hk =>
      refine lv_tableIn (dflt := 612) (lo := 0) (hi := 16) (offs := #[84, 157, 182, 207, 220, 269, 282, 305, 318, 379, 407, 432, 457, 482, 507, 535, 587]) (len := 84) (off := 407) (tgt := 447) X.1.1.1 X.1.1.2.1 (by decide +kernel) (by omega) (by omega) (by rw [hk]; rfl) (by decide) ?_
      exact sw_c10 C0 X hi6 hLL hl ha hm hf hW hI kk
    | 11, _, hk =>
      refine lv_tableIn (dflt := 612) (lo := 0) (hi := 16) (offs := #[84, 157, 182, 207, 220, 269, 282, 305, 318, 379, 407, 432, 457, 482, 507, 535, 587]) (len := 84) (off := 432) (tgt := 472) X.1.1.1 X.1.1.2.1 (by decide +kernel) (by omega) (by omega) (by rw [hk]; rfl) (by decide) ?_
      exact sw_c11 C0 X hi6 hLL hl ha hm hf hW hI kk
    | 12, _, hk =>
      refine lv_tableIn (dflt := 612) (lo := 0) (hi := 16) (offs := #[84, 157, 182, 207, 220, 269, 282, 305, 318, 379, 407, 432, 457, 482, 507, 535, 587]) (len := 84) (off := 457) (tgt := 497) X.1.1.1 X.1.1.2.1 (by decide +kernel) (by omega) (by omega) (by rw [hk]; rfl) (by decide) ?_
      exact sw_c12 C0 X hi6 hLL hl ha hm hf hW hI kk
    | 13, _, hk =>
      refine lv_tableIn (dflt := 612) (lo := 0) (hi := 16) (offs := #[84, 157, 182, 207, 220, 269, 282, 305, 318, 379, 407, 432, 457, 482, 507, 535, 587]) (len := 84) (off := 482) (tgt := 522) X.1.1.1 X.1.1.2.1 (by decide +kernel) (by omega) (by omega) (by rw [hk]; rfl) (by decide) ?_
      exact sw_c13 C0 X hi6 hLL hl ha hm hf hW hI kk
    | 14, _, hk =>
      refine lv_tableIn (dflt := 612) (lo := 0) (hi := 16) (offs := #[84, 157, 182, 207, 220, 269, 282, 305, 318, 379, 407, 432, 457, 482, 507, 535, 587]) (len := 84) (off := 507) (tgt := 547) X.1.1.1 X.1.1.2.1 (by decide +kernel) (by omega) (by omega) (by rw [hk]; rfl) (by decide) ?_
      by_cases g : 0 ≤ (xs (i + 1)).toInt ∧ (xs (i + 1)).toInt ≤ 17
      · exact sw_c14i C0 hfl X hi6 hLL hl ha hm hao hf1 hW hI kk1 g
      · refine sw_c14o C0 hfl X hi6 hLL hl ha hm hao hf1 hW hI kk1 ?_
        by_cases g1 : (xs (i + 1)).toInt < 0
        · exact Or.inl (sw_lt (by rw [sw_0]; exact g1))
        · exact Or.inr (sw_lt (by rw [nI_toInt (by decide)]; omega))
    | 15, _, hk =>
      refine lv_tableIn (dflt := 612) (lo := 0) (hi := 16) (offs := #[84, 157, 182, 207, 220, 269, 282, 305, 318, 379, 407, 432, 457, 482, 507, 535, 587]) (len := 84) (off := 535) (tgt := 575) X.1.1.1 X.1.1.2.1 (by decide +kernel) (by omega) (by omega) (by rw [hk]; rfl) (by decide) ?_
      by_cases g : 0 ≤ (xs (i + 1)).toInt ∧ (xs (i + 1)).toInt ≤ 63
      · by_cases g2 : 0 ≤ (xs (i + 2)).toInt ∧ (xs (i + 2)).toInt ≤ 255
        · exact sw_c15i C0 hfl X hi6 hLL hl ha hm hao hf1 hW hI kk1 g g2
        · refine sw_c15o C0 hfl X hi6 hLL hl ha hm hao hf1 hW hI kk1 ?_
          by_cases g1 : (xs (i + 2)).toInt < 0
          · exact Or.inr (Or.inr (Or.inl (sw_lt (by rw [sw_0]; exact g1))))
          · exact Or.inr (Or.inr (Or.inr (sw_lt (by rw [nI_toInt (by decide)]; omega))))
      · refine sw_c15o C0 hfl X hi6 hLL hl ha hm hao hf1 hW hI kk1 ?_
        by_cases g1 : (xs (i + 1)).toInt < 0
        · exact Or.inl (sw_lt (by rw [sw_0]; exact g1))
        · exact Or.inr (Or.inl (sw_le (by rw [nI_toInt (by decide)]; omega)))
    | 16, _, hk =>
      refine lv_tableIn (dflt := 612) (lo := 0) (hi := 16) (offs := #[84, 157, 182, 207, 220, 269, 282, 305, 318, 379, 407, 432, 457, 482, 507, 535, 587]) (len := 84) (off := 587) (tgt := 627) X.1.1.1 X.1.1.2.1 (by decide +kernel) (by omega) (by omega) (by rw [hk]; rfl) (by decide) ?_
      exact sw_c16 C0 X hi6 hLL hl ha hm hf hW hI kk
    | k + 17, h, _ => omega
theorem sw_law {p : Program} {e : Env} {s : State} {m : MethodId} {below : List Frame} {meth : Method} {c : Code} (l : Launch) {b L : Nat} {xs : Nat → Int32} (hL : L ≤ 3072) (C0 : lw_At p s m meth c b L xs) (hfl : l.flags = pinnedFlags ++ [noTraceFlag]) : W p l e room_1 s m #[Value.ref b] below meth c s.heap [] 0 0 (lw_Z below #[Value.ref b] s) (entryFrame m ([Value.ref b] : List Value).toArray 7) := by
  obtain ⟨D, dA, X0⟩ := lw_X C0
  refine lw_begin l C0 X0 (fun ws H locs ls ax am ao hl ha hm hao hW => ?_)
  have hts := C0.2.2.2.2.2.1
  obtain ⟨ts, hTs⟩ := sw_Tbs hts C0.2.2.2.2.2.2.2.2.2
  have hlen : (ws.map Prod.fst).length = 793 := by
    rw [List.length_map, ← hW.1.1, ct_lwm]
  have hext : ev_ext (ws.map Prod.fst) (ws.map Prod.fst ++ ts) := ev_ext.app _ _
  obtain ⟨hh, h1, h2⟩ := sw_world sw_sg sw_ck hW.1 hext
  have X : sx_X p s m #[Value.ref b] c D ct_cl dA ct_kt sz_T sy_tb sw_kd (ws.map Prod.fst ++ ts) (lw_A s) sy_gs R_law code 7 := ⟨⟨⟨X0.1.1, X0.1.2.1, X0.1.2.2.1, X0.1.2.2.2.1, fun w hw => hts w (sy_tbl w hw)⟩, X0.2.1, X0.2.2.1, X0.2.2.2⟩, hTs _ hlen, sw_sg⟩
  exact sw_loop l C0 hfl hL X (hext _ _ ha) (hext _ _ hm) (hext _ _ hao) (L + 1) 0 ws hh H locs ls 793 215028 (by omega) (Nat.zero_le _) hl ⟨h1, hW.2.1, hW.2.2.1, hW.2.2.2⟩ (sw_K0 h1 hW.1 (sw_I0 h2)) (by omega) (by omega)
/-! The claim, out of the law's walk: the skeleton's rows, with the launch's flags -/
set_option maxHeartbeats 4000000 in
theorem lw_walk (l : Launch) (hfl : l.flags = pinnedFlags ++ [noTraceFlag]) (b : Addr) (xs : List Int32) : MetFree l x (headSpec (Jvm.Cond.code x code maxLocals ret :: tables_1) room_1) (lw_P b xs) (fun _ _ _ _ _ => True) lw_Q := by
  refine MetFree.of_bodyS (code := code) (maxLocals := maxLocals) (ret := ret) (by decide) ?_ ?_
  · intro args s m h hn
    obtain ⟨meth, c, h1, h2, h3, h4, h5, h6, -, -⟩ := Cond.code_spec hn (atoms_spec (ws := Jvm.Cond.code x code maxLocals ret :: tables_1) h _ List.mem_cons_self)
    exact ⟨meth, c, h1, h2, h3, h4, h5, h6⟩
  · intro p e s m args below meth c s₁ B hml0 hP _
    obtain ⟨rfl, hx, hbd, hgv⟩ := hP
    obtain ⟨scr, harrAt, hlist, hof, hsmall⟩ := hx
    obtain ⟨hcb, hkn, -, -⟩ := State.arrayAt?_spec harrAt
    have hown : s.vm.findClass R_law = some m.cls := findClass_of_methodNamed B.named
    have hts0 : ∀ c ∈ (Jvm.Cond.code x code maxLocals ret :: tables_1), c.before #[Value.ref b] s = true := atoms_spec (ws := Jvm.Cond.code x code maxLocals ret :: tables_1) B.pre
    have hts : ∀ w ∈ lw_tbl, w.before #[Value.ref b] s = true := k2_hts_sels lw_privs (fun w hw => hts0 w (List.mem_cons_of_mem _ hw)) lw_privs_ok
    have hml : c.maxLocals = 7 := B.maxLocals_eq (hts0 _ List.mem_cons_self)
    have X₀ : Stand p l e room_1 s m #[Value.ref b] below meth c s₁ [] 0 0 := Stand.of_body B
    have hh0 : s₁.heap = s.heap := by rw [B.state]; rfl
    have hsz : scr.slots.size = xs.length := by rw [← Array.length_toList, hlist, List.length_map]
    have hval : ∀ j : Nat, j < xs.length → scr.slots[j]? = some (.int (xs.getD j 0)) := fun j hj => by
      rw [← Array.getElem?_toList, hlist]
      simp [hj]
    have hbl : b < s.heap.size := (Array.getElem?_eq_some_iff.mp hcb).1
    have hX : va_X b xs.length (fun j => xs.getD j 0) s s.heap := ⟨scr, hcb, hof, hkn, hsz, hval⟩
    have K : W p l e room_1 s m #[Value.ref b] below meth c s₁.heap [] 0 0 (lw_Z below #[Value.ref b] s) (entryFrame m ([Value.ref b] : List Value).toArray 7) := by
      rw [hh0]
      exact sw_law l hbd ⟨B.exec, B.bytes, B.returns, hml, hown, hts, hX, hbl, B.notSynchronized, hgv⟩ hfl
    obtain ⟨t, a1, o, b1, b2, b3⟩ := K s₁ rfl X₀
    exact ⟨t, o, a1, b1, b2, b3⟩
theorem lw_pre_spec {args : Array Value} {s : State} (h : (Jvm.Cond.and given_1 narrow_1).before args s = true) (hr : rest_1_c.before args s = true) : ∃ (b : Addr) (xs : List Int32), lw_P b xs args s := by
  have hs := flat_of_before _ h
  have hq := flat_of_before _ hr
  have hc : (Cond.count 1).before args s = true := hs _ (by decide +kernel)
  have harr : (Cond.arrayOf (.arg 0) .int).before args s = true := hs _ (by decide +kernel)
  have hle : (Cond.le (.length (.arg 0)) (.int 3072)).before args s = true := hs _ (by decide +kernel)
  have hlen : (Cond.isInt (.length (.arg 0))).before args s = true := hq _ (by decide +kernel)
  have hall : (Cond.all (.arg 0) (.isInt (.elem (.arg 0) (.index 0)))).before args s = true := hq _ (by decide +kernel)
  obtain ⟨b, xs, hb, hx⟩ := State.ints_of_pre rfl harr hlen hall
  have hsm : xs.length < 2 ^ 31 := hx.choose_spec.2.2.2
  have hev : (Term.length (.arg 0)).eval args s none [] s = some (.int xs.length.toInt32) := hx.length_eval hb
  have hv := Cond.le_ints hev (show (Term.int 3072).eval args s none [] s = some (.int 3072) from rfl)
  have hd : xs.length.toInt32 ≤ 3072 := by
    simpa [Cond.before, Cond.holds, hv] using hle
  have hN : xs.length ≤ 3072 := (Int32.ofNat_le_ofNat hsm (by decide)).mp (show Int32.ofNat xs.length ≤ Int32.ofNat 3072 from hd)
  exact ⟨b, xs, Cond.one_arg hc (show args[0]? = some (.ref b) from hb), hx, hN, h⟩
theorem lw_comes (l : Launch) (hfl : l.flags = pinnedFlags ++ [noTraceFlag]) : Comes l x (Jvm.Cond.code x code maxLocals ret :: tables_1) room_1 (fun tb e args s => Calls_1 tb e args s ∧ rest_1 tb e args s ∧ Pre_1 tb e args s)
    (fun _ _ args s o t => lw_Q args s o t) := by
  intro p e ha hc hk s m args below hf hfit hheap happ hpre
  obtain ⟨b, xs, hP⟩ := lw_pre_spec hpre.2.2 hpre.2.1
  obtain ⟨k, o, h1, h2, h3, hQ⟩ := lw_walk l hfl b xs p e ha hc hk s m args below hf ((Spec.applies_iff_loose hf).mp happ).1 hP trivial
  exact ⟨k, o, h1, h2, h3, hQ⟩
theorem lw_frame {s t : State} {o : Outcome} {args : Array Value} (h : Framed s o t [] 601024 7293034) :
    Framed s o t (fieldLocs frame_1_writes args s ++ arrayLocs frame_1_arrays args s ++ staticLocs frame_1_statics s) 601024 7293034 := h
theorem lw_limb (L : Cond) (hL : ∀ (args : Array Value) (s t : State), L.after args s (.returned (some (.int 1))) t = true) :
    ArmFor flags0 classFile x code maxLocals ret World_1 tables_1 room_1 Calls_1 rest_1 Pre_1
      (fun tb e a s o t => postC L tb e a s o t ∧ Framed s o t (fieldLocs frame_1_writes a s ++ arrayLocs frame_1_arrays a s ++ staticLocs frame_1_statics s) 601024 7293034) := by
  intro l hfl _ _ p e ha hc hk s m args below hf hfit hheap happ hpre
  obtain ⟨k, o, h1, h2, h3, rfl, hF⟩ := lw_comes l hfl p e ha hc hk s m args below hf hfit hheap happ hpre
  exact ⟨k, _, h1, h2, h3, hL args s _, lw_frame hF⟩
theorem i_vc : Claimed_1_1 ∧ Claimed_1_2 := ⟨lw_limb limb_1_1 (fun args s t => by simp [limb_1_1, Cond.after, Cond.holds, Cond.value]), lw_limb limb_1_2 (fun args s t => Cond.after_iff.mpr (by
  first | (rw [show limb_1_2 = Cond.eq .result (.int 1) from rfl, Cond.eq_ints (x := 1) (y := 1) rfl rfl]; simp; done) | (simp [limb_1_2, Cond.value, Term.eval]; done)))⟩
