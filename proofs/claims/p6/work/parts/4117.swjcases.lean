/-! The law: a case a call. Written by a program (wip/start/genJ.py). -/
def lw_bs : List (List Nat) := [[187, 0, 8, 89, 183, 0, 24, 76, 187, 0, 25, 89, 183, 0, 27, 77], [4, 188, 11, 78, 3, 54, 4, 21, 4, 42, 190, 16, 6, 100, 163, 2], [116, 42, 21, 4, 46, 16, 31, 126, 170, 0, 0, 0, 0, 0, 2, 100], [0, 0, 0, 0, 0, 0, 0, 16, 0, 0, 0, 84, 0, 0, 0, 157], [0, 0, 0, 182, 0, 0, 0, 207, 0, 0, 0, 220, 0, 0, 1, 13], [0, 0, 1, 26, 0, 0, 1, 49, 0, 0, 1, 62, 0, 0, 1, 123], [0, 0, 1, 151, 0, 0, 1, 176, 0, 0, 1, 201, 0, 0, 1, 226], [0, 0, 1, 251, 0, 0, 2, 23, 0, 0, 2, 75, 43, 42, 21, 4], [4, 96, 46, 42, 21, 4, 5, 96, 46, 42, 21, 4, 6, 96, 46, 42], [21, 4, 7, 96, 46, 42, 21, 4, 8, 96, 46, 182, 0, 28, 87, 44], [42, 21, 4, 4, 96, 46, 42, 21, 4, 5, 96, 46, 42, 21, 4, 6], [96, 46, 42, 21, 4, 7, 96, 46, 42, 21, 4, 8, 96, 46, 182, 0], [32, 87, 167, 1, 202, 43, 42, 21, 4, 4, 96, 46, 182, 0, 33, 87], [44, 42, 21, 4, 4, 96, 46, 182, 0, 37, 87, 167, 1, 177, 43, 42], [21, 4, 4, 96, 46, 182, 0, 38, 87, 44, 42, 21, 4, 4, 96, 46], [182, 0, 41, 87, 167, 1, 152, 43, 182, 0, 42, 87, 44, 182, 0, 46], [87, 167, 1, 139, 43, 42, 21, 4, 4, 96, 46, 42, 21, 4, 5, 96], [46, 42, 21, 4, 6, 96, 46, 182, 0, 47, 44, 42, 21, 4, 4, 96], [46, 42, 21, 4, 5, 96, 46, 42, 21, 4, 6, 96, 46, 182, 0, 51], [159, 1, 92, 3, 172, 43, 182, 0, 52, 87, 44, 182, 0, 55, 87, 167], [1, 77, 43, 42, 21, 4, 4, 96, 46, 182, 0, 56, 44, 42, 21, 4], [4, 96, 46, 182, 0, 60, 167, 1, 54, 43, 182, 0, 61, 87, 44, 182], [0, 64, 87, 167, 1, 41, 43, 42, 21, 4, 4, 96, 46, 42, 21, 4], [5, 96, 46, 42, 21, 4, 6, 96, 46, 42, 21, 4, 7, 96, 46, 182], [0, 65, 87, 44, 42, 21, 4, 4, 96, 46, 42, 21, 4, 5, 96, 46], [42, 21, 4, 6, 96, 46, 42, 21, 4, 7, 96, 46, 182, 0, 69, 87], [167, 0, 236, 43, 42, 21, 4, 4, 96, 46, 45, 184, 0, 70, 54, 5], [44, 42, 21, 4, 4, 96, 46, 182, 0, 75, 54, 6, 167, 0, 208, 43], [42, 21, 4, 4, 96, 46, 182, 0, 76, 87, 44, 42, 21, 4, 4, 96], [46, 182, 0, 79, 87, 167, 0, 183, 43, 42, 21, 4, 4, 96, 46, 182], [0, 80, 87, 44, 42, 21, 4, 4, 96, 46, 182, 0, 83, 87, 167, 0], [158, 43, 42, 21, 4, 4, 96, 46, 182, 0, 84, 87, 44, 42, 21, 4], [4, 96, 46, 182, 0, 87, 87, 167, 0, 133, 43, 42, 21, 4, 4, 96], [46, 182, 0, 88, 87, 44, 42, 21, 4, 4, 96, 46, 182, 0, 91, 87], [167, 0, 108, 43, 42, 21, 4, 4, 96, 46, 45, 184, 0, 92, 54, 5], [44, 42, 21, 4, 4, 96, 46, 182, 0, 94, 54, 6, 167, 0, 80, 43], [42, 21, 4, 4, 96, 46, 42, 21, 4, 5, 96, 46, 42, 21, 4, 6], [96, 46, 45, 184, 0, 95, 54, 5, 44, 42, 21, 4, 4, 96, 46, 42], [21, 4, 5, 96, 46, 42, 21, 4, 6, 96, 46, 182, 0, 98, 54, 6], [167, 0, 28, 43, 42, 21, 4, 4, 96, 46, 182, 0, 99, 87, 44, 42], [21, 4, 4, 96, 46, 182, 0, 102, 87, 167, 0, 3, 132, 4, 6, 167], [253, 136, 4, 172]]
set_option maxRecDepth 100000 in
theorem lw_by : sy_By code lw_bs := sy_bc_r (by decide +kernel)
theorem lw_nA {s : State} {b : Nat} (h : b < s.heap.size) : ¬ lw_A s b := fun q => by
  have q : s.heap.size ≤ b := q
  omega
theorem sw_c0 {p : Program} {l : Launch} {e : Env} {s : State} {m : MethodId} {below : List Frame} {meth : Method} {c : Code} {b L : Nat} {xs : Nat → Int32} (C0 : lw_At p s m meth c b L xs) {D : va_G} {dA : Nat → ClassId} {ad : List Nat} (X : sx_X p s m #[Value.ref b] c D ct_cl dA ct_kt sz_T sy_tb sw_kd ad (lw_A s) sy_gs R_law code 7) {Q : State → Prop} {i : Nat} (hi : i + 6 ≤ L) (hL : L < 2147483648) {ls : Array Slot} {ax am ao : Nat} (hl : lv_has ls 7 [(4, .int (nI i)), (3, .ref ao), (2, .ref am), (1, .ref ax), (0, .ref b)]) (ha : ad[0]? = some ax) (hm : ad[692]? = some am) {ws : va_W} {hh : sx_H} {H : Heap} {locs : List Loc} {nc ns : Nat} (hf : nc ≤ room_1.cells ∧ ns ≤ room_1.slots) (hW : sw_Wd D dA ad (lw_A s) s ws hh H locs) (hK : sw_K hh)
    (kk : ∀ (ws1 : va_W) (hh1 : sx_H) (H1 : Heap) (locs1 : List Loc), sw_Wd D dA ad (lw_A s) s ws1 hh1 H1 locs1 → sw_K hh1 → W p l e room_1 s m #[Value.ref b] below meth c H1 locs1 nc ns Q (F0 m 652 ls [])) : W p l e room_1 s m #[Value.ref b] below meth c H locs nc ns Q (F0 m 124 ls []) := by
  have hts := C0.2.2.2.2.2.1
  have hX := C0.2.2.2.2.2.2.1
  have hbl := C0.2.2.2.2.2.2.2.1
  obtain ⟨hI, o, hT, hR⟩ := hK
  have hz := jT_z hT
  refine lv_aload_n (k := 1) X.1.1.1 X.1.1.2.1 (sy_d43 (sy_i1_r lw_by (k := 124) (v := 43) rfl)) rfl (lv_at hl 3 rfl) ?_
  refine sw_scr (k0 := 4) (k4 := 0) (j := 1) X.1.1.1 X.1.1.2.1 hX hbl (lw_nA hbl) hW.2.2.2 hl rfl rfl (by omega) hL (sy_d42 (sy_i1_r lw_by (k := 125) (v := 42) rfl)) (sy_d21 (sy_i1_r lw_by (k := 126) (v := 21) rfl) (sy_i1_r lw_by (k := 127) (v := 4) rfl)) (sy_d4 (sy_i1_r lw_by (k := 128) (v := 4) rfl)) (sy_d96 (sy_i1_r lw_by (k := 129) (v := 96) rfl)) (sy_d46 (sy_i1_r lw_by (k := 130) (v := 46) rfl)) ?_
  refine sw_scr (k0 := 4) (k4 := 0) (j := 2) X.1.1.1 X.1.1.2.1 hX hbl (lw_nA hbl) hW.2.2.2 hl rfl rfl (by omega) hL (sy_d42 (sy_i1_r lw_by (k := 131) (v := 42) rfl)) (sy_d21 (sy_i1_r lw_by (k := 132) (v := 21) rfl) (sy_i1_r lw_by (k := 133) (v := 4) rfl)) (sy_d5 (sy_i1_r lw_by (k := 134) (v := 5) rfl)) (sy_d96 (sy_i1_r lw_by (k := 135) (v := 96) rfl)) (sy_d46 (sy_i1_r lw_by (k := 136) (v := 46) rfl)) ?_
  refine sw_scr (k0 := 4) (k4 := 0) (j := 3) X.1.1.1 X.1.1.2.1 hX hbl (lw_nA hbl) hW.2.2.2 hl rfl rfl (by omega) hL (sy_d42 (sy_i1_r lw_by (k := 137) (v := 42) rfl)) (sy_d21 (sy_i1_r lw_by (k := 138) (v := 21) rfl) (sy_i1_r lw_by (k := 139) (v := 4) rfl)) (sy_d6 (sy_i1_r lw_by (k := 140) (v := 6) rfl)) (sy_d96 (sy_i1_r lw_by (k := 141) (v := 96) rfl)) (sy_d46 (sy_i1_r lw_by (k := 142) (v := 46) rfl)) ?_
  refine sw_scr (k0 := 4) (k4 := 0) (j := 4) X.1.1.1 X.1.1.2.1 hX hbl (lw_nA hbl) hW.2.2.2 hl rfl rfl (by omega) hL (sy_d42 (sy_i1_r lw_by (k := 143) (v := 42) rfl)) (sy_d21 (sy_i1_r lw_by (k := 144) (v := 21) rfl) (sy_i1_r lw_by (k := 145) (v := 4) rfl)) (sy_d7 (sy_i1_r lw_by (k := 146) (v := 7) rfl)) (sy_d96 (sy_i1_r lw_by (k := 147) (v := 96) rfl)) (sy_d46 (sy_i1_r lw_by (k := 148) (v := 46) rfl)) ?_
  refine sw_scr (k0 := 4) (k4 := 0) (j := 5) X.1.1.1 X.1.1.2.1 hX hbl (lw_nA hbl) hW.2.2.2 hl rfl rfl (by omega) hL (sy_d42 (sy_i1_r lw_by (k := 149) (v := 42) rfl)) (sy_d21 (sy_i1_r lw_by (k := 150) (v := 21) rfl) (sy_i1_r lw_by (k := 151) (v := 4) rfl)) (sy_d8 (sy_i1_r lw_by (k := 152) (v := 8) rfl)) (sy_d96 (sy_i1_r lw_by (k := 153) (v := 96) rfl)) (sy_d46 (sy_i1_r lw_by (k := 154) (v := 46) rfl)) ?_
  have hPg1 : sy_pg[1]? = some ((sy_my 0 17 18, prog_1_method_2_code, 6, (some .boolean)), sy_c1) := rfl
  refine sw_VP (ys := [.int (xs (i + 5)), .int (xs (i + 4)), .int (xs (i + 3)), .int (xs (i + 2)), .int (xs (i + 1))]) (rs := []) (n := 5) X (jo_T_feed (l := l) (D := D) (dA := dA) ha hI hT hR) (sy_okDD.2 1 _ _ _ _ _ hPg1) (sy_hgm 12 _ rfl) (hts _ (ev_wd_in (h := 2165) rfl)) (sy_hgm 13 _ rfl) (sy_hgm 14 _ rfl) (by decide +kernel) (j9 := 0) rfl ha rfl rfl rfl hW rfl hl.1 (Nat.le_of_ble_eq_true rfl) (sy_d182 (sy_b3_r lw_by (k := 155) (op := 182) (n := 28) rfl).1 (sy_b3_r lw_by (k := 155) (op := 182) (n := 28) rfl).2) hf (fun rv1 u1 h1 H1 locs1 P1 d1 => ?_)
  obtain ⟨hI1, hT1, hR1, sh1⟩ := P1
  obtain ⟨v1, rfl⟩ := sh1
  refine lv_pop X.1.1.1 X.1.1.2.1 (sy_d87 (sy_i1_r lw_by (k := 158) (v := 87) rfl)) rfl ?_
  refine lv_aload_n (k := 2) X.1.1.1 X.1.1.2.1 (sy_d44 (sy_i1_r lw_by (k := 159) (v := 44) rfl)) rfl (lv_at hl 2 rfl) ?_
  refine sw_scr (k0 := 4) (k4 := 0) (j := 1) X.1.1.1 X.1.1.2.1 hX hbl (lw_nA hbl) d1.2.2.2 hl rfl rfl (by omega) hL (sy_d42 (sy_i1_r lw_by (k := 160) (v := 42) rfl)) (sy_d21 (sy_i1_r lw_by (k := 161) (v := 21) rfl) (sy_i1_r lw_by (k := 162) (v := 4) rfl)) (sy_d4 (sy_i1_r lw_by (k := 163) (v := 4) rfl)) (sy_d96 (sy_i1_r lw_by (k := 164) (v := 96) rfl)) (sy_d46 (sy_i1_r lw_by (k := 165) (v := 46) rfl)) ?_
  refine sw_scr (k0 := 4) (k4 := 0) (j := 2) X.1.1.1 X.1.1.2.1 hX hbl (lw_nA hbl) d1.2.2.2 hl rfl rfl (by omega) hL (sy_d42 (sy_i1_r lw_by (k := 166) (v := 42) rfl)) (sy_d21 (sy_i1_r lw_by (k := 167) (v := 21) rfl) (sy_i1_r lw_by (k := 168) (v := 4) rfl)) (sy_d5 (sy_i1_r lw_by (k := 169) (v := 5) rfl)) (sy_d96 (sy_i1_r lw_by (k := 170) (v := 96) rfl)) (sy_d46 (sy_i1_r lw_by (k := 171) (v := 46) rfl)) ?_
  refine sw_scr (k0 := 4) (k4 := 0) (j := 3) X.1.1.1 X.1.1.2.1 hX hbl (lw_nA hbl) d1.2.2.2 hl rfl rfl (by omega) hL (sy_d42 (sy_i1_r lw_by (k := 172) (v := 42) rfl)) (sy_d21 (sy_i1_r lw_by (k := 173) (v := 21) rfl) (sy_i1_r lw_by (k := 174) (v := 4) rfl)) (sy_d6 (sy_i1_r lw_by (k := 175) (v := 6) rfl)) (sy_d96 (sy_i1_r lw_by (k := 176) (v := 96) rfl)) (sy_d46 (sy_i1_r lw_by (k := 177) (v := 46) rfl)) ?_
  refine sw_scr (k0 := 4) (k4 := 0) (j := 4) X.1.1.1 X.1.1.2.1 hX hbl (lw_nA hbl) d1.2.2.2 hl rfl rfl (by omega) hL (sy_d42 (sy_i1_r lw_by (k := 178) (v := 42) rfl)) (sy_d21 (sy_i1_r lw_by (k := 179) (v := 21) rfl) (sy_i1_r lw_by (k := 180) (v := 4) rfl)) (sy_d7 (sy_i1_r lw_by (k := 181) (v := 7) rfl)) (sy_d96 (sy_i1_r lw_by (k := 182) (v := 96) rfl)) (sy_d46 (sy_i1_r lw_by (k := 183) (v := 46) rfl)) ?_
  refine sw_scr (k0 := 4) (k4 := 0) (j := 5) X.1.1.1 X.1.1.2.1 hX hbl (lw_nA hbl) d1.2.2.2 hl rfl rfl (by omega) hL (sy_d42 (sy_i1_r lw_by (k := 184) (v := 42) rfl)) (sy_d21 (sy_i1_r lw_by (k := 185) (v := 21) rfl) (sy_i1_r lw_by (k := 186) (v := 4) rfl)) (sy_d8 (sy_i1_r lw_by (k := 187) (v := 8) rfl)) (sy_d96 (sy_i1_r lw_by (k := 188) (v := 96) rfl)) (sy_d46 (sy_i1_r lw_by (k := 189) (v := 46) rfl)) ?_
  have hPg2 : sy_pg[196]? = some ((sy_my 12 17 18, prog_14_method_3_code, 8, (some .boolean)), sy_c196) := rfl
  refine sw_VP (ys := [.int (xs (i + 5)), .int (xs (i + 4)), .int (xs (i + 3)), .int (xs (i + 2)), .int (xs (i + 1))]) (rs := []) (n := 5) X (jo_R_feed (l := l) (D := D) (dA := dA) hm hI1 hR1 hT1 hz) (sy_okDD.2 196 _ _ _ _ _ hPg2) (sy_hgm 763 _ rfl) (hts _ (ev_wd_in (h := 9174) rfl)) (sy_hgm 764 _ rfl) (sy_hgm 765 _ rfl) (by decide +kernel) (j9 := 692) sw_k692 hm rfl rfl rfl d1 rfl hl.1 (Nat.le_of_ble_eq_true rfl) (sy_d182 (sy_b3_r lw_by (k := 190) (op := 182) (n := 32) rfl).1 (sy_b3_r lw_by (k := 190) (op := 182) (n := 32) rfl).2) hf (fun rv2 u2 h2 H2 locs2 P2 d2 => ?_)
  obtain ⟨hI2, hR2, hT2, sh2⟩ := P2
  obtain ⟨v2, rfl⟩ := sh2
  refine lv_pop X.1.1.1 X.1.1.2.1 (sy_d87 (sy_i1_r lw_by (k := 193) (v := 87) rfl)) rfl ?_
  refine lv_goto (off := ((652 : Nat) : Int) - ((194 : Nat) : Int)) (tgt := 652) X.1.1.1 X.1.1.2.1 (sy_d167 (sy_bj_r lw_by (k := 194) (op := 167) (t := 652) rfl).1 (sy_bj_r lw_by (k := 194) (op := 167) (t := 652) rfl).2) (by decide) ?_
  exact kk _ _ _ _ d2 ⟨hI2, _, hT2, hR2⟩
theorem sw_c1 {p : Program} {l : Launch} {e : Env} {s : State} {m : MethodId} {below : List Frame} {meth : Method} {c : Code} {b L : Nat} {xs : Nat → Int32} (C0 : lw_At p s m meth c b L xs) {D : va_G} {dA : Nat → ClassId} {ad : List Nat} (X : sx_X p s m #[Value.ref b] c D ct_cl dA ct_kt sz_T sy_tb sw_kd ad (lw_A s) sy_gs R_law code 7) {Q : State → Prop} {i : Nat} (hi : i + 6 ≤ L) (hL : L < 2147483648) {ls : Array Slot} {ax am ao : Nat} (hl : lv_has ls 7 [(4, .int (nI i)), (3, .ref ao), (2, .ref am), (1, .ref ax), (0, .ref b)]) (ha : ad[0]? = some ax) (hm : ad[692]? = some am) {ws : va_W} {hh : sx_H} {H : Heap} {locs : List Loc} {nc ns : Nat} (hf : nc ≤ room_1.cells ∧ ns ≤ room_1.slots) (hW : sw_Wd D dA ad (lw_A s) s ws hh H locs) (hK : sw_K hh)
    (kk : ∀ (ws1 : va_W) (hh1 : sx_H) (H1 : Heap) (locs1 : List Loc), sw_Wd D dA ad (lw_A s) s ws1 hh1 H1 locs1 → sw_K hh1 → W p l e room_1 s m #[Value.ref b] below meth c H1 locs1 nc ns Q (F0 m 652 ls [])) : W p l e room_1 s m #[Value.ref b] below meth c H locs nc ns Q (F0 m 197 ls []) := by
  have hts := C0.2.2.2.2.2.1
  have hX := C0.2.2.2.2.2.2.1
  have hbl := C0.2.2.2.2.2.2.2.1
  obtain ⟨hI, o, hT, hR⟩ := hK
  have hz := jT_z hT
  refine lv_aload_n (k := 1) X.1.1.1 X.1.1.2.1 (sy_d43 (sy_i1_r lw_by (k := 197) (v := 43) rfl)) rfl (lv_at hl 3 rfl) ?_
  refine sw_scr (k0 := 4) (k4 := 0) (j := 1) X.1.1.1 X.1.1.2.1 hX hbl (lw_nA hbl) hW.2.2.2 hl rfl rfl (by omega) hL (sy_d42 (sy_i1_r lw_by (k := 198) (v := 42) rfl)) (sy_d21 (sy_i1_r lw_by (k := 199) (v := 21) rfl) (sy_i1_r lw_by (k := 200) (v := 4) rfl)) (sy_d4 (sy_i1_r lw_by (k := 201) (v := 4) rfl)) (sy_d96 (sy_i1_r lw_by (k := 202) (v := 96) rfl)) (sy_d46 (sy_i1_r lw_by (k := 203) (v := 46) rfl)) ?_
  have hPg1 : sy_pg[2]? = some ((sy_my 0 19 20, prog_1_method_3_code, 2, (some .boolean)), sy_c2) := rfl
  refine sw_VP (ys := [.int (xs (i + 1))]) (rs := []) (n := 1) X (jo_T_end (l := l) (D := D) (dA := dA) ha hI hT hR) (sy_okDD.2 2 _ _ _ _ _ hPg1) (sy_hgm 16 _ rfl) (hts _ (ev_wd_in (h := 2170) rfl)) (sy_hgm 17 _ rfl) (sy_hgm 18 _ rfl) (by decide +kernel) (j9 := 0) rfl ha rfl rfl rfl hW rfl hl.1 (Nat.le_of_ble_eq_true rfl) (sy_d182 (sy_b3_r lw_by (k := 204) (op := 182) (n := 33) rfl).1 (sy_b3_r lw_by (k := 204) (op := 182) (n := 33) rfl).2) hf (fun rv1 u1 h1 H1 locs1 P1 d1 => ?_)
  obtain ⟨hI1, hT1, hR1, sh1⟩ := P1
  obtain ⟨v1, rfl⟩ := sh1
  refine lv_pop X.1.1.1 X.1.1.2.1 (sy_d87 (sy_i1_r lw_by (k := 207) (v := 87) rfl)) rfl ?_
  refine lv_aload_n (k := 2) X.1.1.1 X.1.1.2.1 (sy_d44 (sy_i1_r lw_by (k := 208) (v := 44) rfl)) rfl (lv_at hl 2 rfl) ?_
  refine sw_scr (k0 := 4) (k4 := 0) (j := 1) X.1.1.1 X.1.1.2.1 hX hbl (lw_nA hbl) d1.2.2.2 hl rfl rfl (by omega) hL (sy_d42 (sy_i1_r lw_by (k := 209) (v := 42) rfl)) (sy_d21 (sy_i1_r lw_by (k := 210) (v := 21) rfl) (sy_i1_r lw_by (k := 211) (v := 4) rfl)) (sy_d4 (sy_i1_r lw_by (k := 212) (v := 4) rfl)) (sy_d96 (sy_i1_r lw_by (k := 213) (v := 96) rfl)) (sy_d46 (sy_i1_r lw_by (k := 214) (v := 46) rfl)) ?_
  have hPg2 : sy_pg[197]? = some ((sy_my 12 19 20, prog_14_method_4_code, 2, (some .boolean)), sy_c197) := rfl
  refine sw_VP (ys := [.int (xs (i + 1))]) (rs := []) (n := 1) X (jo_R_end (l := l) (D := D) (dA := dA) hm hI1 hR1 hT1 hz) (sy_okDD.2 197 _ _ _ _ _ hPg2) (sy_hgm 767 _ rfl) (hts _ (ev_wd_in (h := 9178) rfl)) (sy_hgm 768 _ rfl) (sy_hgm 769 _ rfl) (by decide +kernel) (j9 := 692) sw_k692 hm rfl rfl rfl d1 rfl hl.1 (Nat.le_of_ble_eq_true rfl) (sy_d182 (sy_b3_r lw_by (k := 215) (op := 182) (n := 37) rfl).1 (sy_b3_r lw_by (k := 215) (op := 182) (n := 37) rfl).2) hf (fun rv2 u2 h2 H2 locs2 P2 d2 => ?_)
  obtain ⟨hI2, hR2, hT2, sh2⟩ := P2
  obtain ⟨v2, rfl⟩ := sh2
  refine lv_pop X.1.1.1 X.1.1.2.1 (sy_d87 (sy_i1_r lw_by (k := 218) (v := 87) rfl)) rfl ?_
  refine lv_goto (off := ((652 : Nat) : Int) - ((219 : Nat) : Int)) (tgt := 652) X.1.1.1 X.1.1.2.1 (sy_d167 (sy_bj_r lw_by (k := 219) (op := 167) (t := 652) rfl).1 (sy_bj_r lw_by (k := 219) (op := 167) (t := 652) rfl).2) (by decide) ?_
  exact kk _ _ _ _ d2 ⟨hI2, _, hT2, hR2⟩
theorem sw_c2 {p : Program} {l : Launch} {e : Env} {s : State} {m : MethodId} {below : List Frame} {meth : Method} {c : Code} {b L : Nat} {xs : Nat → Int32} (C0 : lw_At p s m meth c b L xs) {D : va_G} {dA : Nat → ClassId} {ad : List Nat} (X : sx_X p s m #[Value.ref b] c D ct_cl dA ct_kt sz_T sy_tb sw_kd ad (lw_A s) sy_gs R_law code 7) {Q : State → Prop} {i : Nat} (hi : i + 6 ≤ L) (hL : L < 2147483648) {ls : Array Slot} {ax am ao : Nat} (hl : lv_has ls 7 [(4, .int (nI i)), (3, .ref ao), (2, .ref am), (1, .ref ax), (0, .ref b)]) (ha : ad[0]? = some ax) (hm : ad[692]? = some am) {ws : va_W} {hh : sx_H} {H : Heap} {locs : List Loc} {nc ns : Nat} (hf : nc ≤ room_1.cells ∧ ns ≤ room_1.slots) (hW : sw_Wd D dA ad (lw_A s) s ws hh H locs) (hK : sw_K hh)
    (kk : ∀ (ws1 : va_W) (hh1 : sx_H) (H1 : Heap) (locs1 : List Loc), sw_Wd D dA ad (lw_A s) s ws1 hh1 H1 locs1 → sw_K hh1 → W p l e room_1 s m #[Value.ref b] below meth c H1 locs1 nc ns Q (F0 m 652 ls [])) : W p l e room_1 s m #[Value.ref b] below meth c H locs nc ns Q (F0 m 222 ls []) := by
  have hts := C0.2.2.2.2.2.1
  have hX := C0.2.2.2.2.2.2.1
  have hbl := C0.2.2.2.2.2.2.2.1
  obtain ⟨hI, o, hT, hR⟩ := hK
  have hz := jT_z hT
  refine lv_aload_n (k := 1) X.1.1.1 X.1.1.2.1 (sy_d43 (sy_i1_r lw_by (k := 222) (v := 43) rfl)) rfl (lv_at hl 3 rfl) ?_
  refine sw_scr (k0 := 4) (k4 := 0) (j := 1) X.1.1.1 X.1.1.2.1 hX hbl (lw_nA hbl) hW.2.2.2 hl rfl rfl (by omega) hL (sy_d42 (sy_i1_r lw_by (k := 223) (v := 42) rfl)) (sy_d21 (sy_i1_r lw_by (k := 224) (v := 21) rfl) (sy_i1_r lw_by (k := 225) (v := 4) rfl)) (sy_d4 (sy_i1_r lw_by (k := 226) (v := 4) rfl)) (sy_d96 (sy_i1_r lw_by (k := 227) (v := 96) rfl)) (sy_d46 (sy_i1_r lw_by (k := 228) (v := 46) rfl)) ?_
  have hPg1 : sy_pg[6]? = some ((sy_my 0 27 28, prog_1_method_4_code, 3, (some .int)), sy_c6) := rfl
  refine sw_VP (ys := [.int (xs (i + 1))]) (rs := []) (n := 1) X (jo_T_burn (l := l) (D := D) (dA := dA) ha hI hT hR) (sy_okDD.2 6 _ _ _ _ _ hPg1) (sy_hgm 31 _ rfl) (hts _ (ev_wd_in (h := 2174) rfl)) (sy_hgm 32 _ rfl) (sy_hgm 33 _ rfl) (by decide +kernel) (j9 := 0) rfl ha rfl rfl rfl hW rfl hl.1 (Nat.le_of_ble_eq_true rfl) (sy_d182 (sy_b3_r lw_by (k := 229) (op := 182) (n := 38) rfl).1 (sy_b3_r lw_by (k := 229) (op := 182) (n := 38) rfl).2) hf (fun rv1 u1 h1 H1 locs1 P1 d1 => ?_)
  obtain ⟨hI1, hT1, hR1, sh1⟩ := P1
  obtain ⟨v1, rfl, ea1⟩ := sh1
  refine lv_pop X.1.1.1 X.1.1.2.1 (sy_d87 (sy_i1_r lw_by (k := 232) (v := 87) rfl)) rfl ?_
  refine lv_aload_n (k := 2) X.1.1.1 X.1.1.2.1 (sy_d44 (sy_i1_r lw_by (k := 233) (v := 44) rfl)) rfl (lv_at hl 2 rfl) ?_
  refine sw_scr (k0 := 4) (k4 := 0) (j := 1) X.1.1.1 X.1.1.2.1 hX hbl (lw_nA hbl) d1.2.2.2 hl rfl rfl (by omega) hL (sy_d42 (sy_i1_r lw_by (k := 234) (v := 42) rfl)) (sy_d21 (sy_i1_r lw_by (k := 235) (v := 21) rfl) (sy_i1_r lw_by (k := 236) (v := 4) rfl)) (sy_d4 (sy_i1_r lw_by (k := 237) (v := 4) rfl)) (sy_d96 (sy_i1_r lw_by (k := 238) (v := 96) rfl)) (sy_d46 (sy_i1_r lw_by (k := 239) (v := 46) rfl)) ?_
  have hPg2 : sy_pg[202]? = some ((sy_my 12 27 28, prog_14_method_5_code, 3, (some .int)), sy_c202) := rfl
  refine sw_VP (ys := [.int (xs (i + 1))]) (rs := []) (n := 1) X (jo_R_burn (l := l) (D := D) (dA := dA) hm hI1 hR1 hT1 hz) (sy_okDD.2 202 _ _ _ _ _ hPg2) (sy_hgm 785 _ rfl) (hts _ (ev_wd_in (h := 9182) rfl)) (sy_hgm 786 _ rfl) (sy_hgm 787 _ rfl) (by decide +kernel) (j9 := 692) sw_k692 hm rfl rfl rfl d1 rfl hl.1 (Nat.le_of_ble_eq_true rfl) (sy_d182 (sy_b3_r lw_by (k := 240) (op := 182) (n := 41) rfl).1 (sy_b3_r lw_by (k := 240) (op := 182) (n := 41) rfl).2) hf (fun rv2 u2 h2 H2 locs2 P2 d2 => ?_)
  obtain ⟨hI2, hR2, hT2, sh2⟩ := P2
  obtain ⟨v2, rfl, ea2⟩ := sh2
  refine lv_pop X.1.1.1 X.1.1.2.1 (sy_d87 (sy_i1_r lw_by (k := 243) (v := 87) rfl)) rfl ?_
  refine lv_goto (off := ((652 : Nat) : Int) - ((244 : Nat) : Int)) (tgt := 652) X.1.1.1 X.1.1.2.1 (sy_d167 (sy_bj_r lw_by (k := 244) (op := 167) (t := 652) rfl).1 (sy_bj_r lw_by (k := 244) (op := 167) (t := 652) rfl).2) (by decide) ?_
  exact kk _ _ _ _ d2 ⟨hI2, _, hT2, hR2⟩
theorem sw_c3 {p : Program} {l : Launch} {e : Env} {s : State} {m : MethodId} {below : List Frame} {meth : Method} {c : Code} {b L : Nat} {xs : Nat → Int32} (C0 : lw_At p s m meth c b L xs) {D : va_G} {dA : Nat → ClassId} {ad : List Nat} (X : sx_X p s m #[Value.ref b] c D ct_cl dA ct_kt sz_T sy_tb sw_kd ad (lw_A s) sy_gs R_law code 7) {Q : State → Prop} {i : Nat} (hi : i + 6 ≤ L) (hL : L < 2147483648) {ls : Array Slot} {ax am ao : Nat} (hl : lv_has ls 7 [(4, .int (nI i)), (3, .ref ao), (2, .ref am), (1, .ref ax), (0, .ref b)]) (ha : ad[0]? = some ax) (hm : ad[692]? = some am) {ws : va_W} {hh : sx_H} {H : Heap} {locs : List Loc} {nc ns : Nat} (hf : nc ≤ room_1.cells ∧ ns ≤ room_1.slots) (hW : sw_Wd D dA ad (lw_A s) s ws hh H locs) (hK : sw_K hh)
    (kk : ∀ (ws1 : va_W) (hh1 : sx_H) (H1 : Heap) (locs1 : List Loc), sw_Wd D dA ad (lw_A s) s ws1 hh1 H1 locs1 → sw_K hh1 → W p l e room_1 s m #[Value.ref b] below meth c H1 locs1 nc ns Q (F0 m 652 ls [])) : W p l e room_1 s m #[Value.ref b] below meth c H locs nc ns Q (F0 m 247 ls []) := by
  have hts := C0.2.2.2.2.2.1
  have hX := C0.2.2.2.2.2.2.1
  have hbl := C0.2.2.2.2.2.2.2.1
  obtain ⟨hI, o, hT, hR⟩ := hK
  have hz := jT_z hT
  refine lv_aload_n (k := 1) X.1.1.1 X.1.1.2.1 (sy_d43 (sy_i1_r lw_by (k := 247) (v := 43) rfl)) rfl (lv_at hl 3 rfl) ?_
  have hPg1 : sy_pg[7]? = some ((sy_my 0 29 30, prog_1_method_5_code, 1, (some .boolean)), sy_c7) := rfl
  refine sw_VP (ys := []) (rs := []) (n := 0) X (jo_T_key (l := l) (D := D) (dA := dA) ha hI hT hR) (sy_okDD.2 7 _ _ _ _ _ hPg1) (sy_hgm 35 _ rfl) (hts _ (ev_wd_in (h := 2179) rfl)) (sy_hgm 36 _ rfl) (sy_hgm 37 _ rfl) (by decide +kernel) (j9 := 0) rfl ha rfl rfl rfl hW rfl hl.1 (Nat.le_of_ble_eq_true rfl) (sy_d182 (sy_b3_r lw_by (k := 248) (op := 182) (n := 42) rfl).1 (sy_b3_r lw_by (k := 248) (op := 182) (n := 42) rfl).2) hf (fun rv1 u1 h1 H1 locs1 P1 d1 => ?_)
  obtain ⟨hI1, hT1, hR1, sh1⟩ := P1
  obtain ⟨v1, rfl, ea1⟩ := sh1
  refine lv_pop X.1.1.1 X.1.1.2.1 (sy_d87 (sy_i1_r lw_by (k := 251) (v := 87) rfl)) rfl ?_
  refine lv_aload_n (k := 2) X.1.1.1 X.1.1.2.1 (sy_d44 (sy_i1_r lw_by (k := 252) (v := 44) rfl)) rfl (lv_at hl 2 rfl) ?_
  have hPg2 : sy_pg[203]? = some ((sy_my 12 29 30, prog_14_method_6_code, 2, (some .boolean)), sy_c203) := rfl
  refine sw_VP (ys := []) (rs := []) (n := 0) X (jo_R_key (l := l) (D := D) (dA := dA) hm hI1 hR1 hT1 hz) (sy_okDD.2 203 _ _ _ _ _ hPg2) (sy_hgm 789 _ rfl) (hts _ (ev_wd_in (h := 9202) rfl)) (sy_hgm 790 _ rfl) (sy_hgm 791 _ rfl) (by decide +kernel) (j9 := 692) sw_k692 hm rfl rfl rfl d1 rfl hl.1 (Nat.le_of_ble_eq_true rfl) (sy_d182 (sy_b3_r lw_by (k := 253) (op := 182) (n := 46) rfl).1 (sy_b3_r lw_by (k := 253) (op := 182) (n := 46) rfl).2) hf (fun rv2 u2 h2 H2 locs2 P2 d2 => ?_)
  obtain ⟨hI2, hR2, hT2, sh2⟩ := P2
  obtain ⟨v2, rfl, ea2⟩ := sh2
  refine lv_pop X.1.1.1 X.1.1.2.1 (sy_d87 (sy_i1_r lw_by (k := 256) (v := 87) rfl)) rfl ?_
  refine lv_goto (off := ((652 : Nat) : Int) - ((257 : Nat) : Int)) (tgt := 652) X.1.1.1 X.1.1.2.1 (sy_d167 (sy_bj_r lw_by (k := 257) (op := 167) (t := 652) rfl).1 (sy_bj_r lw_by (k := 257) (op := 167) (t := 652) rfl).2) (by decide) ?_
  exact kk _ _ _ _ d2 ⟨hI2, _, hT2, hR2⟩
theorem sw_c4 {p : Program} {l : Launch} {e : Env} {s : State} {m : MethodId} {below : List Frame} {meth : Method} {c : Code} {b L : Nat} {xs : Nat → Int32} (C0 : lw_At p s m meth c b L xs) {D : va_G} {dA : Nat → ClassId} {ad : List Nat} (X : sx_X p s m #[Value.ref b] c D ct_cl dA ct_kt sz_T sy_tb sw_kd ad (lw_A s) sy_gs R_law code 7) {Q : State → Prop} {i : Nat} (hi : i + 6 ≤ L) (hL : L < 2147483648) {ls : Array Slot} {ax am ao : Nat} (hl : lv_has ls 7 [(4, .int (nI i)), (3, .ref ao), (2, .ref am), (1, .ref ax), (0, .ref b)]) (ha : ad[0]? = some ax) (hm : ad[692]? = some am) {ws : va_W} {hh : sx_H} {H : Heap} {locs : List Loc} {nc ns : Nat} (hf : nc ≤ room_1.cells ∧ ns ≤ room_1.slots) (hW : sw_Wd D dA ad (lw_A s) s ws hh H locs) (hK : sw_K hh)
    (kk : ∀ (ws1 : va_W) (hh1 : sx_H) (H1 : Heap) (locs1 : List Loc), sw_Wd D dA ad (lw_A s) s ws1 hh1 H1 locs1 → sw_K hh1 → W p l e room_1 s m #[Value.ref b] below meth c H1 locs1 nc ns Q (F0 m 652 ls [])) : W p l e room_1 s m #[Value.ref b] below meth c H locs nc ns Q (F0 m 260 ls []) := by
  have hts := C0.2.2.2.2.2.1
  have hX := C0.2.2.2.2.2.2.1
  have hbl := C0.2.2.2.2.2.2.2.1
  obtain ⟨hI, o, hT, hR⟩ := hK
  have hz := jT_z hT
  refine lv_aload_n (k := 1) X.1.1.1 X.1.1.2.1 (sy_d43 (sy_i1_r lw_by (k := 260) (v := 43) rfl)) rfl (lv_at hl 3 rfl) ?_
  refine sw_scr (k0 := 4) (k4 := 0) (j := 1) X.1.1.1 X.1.1.2.1 hX hbl (lw_nA hbl) hW.2.2.2 hl rfl rfl (by omega) hL (sy_d42 (sy_i1_r lw_by (k := 261) (v := 42) rfl)) (sy_d21 (sy_i1_r lw_by (k := 262) (v := 21) rfl) (sy_i1_r lw_by (k := 263) (v := 4) rfl)) (sy_d4 (sy_i1_r lw_by (k := 264) (v := 4) rfl)) (sy_d96 (sy_i1_r lw_by (k := 265) (v := 96) rfl)) (sy_d46 (sy_i1_r lw_by (k := 266) (v := 46) rfl)) ?_
  refine sw_scr (k0 := 4) (k4 := 0) (j := 2) X.1.1.1 X.1.1.2.1 hX hbl (lw_nA hbl) hW.2.2.2 hl rfl rfl (by omega) hL (sy_d42 (sy_i1_r lw_by (k := 267) (v := 42) rfl)) (sy_d21 (sy_i1_r lw_by (k := 268) (v := 21) rfl) (sy_i1_r lw_by (k := 269) (v := 4) rfl)) (sy_d5 (sy_i1_r lw_by (k := 270) (v := 5) rfl)) (sy_d96 (sy_i1_r lw_by (k := 271) (v := 96) rfl)) (sy_d46 (sy_i1_r lw_by (k := 272) (v := 46) rfl)) ?_
  refine sw_scr (k0 := 4) (k4 := 0) (j := 3) X.1.1.1 X.1.1.2.1 hX hbl (lw_nA hbl) hW.2.2.2 hl rfl rfl (by omega) hL (sy_d42 (sy_i1_r lw_by (k := 273) (v := 42) rfl)) (sy_d21 (sy_i1_r lw_by (k := 274) (v := 21) rfl) (sy_i1_r lw_by (k := 275) (v := 4) rfl)) (sy_d6 (sy_i1_r lw_by (k := 276) (v := 6) rfl)) (sy_d96 (sy_i1_r lw_by (k := 277) (v := 96) rfl)) (sy_d46 (sy_i1_r lw_by (k := 278) (v := 46) rfl)) ?_
  have hPg1 : sy_pg[8]? = some ((sy_my 0 31 32, prog_1_method_6_code, 4, (some .boolean)), sy_c8) := rfl
  refine sw_VP (ys := [.int (xs (i + 3)), .int (xs (i + 2)), .int (xs (i + 1))]) (rs := []) (n := 3) X (jo_T_product (l := l) (D := D) (dA := dA) ha hI hT hR) (sy_okDD.2 8 _ _ _ _ _ hPg1) (sy_hgm 39 _ rfl) (hts _ (ev_wd_in (h := 2184) rfl)) (sy_hgm 40 _ rfl) (sy_hgm 41 _ rfl) (by decide +kernel) (j9 := 0) rfl ha rfl rfl rfl hW rfl hl.1 (Nat.le_of_ble_eq_true rfl) (sy_d182 (sy_b3_r lw_by (k := 279) (op := 182) (n := 47) rfl).1 (sy_b3_r lw_by (k := 279) (op := 182) (n := 47) rfl).2) hf (fun rv1 u1 h1 H1 locs1 P1 d1 => ?_)
  obtain ⟨hI1, hT1, hR1, sh1⟩ := P1
  obtain ⟨v1, rfl, ea1⟩ := sh1
  refine lv_aload_n (k := 2) X.1.1.1 X.1.1.2.1 (sy_d44 (sy_i1_r lw_by (k := 282) (v := 44) rfl)) rfl (lv_at hl 2 rfl) ?_
  refine sw_scr (k0 := 4) (k4 := 0) (j := 1) X.1.1.1 X.1.1.2.1 hX hbl (lw_nA hbl) d1.2.2.2 hl rfl rfl (by omega) hL (sy_d42 (sy_i1_r lw_by (k := 283) (v := 42) rfl)) (sy_d21 (sy_i1_r lw_by (k := 284) (v := 21) rfl) (sy_i1_r lw_by (k := 285) (v := 4) rfl)) (sy_d4 (sy_i1_r lw_by (k := 286) (v := 4) rfl)) (sy_d96 (sy_i1_r lw_by (k := 287) (v := 96) rfl)) (sy_d46 (sy_i1_r lw_by (k := 288) (v := 46) rfl)) ?_
  refine sw_scr (k0 := 4) (k4 := 0) (j := 2) X.1.1.1 X.1.1.2.1 hX hbl (lw_nA hbl) d1.2.2.2 hl rfl rfl (by omega) hL (sy_d42 (sy_i1_r lw_by (k := 289) (v := 42) rfl)) (sy_d21 (sy_i1_r lw_by (k := 290) (v := 21) rfl) (sy_i1_r lw_by (k := 291) (v := 4) rfl)) (sy_d5 (sy_i1_r lw_by (k := 292) (v := 5) rfl)) (sy_d96 (sy_i1_r lw_by (k := 293) (v := 96) rfl)) (sy_d46 (sy_i1_r lw_by (k := 294) (v := 46) rfl)) ?_
  refine sw_scr (k0 := 4) (k4 := 0) (j := 3) X.1.1.1 X.1.1.2.1 hX hbl (lw_nA hbl) d1.2.2.2 hl rfl rfl (by omega) hL (sy_d42 (sy_i1_r lw_by (k := 295) (v := 42) rfl)) (sy_d21 (sy_i1_r lw_by (k := 296) (v := 21) rfl) (sy_i1_r lw_by (k := 297) (v := 4) rfl)) (sy_d6 (sy_i1_r lw_by (k := 298) (v := 6) rfl)) (sy_d96 (sy_i1_r lw_by (k := 299) (v := 96) rfl)) (sy_d46 (sy_i1_r lw_by (k := 300) (v := 46) rfl)) ?_
  have hPg2 : sy_pg[204]? = some ((sy_my 12 31 32, prog_14_method_7_code, 4, (some .boolean)), sy_c204) := rfl
  refine sw_VP (ys := [.int (xs (i + 3)), .int (xs (i + 2)), .int (xs (i + 1))]) (rs := [.int v1]) (n := 3) X (jo_R_product (l := l) (D := D) (dA := dA) hm hI1 hR1 hT1 hz) (sy_okDD.2 204 _ _ _ _ _ hPg2) (sy_hgm 793 _ rfl) (hts _ (ev_wd_in (h := 9206) rfl)) (sy_hgm 794 _ rfl) (sy_hgm 795 _ rfl) (by decide +kernel) (j9 := 692) sw_k692 hm rfl rfl rfl d1 rfl hl.1 (Nat.le_of_ble_eq_true rfl) (sy_d182 (sy_b3_r lw_by (k := 301) (op := 182) (n := 51) rfl).1 (sy_b3_r lw_by (k := 301) (op := 182) (n := 51) rfl).2) hf (fun rv2 u2 h2 H2 locs2 P2 d2 => ?_)
  obtain ⟨hI2, hR2, hT2, sh2⟩ := P2
  obtain ⟨v2, rfl, ea2⟩ := sh2
  have hv : v1 = v2 := Int32.toInt_inj.mp (by rw [ea1, ea2])
  refine lv_icmp_eq (off := ((652 : Nat) : Int) - ((304 : Nat) : Int)) (tgt := 652) X.1.1.1 X.1.1.2.1 (sy_d159 (sy_bj_r lw_by (k := 304) (op := 159) (t := 652) rfl).1 (sy_bj_r lw_by (k := 304) (op := 159) (t := 652) rfl).2) (by decide) (fun _ => ?_) (fun h => absurd hv h)
  exact kk _ _ _ _ d2 ⟨hI2, _, hT2, hR2⟩
theorem sw_c5 {p : Program} {l : Launch} {e : Env} {s : State} {m : MethodId} {below : List Frame} {meth : Method} {c : Code} {b L : Nat} {xs : Nat → Int32} (C0 : lw_At p s m meth c b L xs) {D : va_G} {dA : Nat → ClassId} {ad : List Nat} (X : sx_X p s m #[Value.ref b] c D ct_cl dA ct_kt sz_T sy_tb sw_kd ad (lw_A s) sy_gs R_law code 7) {Q : State → Prop} {i : Nat} (hi : i + 6 ≤ L) (hL : L < 2147483648) {ls : Array Slot} {ax am ao : Nat} (hl : lv_has ls 7 [(4, .int (nI i)), (3, .ref ao), (2, .ref am), (1, .ref ax), (0, .ref b)]) (ha : ad[0]? = some ax) (hm : ad[692]? = some am) {ws : va_W} {hh : sx_H} {H : Heap} {locs : List Loc} {nc ns : Nat} (hf : nc ≤ room_1.cells ∧ ns ≤ room_1.slots) (hW : sw_Wd D dA ad (lw_A s) s ws hh H locs) (hK : sw_K hh)
    (kk : ∀ (ws1 : va_W) (hh1 : sx_H) (H1 : Heap) (locs1 : List Loc), sw_Wd D dA ad (lw_A s) s ws1 hh1 H1 locs1 → sw_K hh1 → W p l e room_1 s m #[Value.ref b] below meth c H1 locs1 nc ns Q (F0 m 652 ls [])) : W p l e room_1 s m #[Value.ref b] below meth c H locs nc ns Q (F0 m 309 ls []) := by
  have hts := C0.2.2.2.2.2.1
  have hX := C0.2.2.2.2.2.2.1
  have hbl := C0.2.2.2.2.2.2.2.1
  obtain ⟨hI, o, hT, hR⟩ := hK
  have hz := jT_z hT
  refine lv_aload_n (k := 1) X.1.1.1 X.1.1.2.1 (sy_d43 (sy_i1_r lw_by (k := 309) (v := 43) rfl)) rfl (lv_at hl 3 rfl) ?_
  have hPg1 : sy_pg[15]? = some ((sy_my 0 39 30, prog_1_method_7_code, 1, (some .boolean)), sy_c15) := rfl
  refine sw_VP (ys := []) (rs := []) (n := 0) X (jo_T_boot (l := l) (D := D) (dA := dA) ha hI hT hR) (sy_okDD.2 15 _ _ _ _ _ hPg1) (sy_hgm 66 _ rfl) (hts _ (ev_wd_in (h := 2188) rfl)) (sy_hgm 67 _ rfl) (sy_hgm 68 _ rfl) (by decide +kernel) (j9 := 0) rfl ha rfl rfl rfl hW rfl hl.1 (Nat.le_of_ble_eq_true rfl) (sy_d182 (sy_b3_r lw_by (k := 310) (op := 182) (n := 52) rfl).1 (sy_b3_r lw_by (k := 310) (op := 182) (n := 52) rfl).2) hf (fun rv1 u1 h1 H1 locs1 P1 d1 => ?_)
  obtain ⟨hI1, hT1, hR1, sh1⟩ := P1
  obtain ⟨v1, rfl⟩ := sh1
  refine lv_pop X.1.1.1 X.1.1.2.1 (sy_d87 (sy_i1_r lw_by (k := 313) (v := 87) rfl)) rfl ?_
  refine lv_aload_n (k := 2) X.1.1.1 X.1.1.2.1 (sy_d44 (sy_i1_r lw_by (k := 314) (v := 44) rfl)) rfl (lv_at hl 2 rfl) ?_
  have hPg2 : sy_pg[224]? = some ((sy_my 12 39 30, prog_14_method_8_code, 2, (some .boolean)), sy_c224) := rfl
  refine sw_VP (ys := []) (rs := []) (n := 0) X (jo_R_boot (l := l) (D := D) (dA := dA) hm hI1 hR1 hT1) (sy_okDD.2 224 _ _ _ _ _ hPg2) (sy_hgm 872 _ rfl) (hts _ (ev_wd_in (h := 9210) rfl)) (sy_hgm 873 _ rfl) (sy_hgm 874 _ rfl) (by decide +kernel) (j9 := 692) sw_k692 hm rfl rfl rfl d1 rfl hl.1 (Nat.le_of_ble_eq_true rfl) (sy_d182 (sy_b3_r lw_by (k := 315) (op := 182) (n := 55) rfl).1 (sy_b3_r lw_by (k := 315) (op := 182) (n := 55) rfl).2) hf (fun rv2 u2 h2 H2 locs2 P2 d2 => ?_)
  obtain ⟨hI2, hR2, hT2, sh2⟩ := P2
  obtain ⟨v2, rfl⟩ := sh2
  refine lv_pop X.1.1.1 X.1.1.2.1 (sy_d87 (sy_i1_r lw_by (k := 318) (v := 87) rfl)) rfl ?_
  refine lv_goto (off := ((652 : Nat) : Int) - ((319 : Nat) : Int)) (tgt := 652) X.1.1.1 X.1.1.2.1 (sy_d167 (sy_bj_r lw_by (k := 319) (op := 167) (t := 652) rfl).1 (sy_bj_r lw_by (k := 319) (op := 167) (t := 652) rfl).2) (by decide) ?_
  exact kk _ _ _ _ d2 ⟨hI2, _, hT2, hR2⟩
theorem sw_c6 {p : Program} {l : Launch} {e : Env} {s : State} {m : MethodId} {below : List Frame} {meth : Method} {c : Code} {b L : Nat} {xs : Nat → Int32} (C0 : lw_At p s m meth c b L xs) {D : va_G} {dA : Nat → ClassId} {ad : List Nat} (X : sx_X p s m #[Value.ref b] c D ct_cl dA ct_kt sz_T sy_tb sw_kd ad (lw_A s) sy_gs R_law code 7) {Q : State → Prop} {i : Nat} (hi : i + 6 ≤ L) (hL : L < 2147483648) {ls : Array Slot} {ax am ao : Nat} (hl : lv_has ls 7 [(4, .int (nI i)), (3, .ref ao), (2, .ref am), (1, .ref ax), (0, .ref b)]) (ha : ad[0]? = some ax) (hm : ad[692]? = some am) {ws : va_W} {hh : sx_H} {H : Heap} {locs : List Loc} {nc ns : Nat} (hf : nc ≤ room_1.cells ∧ ns ≤ room_1.slots) (hW : sw_Wd D dA ad (lw_A s) s ws hh H locs) (hK : sw_K hh)
    (kk : ∀ (ws1 : va_W) (hh1 : sx_H) (H1 : Heap) (locs1 : List Loc), sw_Wd D dA ad (lw_A s) s ws1 hh1 H1 locs1 → sw_K hh1 → W p l e room_1 s m #[Value.ref b] below meth c H1 locs1 nc ns Q (F0 m 652 ls [])) : W p l e room_1 s m #[Value.ref b] below meth c H locs nc ns Q (F0 m 322 ls []) := by
  have hts := C0.2.2.2.2.2.1
  have hX := C0.2.2.2.2.2.2.1
  have hbl := C0.2.2.2.2.2.2.2.1
  obtain ⟨hI, o, hT, hR⟩ := hK
  have hz := jT_z hT
  refine lv_aload_n (k := 1) X.1.1.1 X.1.1.2.1 (sy_d43 (sy_i1_r lw_by (k := 322) (v := 43) rfl)) rfl (lv_at hl 3 rfl) ?_
  refine sw_scr (k0 := 4) (k4 := 0) (j := 1) X.1.1.1 X.1.1.2.1 hX hbl (lw_nA hbl) hW.2.2.2 hl rfl rfl (by omega) hL (sy_d42 (sy_i1_r lw_by (k := 323) (v := 42) rfl)) (sy_d21 (sy_i1_r lw_by (k := 324) (v := 21) rfl) (sy_i1_r lw_by (k := 325) (v := 4) rfl)) (sy_d4 (sy_i1_r lw_by (k := 326) (v := 4) rfl)) (sy_d96 (sy_i1_r lw_by (k := 327) (v := 96) rfl)) (sy_d46 (sy_i1_r lw_by (k := 328) (v := 46) rfl)) ?_
  have hPg1 : sy_pg[16]? = some ((sy_my 0 40 41, prog_1_method_8_code, 2, none), sy_c16) := rfl
  refine sw_VP (ys := [.int (xs (i + 1))]) (rs := []) (n := 1) X (jo_T_power (l := l) (D := D) (dA := dA) ha hI hT hR) (sy_okDD.2 16 _ _ _ _ _ hPg1) (sy_hgm 70 _ rfl) (hts _ (ev_wd_in (h := 2216) rfl)) (sy_hgm 71 _ rfl) (sy_hgm 72 _ rfl) (by decide +kernel) (j9 := 0) rfl ha rfl rfl rfl hW rfl hl.1 (Nat.le_of_ble_eq_true rfl) (sy_d182 (sy_b3_r lw_by (k := 329) (op := 182) (n := 56) rfl).1 (sy_b3_r lw_by (k := 329) (op := 182) (n := 56) rfl).2) hf (fun rv1 u1 h1 H1 locs1 P1 d1 => ?_)
  obtain ⟨hI1, hT1, hR1, sh1⟩ := P1
  subst sh1
  refine lv_aload_n (k := 2) X.1.1.1 X.1.1.2.1 (sy_d44 (sy_i1_r lw_by (k := 332) (v := 44) rfl)) rfl (lv_at hl 2 rfl) ?_
  refine sw_scr (k0 := 4) (k4 := 0) (j := 1) X.1.1.1 X.1.1.2.1 hX hbl (lw_nA hbl) d1.2.2.2 hl rfl rfl (by omega) hL (sy_d42 (sy_i1_r lw_by (k := 333) (v := 42) rfl)) (sy_d21 (sy_i1_r lw_by (k := 334) (v := 21) rfl) (sy_i1_r lw_by (k := 335) (v := 4) rfl)) (sy_d4 (sy_i1_r lw_by (k := 336) (v := 4) rfl)) (sy_d96 (sy_i1_r lw_by (k := 337) (v := 96) rfl)) (sy_d46 (sy_i1_r lw_by (k := 338) (v := 46) rfl)) ?_
  have hPg2 : sy_pg[225]? = some ((sy_my 12 40 41, prog_14_method_10_code, 2, none), sy_c225) := rfl
  refine sw_VP (ys := [.int (xs (i + 1))]) (rs := []) (n := 1) X (jo_R_power (l := l) (D := D) (dA := dA) hm hI1 hR1 hT1) (sy_okDD.2 225 _ _ _ _ _ hPg2) (sy_hgm 876 _ rfl) (hts _ (ev_wd_in (h := 10053) rfl)) (sy_hgm 877 _ rfl) (sy_hgm 878 _ rfl) (by decide +kernel) (j9 := 692) sw_k692 hm rfl rfl rfl d1 rfl hl.1 (Nat.le_of_ble_eq_true rfl) (sy_d182 (sy_b3_r lw_by (k := 339) (op := 182) (n := 60) rfl).1 (sy_b3_r lw_by (k := 339) (op := 182) (n := 60) rfl).2) hf (fun rv2 u2 h2 H2 locs2 P2 d2 => ?_)
  obtain ⟨hI2, hR2, hT2, sh2⟩ := P2
  subst sh2
  refine lv_goto (off := ((652 : Nat) : Int) - ((342 : Nat) : Int)) (tgt := 652) X.1.1.1 X.1.1.2.1 (sy_d167 (sy_bj_r lw_by (k := 342) (op := 167) (t := 652) rfl).1 (sy_bj_r lw_by (k := 342) (op := 167) (t := 652) rfl).2) (by decide) ?_
  exact kk _ _ _ _ d2 ⟨hI2, _, hT2, hR2⟩
theorem sw_c7 {p : Program} {l : Launch} {e : Env} {s : State} {m : MethodId} {below : List Frame} {meth : Method} {c : Code} {b L : Nat} {xs : Nat → Int32} (C0 : lw_At p s m meth c b L xs) {D : va_G} {dA : Nat → ClassId} {ad : List Nat} (X : sx_X p s m #[Value.ref b] c D ct_cl dA ct_kt sz_T sy_tb sw_kd ad (lw_A s) sy_gs R_law code 7) {Q : State → Prop} {i : Nat} (hi : i + 6 ≤ L) (hL : L < 2147483648) {ls : Array Slot} {ax am ao : Nat} (hl : lv_has ls 7 [(4, .int (nI i)), (3, .ref ao), (2, .ref am), (1, .ref ax), (0, .ref b)]) (ha : ad[0]? = some ax) (hm : ad[692]? = some am) {ws : va_W} {hh : sx_H} {H : Heap} {locs : List Loc} {nc ns : Nat} (hf : nc ≤ room_1.cells ∧ ns ≤ room_1.slots) (hW : sw_Wd D dA ad (lw_A s) s ws hh H locs) (hK : sw_K hh)
    (kk : ∀ (ws1 : va_W) (hh1 : sx_H) (H1 : Heap) (locs1 : List Loc), sw_Wd D dA ad (lw_A s) s ws1 hh1 H1 locs1 → sw_K hh1 → W p l e room_1 s m #[Value.ref b] below meth c H1 locs1 nc ns Q (F0 m 652 ls [])) : W p l e room_1 s m #[Value.ref b] below meth c H locs nc ns Q (F0 m 345 ls []) := by
  have hts := C0.2.2.2.2.2.1
  have hX := C0.2.2.2.2.2.2.1
  have hbl := C0.2.2.2.2.2.2.2.1
  obtain ⟨hI, o, hT, hR⟩ := hK
  have hz := jT_z hT
  refine lv_aload_n (k := 1) X.1.1.1 X.1.1.2.1 (sy_d43 (sy_i1_r lw_by (k := 345) (v := 43) rfl)) rfl (lv_at hl 3 rfl) ?_
  have hPg1 : sy_pg[17]? = some ((sy_my 0 42 30, prog_1_method_9_code, 1, (some .boolean)), sy_c17) := rfl
  refine sw_VP (ys := []) (rs := []) (n := 0) X (jo_T_isDown (l := l) (D := D) (dA := dA) ha hI hT hR) (sy_okDD.2 17 _ _ _ _ _ hPg1) (sy_hgm 74 _ rfl) (hts _ (ev_wd_in (h := 2220) rfl)) (sy_hgm 75 _ rfl) (sy_hgm 76 _ rfl) (by decide +kernel) (j9 := 0) rfl ha rfl rfl rfl hW rfl hl.1 (Nat.le_of_ble_eq_true rfl) (sy_d182 (sy_b3_r lw_by (k := 346) (op := 182) (n := 61) rfl).1 (sy_b3_r lw_by (k := 346) (op := 182) (n := 61) rfl).2) hf (fun rv1 u1 h1 H1 locs1 P1 d1 => ?_)
  obtain ⟨hI1, hT1, hR1, sh1⟩ := P1
  obtain ⟨v1, rfl⟩ := sh1
  refine lv_pop X.1.1.1 X.1.1.2.1 (sy_d87 (sy_i1_r lw_by (k := 349) (v := 87) rfl)) rfl ?_
  refine lv_aload_n (k := 2) X.1.1.1 X.1.1.2.1 (sy_d44 (sy_i1_r lw_by (k := 350) (v := 44) rfl)) rfl (lv_at hl 2 rfl) ?_
  have hPg2 : sy_pg[226]? = some ((sy_my 12 42 30, prog_14_method_11_code, 1, (some .boolean)), sy_c226) := rfl
  refine sw_VP (ys := []) (rs := []) (n := 0) X (jo_R_isDown (l := l) (D := D) (dA := dA) hm hI1 hR1 hT1) (sy_okDD.2 226 _ _ _ _ _ hPg2) (sy_hgm 880 _ rfl) (hts _ (ev_wd_in (h := 10057) rfl)) (sy_hgm 881 _ rfl) (sy_hgm 882 _ rfl) (by decide +kernel) (j9 := 692) sw_k692 hm rfl rfl rfl d1 rfl hl.1 (Nat.le_of_ble_eq_true rfl) (sy_d182 (sy_b3_r lw_by (k := 351) (op := 182) (n := 64) rfl).1 (sy_b3_r lw_by (k := 351) (op := 182) (n := 64) rfl).2) hf (fun rv2 u2 h2 H2 locs2 P2 d2 => ?_)
  obtain ⟨hI2, hR2, hT2, sh2⟩ := P2
  obtain ⟨v2, rfl⟩ := sh2
  refine lv_pop X.1.1.1 X.1.1.2.1 (sy_d87 (sy_i1_r lw_by (k := 354) (v := 87) rfl)) rfl ?_
  refine lv_goto (off := ((652 : Nat) : Int) - ((355 : Nat) : Int)) (tgt := 652) X.1.1.1 X.1.1.2.1 (sy_d167 (sy_bj_r lw_by (k := 355) (op := 167) (t := 652) rfl).1 (sy_bj_r lw_by (k := 355) (op := 167) (t := 652) rfl).2) (by decide) ?_
  exact kk _ _ _ _ d2 ⟨hI2, _, hT2, hR2⟩
theorem sw_c8 {p : Program} {l : Launch} {e : Env} {s : State} {m : MethodId} {below : List Frame} {meth : Method} {c : Code} {b L : Nat} {xs : Nat → Int32} (C0 : lw_At p s m meth c b L xs) {D : va_G} {dA : Nat → ClassId} {ad : List Nat} (X : sx_X p s m #[Value.ref b] c D ct_cl dA ct_kt sz_T sy_tb sw_kd ad (lw_A s) sy_gs R_law code 7) {Q : State → Prop} {i : Nat} (hi : i + 6 ≤ L) (hL : L < 2147483648) {ls : Array Slot} {ax am ao : Nat} (hl : lv_has ls 7 [(4, .int (nI i)), (3, .ref ao), (2, .ref am), (1, .ref ax), (0, .ref b)]) (ha : ad[0]? = some ax) (hm : ad[692]? = some am) {ws : va_W} {hh : sx_H} {H : Heap} {locs : List Loc} {nc ns : Nat} (hf : nc ≤ room_1.cells ∧ ns ≤ room_1.slots) (hW : sw_Wd D dA ad (lw_A s) s ws hh H locs) (hK : sw_K hh)
    (kk : ∀ (ws1 : va_W) (hh1 : sx_H) (H1 : Heap) (locs1 : List Loc), sw_Wd D dA ad (lw_A s) s ws1 hh1 H1 locs1 → sw_K hh1 → W p l e room_1 s m #[Value.ref b] below meth c H1 locs1 nc ns Q (F0 m 652 ls [])) : W p l e room_1 s m #[Value.ref b] below meth c H locs nc ns Q (F0 m 358 ls []) := by
  have hts := C0.2.2.2.2.2.1
  have hX := C0.2.2.2.2.2.2.1
  have hbl := C0.2.2.2.2.2.2.2.1
  obtain ⟨hI, o, hT, hR⟩ := hK
  have hz := jT_z hT
  refine lv_aload_n (k := 1) X.1.1.1 X.1.1.2.1 (sy_d43 (sy_i1_r lw_by (k := 358) (v := 43) rfl)) rfl (lv_at hl 3 rfl) ?_
  refine sw_scr (k0 := 4) (k4 := 0) (j := 1) X.1.1.1 X.1.1.2.1 hX hbl (lw_nA hbl) hW.2.2.2 hl rfl rfl (by omega) hL (sy_d42 (sy_i1_r lw_by (k := 359) (v := 42) rfl)) (sy_d21 (sy_i1_r lw_by (k := 360) (v := 21) rfl) (sy_i1_r lw_by (k := 361) (v := 4) rfl)) (sy_d4 (sy_i1_r lw_by (k := 362) (v := 4) rfl)) (sy_d96 (sy_i1_r lw_by (k := 363) (v := 96) rfl)) (sy_d46 (sy_i1_r lw_by (k := 364) (v := 46) rfl)) ?_
  refine sw_scr (k0 := 4) (k4 := 0) (j := 2) X.1.1.1 X.1.1.2.1 hX hbl (lw_nA hbl) hW.2.2.2 hl rfl rfl (by omega) hL (sy_d42 (sy_i1_r lw_by (k := 365) (v := 42) rfl)) (sy_d21 (sy_i1_r lw_by (k := 366) (v := 21) rfl) (sy_i1_r lw_by (k := 367) (v := 4) rfl)) (sy_d5 (sy_i1_r lw_by (k := 368) (v := 5) rfl)) (sy_d96 (sy_i1_r lw_by (k := 369) (v := 96) rfl)) (sy_d46 (sy_i1_r lw_by (k := 370) (v := 46) rfl)) ?_
  refine sw_scr (k0 := 4) (k4 := 0) (j := 3) X.1.1.1 X.1.1.2.1 hX hbl (lw_nA hbl) hW.2.2.2 hl rfl rfl (by omega) hL (sy_d42 (sy_i1_r lw_by (k := 371) (v := 42) rfl)) (sy_d21 (sy_i1_r lw_by (k := 372) (v := 21) rfl) (sy_i1_r lw_by (k := 373) (v := 4) rfl)) (sy_d6 (sy_i1_r lw_by (k := 374) (v := 6) rfl)) (sy_d96 (sy_i1_r lw_by (k := 375) (v := 96) rfl)) (sy_d46 (sy_i1_r lw_by (k := 376) (v := 46) rfl)) ?_
  refine sw_scr (k0 := 4) (k4 := 0) (j := 4) X.1.1.1 X.1.1.2.1 hX hbl (lw_nA hbl) hW.2.2.2 hl rfl rfl (by omega) hL (sy_d42 (sy_i1_r lw_by (k := 377) (v := 42) rfl)) (sy_d21 (sy_i1_r lw_by (k := 378) (v := 21) rfl) (sy_i1_r lw_by (k := 379) (v := 4) rfl)) (sy_d7 (sy_i1_r lw_by (k := 380) (v := 7) rfl)) (sy_d96 (sy_i1_r lw_by (k := 381) (v := 96) rfl)) (sy_d46 (sy_i1_r lw_by (k := 382) (v := 46) rfl)) ?_
  have hPg1 : sy_pg[181]? = some ((sy_my 0 243 134, prog_1_method_10_code, 7, (some .int)), sy_c181) := rfl
  refine sw_VP (ys := [.int (xs (i + 4)), .int (xs (i + 3)), .int (xs (i + 2)), .int (xs (i + 1))]) (rs := []) (n := 4) X (jo_T_call (l := l) (D := D) (dA := dA) ha hI hT hR) (sy_okDD.2 181 _ _ _ _ _ hPg1) (sy_hgm 703 _ rfl) (hts _ (ev_wd_in (h := 2224) rfl)) (sy_hgm 704 _ rfl) (sy_hgm 705 _ rfl) (by decide +kernel) (j9 := 0) rfl ha rfl rfl rfl hW rfl hl.1 (Nat.le_of_ble_eq_true rfl) (sy_d182 (sy_b3_r lw_by (k := 383) (op := 182) (n := 65) rfl).1 (sy_b3_r lw_by (k := 383) (op := 182) (n := 65) rfl).2) hf (fun rv1 u1 h1 H1 locs1 P1 d1 => ?_)
  obtain ⟨hI1, hT1, hR1, sh1⟩ := P1
  obtain ⟨v1, rfl⟩ := sh1
  refine lv_pop X.1.1.1 X.1.1.2.1 (sy_d87 (sy_i1_r lw_by (k := 386) (v := 87) rfl)) rfl ?_
  refine lv_aload_n (k := 2) X.1.1.1 X.1.1.2.1 (sy_d44 (sy_i1_r lw_by (k := 387) (v := 44) rfl)) rfl (lv_at hl 2 rfl) ?_
  refine sw_scr (k0 := 4) (k4 := 0) (j := 1) X.1.1.1 X.1.1.2.1 hX hbl (lw_nA hbl) d1.2.2.2 hl rfl rfl (by omega) hL (sy_d42 (sy_i1_r lw_by (k := 388) (v := 42) rfl)) (sy_d21 (sy_i1_r lw_by (k := 389) (v := 21) rfl) (sy_i1_r lw_by (k := 390) (v := 4) rfl)) (sy_d4 (sy_i1_r lw_by (k := 391) (v := 4) rfl)) (sy_d96 (sy_i1_r lw_by (k := 392) (v := 96) rfl)) (sy_d46 (sy_i1_r lw_by (k := 393) (v := 46) rfl)) ?_
  refine sw_scr (k0 := 4) (k4 := 0) (j := 2) X.1.1.1 X.1.1.2.1 hX hbl (lw_nA hbl) d1.2.2.2 hl rfl rfl (by omega) hL (sy_d42 (sy_i1_r lw_by (k := 394) (v := 42) rfl)) (sy_d21 (sy_i1_r lw_by (k := 395) (v := 21) rfl) (sy_i1_r lw_by (k := 396) (v := 4) rfl)) (sy_d5 (sy_i1_r lw_by (k := 397) (v := 5) rfl)) (sy_d96 (sy_i1_r lw_by (k := 398) (v := 96) rfl)) (sy_d46 (sy_i1_r lw_by (k := 399) (v := 46) rfl)) ?_
  refine sw_scr (k0 := 4) (k4 := 0) (j := 3) X.1.1.1 X.1.1.2.1 hX hbl (lw_nA hbl) d1.2.2.2 hl rfl rfl (by omega) hL (sy_d42 (sy_i1_r lw_by (k := 400) (v := 42) rfl)) (sy_d21 (sy_i1_r lw_by (k := 401) (v := 21) rfl) (sy_i1_r lw_by (k := 402) (v := 4) rfl)) (sy_d6 (sy_i1_r lw_by (k := 403) (v := 6) rfl)) (sy_d96 (sy_i1_r lw_by (k := 404) (v := 96) rfl)) (sy_d46 (sy_i1_r lw_by (k := 405) (v := 46) rfl)) ?_
  refine sw_scr (k0 := 4) (k4 := 0) (j := 4) X.1.1.1 X.1.1.2.1 hX hbl (lw_nA hbl) d1.2.2.2 hl rfl rfl (by omega) hL (sy_d42 (sy_i1_r lw_by (k := 406) (v := 42) rfl)) (sy_d21 (sy_i1_r lw_by (k := 407) (v := 21) rfl) (sy_i1_r lw_by (k := 408) (v := 4) rfl)) (sy_d7 (sy_i1_r lw_by (k := 409) (v := 7) rfl)) (sy_d96 (sy_i1_r lw_by (k := 410) (v := 96) rfl)) (sy_d46 (sy_i1_r lw_by (k := 411) (v := 46) rfl)) ?_
  have hPg2 : sy_pg[339]? = some ((sy_my 12 243 134, prog_14_method_63_code, 5, (some .int)), sy_c339) := rfl
  refine sw_VP (ys := [.int (xs (i + 4)), .int (xs (i + 3)), .int (xs (i + 2)), .int (xs (i + 1))]) (rs := []) (n := 4) X (jo_R_call (l := l) (D := D) (dA := dA) hm hI1 hR1 hT1) (sy_okDD.2 339 _ _ _ _ _ hPg2) (sy_hgm 1326 _ rfl) (hts _ (ev_wd_in (h := 10087) rfl)) (sy_hgm 1327 _ rfl) (sy_hgm 1328 _ rfl) (by decide +kernel) (j9 := 692) sw_k692 hm rfl rfl rfl d1 rfl hl.1 (Nat.le_of_ble_eq_true rfl) (sy_d182 (sy_b3_r lw_by (k := 412) (op := 182) (n := 69) rfl).1 (sy_b3_r lw_by (k := 412) (op := 182) (n := 69) rfl).2) hf (fun rv2 u2 h2 H2 locs2 P2 d2 => ?_)
  obtain ⟨hI2, hR2, hT2, sh2⟩ := P2
  obtain ⟨v2, rfl⟩ := sh2
  refine lv_pop X.1.1.1 X.1.1.2.1 (sy_d87 (sy_i1_r lw_by (k := 415) (v := 87) rfl)) rfl ?_
  refine lv_goto (off := ((652 : Nat) : Int) - ((416 : Nat) : Int)) (tgt := 652) X.1.1.1 X.1.1.2.1 (sy_d167 (sy_bj_r lw_by (k := 416) (op := 167) (t := 652) rfl).1 (sy_bj_r lw_by (k := 416) (op := 167) (t := 652) rfl).2) (by decide) ?_
  exact kk _ _ _ _ d2 ⟨hI2, _, hT2, hR2⟩
theorem sw_c10 {p : Program} {l : Launch} {e : Env} {s : State} {m : MethodId} {below : List Frame} {meth : Method} {c : Code} {b L : Nat} {xs : Nat → Int32} (C0 : lw_At p s m meth c b L xs) {D : va_G} {dA : Nat → ClassId} {ad : List Nat} (X : sx_X p s m #[Value.ref b] c D ct_cl dA ct_kt sz_T sy_tb sw_kd ad (lw_A s) sy_gs R_law code 7) {Q : State → Prop} {i : Nat} (hi : i + 6 ≤ L) (hL : L < 2147483648) {ls : Array Slot} {ax am ao : Nat} (hl : lv_has ls 7 [(4, .int (nI i)), (3, .ref ao), (2, .ref am), (1, .ref ax), (0, .ref b)]) (ha : ad[0]? = some ax) (hm : ad[692]? = some am) {ws : va_W} {hh : sx_H} {H : Heap} {locs : List Loc} {nc ns : Nat} (hf : nc ≤ room_1.cells ∧ ns ≤ room_1.slots) (hW : sw_Wd D dA ad (lw_A s) s ws hh H locs) (hK : sw_K hh)
    (kk : ∀ (ws1 : va_W) (hh1 : sx_H) (H1 : Heap) (locs1 : List Loc), sw_Wd D dA ad (lw_A s) s ws1 hh1 H1 locs1 → sw_K hh1 → W p l e room_1 s m #[Value.ref b] below meth c H1 locs1 nc ns Q (F0 m 652 ls [])) : W p l e room_1 s m #[Value.ref b] below meth c H locs nc ns Q (F0 m 447 ls []) := by
  have hts := C0.2.2.2.2.2.1
  have hX := C0.2.2.2.2.2.2.1
  have hbl := C0.2.2.2.2.2.2.2.1
  obtain ⟨hI, o, hT, hR⟩ := hK
  have hz := jT_z hT
  refine lv_aload_n (k := 1) X.1.1.1 X.1.1.2.1 (sy_d43 (sy_i1_r lw_by (k := 447) (v := 43) rfl)) rfl (lv_at hl 3 rfl) ?_
  refine sw_scr (k0 := 4) (k4 := 0) (j := 1) X.1.1.1 X.1.1.2.1 hX hbl (lw_nA hbl) hW.2.2.2 hl rfl rfl (by omega) hL (sy_d42 (sy_i1_r lw_by (k := 448) (v := 42) rfl)) (sy_d21 (sy_i1_r lw_by (k := 449) (v := 21) rfl) (sy_i1_r lw_by (k := 450) (v := 4) rfl)) (sy_d4 (sy_i1_r lw_by (k := 451) (v := 4) rfl)) (sy_d96 (sy_i1_r lw_by (k := 452) (v := 96) rfl)) (sy_d46 (sy_i1_r lw_by (k := 453) (v := 46) rfl)) ?_
  have hPg1 : sy_pg[183]? = some ((sy_my 0 245 28, prog_1_method_12_code, 2, (some .int)), sy_c183) := rfl
  refine sw_VP (ys := [.int (xs (i + 1))]) (rs := []) (n := 1) X (jo_T_load (l := l) (D := D) (dA := dA) ha hI hT hR) (sy_okDD.2 183 _ _ _ _ _ hPg1) (sy_hgm 711 _ rfl) (hts _ (ev_wd_in (h := 7041) rfl)) (sy_hgm 712 _ rfl) (sy_hgm 713 _ rfl) (by decide +kernel) (j9 := 0) rfl ha rfl rfl rfl hW rfl hl.1 (Nat.le_of_ble_eq_true rfl) (sy_d182 (sy_b3_r lw_by (k := 454) (op := 182) (n := 76) rfl).1 (sy_b3_r lw_by (k := 454) (op := 182) (n := 76) rfl).2) hf (fun rv1 u1 h1 H1 locs1 P1 d1 => ?_)
  obtain ⟨hI1, hT1, hR1, sh1⟩ := P1
  obtain ⟨v1, rfl⟩ := sh1
  refine lv_pop X.1.1.1 X.1.1.2.1 (sy_d87 (sy_i1_r lw_by (k := 457) (v := 87) rfl)) rfl ?_
  refine lv_aload_n (k := 2) X.1.1.1 X.1.1.2.1 (sy_d44 (sy_i1_r lw_by (k := 458) (v := 44) rfl)) rfl (lv_at hl 2 rfl) ?_
  refine sw_scr (k0 := 4) (k4 := 0) (j := 1) X.1.1.1 X.1.1.2.1 hX hbl (lw_nA hbl) d1.2.2.2 hl rfl rfl (by omega) hL (sy_d42 (sy_i1_r lw_by (k := 459) (v := 42) rfl)) (sy_d21 (sy_i1_r lw_by (k := 460) (v := 21) rfl) (sy_i1_r lw_by (k := 461) (v := 4) rfl)) (sy_d4 (sy_i1_r lw_by (k := 462) (v := 4) rfl)) (sy_d96 (sy_i1_r lw_by (k := 463) (v := 96) rfl)) (sy_d46 (sy_i1_r lw_by (k := 464) (v := 46) rfl)) ?_
  have hPg2 : sy_pg[228]? = some ((sy_my 12 245 28, prog_14_method_58_code, 2, (some .int)), sy_c228) := rfl
  refine sw_VP (ys := [.int (xs (i + 1))]) (rs := []) (n := 1) X (jo_R_load (l := l) (D := D) (dA := dA) hm hI1 hR1 hT1) (sy_okDD.2 228 _ _ _ _ _ hPg2) (sy_hgm 888 _ rfl) (hts _ (ev_wd_in (h := 10061) rfl)) (sy_hgm 889 _ rfl) (sy_hgm 890 _ rfl) (by decide +kernel) (j9 := 692) sw_k692 hm rfl rfl rfl d1 rfl hl.1 (Nat.le_of_ble_eq_true rfl) (sy_d182 (sy_b3_r lw_by (k := 465) (op := 182) (n := 79) rfl).1 (sy_b3_r lw_by (k := 465) (op := 182) (n := 79) rfl).2) hf (fun rv2 u2 h2 H2 locs2 P2 d2 => ?_)
  obtain ⟨hI2, hR2, hT2, sh2⟩ := P2
  obtain ⟨v2, rfl⟩ := sh2
  refine lv_pop X.1.1.1 X.1.1.2.1 (sy_d87 (sy_i1_r lw_by (k := 468) (v := 87) rfl)) rfl ?_
  refine lv_goto (off := ((652 : Nat) : Int) - ((469 : Nat) : Int)) (tgt := 652) X.1.1.1 X.1.1.2.1 (sy_d167 (sy_bj_r lw_by (k := 469) (op := 167) (t := 652) rfl).1 (sy_bj_r lw_by (k := 469) (op := 167) (t := 652) rfl).2) (by decide) ?_
  exact kk _ _ _ _ d2 ⟨hI2, _, hT2, hR2⟩
theorem sw_c11 {p : Program} {l : Launch} {e : Env} {s : State} {m : MethodId} {below : List Frame} {meth : Method} {c : Code} {b L : Nat} {xs : Nat → Int32} (C0 : lw_At p s m meth c b L xs) {D : va_G} {dA : Nat → ClassId} {ad : List Nat} (X : sx_X p s m #[Value.ref b] c D ct_cl dA ct_kt sz_T sy_tb sw_kd ad (lw_A s) sy_gs R_law code 7) {Q : State → Prop} {i : Nat} (hi : i + 6 ≤ L) (hL : L < 2147483648) {ls : Array Slot} {ax am ao : Nat} (hl : lv_has ls 7 [(4, .int (nI i)), (3, .ref ao), (2, .ref am), (1, .ref ax), (0, .ref b)]) (ha : ad[0]? = some ax) (hm : ad[692]? = some am) {ws : va_W} {hh : sx_H} {H : Heap} {locs : List Loc} {nc ns : Nat} (hf : nc ≤ room_1.cells ∧ ns ≤ room_1.slots) (hW : sw_Wd D dA ad (lw_A s) s ws hh H locs) (hK : sw_K hh)
    (kk : ∀ (ws1 : va_W) (hh1 : sx_H) (H1 : Heap) (locs1 : List Loc), sw_Wd D dA ad (lw_A s) s ws1 hh1 H1 locs1 → sw_K hh1 → W p l e room_1 s m #[Value.ref b] below meth c H1 locs1 nc ns Q (F0 m 652 ls [])) : W p l e room_1 s m #[Value.ref b] below meth c H locs nc ns Q (F0 m 472 ls []) := by
  have hts := C0.2.2.2.2.2.1
  have hX := C0.2.2.2.2.2.2.1
  have hbl := C0.2.2.2.2.2.2.2.1
  obtain ⟨hI, o, hT, hR⟩ := hK
  have hz := jT_z hT
  refine lv_aload_n (k := 1) X.1.1.1 X.1.1.2.1 (sy_d43 (sy_i1_r lw_by (k := 472) (v := 43) rfl)) rfl (lv_at hl 3 rfl) ?_
  refine sw_scr (k0 := 4) (k4 := 0) (j := 1) X.1.1.1 X.1.1.2.1 hX hbl (lw_nA hbl) hW.2.2.2 hl rfl rfl (by omega) hL (sy_d42 (sy_i1_r lw_by (k := 473) (v := 42) rfl)) (sy_d21 (sy_i1_r lw_by (k := 474) (v := 21) rfl) (sy_i1_r lw_by (k := 475) (v := 4) rfl)) (sy_d4 (sy_i1_r lw_by (k := 476) (v := 4) rfl)) (sy_d96 (sy_i1_r lw_by (k := 477) (v := 96) rfl)) (sy_d46 (sy_i1_r lw_by (k := 478) (v := 46) rfl)) ?_
  have hPg1 : sy_pg[184]? = some ((sy_my 0 246 20, prog_1_method_13_code, 2, (some .boolean)), sy_c184) := rfl
  refine sw_VP (ys := [.int (xs (i + 1))]) (rs := []) (n := 1) X (jo_T_store (l := l) (D := D) (dA := dA) ha hI hT hR) (sy_okDD.2 184 _ _ _ _ _ hPg1) (sy_hgm 715 _ rfl) (hts _ (ev_wd_in (h := 7046) rfl)) (sy_hgm 716 _ rfl) (sy_hgm 717 _ rfl) (by decide +kernel) (j9 := 0) rfl ha rfl rfl rfl hW rfl hl.1 (Nat.le_of_ble_eq_true rfl) (sy_d182 (sy_b3_r lw_by (k := 479) (op := 182) (n := 80) rfl).1 (sy_b3_r lw_by (k := 479) (op := 182) (n := 80) rfl).2) hf (fun rv1 u1 h1 H1 locs1 P1 d1 => ?_)
  obtain ⟨hI1, hT1, hR1, sh1⟩ := P1
  obtain ⟨v1, rfl⟩ := sh1
  refine lv_pop X.1.1.1 X.1.1.2.1 (sy_d87 (sy_i1_r lw_by (k := 482) (v := 87) rfl)) rfl ?_
  refine lv_aload_n (k := 2) X.1.1.1 X.1.1.2.1 (sy_d44 (sy_i1_r lw_by (k := 483) (v := 44) rfl)) rfl (lv_at hl 2 rfl) ?_
  refine sw_scr (k0 := 4) (k4 := 0) (j := 1) X.1.1.1 X.1.1.2.1 hX hbl (lw_nA hbl) d1.2.2.2 hl rfl rfl (by omega) hL (sy_d42 (sy_i1_r lw_by (k := 484) (v := 42) rfl)) (sy_d21 (sy_i1_r lw_by (k := 485) (v := 21) rfl) (sy_i1_r lw_by (k := 486) (v := 4) rfl)) (sy_d4 (sy_i1_r lw_by (k := 487) (v := 4) rfl)) (sy_d96 (sy_i1_r lw_by (k := 488) (v := 96) rfl)) (sy_d46 (sy_i1_r lw_by (k := 489) (v := 46) rfl)) ?_
  have hPg2 : sy_pg[229]? = some ((sy_my 12 246 20, prog_14_method_59_code, 3, (some .boolean)), sy_c229) := rfl
  refine sw_VP (ys := [.int (xs (i + 1))]) (rs := []) (n := 1) X (jo_R_store (l := l) (D := D) (dA := dA) hm hI1 hR1 hT1) (sy_okDD.2 229 _ _ _ _ _ hPg2) (sy_hgm 892 _ rfl) (hts _ (ev_wd_in (h := 10071) rfl)) (sy_hgm 893 _ rfl) (sy_hgm 894 _ rfl) (by decide +kernel) (j9 := 692) sw_k692 hm rfl rfl rfl d1 rfl hl.1 (Nat.le_of_ble_eq_true rfl) (sy_d182 (sy_b3_r lw_by (k := 490) (op := 182) (n := 83) rfl).1 (sy_b3_r lw_by (k := 490) (op := 182) (n := 83) rfl).2) hf (fun rv2 u2 h2 H2 locs2 P2 d2 => ?_)
  obtain ⟨hI2, hR2, hT2, sh2⟩ := P2
  obtain ⟨v2, rfl⟩ := sh2
  refine lv_pop X.1.1.1 X.1.1.2.1 (sy_d87 (sy_i1_r lw_by (k := 493) (v := 87) rfl)) rfl ?_
  refine lv_goto (off := ((652 : Nat) : Int) - ((494 : Nat) : Int)) (tgt := 652) X.1.1.1 X.1.1.2.1 (sy_d167 (sy_bj_r lw_by (k := 494) (op := 167) (t := 652) rfl).1 (sy_bj_r lw_by (k := 494) (op := 167) (t := 652) rfl).2) (by decide) ?_
  exact kk _ _ _ _ d2 ⟨hI2, _, hT2, hR2⟩
theorem sw_c12 {p : Program} {l : Launch} {e : Env} {s : State} {m : MethodId} {below : List Frame} {meth : Method} {c : Code} {b L : Nat} {xs : Nat → Int32} (C0 : lw_At p s m meth c b L xs) {D : va_G} {dA : Nat → ClassId} {ad : List Nat} (X : sx_X p s m #[Value.ref b] c D ct_cl dA ct_kt sz_T sy_tb sw_kd ad (lw_A s) sy_gs R_law code 7) {Q : State → Prop} {i : Nat} (hi : i + 6 ≤ L) (hL : L < 2147483648) {ls : Array Slot} {ax am ao : Nat} (hl : lv_has ls 7 [(4, .int (nI i)), (3, .ref ao), (2, .ref am), (1, .ref ax), (0, .ref b)]) (ha : ad[0]? = some ax) (hm : ad[692]? = some am) {ws : va_W} {hh : sx_H} {H : Heap} {locs : List Loc} {nc ns : Nat} (hf : nc ≤ room_1.cells ∧ ns ≤ room_1.slots) (hW : sw_Wd D dA ad (lw_A s) s ws hh H locs) (hK : sw_K hh)
    (kk : ∀ (ws1 : va_W) (hh1 : sx_H) (H1 : Heap) (locs1 : List Loc), sw_Wd D dA ad (lw_A s) s ws1 hh1 H1 locs1 → sw_K hh1 → W p l e room_1 s m #[Value.ref b] below meth c H1 locs1 nc ns Q (F0 m 652 ls [])) : W p l e room_1 s m #[Value.ref b] below meth c H locs nc ns Q (F0 m 497 ls []) := by
  have hts := C0.2.2.2.2.2.1
  have hX := C0.2.2.2.2.2.2.1
  have hbl := C0.2.2.2.2.2.2.2.1
  obtain ⟨hI, o, hT, hR⟩ := hK
  have hz := jT_z hT
  refine lv_aload_n (k := 1) X.1.1.1 X.1.1.2.1 (sy_d43 (sy_i1_r lw_by (k := 497) (v := 43) rfl)) rfl (lv_at hl 3 rfl) ?_
  refine sw_scr (k0 := 4) (k4 := 0) (j := 1) X.1.1.1 X.1.1.2.1 hX hbl (lw_nA hbl) hW.2.2.2 hl rfl rfl (by omega) hL (sy_d42 (sy_i1_r lw_by (k := 498) (v := 42) rfl)) (sy_d21 (sy_i1_r lw_by (k := 499) (v := 21) rfl) (sy_i1_r lw_by (k := 500) (v := 4) rfl)) (sy_d4 (sy_i1_r lw_by (k := 501) (v := 4) rfl)) (sy_d96 (sy_i1_r lw_by (k := 502) (v := 96) rfl)) (sy_d46 (sy_i1_r lw_by (k := 503) (v := 46) rfl)) ?_
  have hPg1 : sy_pg[185]? = some ((sy_my 0 247 20, prog_1_method_14_code, 2, (some .boolean)), sy_c185) := rfl
  refine sw_VP (ys := [.int (xs (i + 1))]) (rs := []) (n := 1) X (jo_T_go (l := l) (D := D) (dA := dA) ha hI hT hR) (sy_okDD.2 185 _ _ _ _ _ hPg1) (sy_hgm 719 _ rfl) (hts _ (ev_wd_in (h := 7051) rfl)) (sy_hgm 720 _ rfl) (sy_hgm 721 _ rfl) (by decide +kernel) (j9 := 0) rfl ha rfl rfl rfl hW rfl hl.1 (Nat.le_of_ble_eq_true rfl) (sy_d182 (sy_b3_r lw_by (k := 504) (op := 182) (n := 84) rfl).1 (sy_b3_r lw_by (k := 504) (op := 182) (n := 84) rfl).2) hf (fun rv1 u1 h1 H1 locs1 P1 d1 => ?_)
  obtain ⟨hI1, hT1, hR1, sh1⟩ := P1
  obtain ⟨v1, rfl⟩ := sh1
  refine lv_pop X.1.1.1 X.1.1.2.1 (sy_d87 (sy_i1_r lw_by (k := 507) (v := 87) rfl)) rfl ?_
  refine lv_aload_n (k := 2) X.1.1.1 X.1.1.2.1 (sy_d44 (sy_i1_r lw_by (k := 508) (v := 44) rfl)) rfl (lv_at hl 2 rfl) ?_
  refine sw_scr (k0 := 4) (k4 := 0) (j := 1) X.1.1.1 X.1.1.2.1 hX hbl (lw_nA hbl) d1.2.2.2 hl rfl rfl (by omega) hL (sy_d42 (sy_i1_r lw_by (k := 509) (v := 42) rfl)) (sy_d21 (sy_i1_r lw_by (k := 510) (v := 21) rfl) (sy_i1_r lw_by (k := 511) (v := 4) rfl)) (sy_d4 (sy_i1_r lw_by (k := 512) (v := 4) rfl)) (sy_d96 (sy_i1_r lw_by (k := 513) (v := 96) rfl)) (sy_d46 (sy_i1_r lw_by (k := 514) (v := 46) rfl)) ?_
  have hPg2 : sy_pg[340]? = some ((sy_my 12 247 20, prog_14_method_151_code, 2, (some .boolean)), sy_c340) := rfl
  refine sw_VP (ys := [.int (xs (i + 1))]) (rs := []) (n := 1) X (jo_R_go (l := l) (D := D) (dA := dA) hm hI1 hR1 hT1) (sy_okDD.2 340 _ _ _ _ _ hPg2) (sy_hgm 1330 _ rfl) (hts _ (ev_wd_in (h := 12049) rfl)) (sy_hgm 1331 _ rfl) (sy_hgm 1332 _ rfl) (by decide +kernel) (j9 := 692) sw_k692 hm rfl rfl rfl d1 rfl hl.1 (Nat.le_of_ble_eq_true rfl) (sy_d182 (sy_b3_r lw_by (k := 515) (op := 182) (n := 87) rfl).1 (sy_b3_r lw_by (k := 515) (op := 182) (n := 87) rfl).2) hf (fun rv2 u2 h2 H2 locs2 P2 d2 => ?_)
  obtain ⟨hI2, hR2, hT2, sh2⟩ := P2
  obtain ⟨v2, rfl⟩ := sh2
  refine lv_pop X.1.1.1 X.1.1.2.1 (sy_d87 (sy_i1_r lw_by (k := 518) (v := 87) rfl)) rfl ?_
  refine lv_goto (off := ((652 : Nat) : Int) - ((519 : Nat) : Int)) (tgt := 652) X.1.1.1 X.1.1.2.1 (sy_d167 (sy_bj_r lw_by (k := 519) (op := 167) (t := 652) rfl).1 (sy_bj_r lw_by (k := 519) (op := 167) (t := 652) rfl).2) (by decide) ?_
  exact kk _ _ _ _ d2 ⟨hI2, _, hT2, hR2⟩
theorem sw_c13 {p : Program} {l : Launch} {e : Env} {s : State} {m : MethodId} {below : List Frame} {meth : Method} {c : Code} {b L : Nat} {xs : Nat → Int32} (C0 : lw_At p s m meth c b L xs) {D : va_G} {dA : Nat → ClassId} {ad : List Nat} (X : sx_X p s m #[Value.ref b] c D ct_cl dA ct_kt sz_T sy_tb sw_kd ad (lw_A s) sy_gs R_law code 7) {Q : State → Prop} {i : Nat} (hi : i + 6 ≤ L) (hL : L < 2147483648) {ls : Array Slot} {ax am ao : Nat} (hl : lv_has ls 7 [(4, .int (nI i)), (3, .ref ao), (2, .ref am), (1, .ref ax), (0, .ref b)]) (ha : ad[0]? = some ax) (hm : ad[692]? = some am) {ws : va_W} {hh : sx_H} {H : Heap} {locs : List Loc} {nc ns : Nat} (hf : nc ≤ room_1.cells ∧ ns ≤ room_1.slots) (hW : sw_Wd D dA ad (lw_A s) s ws hh H locs) (hK : sw_K hh)
    (kk : ∀ (ws1 : va_W) (hh1 : sx_H) (H1 : Heap) (locs1 : List Loc), sw_Wd D dA ad (lw_A s) s ws1 hh1 H1 locs1 → sw_K hh1 → W p l e room_1 s m #[Value.ref b] below meth c H1 locs1 nc ns Q (F0 m 652 ls [])) : W p l e room_1 s m #[Value.ref b] below meth c H locs nc ns Q (F0 m 522 ls []) := by
  have hts := C0.2.2.2.2.2.1
  have hX := C0.2.2.2.2.2.2.1
  have hbl := C0.2.2.2.2.2.2.2.1
  obtain ⟨hI, o, hT, hR⟩ := hK
  have hz := jT_z hT
  refine lv_aload_n (k := 1) X.1.1.1 X.1.1.2.1 (sy_d43 (sy_i1_r lw_by (k := 522) (v := 43) rfl)) rfl (lv_at hl 3 rfl) ?_
  refine sw_scr (k0 := 4) (k4 := 0) (j := 1) X.1.1.1 X.1.1.2.1 hX hbl (lw_nA hbl) hW.2.2.2 hl rfl rfl (by omega) hL (sy_d42 (sy_i1_r lw_by (k := 523) (v := 42) rfl)) (sy_d21 (sy_i1_r lw_by (k := 524) (v := 21) rfl) (sy_i1_r lw_by (k := 525) (v := 4) rfl)) (sy_d4 (sy_i1_r lw_by (k := 526) (v := 4) rfl)) (sy_d96 (sy_i1_r lw_by (k := 527) (v := 96) rfl)) (sy_d46 (sy_i1_r lw_by (k := 528) (v := 46) rfl)) ?_
  have hPg1 : sy_pg[189]? = some ((sy_my 0 250 28, prog_1_method_15_code, 6, (some .int)), sy_c189) := rfl
  refine sw_VP (ys := [.int (xs (i + 1))]) (rs := []) (n := 1) X (jo_T_walk (l := l) (D := D) (dA := dA) ha hI hT hR) (sy_okDD.2 189 _ _ _ _ _ hPg1) (sy_hgm 735 _ rfl) (hts _ (ev_wd_in (h := 7055) rfl)) (sy_hgm 736 _ rfl) (sy_hgm 737 _ rfl) (by decide +kernel) (j9 := 0) rfl ha rfl rfl rfl hW rfl hl.1 (Nat.le_of_ble_eq_true rfl) (sy_d182 (sy_b3_r lw_by (k := 529) (op := 182) (n := 88) rfl).1 (sy_b3_r lw_by (k := 529) (op := 182) (n := 88) rfl).2) hf (fun rv1 u1 h1 H1 locs1 P1 d1 => ?_)
  obtain ⟨hI1, hT1, hR1, sh1⟩ := P1
  obtain ⟨v1, rfl⟩ := sh1
  refine lv_pop X.1.1.1 X.1.1.2.1 (sy_d87 (sy_i1_r lw_by (k := 532) (v := 87) rfl)) rfl ?_
  refine lv_aload_n (k := 2) X.1.1.1 X.1.1.2.1 (sy_d44 (sy_i1_r lw_by (k := 533) (v := 44) rfl)) rfl (lv_at hl 2 rfl) ?_
  refine sw_scr (k0 := 4) (k4 := 0) (j := 1) X.1.1.1 X.1.1.2.1 hX hbl (lw_nA hbl) d1.2.2.2 hl rfl rfl (by omega) hL (sy_d42 (sy_i1_r lw_by (k := 534) (v := 42) rfl)) (sy_d21 (sy_i1_r lw_by (k := 535) (v := 21) rfl) (sy_i1_r lw_by (k := 536) (v := 4) rfl)) (sy_d4 (sy_i1_r lw_by (k := 537) (v := 4) rfl)) (sy_d96 (sy_i1_r lw_by (k := 538) (v := 96) rfl)) (sy_d46 (sy_i1_r lw_by (k := 539) (v := 46) rfl)) ?_
  have hPg2 : sy_pg[344]? = some ((sy_my 12 250 28, prog_14_method_153_code, 3, (some .int)), sy_c344) := rfl
  refine sw_VP (ys := [.int (xs (i + 1))]) (rs := []) (n := 1) X (jo_R_walk (l := l) (D := D) (dA := dA) hm hI1 hR1 hT1) (sy_okDD.2 344 _ _ _ _ _ hPg2) (sy_hgm 1346 _ rfl) (hts _ (ev_wd_in (h := 12057) rfl)) (sy_hgm 1347 _ rfl) (sy_hgm 1348 _ rfl) (by decide +kernel) (j9 := 692) sw_k692 hm rfl rfl rfl d1 rfl hl.1 (Nat.le_of_ble_eq_true rfl) (sy_d182 (sy_b3_r lw_by (k := 540) (op := 182) (n := 91) rfl).1 (sy_b3_r lw_by (k := 540) (op := 182) (n := 91) rfl).2) hf (fun rv2 u2 h2 H2 locs2 P2 d2 => ?_)
  obtain ⟨hI2, hR2, hT2, sh2⟩ := P2
  obtain ⟨v2, rfl⟩ := sh2
  refine lv_pop X.1.1.1 X.1.1.2.1 (sy_d87 (sy_i1_r lw_by (k := 543) (v := 87) rfl)) rfl ?_
  refine lv_goto (off := ((652 : Nat) : Int) - ((544 : Nat) : Int)) (tgt := 652) X.1.1.1 X.1.1.2.1 (sy_d167 (sy_bj_r lw_by (k := 544) (op := 167) (t := 652) rfl).1 (sy_bj_r lw_by (k := 544) (op := 167) (t := 652) rfl).2) (by decide) ?_
  exact kk _ _ _ _ d2 ⟨hI2, _, hT2, hR2⟩
theorem sw_c16 {p : Program} {l : Launch} {e : Env} {s : State} {m : MethodId} {below : List Frame} {meth : Method} {c : Code} {b L : Nat} {xs : Nat → Int32} (C0 : lw_At p s m meth c b L xs) {D : va_G} {dA : Nat → ClassId} {ad : List Nat} (X : sx_X p s m #[Value.ref b] c D ct_cl dA ct_kt sz_T sy_tb sw_kd ad (lw_A s) sy_gs R_law code 7) {Q : State → Prop} {i : Nat} (hi : i + 6 ≤ L) (hL : L < 2147483648) {ls : Array Slot} {ax am ao : Nat} (hl : lv_has ls 7 [(4, .int (nI i)), (3, .ref ao), (2, .ref am), (1, .ref ax), (0, .ref b)]) (ha : ad[0]? = some ax) (hm : ad[692]? = some am) {ws : va_W} {hh : sx_H} {H : Heap} {locs : List Loc} {nc ns : Nat} (hf : nc ≤ room_1.cells ∧ ns ≤ room_1.slots) (hW : sw_Wd D dA ad (lw_A s) s ws hh H locs) (hK : sw_K hh)
    (kk : ∀ (ws1 : va_W) (hh1 : sx_H) (H1 : Heap) (locs1 : List Loc), sw_Wd D dA ad (lw_A s) s ws1 hh1 H1 locs1 → sw_K hh1 → W p l e room_1 s m #[Value.ref b] below meth c H1 locs1 nc ns Q (F0 m 652 ls [])) : W p l e room_1 s m #[Value.ref b] below meth c H locs nc ns Q (F0 m 627 ls []) := by
  have hts := C0.2.2.2.2.2.1
  have hX := C0.2.2.2.2.2.2.1
  have hbl := C0.2.2.2.2.2.2.2.1
  obtain ⟨hI, o, hT, hR⟩ := hK
  have hz := jT_z hT
  refine lv_aload_n (k := 1) X.1.1.1 X.1.1.2.1 (sy_d43 (sy_i1_r lw_by (k := 627) (v := 43) rfl)) rfl (lv_at hl 3 rfl) ?_
  refine sw_scr (k0 := 4) (k4 := 0) (j := 1) X.1.1.1 X.1.1.2.1 hX hbl (lw_nA hbl) hW.2.2.2 hl rfl rfl (by omega) hL (sy_d42 (sy_i1_r lw_by (k := 628) (v := 42) rfl)) (sy_d21 (sy_i1_r lw_by (k := 629) (v := 21) rfl) (sy_i1_r lw_by (k := 630) (v := 4) rfl)) (sy_d4 (sy_i1_r lw_by (k := 631) (v := 4) rfl)) (sy_d96 (sy_i1_r lw_by (k := 632) (v := 96) rfl)) (sy_d46 (sy_i1_r lw_by (k := 633) (v := 46) rfl)) ?_
  have hPg1 : sy_pg[195]? = some ((sy_my 0 256 20, prog_1_method_18_code, 2, (some .boolean)), sy_c195) := rfl
  refine sw_VP (ys := [.int (xs (i + 1))]) (rs := []) (n := 1) X (jo_T_replay (l := l) (D := D) (dA := dA) ha hI hT hR) (sy_okDD.2 195 _ _ _ _ _ hPg1) (sy_hgm 759 _ rfl) (hts _ (ev_wd_in (h := 7075) rfl)) (sy_hgm 760 _ rfl) (sy_hgm 761 _ rfl) (by decide +kernel) (j9 := 0) rfl ha rfl rfl rfl hW rfl hl.1 (Nat.le_of_ble_eq_true rfl) (sy_d182 (sy_b3_r lw_by (k := 634) (op := 182) (n := 99) rfl).1 (sy_b3_r lw_by (k := 634) (op := 182) (n := 99) rfl).2) hf (fun rv1 u1 h1 H1 locs1 P1 d1 => ?_)
  obtain ⟨hI1, hT1, hR1, sh1⟩ := P1
  obtain ⟨v1, rfl, ea1⟩ := sh1
  refine lv_pop X.1.1.1 X.1.1.2.1 (sy_d87 (sy_i1_r lw_by (k := 637) (v := 87) rfl)) rfl ?_
  refine lv_aload_n (k := 2) X.1.1.1 X.1.1.2.1 (sy_d44 (sy_i1_r lw_by (k := 638) (v := 44) rfl)) rfl (lv_at hl 2 rfl) ?_
  refine sw_scr (k0 := 4) (k4 := 0) (j := 1) X.1.1.1 X.1.1.2.1 hX hbl (lw_nA hbl) d1.2.2.2 hl rfl rfl (by omega) hL (sy_d42 (sy_i1_r lw_by (k := 639) (v := 42) rfl)) (sy_d21 (sy_i1_r lw_by (k := 640) (v := 21) rfl) (sy_i1_r lw_by (k := 641) (v := 4) rfl)) (sy_d4 (sy_i1_r lw_by (k := 642) (v := 4) rfl)) (sy_d96 (sy_i1_r lw_by (k := 643) (v := 96) rfl)) (sy_d46 (sy_i1_r lw_by (k := 644) (v := 46) rfl)) ?_
  have hPg2 : sy_pg[231]? = some ((sy_my 12 256 20, prog_14_method_61_code, 3, (some .boolean)), sy_c231) := rfl
  refine sw_VP (ys := [.int (xs (i + 1))]) (rs := []) (n := 1) X (jo_R_replay (l := l) (D := D) (dA := dA) hm hI1 hR1 hT1) (sy_okDD.2 231 _ _ _ _ _ hPg2) (sy_hgm 900 _ rfl) (hts _ (ev_wd_in (h := 10079) rfl)) (sy_hgm 901 _ rfl) (sy_hgm 902 _ rfl) (by decide +kernel) (j9 := 692) sw_k692 hm rfl rfl rfl d1 rfl hl.1 (Nat.le_of_ble_eq_true rfl) (sy_d182 (sy_b3_r lw_by (k := 645) (op := 182) (n := 102) rfl).1 (sy_b3_r lw_by (k := 645) (op := 182) (n := 102) rfl).2) hf (fun rv2 u2 h2 H2 locs2 P2 d2 => ?_)
  obtain ⟨hI2, hR2, hT2, sh2⟩ := P2
  obtain ⟨v2, rfl, ea2⟩ := sh2
  refine lv_pop X.1.1.1 X.1.1.2.1 (sy_d87 (sy_i1_r lw_by (k := 648) (v := 87) rfl)) rfl ?_
  refine lv_goto (off := ((652 : Nat) : Int) - ((649 : Nat) : Int)) (tgt := 652) X.1.1.1 X.1.1.2.1 (sy_d167 (sy_bj_r lw_by (k := 649) (op := 167) (t := 652) rfl).1 (sy_bj_r lw_by (k := 649) (op := 167) (t := 652) rfl).2) (by decide) ?_
  exact kk _ _ _ _ d2 ⟨hI2, _, hT2, hR2⟩
