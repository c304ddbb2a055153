/-! All methods that were looked at. Written by a program (wip/tools/gen431.py). -/
def sy_op (k : Nat) (q : ev_Mt) : Prop := plainName q.1.1.cls = true ∧ ev_pc q.2 0 = 0 ∧ ∀ (ix : Nat) (i : ev_I), q.2[ix]? = some i → sx_ok sy_gc ct_all ct_kt sy_pg [] sy_tb q.1.1.cls q.1.1.name q.1.2.1 q.1.2.2.1 q.1.2.2.2 q.2 ix i = true
theorem sy_pl0 : plainName (sy_nm 0) = true := by decide +kernel
theorem sy_pl1 : plainName (sy_nm 1) = true := by decide +kernel
theorem sy_pl2 : plainName (sy_nm 2) = true := by decide +kernel
theorem sy_pl3 : plainName (sy_nm 3) = true := by decide +kernel
theorem sy_pl4 : plainName (sy_nm 4) = true := by decide +kernel
theorem sy_pl5 : plainName (sy_nm 5) = true := by decide +kernel
theorem sy_pl6 : plainName (sy_nm 6) = true := by decide +kernel
theorem sy_pl7 : plainName (sy_nm 7) = true := by decide +kernel
theorem sy_pl8 : plainName (sy_nm 8) = true := by decide +kernel
theorem sy_pl9 : plainName (sy_nm 9) = true := by decide +kernel
theorem sy_pl10 : plainName (sy_nm 10) = true := by decide +kernel
theorem sy_pl11 : plainName (sy_nm 11) = true := by decide +kernel
theorem sy_pl12 : plainName (sy_nm 12) = true := by decide +kernel
theorem sy_pl13 : plainName (sy_nm 13) = true := by decide +kernel
theorem sy_oo0 : sy_op 0 ((sy_my 9 15 16, prog_10_method_3_code, 3, none), sy_c0) := ⟨sy_pl9, rfl, fun ix i hi => by
  have hl : ix < 33 := by
    have hc : sy_c0.length = 33 := by decide +kernel
    rw [← hc]
    exact (List.getElem?_eq_some_iff.mp hi).1
  exact sy_okM_r sy_by0 sy_o0_0 (by omega) (by omega) hi⟩
theorem sy_oo1 : sy_op 1 ((sy_my 0 17 18, prog_1_method_2_code, 6, (some .boolean)), sy_c1) := ⟨sy_pl0, rfl, fun ix i hi => by
  have hl : ix < 52 := by
    have hc : sy_c1.length = 52 := by decide +kernel
    rw [← hc]
    exact (List.getElem?_eq_some_iff.mp hi).1
  exact sy_okM_r sy_by1 sy_o1_0 (by omega) (by omega) hi⟩
theorem sy_oo2 : sy_op 2 ((sy_my 0 19 20, prog_1_method_3_code, 2, (some .boolean)), sy_c2) := ⟨sy_pl0, rfl, fun ix i hi => by
  have hl : ix < 13 := by
    have hc : sy_c2.length = 13 := by decide +kernel
    rw [← hc]
    exact (List.getElem?_eq_some_iff.mp hi).1
  exact sy_okM_r sy_by2 sy_o2_0 (by omega) (by omega) hi⟩
theorem sy_oo3 : sy_op 3 ((sy_my 9 21 22, prog_10_method_6_code, 15, none), sy_c3) := ⟨sy_pl9, rfl, fun ix i hi => by
  have hl : ix < 335 := by
    have hc : sy_c3.length = 335 := by decide +kernel
    rw [← hc]
    exact (List.getElem?_eq_some_iff.mp hi).1
  rcases Nat.lt_or_ge ix 80 with q0 | q0
  · exact sy_okM_r sy_by3 sy_o3_0 (by omega) (by omega) hi
  rcases Nat.lt_or_ge ix 160 with q80 | q80
  · exact sy_okM_r sy_by3 sy_o3_80 (by omega) (by omega) hi
  rcases Nat.lt_or_ge ix 240 with q160 | q160
  · exact sy_okM_r sy_by3 sy_o3_160 (by omega) (by omega) hi
  rcases Nat.lt_or_ge ix 320 with q240 | q240
  · exact sy_okM_r sy_by3 sy_o3_240 (by omega) (by omega) hi
  exact sy_okM_r sy_by3 sy_o3_320 (by omega) (by omega) hi⟩
theorem sy_oo4 : sy_op 4 ((sy_my 13 23 24, prog_29_method_109_code, 4, none), sy_c4) := ⟨sy_pl13, rfl, fun ix i hi => by
  have hl : ix < 15 := by
    have hc : sy_c4.length = 15 := by decide +kernel
    rw [← hc]
    exact (List.getElem?_eq_some_iff.mp hi).1
  exact sy_okM_r sy_by4 sy_o4_0 (by omega) (by omega) hi⟩
theorem sy_oo5 : sy_op 5 ((sy_my 9 25 26, prog_10_method_4_code, 11, none), sy_c5) := ⟨sy_pl9, rfl, fun ix i hi => by
  have hl : ix < 99 := by
    have hc : sy_c5.length = 99 := by decide +kernel
    rw [← hc]
    exact (List.getElem?_eq_some_iff.mp hi).1
  rcases Nat.lt_or_ge ix 80 with q0 | q0
  · exact sy_okM_r sy_by5 sy_o5_0 (by omega) (by omega) hi
  exact sy_okM_r sy_by5 sy_o5_80 (by omega) (by omega) hi⟩
theorem sy_oo6 : sy_op 6 ((sy_my 0 27 28, prog_1_method_4_code, 3, (some .int)), sy_c6) := ⟨sy_pl0, rfl, fun ix i hi => by
  have hl : ix < 49 := by
    have hc : sy_c6.length = 49 := by decide +kernel
    rw [← hc]
    exact (List.getElem?_eq_some_iff.mp hi).1
  exact sy_okM_r sy_by6 sy_o6_0 (by omega) (by omega) hi⟩
theorem sy_oo7 : sy_op 7 ((sy_my 0 29 30, prog_1_method_5_code, 1, (some .boolean)), sy_c7) := ⟨sy_pl0, rfl, fun ix i hi => by
  have hl : ix < 23 := by
    have hc : sy_c7.length = 23 := by decide +kernel
    rw [← hc]
    exact (List.getElem?_eq_some_iff.mp hi).1
  exact sy_okM_r sy_by7 sy_o7_0 (by omega) (by omega) hi⟩
theorem sy_oo8 : sy_op 8 ((sy_my 0 31 32, prog_1_method_6_code, 4, (some .boolean)), sy_c8) := ⟨sy_pl0, rfl, fun ix i hi => by
  have hl : ix < 43 := by
    have hc : sy_c8.length = 43 := by decide +kernel
    rw [← hc]
    exact (List.getElem?_eq_some_iff.mp hi).1
  exact sy_okM_r sy_by8 sy_o8_0 (by omega) (by omega) hi⟩
theorem sy_oo9 : sy_op 9 ((sy_my 5 33 34, prog_6_method_2_code, 2, none), sy_c9) := ⟨sy_pl5, rfl, fun ix i hi => by
  have hl : ix < 22 := by
    have hc : sy_c9.length = 22 := by decide +kernel
    rw [← hc]
    exact (List.getElem?_eq_some_iff.mp hi).1
  exact sy_okM_r sy_by9 sy_o9_0 (by omega) (by omega) hi⟩
theorem sy_oo10 : sy_op 10 ((sy_my 8 35 34, prog_9_method_5_code, 2, none), sy_c10) := ⟨sy_pl8, rfl, fun ix i hi => by
  have hl : ix < 27 := by
    have hc : sy_c10.length = 27 := by decide +kernel
    rw [← hc]
    exact (List.getElem?_eq_some_iff.mp hi).1
  exact sy_okM_r sy_by10 sy_o10_0 (by omega) (by omega) hi⟩
theorem sy_oo11 : sy_op 11 ((sy_my 8 36 34, prog_9_method_6_code, 2, none), sy_c11) := ⟨sy_pl8, rfl, fun ix i hi => by
  have hl : ix < 10 := by
    have hc : sy_c11.length = 10 := by decide +kernel
    rw [← hc]
    exact (List.getElem?_eq_some_iff.mp hi).1
  exact sy_okM_r sy_by11 sy_o11_0 (by omega) (by omega) hi⟩
theorem sy_oo12 : sy_op 12 ((sy_my 8 37 34, prog_9_method_3_code, 1, none), sy_c12) := ⟨sy_pl8, rfl, fun ix i hi => by
  have hl : ix < 6 := by
    have hc : sy_c12.length = 6 := by decide +kernel
    rw [← hc]
    exact (List.getElem?_eq_some_iff.mp hi).1
  exact sy_okM_r sy_by12 sy_o12_0 (by omega) (by omega) hi⟩
theorem sy_oo13 : sy_op 13 ((sy_my 6 33 34, prog_7_method_2_code, 2, none), sy_c13) := ⟨sy_pl6, rfl, fun ix i hi => by
  have hl : ix < 33 := by
    have hc : sy_c13.length = 33 := by decide +kernel
    rw [← hc]
    exact (List.getElem?_eq_some_iff.mp hi).1
  exact sy_okM_r sy_by13 sy_o13_0 (by omega) (by omega) hi⟩
theorem sy_oo14 : sy_op 14 ((sy_my 13 23 38, prog_29_method_103_code, 4, none), sy_c14) := ⟨sy_pl13, rfl, fun ix i hi => by
  have hl : ix < 15 := by
    have hc : sy_c14.length = 15 := by decide +kernel
    rw [← hc]
    exact (List.getElem?_eq_some_iff.mp hi).1
  exact sy_okM_r sy_by14 sy_o14_0 (by omega) (by omega) hi⟩
theorem sy_oo15 : sy_op 15 ((sy_my 0 39 30, prog_1_method_7_code, 1, (some .boolean)), sy_c15) := ⟨sy_pl0, rfl, fun ix i hi => by
  have hl : ix < 35 := by
    have hc : sy_c15.length = 35 := by decide +kernel
    rw [← hc]
    exact (List.getElem?_eq_some_iff.mp hi).1
  exact sy_okM_r sy_by15 sy_o15_0 (by omega) (by omega) hi⟩
theorem sy_oo16 : sy_op 16 ((sy_my 0 40 41, prog_1_method_8_code, 2, none), sy_c16) := ⟨sy_pl0, rfl, fun ix i hi => by
  have hl : ix < 9 := by
    have hc : sy_c16.length = 9 := by decide +kernel
    rw [← hc]
    exact (List.getElem?_eq_some_iff.mp hi).1
  exact sy_okM_r sy_by16 sy_o16_0 (by omega) (by omega) hi⟩
theorem sy_oo17 : sy_op 17 ((sy_my 0 42 30, prog_1_method_9_code, 1, (some .boolean)), sy_c17) := ⟨sy_pl0, rfl, fun ix i hi => by
  have hl : ix < 4 := by
    have hc : sy_c17.length = 4 := by decide +kernel
    rw [← hc]
    exact (List.getElem?_eq_some_iff.mp hi).1
  exact sy_okM_r sy_by17 sy_o17_0 (by omega) (by omega) hi⟩
theorem sy_oo18 : sy_op 18 ((sy_my 6 43 28, prog_7_method_4_code, 2, (some .int)), sy_c18) := ⟨sy_pl6, rfl, fun ix i hi => by
  have hl : ix < 7 := by
    have hc : sy_c18.length = 7 := by decide +kernel
    rw [← hc]
    exact (List.getElem?_eq_some_iff.mp hi).1
  exact sy_okM_r sy_by18 sy_o18_0 (by omega) (by omega) hi⟩
theorem sy_oo19 : sy_op 19 ((sy_my 13 44 45, prog_29_method_30_code, 3, none), sy_c19) := ⟨sy_pl13, rfl, fun ix i hi => by
  have hl : ix < 37 := by
    have hc : sy_c19.length = 37 := by decide +kernel
    rw [← hc]
    exact (List.getElem?_eq_some_iff.mp hi).1
  exact sy_okM_r sy_by19 sy_o19_0 (by omega) (by omega) hi⟩
theorem sy_oo20 : sy_op 20 ((sy_my 13 23 46, prog_29_method_110_code, 5, none), sy_c20) := ⟨sy_pl13, rfl, fun ix i hi => by
  have hl : ix < 17 := by
    have hc : sy_c20.length = 17 := by decide +kernel
    rw [← hc]
    exact (List.getElem?_eq_some_iff.mp hi).1
  exact sy_okM_r sy_by20 sy_o20_0 (by omega) (by omega) hi⟩
theorem sy_oo21 : sy_op 21 ((sy_my 5 47 41, prog_6_method_9_code, 2, none), sy_c21) := ⟨sy_pl5, rfl, fun ix i hi => by
  have hl : ix < 18 := by
    have hc : sy_c21.length = 18 := by decide +kernel
    rw [← hc]
    exact (List.getElem?_eq_some_iff.mp hi).1
  exact sy_okM_r sy_by21 sy_o21_0 (by omega) (by omega) hi⟩
theorem sy_oo22 : sy_op 22 ((sy_my 6 48 28, prog_7_method_5_code, 2, (some .int)), sy_c22) := ⟨sy_pl6, rfl, fun ix i hi => by
  have hl : ix < 22 := by
    have hc : sy_c22.length = 22 := by decide +kernel
    rw [← hc]
    exact (List.getElem?_eq_some_iff.mp hi).1
  exact sy_okM_r sy_by22 sy_o22_0 (by omega) (by omega) hi⟩
theorem sy_oo23 : sy_op 23 ((sy_my 6 49 28, prog_7_method_6_code, 2, (some .int)), sy_c23) := ⟨sy_pl6, rfl, fun ix i hi => by
  have hl : ix < 33 := by
    have hc : sy_c23.length = 33 := by decide +kernel
    rw [← hc]
    exact (List.getElem?_eq_some_iff.mp hi).1
  exact sy_okM_r sy_by23 sy_o23_0 (by omega) (by omega) hi⟩
theorem sy_oo24 : sy_op 24 ((sy_my 5 50 51, prog_6_method_3_code, 5, (some .boolean)), sy_c24) := ⟨sy_pl5, rfl, fun ix i hi => by
  have hl : ix < 46 := by
    have hc : sy_c24.length = 46 := by decide +kernel
    rw [← hc]
    exact (List.getElem?_eq_some_iff.mp hi).1
  exact sy_okM_r sy_by24 sy_o24_0 (by omega) (by omega) hi⟩
theorem sy_oo25 : sy_op 25 ((sy_my 1 52 53, prog_2_method_2_code, 3, (some .boolean)), sy_c25) := ⟨sy_pl1, rfl, fun ix i hi => by
  have hl : ix < 25 := by
    have hc : sy_c25.length = 25 := by decide +kernel
    rw [← hc]
    exact (List.getElem?_eq_some_iff.mp hi).1
  exact sy_okM_r sy_by25 sy_o25_0 (by omega) (by omega) hi⟩
theorem sy_oo26 : sy_op 26 ((sy_my 6 54 55, prog_7_method_8_code, 3, (some .int)), sy_c26) := ⟨sy_pl6, rfl, fun ix i hi => by
  have hl : ix < 18 := by
    have hc : sy_c26.length = 18 := by decide +kernel
    rw [← hc]
    exact (List.getElem?_eq_some_iff.mp hi).1
  exact sy_okM_r sy_by26 sy_o26_0 (by omega) (by omega) hi⟩
theorem sy_oo27 : sy_op 27 ((sy_my 6 56 20, prog_7_method_9_code, 3, (some .boolean)), sy_c27) := ⟨sy_pl6, rfl, fun ix i hi => by
  have hl : ix < 24 := by
    have hc : sy_c27.length = 24 := by decide +kernel
    rw [← hc]
    exact (List.getElem?_eq_some_iff.mp hi).1
  exact sy_okM_r sy_by27 sy_o27_0 (by omega) (by omega) hi⟩
theorem sy_oo28 : sy_op 28 ((sy_my 1 57 51, prog_2_method_3_code, 6, (some .boolean)), sy_c28) := ⟨sy_pl1, rfl, fun ix i hi => by
  have hl : ix < 118 := by
    have hc : sy_c28.length = 118 := by decide +kernel
    rw [← hc]
    exact (List.getElem?_eq_some_iff.mp hi).1
  rcases Nat.lt_or_ge ix 80 with q0 | q0
  · exact sy_okM_r sy_by28 sy_o28_0 (by omega) (by omega) hi
  exact sy_okM_r sy_by28 sy_o28_80 (by omega) (by omega) hi⟩
theorem sy_oo29 : sy_op 29 ((sy_my 5 58 59, prog_6_method_7_code, 3, (some .int)), sy_c29) := ⟨sy_pl5, rfl, fun ix i hi => by
  have hl : ix < 18 := by
    have hc : sy_c29.length = 18 := by decide +kernel
    rw [← hc]
    exact (List.getElem?_eq_some_iff.mp hi).1
  exact sy_okM_r sy_by29 sy_o29_0 (by omega) (by omega) hi⟩
theorem sy_oo30 : sy_op 30 ((sy_my 5 60 59, prog_6_method_8_code, 2, (some .int)), sy_c30) := ⟨sy_pl5, rfl, fun ix i hi => by
  have hl : ix < 22 := by
    have hc : sy_c30.length = 22 := by decide +kernel
    rw [← hc]
    exact (List.getElem?_eq_some_iff.mp hi).1
  exact sy_okM_r sy_by30 sy_o30_0 (by omega) (by omega) hi⟩
theorem sy_oo31 : sy_op 31 ((sy_my 1 61 34, prog_2_method_4_code, 2, none), sy_c31) := ⟨sy_pl1, rfl, fun ix i hi => by
  have hl : ix < 22 := by
    have hc : sy_c31.length = 22 := by decide +kernel
    rw [← hc]
    exact (List.getElem?_eq_some_iff.mp hi).1
  exact sy_okM_r sy_by31 sy_o31_0 (by omega) (by omega) hi⟩
theorem sy_oo32 : sy_op 32 ((sy_my 6 62 63, prog_7_method_7_code, 5, (some .int)), sy_c32) := ⟨sy_pl6, rfl, fun ix i hi => by
  have hl : ix < 84 := by
    have hc : sy_c32.length = 84 := by decide +kernel
    rw [← hc]
    exact (List.getElem?_eq_some_iff.mp hi).1
  rcases Nat.lt_or_ge ix 80 with q0 | q0
  · exact sy_okM_r sy_by32 sy_o32_0 (by omega) (by omega) hi
  exact sy_okM_r sy_by32 sy_o32_80 (by omega) (by omega) hi⟩
theorem sy_oo33 : sy_op 33 ((sy_my 6 64 20, prog_7_method_10_code, 2, (some .boolean)), sy_c33) := ⟨sy_pl6, rfl, fun ix i hi => by
  have hl : ix < 15 := by
    have hc : sy_c33.length = 15 := by decide +kernel
    rw [← hc]
    exact (List.getElem?_eq_some_iff.mp hi).1
  exact sy_okM_r sy_by33 sy_o33_0 (by omega) (by omega) hi⟩
theorem sy_oo34 : sy_op 34 ((sy_my 1 65 34, prog_2_method_5_code, 2, none), sy_c34) := ⟨sy_pl1, rfl, fun ix i hi => by
  have hl : ix < 19 := by
    have hc : sy_c34.length = 19 := by decide +kernel
    rw [← hc]
    exact (List.getElem?_eq_some_iff.mp hi).1
  exact sy_okM_r sy_by34 sy_o34_0 (by omega) (by omega) hi⟩
theorem sy_oo35 : sy_op 35 ((sy_my 6 66 28, prog_7_method_12_code, 4, (some .int)), sy_c35) := ⟨sy_pl6, rfl, fun ix i hi => by
  have hl : ix < 56 := by
    have hc : sy_c35.length = 56 := by decide +kernel
    rw [← hc]
    exact (List.getElem?_eq_some_iff.mp hi).1
  exact sy_okM_r sy_by35 sy_o35_0 (by omega) (by omega) hi⟩
theorem sy_oo36 : sy_op 36 ((sy_my 8 67 41, prog_9_method_2_code, 2, none), sy_c36) := ⟨sy_pl8, rfl, fun ix i hi => by
  have hl : ix < 10 := by
    have hc : sy_c36.length = 10 := by decide +kernel
    rw [← hc]
    exact (List.getElem?_eq_some_iff.mp hi).1
  exact sy_okM_r sy_by36 sy_o36_0 (by omega) (by omega) hi⟩
theorem sy_oo37 : sy_op 37 ((sy_my 6 68 28, prog_7_method_13_code, 3, (some .int)), sy_c37) := ⟨sy_pl6, rfl, fun ix i hi => by
  have hl : ix < 31 := by
    have hc : sy_c37.length = 31 := by decide +kernel
    rw [← hc]
    exact (List.getElem?_eq_some_iff.mp hi).1
  exact sy_okM_r sy_by37 sy_o37_0 (by omega) (by omega) hi⟩
theorem sy_oo38 : sy_op 38 ((sy_my 6 69 20, prog_7_method_11_code, 2, (some .boolean)), sy_c38) := ⟨sy_pl6, rfl, fun ix i hi => by
  have hl : ix < 15 := by
    have hc : sy_c38.length = 15 := by decide +kernel
    rw [← hc]
    exact (List.getElem?_eq_some_iff.mp hi).1
  exact sy_okM_r sy_by38 sy_o38_0 (by omega) (by omega) hi⟩
theorem sy_oo39 : sy_op 39 ((sy_my 6 70 28, prog_7_method_14_code, 2, (some .int)), sy_c39) := ⟨sy_pl6, rfl, fun ix i hi => by
  have hl : ix < 13 := by
    have hc : sy_c39.length = 13 := by decide +kernel
    rw [← hc]
    exact (List.getElem?_eq_some_iff.mp hi).1
  exact sy_okM_r sy_by39 sy_o39_0 (by omega) (by omega) hi⟩
theorem sy_oo40 : sy_op 40 ((sy_my 5 71 28, prog_6_method_5_code, 2, (some .int)), sy_c40) := ⟨sy_pl5, rfl, fun ix i hi => by
  have hl : ix < 40 := by
    have hc : sy_c40.length = 40 := by decide +kernel
    rw [← hc]
    exact (List.getElem?_eq_some_iff.mp hi).1
  exact sy_okM_r sy_by40 sy_o40_0 (by omega) (by omega) hi⟩
theorem sy_oo41 : sy_op 41 ((sy_my 8 72 73, prog_9_method_7_code, 7, (some .boolean)), sy_c41) := ⟨sy_pl8, rfl, fun ix i hi => by
  have hl : ix < 113 := by
    have hc : sy_c41.length = 113 := by decide +kernel
    rw [← hc]
    exact (List.getElem?_eq_some_iff.mp hi).1
  rcases Nat.lt_or_ge ix 80 with q0 | q0
  · exact sy_okM_r sy_by41 sy_o41_0 (by omega) (by omega) hi
  exact sy_okM_r sy_by41 sy_o41_80 (by omega) (by omega) hi⟩
theorem sy_oo42 : sy_op 42 ((sy_my 1 74 75, prog_2_method_7_code, 3, none), sy_c42) := ⟨sy_pl1, rfl, fun ix i hi => by
  have hl : ix < 16 := by
    have hc : sy_c42.length = 16 := by decide +kernel
    rw [← hc]
    exact (List.getElem?_eq_some_iff.mp hi).1
  exact sy_okM_r sy_by42 sy_o42_0 (by omega) (by omega) hi⟩
theorem sy_oo43 : sy_op 43 ((sy_my 8 76 77, prog_9_method_4_code, 3, none), sy_c43) := ⟨sy_pl8, rfl, fun ix i hi => by
  have hl : ix < 19 := by
    have hc : sy_c43.length = 19 := by decide +kernel
    rw [← hc]
    exact (List.getElem?_eq_some_iff.mp hi).1
  exact sy_okM_r sy_by43 sy_o43_0 (by omega) (by omega) hi⟩
theorem sy_oo44 : sy_op 44 ((sy_my 6 78 79, prog_7_method_15_code, 6, (some .int)), sy_c44) := ⟨sy_pl6, rfl, fun ix i hi => by
  have hl : ix < 62 := by
    have hc : sy_c44.length = 62 := by decide +kernel
    rw [← hc]
    exact (List.getElem?_eq_some_iff.mp hi).1
  exact sy_okM_r sy_by44 sy_o44_0 (by omega) (by omega) hi⟩
theorem sy_oo45 : sy_op 45 ((sy_my 6 80 28, prog_7_method_18_code, 2, (some .int)), sy_c45) := ⟨sy_pl6, rfl, fun ix i hi => by
  have hl : ix < 14 := by
    have hc : sy_c45.length = 14 := by decide +kernel
    rw [← hc]
    exact (List.getElem?_eq_some_iff.mp hi).1
  exact sy_okM_r sy_by45 sy_o45_0 (by omega) (by omega) hi⟩
theorem sy_oo46 : sy_op 46 ((sy_my 6 81 79, prog_7_method_19_code, 4, (some .int)), sy_c46) := ⟨sy_pl6, rfl, fun ix i hi => by
  have hl : ix < 34 := by
    have hc : sy_c46.length = 34 := by decide +kernel
    rw [← hc]
    exact (List.getElem?_eq_some_iff.mp hi).1
  exact sy_okM_r sy_by46 sy_o46_0 (by omega) (by omega) hi⟩
theorem sy_oo47 : sy_op 47 ((sy_my 11 82 53, prog_12_method_10_code, 5, (some .boolean)), sy_c47) := ⟨sy_pl11, rfl, fun ix i hi => by
  have hl : ix < 60 := by
    have hc : sy_c47.length = 60 := by decide +kernel
    rw [← hc]
    exact (List.getElem?_eq_some_iff.mp hi).1
  exact sy_okM_r sy_by47 sy_o47_0 (by omega) (by omega) hi⟩
theorem sy_oo48 : sy_op 48 ((sy_my 11 83 53, prog_12_method_11_code, 5, (some .boolean)), sy_c48) := ⟨sy_pl11, rfl, fun ix i hi => by
  have hl : ix < 80 := by
    have hc : sy_c48.length = 80 := by decide +kernel
    rw [← hc]
    exact (List.getElem?_eq_some_iff.mp hi).1
  exact sy_okM_r sy_by48 sy_o48_0 (by omega) (by omega) hi⟩
theorem sy_oo49 : sy_op 49 ((sy_my 11 84 85, prog_12_method_9_code, 7, (some .boolean)), sy_c49) := ⟨sy_pl11, rfl, fun ix i hi => by
  have hl : ix < 64 := by
    have hc : sy_c49.length = 64 := by decide +kernel
    rw [← hc]
    exact (List.getElem?_eq_some_iff.mp hi).1
  exact sy_okM_r sy_by49 sy_o49_0 (by omega) (by omega) hi⟩
theorem sy_oo50 : sy_op 50 ((sy_my 11 86 55, prog_12_method_12_code, 1, (some .int)), sy_c50) := ⟨sy_pl11, rfl, fun ix i hi => by
  have hl : ix < 14 := by
    have hc : sy_c50.length = 14 := by decide +kernel
    rw [← hc]
    exact (List.getElem?_eq_some_iff.mp hi).1
  exact sy_okM_r sy_by50 sy_o50_0 (by omega) (by omega) hi⟩
theorem sy_oo51 : sy_op 51 ((sy_my 11 87 28, prog_12_method_13_code, 1, (some .int)), sy_c51) := ⟨sy_pl11, rfl, fun ix i hi => by
  have hl : ix < 6 := by
    have hc : sy_c51.length = 6 := by decide +kernel
    rw [← hc]
    exact (List.getElem?_eq_some_iff.mp hi).1
  exact sy_okM_r sy_by51 sy_o51_0 (by omega) (by omega) hi⟩
theorem sy_oo52 : sy_op 52 ((sy_my 11 88 51, prog_12_method_21_code, 8, (some .boolean)), sy_c52) := ⟨sy_pl11, rfl, fun ix i hi => by
  have hl : ix < 107 := by
    have hc : sy_c52.length = 107 := by decide +kernel
    rw [← hc]
    exact (List.getElem?_eq_some_iff.mp hi).1
  rcases Nat.lt_or_ge ix 80 with q0 | q0
  · exact sy_okM_r sy_by52 sy_o52_0 (by omega) (by omega) hi
  exact sy_okM_r sy_by52 sy_o52_80 (by omega) (by omega) hi⟩
theorem sy_oo53 : sy_op 53 ((sy_my 11 89 30, prog_12_method_20_code, 3, (some .boolean)), sy_c53) := ⟨sy_pl11, rfl, fun ix i hi => by
  have hl : ix < 86 := by
    have hc : sy_c53.length = 86 := by decide +kernel
    rw [← hc]
    exact (List.getElem?_eq_some_iff.mp hi).1
  rcases Nat.lt_or_ge ix 80 with q0 | q0
  · exact sy_okM_r sy_by53 sy_o53_0 (by omega) (by omega) hi
  exact sy_okM_r sy_by53 sy_o53_80 (by omega) (by omega) hi⟩
theorem sy_oo54 : sy_op 54 ((sy_my 11 90 28, prog_12_method_23_code, 4, (some .int)), sy_c54) := ⟨sy_pl11, rfl, fun ix i hi => by
  have hl : ix < 34 := by
    have hc : sy_c54.length = 34 := by decide +kernel
    rw [← hc]
    exact (List.getElem?_eq_some_iff.mp hi).1
  exact sy_okM_r sy_by54 sy_o54_0 (by omega) (by omega) hi⟩
theorem sy_oo55 : sy_op 55 ((sy_my 11 91 59, prog_12_method_22_code, 3, (some .int)), sy_c55) := ⟨sy_pl11, rfl, fun ix i hi => by
  have hl : ix < 18 := by
    have hc : sy_c55.length = 18 := by decide +kernel
    rw [← hc]
    exact (List.getElem?_eq_some_iff.mp hi).1
  exact sy_okM_r sy_by55 sy_o55_0 (by omega) (by omega) hi⟩
theorem sy_oo56 : sy_op 56 ((sy_my 6 92 28, prog_7_method_20_code, 2, (some .int)), sy_c56) := ⟨sy_pl6, rfl, fun ix i hi => by
  have hl : ix < 38 := by
    have hc : sy_c56.length = 38 := by decide +kernel
    rw [← hc]
    exact (List.getElem?_eq_some_iff.mp hi).1
  exact sy_okM_r sy_by56 sy_o56_0 (by omega) (by omega) hi⟩
theorem sy_oo57 : sy_op 57 ((sy_my 6 93 28, prog_7_method_21_code, 2, (some .int)), sy_c57) := ⟨sy_pl6, rfl, fun ix i hi => by
  have hl : ix < 12 := by
    have hc : sy_c57.length = 12 := by decide +kernel
    rw [← hc]
    exact (List.getElem?_eq_some_iff.mp hi).1
  exact sy_okM_r sy_by57 sy_o57_0 (by omega) (by omega) hi⟩
theorem sy_oo58 : sy_op 58 ((sy_my 6 94 28, prog_7_method_16_code, 2, (some .int)), sy_c58) := ⟨sy_pl6, rfl, fun ix i hi => by
  have hl : ix < 22 := by
    have hc : sy_c58.length = 22 := by decide +kernel
    rw [← hc]
    exact (List.getElem?_eq_some_iff.mp hi).1
  exact sy_okM_r sy_by58 sy_o58_0 (by omega) (by omega) hi⟩
theorem sy_oo59 : sy_op 59 ((sy_my 11 95 30, prog_12_method_5_code, 1, (some .boolean)), sy_c59) := ⟨sy_pl11, rfl, fun ix i hi => by
  have hl : ix < 19 := by
    have hc : sy_c59.length = 19 := by decide +kernel
    rw [← hc]
    exact (List.getElem?_eq_some_iff.mp hi).1
  exact sy_okM_r sy_by59 sy_o59_0 (by omega) (by omega) hi⟩
theorem sy_oo60 : sy_op 60 ((sy_my 11 96 51, prog_12_method_6_code, 3, (some .boolean)), sy_c60) := ⟨sy_pl11, rfl, fun ix i hi => by
  have hl : ix < 18 := by
    have hc : sy_c60.length = 18 := by decide +kernel
    rw [← hc]
    exact (List.getElem?_eq_some_iff.mp hi).1
  exact sy_okM_r sy_by60 sy_o60_0 (by omega) (by omega) hi⟩
theorem sy_oo61 : sy_op 61 ((sy_my 6 96 28, prog_7_method_22_code, 3, (some .int)), sy_c61) := ⟨sy_pl6, rfl, fun ix i hi => by
  have hl : ix < 34 := by
    have hc : sy_c61.length = 34 := by decide +kernel
    rw [← hc]
    exact (List.getElem?_eq_some_iff.mp hi).1
  exact sy_okM_r sy_by61 sy_o61_0 (by omega) (by omega) hi⟩
theorem sy_oo62 : sy_op 62 ((sy_my 9 97 98, prog_10_method_5_code, 7, none), sy_c62) := ⟨sy_pl9, rfl, fun ix i hi => by
  have hl : ix < 81 := by
    have hc : sy_c62.length = 81 := by decide +kernel
    rw [← hc]
    exact (List.getElem?_eq_some_iff.mp hi).1
  rcases Nat.lt_or_ge ix 80 with q0 | q0
  · exact sy_okM_r sy_by62 sy_o62_0 (by omega) (by omega) hi
  exact sy_okM_r sy_by62 sy_o62_80 (by omega) (by omega) hi⟩
theorem sy_oo63 : sy_op 63 ((sy_my 9 71 99, prog_10_method_2_code, 2, (some .int)), sy_c63) := ⟨sy_pl9, rfl, fun ix i hi => by
  have hl : ix < 36 := by
    have hc : sy_c63.length = 36 := by decide +kernel
    rw [← hc]
    exact (List.getElem?_eq_some_iff.mp hi).1
  exact sy_okM_r sy_by63 sy_o63_0 (by omega) (by omega) hi⟩
theorem sy_oo64 : sy_op 64 ((sy_my 10 21 22, prog_11_method_10_code, 25, none), sy_c64) := ⟨sy_pl10, rfl, fun ix i hi => by
  have hl : ix < 317 := by
    have hc : sy_c64.length = 317 := by decide +kernel
    rw [← hc]
    exact (List.getElem?_eq_some_iff.mp hi).1
  rcases Nat.lt_or_ge ix 80 with q0 | q0
  · exact sy_okM_r sy_by64 sy_o64_0 (by omega) (by omega) hi
  rcases Nat.lt_or_ge ix 160 with q80 | q80
  · exact sy_okM_r sy_by64 sy_o64_80 (by omega) (by omega) hi
  rcases Nat.lt_or_ge ix 240 with q160 | q160
  · exact sy_okM_r sy_by64 sy_o64_160 (by omega) (by omega) hi
  exact sy_okM_r sy_by64 sy_o64_240 (by omega) (by omega) hi⟩
theorem sy_oo65 : sy_op 65 ((sy_my 10 100 101, prog_11_method_9_code, 8, none), sy_c65) := ⟨sy_pl10, rfl, fun ix i hi => by
  have hl : ix < 102 := by
    have hc : sy_c65.length = 102 := by decide +kernel
    rw [← hc]
    exact (List.getElem?_eq_some_iff.mp hi).1
  rcases Nat.lt_or_ge ix 80 with q0 | q0
  · exact sy_okM_r sy_by65 sy_o65_0 (by omega) (by omega) hi
  exact sy_okM_r sy_by65 sy_o65_80 (by omega) (by omega) hi⟩
theorem sy_oo66 : sy_op 66 ((sy_my 13 23 102, prog_29_method_101_code, 5, none), sy_c66) := ⟨sy_pl13, rfl, fun ix i hi => by
  have hl : ix < 15 := by
    have hc : sy_c66.length = 15 := by decide +kernel
    rw [← hc]
    exact (List.getElem?_eq_some_iff.mp hi).1
  exact sy_okM_r sy_by66 sy_o66_0 (by omega) (by omega) hi⟩
theorem sy_oo67 : sy_op 67 ((sy_my 4 103 104, prog_5_method_4_code, 2, none), sy_c67) := ⟨sy_pl4, rfl, fun ix i hi => by
  have hl : ix < 7 := by
    have hc : sy_c67.length = 7 := by decide +kernel
    rw [← hc]
    exact (List.getElem?_eq_some_iff.mp hi).1
  exact sy_okM_r sy_by67 sy_o67_0 (by omega) (by omega) hi⟩
theorem sy_oo68 : sy_op 68 ((sy_my 4 105 106, prog_5_method_11_code, 1, none), sy_c68) := ⟨sy_pl4, rfl, fun ix i hi => by
  have hl : ix < 21 := by
    have hc : sy_c68.length = 21 := by decide +kernel
    rw [← hc]
    exact (List.getElem?_eq_some_iff.mp hi).1
  exact sy_okM_r sy_by68 sy_o68_0 (by omega) (by omega) hi⟩
theorem sy_oo69 : sy_op 69 ((sy_my 4 107 108, prog_5_method_6_code, 65, none), sy_c69) := ⟨sy_pl4, rfl, fun ix i hi => by
  have hl : ix < 751 := by
    have hc : sy_c69.length = 751 := by decide +kernel
    rw [← hc]
    exact (List.getElem?_eq_some_iff.mp hi).1
  rcases Nat.lt_or_ge ix 80 with q0 | q0
  · exact sy_okM_r sy_by69 sy_o69_0 (by omega) (by omega) hi
  rcases Nat.lt_or_ge ix 160 with q80 | q80
  · exact sy_okM_r sy_by69 sy_o69_80 (by omega) (by omega) hi
  rcases Nat.lt_or_ge ix 240 with q160 | q160
  · exact sy_okM_r sy_by69 sy_o69_160 (by omega) (by omega) hi
  rcases Nat.lt_or_ge ix 320 with q240 | q240
  · exact sy_okM_r sy_by69 sy_o69_240 (by omega) (by omega) hi
  rcases Nat.lt_or_ge ix 400 with q320 | q320
  · exact sy_okM_r sy_by69 sy_o69_320 (by omega) (by omega) hi
  rcases Nat.lt_or_ge ix 480 with q400 | q400
  · exact sy_okM_r sy_by69 sy_o69_400 (by omega) (by omega) hi
  rcases Nat.lt_or_ge ix 560 with q480 | q480
  · exact sy_okM_r sy_by69 sy_o69_480 (by omega) (by omega) hi
  rcases Nat.lt_or_ge ix 640 with q560 | q560
  · exact sy_okM_r sy_by69 sy_o69_560 (by omega) (by omega) hi
  rcases Nat.lt_or_ge ix 720 with q640 | q640
  · exact sy_okM_r sy_by69 sy_o69_640 (by omega) (by omega) hi
  exact sy_okM_r sy_by69 sy_o69_720 (by omega) (by omega) hi⟩
theorem sy_oo70 : sy_op 70 ((sy_my 4 109 108, prog_5_method_2_code, 4, none), sy_c70) := ⟨sy_pl4, rfl, fun ix i hi => by
  have hl : ix < 18 := by
    have hc : sy_c70.length = 18 := by decide +kernel
    rw [← hc]
    exact (List.getElem?_eq_some_iff.mp hi).1
  exact sy_okM_r sy_by70 sy_o70_0 (by omega) (by omega) hi⟩
theorem sy_oo71 : sy_op 71 ((sy_my 4 110 108, prog_5_method_3_code, 4, none), sy_c71) := ⟨sy_pl4, rfl, fun ix i hi => by
  have hl : ix < 18 := by
    have hc : sy_c71.length = 18 := by decide +kernel
    rw [← hc]
    exact (List.getElem?_eq_some_iff.mp hi).1
  exact sy_okM_r sy_by71 sy_o71_0 (by omega) (by omega) hi⟩
theorem sy_oo72 : sy_op 72 ((sy_my 4 111 106, prog_5_method_12_code, 2, none), sy_c72) := ⟨sy_pl4, rfl, fun ix i hi => by
  have hl : ix < 171 := by
    have hc : sy_c72.length = 171 := by decide +kernel
    rw [← hc]
    exact (List.getElem?_eq_some_iff.mp hi).1
  rcases Nat.lt_or_ge ix 80 with q0 | q0
  · exact sy_okM_r sy_by72 sy_o72_0 (by omega) (by omega) hi
  rcases Nat.lt_or_ge ix 160 with q80 | q80
  · exact sy_okM_r sy_by72 sy_o72_80 (by omega) (by omega) hi
  exact sy_okM_r sy_by72 sy_o72_160 (by omega) (by omega) hi⟩
theorem sy_oo73 : sy_op 73 ((sy_my 4 112 99, prog_5_method_16_code, 2, (some .int)), sy_c73) := ⟨sy_pl4, rfl, fun ix i hi => by
  have hl : ix < 12 := by
    have hc : sy_c73.length = 12 := by decide +kernel
    rw [← hc]
    exact (List.getElem?_eq_some_iff.mp hi).1
  exact sy_okM_r sy_by73 sy_o73_0 (by omega) (by omega) hi⟩
theorem sy_oo74 : sy_op 74 ((sy_my 4 113 114, prog_5_method_15_code, 5, none), sy_c74) := ⟨sy_pl4, rfl, fun ix i hi => by
  have hl : ix < 152 := by
    have hc : sy_c74.length = 152 := by decide +kernel
    rw [← hc]
    exact (List.getElem?_eq_some_iff.mp hi).1
  rcases Nat.lt_or_ge ix 80 with q0 | q0
  · exact sy_okM_r sy_by74 sy_o74_0 (by omega) (by omega) hi
  exact sy_okM_r sy_by74 sy_o74_80 (by omega) (by omega) hi⟩
theorem sy_oo75 : sy_op 75 ((sy_my 4 115 116, prog_5_method_14_code, 4, none), sy_c75) := ⟨sy_pl4, rfl, fun ix i hi => by
  have hl : ix < 54 := by
    have hc : sy_c75.length = 54 := by decide +kernel
    rw [← hc]
    exact (List.getElem?_eq_some_iff.mp hi).1
  exact sy_okM_r sy_by75 sy_o75_0 (by omega) (by omega) hi⟩
theorem sy_oo76 : sy_op 76 ((sy_my 4 117 118, prog_5_method_17_code, 5, none), sy_c76) := ⟨sy_pl4, rfl, fun ix i hi => by
  have hl : ix < 46 := by
    have hc : sy_c76.length = 46 := by decide +kernel
    rw [← hc]
    exact (List.getElem?_eq_some_iff.mp hi).1
  exact sy_okM_r sy_by76 sy_o76_0 (by omega) (by omega) hi⟩
theorem sy_oo77 : sy_op 77 ((sy_my 4 119 120, prog_5_method_10_code, 7, none), sy_c77) := ⟨sy_pl4, rfl, fun ix i hi => by
  have hl : ix < 93 := by
    have hc : sy_c77.length = 93 := by decide +kernel
    rw [← hc]
    exact (List.getElem?_eq_some_iff.mp hi).1
  rcases Nat.lt_or_ge ix 80 with q0 | q0
  · exact sy_okM_r sy_by77 sy_o77_0 (by omega) (by omega) hi
  exact sy_okM_r sy_by77 sy_o77_80 (by omega) (by omega) hi⟩
theorem sy_oo78 : sy_op 78 ((sy_my 4 121 122, prog_5_method_8_code, 13, none), sy_c78) := ⟨sy_pl4, rfl, fun ix i hi => by
  have hl : ix < 105 := by
    have hc : sy_c78.length = 105 := by decide +kernel
    rw [← hc]
    exact (List.getElem?_eq_some_iff.mp hi).1
  rcases Nat.lt_or_ge ix 80 with q0 | q0
  · exact sy_okM_r sy_by78 sy_o78_0 (by omega) (by omega) hi
  exact sy_okM_r sy_by78 sy_o78_80 (by omega) (by omega) hi⟩
theorem sy_oo79 : sy_op 79 ((sy_my 4 123 124, prog_5_method_19_code, 4, none), sy_c79) := ⟨sy_pl4, rfl, fun ix i hi => by
  have hl : ix < 66 := by
    have hc : sy_c79.length = 66 := by decide +kernel
    rw [← hc]
    exact (List.getElem?_eq_some_iff.mp hi).1
  exact sy_okM_r sy_by79 sy_o79_0 (by omega) (by omega) hi⟩
theorem sy_oo80 : sy_op 80 ((sy_my 10 125 34, prog_11_method_2_code, 1, none), sy_c80) := ⟨sy_pl10, rfl, fun ix i hi => by
  have hl : ix < 68 := by
    have hc : sy_c80.length = 68 := by decide +kernel
    rw [← hc]
    exact (List.getElem?_eq_some_iff.mp hi).1
  exact sy_okM_r sy_by80 sy_o80_0 (by omega) (by omega) hi⟩
theorem sy_oo81 : sy_op 81 ((sy_my 5 126 16, prog_6_method_4_code, 4, none), sy_c81) := ⟨sy_pl5, rfl, fun ix i hi => by
  have hl : ix < 10 := by
    have hc : sy_c81.length = 10 := by decide +kernel
    rw [← hc]
    exact (List.getElem?_eq_some_iff.mp hi).1
  exact sy_okM_r sy_by81 sy_o81_0 (by omega) (by omega) hi⟩
theorem sy_oo82 : sy_op 82 ((sy_my 6 127 28, prog_7_method_23_code, 2, (some .int)), sy_c82) := ⟨sy_pl6, rfl, fun ix i hi => by
  have hl : ix < 21 := by
    have hc : sy_c82.length = 21 := by decide +kernel
    rw [← hc]
    exact (List.getElem?_eq_some_iff.mp hi).1
  exact sy_okM_r sy_by82 sy_o82_0 (by omega) (by omega) hi⟩
theorem sy_oo83 : sy_op 83 ((sy_my 10 128 22, prog_11_method_8_code, 8, none), sy_c83) := ⟨sy_pl10, rfl, fun ix i hi => by
  have hl : ix < 175 := by
    have hc : sy_c83.length = 175 := by decide +kernel
    rw [← hc]
    exact (List.getElem?_eq_some_iff.mp hi).1
  rcases Nat.lt_or_ge ix 80 with q0 | q0
  · exact sy_okM_r sy_by83 sy_o83_0 (by omega) (by omega) hi
  rcases Nat.lt_or_ge ix 160 with q80 | q80
  · exact sy_okM_r sy_by83 sy_o83_80 (by omega) (by omega) hi
  exact sy_okM_r sy_by83 sy_o83_160 (by omega) (by omega) hi⟩
theorem sy_oo84 : sy_op 84 ((sy_my 10 129 34, prog_11_method_7_code, 2, none), sy_c84) := ⟨sy_pl10, rfl, fun ix i hi => by
  have hl : ix < 24 := by
    have hc : sy_c84.length = 24 := by decide +kernel
    rw [← hc]
    exact (List.getElem?_eq_some_iff.mp hi).1
  exact sy_okM_r sy_by84 sy_o84_0 (by omega) (by omega) hi⟩
theorem sy_oo85 : sy_op 85 ((sy_my 10 130 101, prog_11_method_6_code, 4, none), sy_c85) := ⟨sy_pl10, rfl, fun ix i hi => by
  have hl : ix < 32 := by
    have hc : sy_c85.length = 32 := by decide +kernel
    rw [← hc]
    exact (List.getElem?_eq_some_iff.mp hi).1
  exact sy_okM_r sy_by85 sy_o85_0 (by omega) (by omega) hi⟩
theorem sy_oo86 : sy_op 86 ((sy_my 10 131 22, prog_11_method_3_code, 5, none), sy_c86) := ⟨sy_pl10, rfl, fun ix i hi => by
  have hl : ix < 125 := by
    have hc : sy_c86.length = 125 := by decide +kernel
    rw [← hc]
    exact (List.getElem?_eq_some_iff.mp hi).1
  rcases Nat.lt_or_ge ix 80 with q0 | q0
  · exact sy_okM_r sy_by86 sy_o86_0 (by omega) (by omega) hi
  exact sy_okM_r sy_by86 sy_o86_80 (by omega) (by omega) hi⟩
theorem sy_oo87 : sy_op 87 ((sy_my 6 132 79, prog_7_method_24_code, 6, (some .int)), sy_c87) := ⟨sy_pl6, rfl, fun ix i hi => by
  have hl : ix < 103 := by
    have hc : sy_c87.length = 103 := by decide +kernel
    rw [← hc]
    exact (List.getElem?_eq_some_iff.mp hi).1
  rcases Nat.lt_or_ge ix 80 with q0 | q0
  · exact sy_okM_r sy_by87 sy_o87_0 (by omega) (by omega) hi
  exact sy_okM_r sy_by87 sy_o87_80 (by omega) (by omega) hi⟩
theorem sy_oo88 : sy_op 88 ((sy_my 6 133 134, prog_7_method_3_code, 5, (some .int)), sy_c88) := ⟨sy_pl6, rfl, fun ix i hi => by
  have hl : ix < 108 := by
    have hc : sy_c88.length = 108 := by decide +kernel
    rw [← hc]
    exact (List.getElem?_eq_some_iff.mp hi).1
  rcases Nat.lt_or_ge ix 80 with q0 | q0
  · exact sy_okM_r sy_by88 sy_o88_0 (by omega) (by omega) hi
  exact sy_okM_r sy_by88 sy_o88_80 (by omega) (by omega) hi⟩
theorem sy_oo89 : sy_op 89 ((sy_my 3 135 75, prog_4_method_5_code, 4, none), sy_c89) := ⟨sy_pl3, rfl, fun ix i hi => by
  have hl : ix < 74 := by
    have hc : sy_c89.length = 74 := by decide +kernel
    rw [← hc]
    exact (List.getElem?_eq_some_iff.mp hi).1
  exact sy_okM_r sy_by89 sy_o89_0 (by omega) (by omega) hi⟩
theorem sy_oo90 : sy_op 90 ((sy_my 3 136 28, prog_4_method_7_code, 2, (some .int)), sy_c90) := ⟨sy_pl3, rfl, fun ix i hi => by
  have hl : ix < 9 := by
    have hc : sy_c90.length = 9 := by decide +kernel
    rw [← hc]
    exact (List.getElem?_eq_some_iff.mp hi).1
  exact sy_okM_r sy_by90 sy_o90_0 (by omega) (by omega) hi⟩
theorem sy_oo91 : sy_op 91 ((sy_my 3 137 28, prog_4_method_6_code, 4, (some .int)), sy_c91) := ⟨sy_pl3, rfl, fun ix i hi => by
  have hl : ix < 38 := by
    have hc : sy_c91.length = 38 := by decide +kernel
    rw [← hc]
    exact (List.getElem?_eq_some_iff.mp hi).1
  exact sy_okM_r sy_by91 sy_o91_0 (by omega) (by omega) hi⟩
theorem sy_oo92 : sy_op 92 ((sy_my 3 138 59, prog_4_method_4_code, 4, (some .int)), sy_c92) := ⟨sy_pl3, rfl, fun ix i hi => by
  have hl : ix < 127 := by
    have hc : sy_c92.length = 127 := by decide +kernel
    rw [← hc]
    exact (List.getElem?_eq_some_iff.mp hi).1
  rcases Nat.lt_or_ge ix 80 with q0 | q0
  · exact sy_okM_r sy_by92 sy_o92_0 (by omega) (by omega) hi
  exact sy_okM_r sy_by92 sy_o92_80 (by omega) (by omega) hi⟩
theorem sy_oo93 : sy_op 93 ((sy_my 3 139 28, prog_4_method_8_code, 2, (some .int)), sy_c93) := ⟨sy_pl3, rfl, fun ix i hi => by
  have hl : ix < 16 := by
    have hc : sy_c93.length = 16 := by decide +kernel
    rw [← hc]
    exact (List.getElem?_eq_some_iff.mp hi).1
  exact sy_okM_r sy_by93 sy_o93_0 (by omega) (by omega) hi⟩
theorem sy_oo94 : sy_op 94 ((sy_my 3 140 63, prog_4_method_9_code, 3, (some .int)), sy_c94) := ⟨sy_pl3, rfl, fun ix i hi => by
  have hl : ix < 25 := by
    have hc : sy_c94.length = 25 := by decide +kernel
    rw [← hc]
    exact (List.getElem?_eq_some_iff.mp hi).1
  exact sy_okM_r sy_by94 sy_o94_0 (by omega) (by omega) hi⟩
theorem sy_oo95 : sy_op 95 ((sy_my 3 141 59, prog_4_method_10_code, 1, (some .int)), sy_c95) := ⟨sy_pl3, rfl, fun ix i hi => by
  have hl : ix < 7 := by
    have hc : sy_c95.length = 7 := by decide +kernel
    rw [← hc]
    exact (List.getElem?_eq_some_iff.mp hi).1
  exact sy_okM_r sy_by95 sy_o95_0 (by omega) (by omega) hi⟩
theorem sy_oo96 : sy_op 96 ((sy_my 3 142 79, prog_4_method_12_code, 3, (some .int)), sy_c96) := ⟨sy_pl3, rfl, fun ix i hi => by
  have hl : ix < 65 := by
    have hc : sy_c96.length = 65 := by decide +kernel
    rw [← hc]
    exact (List.getElem?_eq_some_iff.mp hi).1
  exact sy_okM_r sy_by96 sy_o96_0 (by omega) (by omega) hi⟩
theorem sy_oo97 : sy_op 97 ((sy_my 3 143 59, prog_4_method_11_code, 1, (some .int)), sy_c97) := ⟨sy_pl3, rfl, fun ix i hi => by
  have hl : ix < 65 := by
    have hc : sy_c97.length = 65 := by decide +kernel
    rw [← hc]
    exact (List.getElem?_eq_some_iff.mp hi).1
  exact sy_okM_r sy_by97 sy_o97_0 (by omega) (by omega) hi⟩
theorem sy_oo98 : sy_op 98 ((sy_my 3 144 59, prog_4_method_13_code, 1, (some .int)), sy_c98) := ⟨sy_pl3, rfl, fun ix i hi => by
  have hl : ix < 79 := by
    have hc : sy_c98.length = 79 := by decide +kernel
    rw [← hc]
    exact (List.getElem?_eq_some_iff.mp hi).1
  exact sy_okM_r sy_by98 sy_o98_0 (by omega) (by omega) hi⟩
theorem sy_oo99 : sy_op 99 ((sy_my 1 145 51, prog_2_method_8_code, 3, (some .boolean)), sy_c99) := ⟨sy_pl1, rfl, fun ix i hi => by
  have hl : ix < 16 := by
    have hc : sy_c99.length = 16 := by decide +kernel
    rw [← hc]
    exact (List.getElem?_eq_some_iff.mp hi).1
  exact sy_okM_r sy_by99 sy_o99_0 (by omega) (by omega) hi⟩
theorem sy_oo100 : sy_op 100 ((sy_my 1 146 28, prog_2_method_9_code, 2, (some .int)), sy_c100) := ⟨sy_pl1, rfl, fun ix i hi => by
  have hl : ix < 13 := by
    have hc : sy_c100.length = 13 := by decide +kernel
    rw [← hc]
    exact (List.getElem?_eq_some_iff.mp hi).1
  exact sy_okM_r sy_by100 sy_o100_0 (by omega) (by omega) hi⟩
theorem sy_oo101 : sy_op 101 ((sy_my 3 147 59, prog_4_method_14_code, 6, (some .int)), sy_c101) := ⟨sy_pl3, rfl, fun ix i hi => by
  have hl : ix < 97 := by
    have hc : sy_c101.length = 97 := by decide +kernel
    rw [← hc]
    exact (List.getElem?_eq_some_iff.mp hi).1
  rcases Nat.lt_or_ge ix 80 with q0 | q0
  · exact sy_okM_r sy_by101 sy_o101_0 (by omega) (by omega) hi
  exact sy_okM_r sy_by101 sy_o101_80 (by omega) (by omega) hi⟩
theorem sy_oo102 : sy_op 102 ((sy_my 3 148 149, prog_4_method_16_code, 4, (some .int)), sy_c102) := ⟨sy_pl3, rfl, fun ix i hi => by
  have hl : ix < 60 := by
    have hc : sy_c102.length = 60 := by decide +kernel
    rw [← hc]
    exact (List.getElem?_eq_some_iff.mp hi).1
  exact sy_okM_r sy_by102 sy_o102_0 (by omega) (by omega) hi⟩
theorem sy_oo103 : sy_op 103 ((sy_my 3 150 28, prog_4_method_15_code, 6, (some .int)), sy_c103) := ⟨sy_pl3, rfl, fun ix i hi => by
  have hl : ix < 131 := by
    have hc : sy_c103.length = 131 := by decide +kernel
    rw [← hc]
    exact (List.getElem?_eq_some_iff.mp hi).1
  rcases Nat.lt_or_ge ix 80 with q0 | q0
  · exact sy_okM_r sy_by103 sy_o103_0 (by omega) (by omega) hi
  exact sy_okM_r sy_by103 sy_o103_80 (by omega) (by omega) hi⟩
theorem sy_oo104 : sy_op 104 ((sy_my 9 15 16, prog_10_method_3_code, 3, none), sy_c104) := ⟨sy_pl9, rfl, fun ix i hi => by
  have hl : ix < 33 := by
    have hc : sy_c104.length = 33 := by decide +kernel
    rw [← hc]
    exact (List.getElem?_eq_some_iff.mp hi).1
  exact sy_okM_r sy_by104 sy_o104_0 (by omega) (by omega) hi⟩
theorem sy_oo105 : sy_op 105 ((sy_my 1 151 152, prog_2_method_10_code, 6, none), sy_c105) := ⟨sy_pl1, rfl, fun ix i hi => by
  have hl : ix < 35 := by
    have hc : sy_c105.length = 35 := by decide +kernel
    rw [← hc]
    exact (List.getElem?_eq_some_iff.mp hi).1
  exact sy_okM_r sy_by105 sy_o105_0 (by omega) (by omega) hi⟩
theorem sy_oo106 : sy_op 106 ((sy_my 3 153 59, prog_4_method_17_code, 3, (some .int)), sy_c106) := ⟨sy_pl3, rfl, fun ix i hi => by
  have hl : ix < 47 := by
    have hc : sy_c106.length = 47 := by decide +kernel
    rw [← hc]
    exact (List.getElem?_eq_some_iff.mp hi).1
  exact sy_okM_r sy_by106 sy_o106_0 (by omega) (by omega) hi⟩
theorem sy_oo107 : sy_op 107 ((sy_my 3 154 20, prog_4_method_18_code, 2, (some .boolean)), sy_c107) := ⟨sy_pl3, rfl, fun ix i hi => by
  have hl : ix < 10 := by
    have hc : sy_c107.length = 10 := by decide +kernel
    rw [← hc]
    exact (List.getElem?_eq_some_iff.mp hi).1
  exact sy_okM_r sy_by107 sy_o107_0 (by omega) (by omega) hi⟩
theorem sy_oo108 : sy_op 108 ((sy_my 7 155 156, prog_8_method_4_code, 3, (some .boolean)), sy_c108) := ⟨sy_pl7, rfl, fun ix i hi => by
  have hl : ix < 18 := by
    have hc : sy_c108.length = 18 := by decide +kernel
    rw [← hc]
    exact (List.getElem?_eq_some_iff.mp hi).1
  exact sy_okM_r sy_by108 sy_o108_0 (by omega) (by omega) hi⟩
theorem sy_oo109 : sy_op 109 ((sy_my 7 157 99, prog_8_method_2_code, 4, (some .int)), sy_c109) := ⟨sy_pl7, rfl, fun ix i hi => by
  have hl : ix < 25 := by
    have hc : sy_c109.length = 25 := by decide +kernel
    rw [← hc]
    exact (List.getElem?_eq_some_iff.mp hi).1
  exact sy_okM_r sy_by109 sy_o109_0 (by omega) (by omega) hi⟩
theorem sy_oo110 : sy_op 110 ((sy_my 11 158 159, prog_12_method_14_code, 5, (some .int)), sy_c110) := ⟨sy_pl11, rfl, fun ix i hi => by
  have hl : ix < 21 := by
    have hc : sy_c110.length = 21 := by decide +kernel
    rw [← hc]
    exact (List.getElem?_eq_some_iff.mp hi).1
  exact sy_okM_r sy_by110 sy_o110_0 (by omega) (by omega) hi⟩
theorem sy_oo111 : sy_op 111 ((sy_my 11 160 161, prog_12_method_15_code, 5, (some .boolean)), sy_c111) := ⟨sy_pl11, rfl, fun ix i hi => by
  have hl : ix < 32 := by
    have hc : sy_c111.length = 32 := by decide +kernel
    rw [← hc]
    exact (List.getElem?_eq_some_iff.mp hi).1
  exact sy_okM_r sy_by111 sy_o111_0 (by omega) (by omega) hi⟩
theorem sy_oo112 : sy_op 112 ((sy_my 11 162 159, prog_12_method_16_code, 8, (some .int)), sy_c112) := ⟨sy_pl11, rfl, fun ix i hi => by
  have hl : ix < 117 := by
    have hc : sy_c112.length = 117 := by decide +kernel
    rw [← hc]
    exact (List.getElem?_eq_some_iff.mp hi).1
  rcases Nat.lt_or_ge ix 80 with q0 | q0
  · exact sy_okM_r sy_by112 sy_o112_0 (by omega) (by omega) hi
  exact sy_okM_r sy_by112 sy_o112_80 (by omega) (by omega) hi⟩
theorem sy_oo113 : sy_op 113 ((sy_my 3 163 149, prog_4_method_20_code, 4, (some .int)), sy_c113) := ⟨sy_pl3, rfl, fun ix i hi => by
  have hl : ix < 37 := by
    have hc : sy_c113.length = 37 := by decide +kernel
    rw [← hc]
    exact (List.getElem?_eq_some_iff.mp hi).1
  exact sy_okM_r sy_by113 sy_o113_0 (by omega) (by omega) hi⟩
theorem sy_oo114 : sy_op 114 ((sy_my 3 164 149, prog_4_method_21_code, 4, (some .int)), sy_c114) := ⟨sy_pl3, rfl, fun ix i hi => by
  have hl : ix < 25 := by
    have hc : sy_c114.length = 25 := by decide +kernel
    rw [← hc]
    exact (List.getElem?_eq_some_iff.mp hi).1
  exact sy_okM_r sy_by114 sy_o114_0 (by omega) (by omega) hi⟩
theorem sy_oo115 : sy_op 115 ((sy_my 7 165 166, prog_8_method_3_code, 5, (some .int)), sy_c115) := ⟨sy_pl7, rfl, fun ix i hi => by
  have hl : ix < 44 := by
    have hc : sy_c115.length = 44 := by decide +kernel
    rw [← hc]
    exact (List.getElem?_eq_some_iff.mp hi).1
  exact sy_okM_r sy_by115 sy_o115_0 (by omega) (by omega) hi⟩
theorem sy_oo116 : sy_op 116 ((sy_my 11 167 168, prog_12_method_25_code, 6, (some .int)), sy_c116) := ⟨sy_pl11, rfl, fun ix i hi => by
  have hl : ix < 35 := by
    have hc : sy_c116.length = 35 := by decide +kernel
    rw [← hc]
    exact (List.getElem?_eq_some_iff.mp hi).1
  exact sy_okM_r sy_by116 sy_o116_0 (by omega) (by omega) hi⟩
theorem sy_oo117 : sy_op 117 ((sy_my 11 169 28, prog_12_method_26_code, 3, (some .int)), sy_c117) := ⟨sy_pl11, rfl, fun ix i hi => by
  have hl : ix < 23 := by
    have hc : sy_c117.length = 23 := by decide +kernel
    rw [← hc]
    exact (List.getElem?_eq_some_iff.mp hi).1
  exact sy_okM_r sy_by117 sy_o117_0 (by omega) (by omega) hi⟩
theorem sy_oo118 : sy_op 118 ((sy_my 11 170 171, prog_12_method_24_code, 8, (some .int)), sy_c118) := ⟨sy_pl11, rfl, fun ix i hi => by
  have hl : ix < 93 := by
    have hc : sy_c118.length = 93 := by decide +kernel
    rw [← hc]
    exact (List.getElem?_eq_some_iff.mp hi).1
  rcases Nat.lt_or_ge ix 80 with q0 | q0
  · exact sy_okM_r sy_by118 sy_o118_0 (by omega) (by omega) hi
  exact sy_okM_r sy_by118 sy_o118_80 (by omega) (by omega) hi⟩
theorem sy_oo119 : sy_op 119 ((sy_my 11 172 20, prog_12_method_27_code, 3, (some .boolean)), sy_c119) := ⟨sy_pl11, rfl, fun ix i hi => by
  have hl : ix < 23 := by
    have hc : sy_c119.length = 23 := by decide +kernel
    rw [← hc]
    exact (List.getElem?_eq_some_iff.mp hi).1
  exact sy_okM_r sy_by119 sy_o119_0 (by omega) (by omega) hi⟩
theorem sy_oo120 : sy_op 120 ((sy_my 11 173 34, prog_12_method_28_code, 2, none), sy_c120) := ⟨sy_pl11, rfl, fun ix i hi => by
  have hl : ix < 23 := by
    have hc : sy_c120.length = 23 := by decide +kernel
    rw [← hc]
    exact (List.getElem?_eq_some_iff.mp hi).1
  exact sy_okM_r sy_by120 sy_o120_0 (by omega) (by omega) hi⟩
theorem sy_oo121 : sy_op 121 ((sy_my 11 174 20, prog_12_method_29_code, 2, (some .boolean)), sy_c121) := ⟨sy_pl11, rfl, fun ix i hi => by
  have hl : ix < 20 := by
    have hc : sy_c121.length = 20 := by decide +kernel
    rw [← hc]
    exact (List.getElem?_eq_some_iff.mp hi).1
  exact sy_okM_r sy_by121 sy_o121_0 (by omega) (by omega) hi⟩
theorem sy_oo122 : sy_op 122 ((sy_my 11 175 59, prog_12_method_30_code, 6, (some .int)), sy_c122) := ⟨sy_pl11, rfl, fun ix i hi => by
  have hl : ix < 47 := by
    have hc : sy_c122.length = 47 := by decide +kernel
    rw [← hc]
    exact (List.getElem?_eq_some_iff.mp hi).1
  exact sy_okM_r sy_by122 sy_o122_0 (by omega) (by omega) hi⟩
theorem sy_oo123 : sy_op 123 ((sy_my 11 176 45, prog_12_method_19_code, 4, none), sy_c123) := ⟨sy_pl11, rfl, fun ix i hi => by
  have hl : ix < 19 := by
    have hc : sy_c123.length = 19 := by decide +kernel
    rw [← hc]
    exact (List.getElem?_eq_some_iff.mp hi).1
  exact sy_okM_r sy_by123 sy_o123_0 (by omega) (by omega) hi⟩
theorem sy_oo124 : sy_op 124 ((sy_my 2 125 177, prog_3_method_5_code, 3, none), sy_c124) := ⟨sy_pl2, rfl, fun ix i hi => by
  have hl : ix < 84 := by
    have hc : sy_c124.length = 84 := by decide +kernel
    rw [← hc]
    exact (List.getElem?_eq_some_iff.mp hi).1
  rcases Nat.lt_or_ge ix 80 with q0 | q0
  · exact sy_okM_r sy_by124 sy_o124_0 (by omega) (by omega) hi
  exact sy_okM_r sy_by124 sy_o124_80 (by omega) (by omega) hi⟩
theorem sy_oo125 : sy_op 125 ((sy_my 2 178 179, prog_3_method_6_code, 9, none), sy_c125) := ⟨sy_pl2, rfl, fun ix i hi => by
  have hl : ix < 89 := by
    have hc : sy_c125.length = 89 := by decide +kernel
    rw [← hc]
    exact (List.getElem?_eq_some_iff.mp hi).1
  rcases Nat.lt_or_ge ix 80 with q0 | q0
  · exact sy_okM_r sy_by125 sy_o125_0 (by omega) (by omega) hi
  exact sy_okM_r sy_by125 sy_o125_80 (by omega) (by omega) hi⟩
theorem sy_oo126 : sy_op 126 ((sy_my 2 180 181, prog_3_method_4_code, 11, none), sy_c126) := ⟨sy_pl2, rfl, fun ix i hi => by
  have hl : ix < 130 := by
    have hc : sy_c126.length = 130 := by decide +kernel
    rw [← hc]
    exact (List.getElem?_eq_some_iff.mp hi).1
  rcases Nat.lt_or_ge ix 80 with q0 | q0
  · exact sy_okM_r sy_by126 sy_o126_0 (by omega) (by omega) hi
  exact sy_okM_r sy_by126 sy_o126_80 (by omega) (by omega) hi⟩
theorem sy_oo127 : sy_op 127 ((sy_my 11 182 16, prog_12_method_34_code, 4, none), sy_c127) := ⟨sy_pl11, rfl, fun ix i hi => by
  have hl : ix < 39 := by
    have hc : sy_c127.length = 39 := by decide +kernel
    rw [← hc]
    exact (List.getElem?_eq_some_iff.mp hi).1
  exact sy_okM_r sy_by127 sy_o127_0 (by omega) (by omega) hi⟩
theorem sy_oo128 : sy_op 128 ((sy_my 11 126 30, prog_12_method_7_code, 1, (some .boolean)), sy_c128) := ⟨sy_pl11, rfl, fun ix i hi => by
  have hl : ix < 82 := by
    have hc : sy_c128.length = 82 := by decide +kernel
    rw [← hc]
    exact (List.getElem?_eq_some_iff.mp hi).1
  rcases Nat.lt_or_ge ix 80 with q0 | q0
  · exact sy_okM_r sy_by128 sy_o128_0 (by omega) (by omega) hi
  exact sy_okM_r sy_by128 sy_o128_80 (by omega) (by omega) hi⟩
theorem sy_oo129 : sy_op 129 ((sy_my 11 183 75, prog_12_method_38_code, 3, none), sy_c129) := ⟨sy_pl11, rfl, fun ix i hi => by
  have hl : ix < 24 := by
    have hc : sy_c129.length = 24 := by decide +kernel
    rw [← hc]
    exact (List.getElem?_eq_some_iff.mp hi).1
  exact sy_okM_r sy_by129 sy_o129_0 (by omega) (by omega) hi⟩
theorem sy_oo130 : sy_op 130 ((sy_my 11 184 185, prog_12_method_35_code, 6, none), sy_c130) := ⟨sy_pl11, rfl, fun ix i hi => by
  have hl : ix < 71 := by
    have hc : sy_c130.length = 71 := by decide +kernel
    rw [← hc]
    exact (List.getElem?_eq_some_iff.mp hi).1
  exact sy_okM_r sy_by130 sy_o130_0 (by omega) (by omega) hi⟩
theorem sy_oo131 : sy_op 131 ((sy_my 11 186 187, prog_12_method_32_code, 8, (some .boolean)), sy_c131) := ⟨sy_pl11, rfl, fun ix i hi => by
  have hl : ix < 71 := by
    have hc : sy_c131.length = 71 := by decide +kernel
    rw [← hc]
    exact (List.getElem?_eq_some_iff.mp hi).1
  exact sy_okM_r sy_by131 sy_o131_0 (by omega) (by omega) hi⟩
theorem sy_oo132 : sy_op 132 ((sy_my 11 188 41, prog_12_method_36_code, 5, none), sy_c132) := ⟨sy_pl11, rfl, fun ix i hi => by
  have hl : ix < 46 := by
    have hc : sy_c132.length = 46 := by decide +kernel
    rw [← hc]
    exact (List.getElem?_eq_some_iff.mp hi).1
  exact sy_okM_r sy_by132 sy_o132_0 (by omega) (by omega) hi⟩
theorem sy_oo133 : sy_op 133 ((sy_my 11 189 30, prog_12_method_37_code, 3, (some .boolean)), sy_c133) := ⟨sy_pl11, rfl, fun ix i hi => by
  have hl : ix < 36 := by
    have hc : sy_c133.length = 36 := by decide +kernel
    rw [← hc]
    exact (List.getElem?_eq_some_iff.mp hi).1
  exact sy_okM_r sy_by133 sy_o133_0 (by omega) (by omega) hi⟩
theorem sy_oo134 : sy_op 134 ((sy_my 11 190 20, prog_12_method_8_code, 2, (some .boolean)), sy_c134) := ⟨sy_pl11, rfl, fun ix i hi => by
  have hl : ix < 33 := by
    have hc : sy_c134.length = 33 := by decide +kernel
    rw [← hc]
    exact (List.getElem?_eq_some_iff.mp hi).1
  exact sy_okM_r sy_by134 sy_o134_0 (by omega) (by omega) hi⟩
theorem sy_oo135 : sy_op 135 ((sy_my 11 191 30, prog_12_method_33_code, 3, (some .boolean)), sy_c135) := ⟨sy_pl11, rfl, fun ix i hi => by
  have hl : ix < 63 := by
    have hc : sy_c135.length = 63 := by decide +kernel
    rw [← hc]
    exact (List.getElem?_eq_some_iff.mp hi).1
  exact sy_okM_r sy_by135 sy_o135_0 (by omega) (by omega) hi⟩
theorem sy_oo136 : sy_op 136 ((sy_my 11 192 193, prog_12_method_31_code, 5, (some .int)), sy_c136) := ⟨sy_pl11, rfl, fun ix i hi => by
  have hl : ix < 42 := by
    have hc : sy_c136.length = 42 := by decide +kernel
    rw [← hc]
    exact (List.getElem?_eq_some_iff.mp hi).1
  exact sy_okM_r sy_by136 sy_o136_0 (by omega) (by omega) hi⟩
theorem sy_oo137 : sy_op 137 ((sy_my 3 194 28, prog_4_method_19_code, 10, (some .int)), sy_c137) := ⟨sy_pl3, rfl, fun ix i hi => by
  have hl : ix < 145 := by
    have hc : sy_c137.length = 145 := by decide +kernel
    rw [← hc]
    exact (List.getElem?_eq_some_iff.mp hi).1
  rcases Nat.lt_or_ge ix 80 with q0 | q0
  · exact sy_okM_r sy_by137 sy_o137_0 (by omega) (by omega) hi
  exact sy_okM_r sy_by137 sy_o137_80 (by omega) (by omega) hi⟩
theorem sy_oo138 : sy_op 138 ((sy_my 11 195 63, prog_12_method_17_code, 8, (some .int)), sy_c138) := ⟨sy_pl11, rfl, fun ix i hi => by
  have hl : ix < 117 := by
    have hc : sy_c138.length = 117 := by decide +kernel
    rw [← hc]
    exact (List.getElem?_eq_some_iff.mp hi).1
  rcases Nat.lt_or_ge ix 80 with q0 | q0
  · exact sy_okM_r sy_by138 sy_o138_0 (by omega) (by omega) hi
  exact sy_okM_r sy_by138 sy_o138_80 (by omega) (by omega) hi⟩
theorem sy_oo139 : sy_op 139 ((sy_my 1 196 16, prog_2_method_11_code, 6, none), sy_c139) := ⟨sy_pl1, rfl, fun ix i hi => by
  have hl : ix < 35 := by
    have hc : sy_c139.length = 35 := by decide +kernel
    rw [← hc]
    exact (List.getElem?_eq_some_iff.mp hi).1
  exact sy_okM_r sy_by139 sy_o139_0 (by omega) (by omega) hi⟩
theorem sy_oo140 : sy_op 140 ((sy_my 3 195 59, prog_4_method_23_code, 4, (some .int)), sy_c140) := ⟨sy_pl3, rfl, fun ix i hi => by
  have hl : ix < 64 := by
    have hc : sy_c140.length = 64 := by decide +kernel
    rw [← hc]
    exact (List.getElem?_eq_some_iff.mp hi).1
  exact sy_okM_r sy_by140 sy_o140_0 (by omega) (by omega) hi⟩
theorem sy_oo141 : sy_op 141 ((sy_my 11 138 55, prog_12_method_18_code, 5, (some .int)), sy_c141) := ⟨sy_pl11, rfl, fun ix i hi => by
  have hl : ix < 85 := by
    have hc : sy_c141.length = 85 := by decide +kernel
    rw [← hc]
    exact (List.getElem?_eq_some_iff.mp hi).1
  rcases Nat.lt_or_ge ix 80 with q0 | q0
  · exact sy_okM_r sy_by141 sy_o141_0 (by omega) (by omega) hi
  exact sy_okM_r sy_by141 sy_o141_80 (by omega) (by omega) hi⟩
theorem sy_oo142 : sy_op 142 ((sy_my 3 197 28, prog_4_method_22_code, 9, (some .int)), sy_c142) := ⟨sy_pl3, rfl, fun ix i hi => by
  have hl : ix < 160 := by
    have hc : sy_c142.length = 160 := by decide +kernel
    rw [← hc]
    exact (List.getElem?_eq_some_iff.mp hi).1
  rcases Nat.lt_or_ge ix 80 with q0 | q0
  · exact sy_okM_r sy_by142 sy_o142_0 (by omega) (by omega) hi
  exact sy_okM_r sy_by142 sy_o142_80 (by omega) (by omega) hi⟩
theorem sy_oo143 : sy_op 143 ((sy_my 3 198 28, prog_4_method_24_code, 7, (some .int)), sy_c143) := ⟨sy_pl3, rfl, fun ix i hi => by
  have hl : ix < 134 := by
    have hc : sy_c143.length = 134 := by decide +kernel
    rw [← hc]
    exact (List.getElem?_eq_some_iff.mp hi).1
  rcases Nat.lt_or_ge ix 80 with q0 | q0
  · exact sy_okM_r sy_by143 sy_o143_0 (by omega) (by omega) hi
  exact sy_okM_r sy_by143 sy_o143_80 (by omega) (by omega) hi⟩
theorem sy_oo144 : sy_op 144 ((sy_my 3 199 63, prog_4_method_26_code, 3, (some .int)), sy_c144) := ⟨sy_pl3, rfl, fun ix i hi => by
  have hl : ix < 54 := by
    have hc : sy_c144.length = 54 := by decide +kernel
    rw [← hc]
    exact (List.getElem?_eq_some_iff.mp hi).1
  exact sy_okM_r sy_by144 sy_o144_0 (by omega) (by omega) hi⟩
theorem sy_oo145 : sy_op 145 ((sy_my 2 15 16, prog_3_method_3_code, 3, none), sy_c145) := ⟨sy_pl2, rfl, fun ix i hi => by
  have hl : ix < 33 := by
    have hc : sy_c145.length = 33 := by decide +kernel
    rw [← hc]
    exact (List.getElem?_eq_some_iff.mp hi).1
  exact sy_okM_r sy_by145 sy_o145_0 (by omega) (by omega) hi⟩
theorem sy_oo146 : sy_op 146 ((sy_my 2 71 99, prog_3_method_2_code, 2, (some .int)), sy_c146) := ⟨sy_pl2, rfl, fun ix i hi => by
  have hl : ix < 36 := by
    have hc : sy_c146.length = 36 := by decide +kernel
    rw [← hc]
    exact (List.getElem?_eq_some_iff.mp hi).1
  exact sy_okM_r sy_by146 sy_o146_0 (by omega) (by omega) hi⟩
theorem sy_oo147 : sy_op 147 ((sy_my 2 107 34, prog_3_method_11_code, 33, none), sy_c147) := ⟨sy_pl2, rfl, fun ix i hi => by
  have hl : ix < 232 := by
    have hc : sy_c147.length = 232 := by decide +kernel
    rw [← hc]
    exact (List.getElem?_eq_some_iff.mp hi).1
  rcases Nat.lt_or_ge ix 80 with q0 | q0
  · exact sy_okM_r sy_by147 sy_o147_0 (by omega) (by omega) hi
  rcases Nat.lt_or_ge ix 160 with q80 | q80
  · exact sy_okM_r sy_by147 sy_o147_80 (by omega) (by omega) hi
  exact sy_okM_r sy_by147 sy_o147_160 (by omega) (by omega) hi⟩
theorem sy_oo148 : sy_op 148 ((sy_my 13 23 200, prog_29_method_102_code, 6, none), sy_c148) := ⟨sy_pl13, rfl, fun ix i hi => by
  have hl : ix < 17 := by
    have hc : sy_c148.length = 17 := by decide +kernel
    rw [← hc]
    exact (List.getElem?_eq_some_iff.mp hi).1
  exact sy_okM_r sy_by148 sy_o148_0 (by omega) (by omega) hi⟩
theorem sy_oo149 : sy_op 149 ((sy_my 2 128 34, prog_3_method_12_code, 3, none), sy_c149) := ⟨sy_pl2, rfl, fun ix i hi => by
  have hl : ix < 108 := by
    have hc : sy_c149.length = 108 := by decide +kernel
    rw [← hc]
    exact (List.getElem?_eq_some_iff.mp hi).1
  rcases Nat.lt_or_ge ix 80 with q0 | q0
  · exact sy_okM_r sy_by149 sy_o149_0 (by omega) (by omega) hi
  exact sy_okM_r sy_by149 sy_o149_80 (by omega) (by omega) hi⟩
theorem sy_oo150 : sy_op 150 ((sy_my 2 201 34, prog_3_method_13_code, 9, none), sy_c150) := ⟨sy_pl2, rfl, fun ix i hi => by
  have hl : ix < 72 := by
    have hc : sy_c150.length = 72 := by decide +kernel
    rw [← hc]
    exact (List.getElem?_eq_some_iff.mp hi).1
  exact sy_okM_r sy_by150 sy_o150_0 (by omega) (by omega) hi⟩
theorem sy_oo151 : sy_op 151 ((sy_my 2 202 41, prog_3_method_10_code, 3, none), sy_c151) := ⟨sy_pl2, rfl, fun ix i hi => by
  have hl : ix < 165 := by
    have hc : sy_c151.length = 165 := by decide +kernel
    rw [← hc]
    exact (List.getElem?_eq_some_iff.mp hi).1
  rcases Nat.lt_or_ge ix 80 with q0 | q0
  · exact sy_okM_r sy_by151 sy_o151_0 (by omega) (by omega) hi
  rcases Nat.lt_or_ge ix 160 with q80 | q80
  · exact sy_okM_r sy_by151 sy_o151_80 (by omega) (by omega) hi
  exact sy_okM_r sy_by151 sy_o151_160 (by omega) (by omega) hi⟩
theorem sy_oo152 : sy_op 152 ((sy_my 2 203 204, prog_3_method_9_code, 6, none), sy_c152) := ⟨sy_pl2, rfl, fun ix i hi => by
  have hl : ix < 55 := by
    have hc : sy_c152.length = 55 := by decide +kernel
    rw [← hc]
    exact (List.getElem?_eq_some_iff.mp hi).1
  exact sy_okM_r sy_by152 sy_o152_0 (by omega) (by omega) hi⟩
theorem sy_oo153 : sy_op 153 ((sy_my 2 205 204, prog_3_method_7_code, 5, none), sy_c153) := ⟨sy_pl2, rfl, fun ix i hi => by
  have hl : ix < 21 := by
    have hc : sy_c153.length = 21 := by decide +kernel
    rw [← hc]
    exact (List.getElem?_eq_some_iff.mp hi).1
  exact sy_okM_r sy_by153 sy_o153_0 (by omega) (by omega) hi⟩
theorem sy_oo154 : sy_op 154 ((sy_my 2 206 161, prog_3_method_8_code, 6, (some .boolean)), sy_c154) := ⟨sy_pl2, rfl, fun ix i hi => by
  have hl : ix < 34 := by
    have hc : sy_c154.length = 34 := by decide +kernel
    rw [← hc]
    exact (List.getElem?_eq_some_iff.mp hi).1
  exact sy_okM_r sy_by154 sy_o154_0 (by omega) (by omega) hi⟩
theorem sy_oo155 : sy_op 155 ((sy_my 3 207 28, prog_4_method_25_code, 5, (some .int)), sy_c155) := ⟨sy_pl3, rfl, fun ix i hi => by
  have hl : ix < 149 := by
    have hc : sy_c155.length = 149 := by decide +kernel
    rw [← hc]
    exact (List.getElem?_eq_some_iff.mp hi).1
  rcases Nat.lt_or_ge ix 80 with q0 | q0
  · exact sy_okM_r sy_by155 sy_o155_0 (by omega) (by omega) hi
  exact sy_okM_r sy_by155 sy_o155_80 (by omega) (by omega) hi⟩
theorem sy_oo156 : sy_op 156 ((sy_my 4 208 209, prog_5_method_7_code, 7, none), sy_c156) := ⟨sy_pl4, rfl, fun ix i hi => by
  have hl : ix < 74 := by
    have hc : sy_c156.length = 74 := by decide +kernel
    rw [← hc]
    exact (List.getElem?_eq_some_iff.mp hi).1
  exact sy_okM_r sy_by156 sy_o156_0 (by omega) (by omega) hi⟩
theorem sy_oo157 : sy_op 157 ((sy_my 4 210 211, prog_5_method_24_code, 5, none), sy_c157) := ⟨sy_pl4, rfl, fun ix i hi => by
  have hl : ix < 160 := by
    have hc : sy_c157.length = 160 := by decide +kernel
    rw [← hc]
    exact (List.getElem?_eq_some_iff.mp hi).1
  rcases Nat.lt_or_ge ix 80 with q0 | q0
  · exact sy_okM_r sy_by157 sy_o157_0 (by omega) (by omega) hi
  exact sy_okM_r sy_by157 sy_o157_80 (by omega) (by omega) hi⟩
theorem sy_oo158 : sy_op 158 ((sy_my 4 212 213, prog_5_method_23_code, 7, none), sy_c158) := ⟨sy_pl4, rfl, fun ix i hi => by
  have hl : ix < 131 := by
    have hc : sy_c158.length = 131 := by decide +kernel
    rw [← hc]
    exact (List.getElem?_eq_some_iff.mp hi).1
  rcases Nat.lt_or_ge ix 80 with q0 | q0
  · exact sy_okM_r sy_by158 sy_o158_0 (by omega) (by omega) hi
  exact sy_okM_r sy_by158 sy_o158_80 (by omega) (by omega) hi⟩
theorem sy_oo159 : sy_op 159 ((sy_my 3 214 28, prog_4_method_27_code, 4, (some .int)), sy_c159) := ⟨sy_pl3, rfl, fun ix i hi => by
  have hl : ix < 158 := by
    have hc : sy_c159.length = 158 := by decide +kernel
    rw [← hc]
    exact (List.getElem?_eq_some_iff.mp hi).1
  rcases Nat.lt_or_ge ix 80 with q0 | q0
  · exact sy_okM_r sy_by159 sy_o159_0 (by omega) (by omega) hi
  exact sy_okM_r sy_by159 sy_o159_80 (by omega) (by omega) hi⟩
theorem sy_oo160 : sy_op 160 ((sy_my 3 133 63, prog_4_method_30_code, 3, (some .int)), sy_c160) := ⟨sy_pl3, rfl, fun ix i hi => by
  have hl : ix < 62 := by
    have hc : sy_c160.length = 62 := by decide +kernel
    rw [← hc]
    exact (List.getElem?_eq_some_iff.mp hi).1
  exact sy_okM_r sy_by160 sy_o160_0 (by omega) (by omega) hi⟩
theorem sy_oo161 : sy_op 161 ((sy_my 1 215 30, prog_2_method_6_code, 2, (some .boolean)), sy_c161) := ⟨sy_pl1, rfl, fun ix i hi => by
  have hl : ix < 29 := by
    have hc : sy_c161.length = 29 := by decide +kernel
    rw [← hc]
    exact (List.getElem?_eq_some_iff.mp hi).1
  exact sy_okM_r sy_by161 sy_o161_0 (by omega) (by omega) hi⟩
theorem sy_oo162 : sy_op 162 ((sy_my 3 216 28, prog_4_method_29_code, 2, (some .int)), sy_c162) := ⟨sy_pl3, rfl, fun ix i hi => by
  have hl : ix < 59 := by
    have hc : sy_c162.length = 59 := by decide +kernel
    rw [← hc]
    exact (List.getElem?_eq_some_iff.mp hi).1
  exact sy_okM_r sy_by162 sy_o162_0 (by omega) (by omega) hi⟩
theorem sy_oo163 : sy_op 163 ((sy_my 3 217 28, prog_4_method_31_code, 3, (some .int)), sy_c163) := ⟨sy_pl3, rfl, fun ix i hi => by
  have hl : ix < 77 := by
    have hc : sy_c163.length = 77 := by decide +kernel
    rw [← hc]
    exact (List.getElem?_eq_some_iff.mp hi).1
  exact sy_okM_r sy_by163 sy_o163_0 (by omega) (by omega) hi⟩
theorem sy_oo164 : sy_op 164 ((sy_my 10 218 30, prog_11_method_5_code, 3, (some .boolean)), sy_c164) := ⟨sy_pl10, rfl, fun ix i hi => by
  have hl : ix < 31 := by
    have hc : sy_c164.length = 31 := by decide +kernel
    rw [← hc]
    exact (List.getElem?_eq_some_iff.mp hi).1
  exact sy_okM_r sy_by164 sy_o164_0 (by omega) (by omega) hi⟩
theorem sy_oo165 : sy_op 165 ((sy_my 4 219 220, prog_5_method_9_code, 4, (some .boolean)), sy_c165) := ⟨sy_pl4, rfl, fun ix i hi => by
  have hl : ix < 27 := by
    have hc : sy_c165.length = 27 := by decide +kernel
    rw [← hc]
    exact (List.getElem?_eq_some_iff.mp hi).1
  exact sy_okM_r sy_by165 sy_o165_0 (by omega) (by omega) hi⟩
theorem sy_oo166 : sy_op 166 ((sy_my 4 221 222, prog_5_method_21_code, 5, (some .boolean)), sy_c166) := ⟨sy_pl4, rfl, fun ix i hi => by
  have hl : ix < 125 := by
    have hc : sy_c166.length = 125 := by decide +kernel
    rw [← hc]
    exact (List.getElem?_eq_some_iff.mp hi).1
  rcases Nat.lt_or_ge ix 80 with q0 | q0
  · exact sy_okM_r sy_by166 sy_o166_0 (by omega) (by omega) hi
  exact sy_okM_r sy_by166 sy_o166_80 (by omega) (by omega) hi⟩
theorem sy_oo167 : sy_op 167 ((sy_my 4 223 224, prog_5_method_5_code, 2, none), sy_c167) := ⟨sy_pl4, rfl, fun ix i hi => by
  have hl : ix < 15 := by
    have hc : sy_c167.length = 15 := by decide +kernel
    rw [← hc]
    exact (List.getElem?_eq_some_iff.mp hi).1
  exact sy_okM_r sy_by167 sy_o167_0 (by omega) (by omega) hi⟩
theorem sy_oo168 : sy_op 168 ((sy_my 4 225 226, prog_5_method_20_code, 5, (some .boolean)), sy_c168) := ⟨sy_pl4, rfl, fun ix i hi => by
  have hl : ix < 101 := by
    have hc : sy_c168.length = 101 := by decide +kernel
    rw [← hc]
    exact (List.getElem?_eq_some_iff.mp hi).1
  rcases Nat.lt_or_ge ix 80 with q0 | q0
  · exact sy_okM_r sy_by168 sy_o168_0 (by omega) (by omega) hi
  exact sy_okM_r sy_by168 sy_o168_80 (by omega) (by omega) hi⟩
theorem sy_oo169 : sy_op 169 ((sy_my 4 227 106, prog_5_method_22_code, 1, none), sy_c169) := ⟨sy_pl4, rfl, fun ix i hi => by
  have hl : ix < 9 := by
    have hc : sy_c169.length = 9 := by decide +kernel
    rw [← hc]
    exact (List.getElem?_eq_some_iff.mp hi).1
  exact sy_okM_r sy_by169 sy_o169_0 (by omega) (by omega) hi⟩
theorem sy_oo170 : sy_op 170 ((sy_my 4 228 229, prog_5_method_13_code, 4, none), sy_c170) := ⟨sy_pl4, rfl, fun ix i hi => by
  have hl : ix < 79 := by
    have hc : sy_c170.length = 79 := by decide +kernel
    rw [← hc]
    exact (List.getElem?_eq_some_iff.mp hi).1
  exact sy_okM_r sy_by170 sy_o170_0 (by omega) (by omega) hi⟩
theorem sy_oo171 : sy_op 171 ((sy_my 4 230 231, prog_5_method_18_code, 6, none), sy_c171) := ⟨sy_pl4, rfl, fun ix i hi => by
  have hl : ix < 76 := by
    have hc : sy_c171.length = 76 := by decide +kernel
    rw [← hc]
    exact (List.getElem?_eq_some_iff.mp hi).1
  exact sy_okM_r sy_by171 sy_o171_0 (by omega) (by omega) hi⟩
theorem sy_oo172 : sy_op 172 ((sy_my 10 232 233, prog_11_method_4_code, 5, (some .boolean)), sy_c172) := ⟨sy_pl10, rfl, fun ix i hi => by
  have hl : ix < 82 := by
    have hc : sy_c172.length = 82 := by decide +kernel
    rw [← hc]
    exact (List.getElem?_eq_some_iff.mp hi).1
  rcases Nat.lt_or_ge ix 80 with q0 | q0
  · exact sy_okM_r sy_by172 sy_o172_0 (by omega) (by omega) hi
  exact sy_okM_r sy_by172 sy_o172_80 (by omega) (by omega) hi⟩
theorem sy_oo173 : sy_op 173 ((sy_my 3 234 59, prog_4_method_28_code, 5, (some .int)), sy_c173) := ⟨sy_pl3, rfl, fun ix i hi => by
  have hl : ix < 78 := by
    have hc : sy_c173.length = 78 := by decide +kernel
    rw [← hc]
    exact (List.getElem?_eq_some_iff.mp hi).1
  exact sy_okM_r sy_by173 sy_o173_0 (by omega) (by omega) hi⟩
theorem sy_oo174 : sy_op 174 ((sy_my 1 235 41, prog_2_method_12_code, 2, none), sy_c174) := ⟨sy_pl1, rfl, fun ix i hi => by
  have hl : ix < 13 := by
    have hc : sy_c174.length = 13 := by decide +kernel
    rw [← hc]
    exact (List.getElem?_eq_some_iff.mp hi).1
  exact sy_okM_r sy_by174 sy_o174_0 (by omega) (by omega) hi⟩
theorem sy_oo175 : sy_op 175 ((sy_my 3 236 20, prog_4_method_3_code, 3, (some .boolean)), sy_c175) := ⟨sy_pl3, rfl, fun ix i hi => by
  have hl : ix < 48 := by
    have hc : sy_c175.length = 48 := by decide +kernel
    rw [← hc]
    exact (List.getElem?_eq_some_iff.mp hi).1
  exact sy_okM_r sy_by175 sy_o175_0 (by omega) (by omega) hi⟩
theorem sy_oo176 : sy_op 176 ((sy_my 3 237 238, prog_4_method_2_code, 7, (some .int)), sy_c176) := ⟨sy_pl3, rfl, fun ix i hi => by
  have hl : ix < 172 := by
    have hc : sy_c176.length = 172 := by decide +kernel
    rw [← hc]
    exact (List.getElem?_eq_some_iff.mp hi).1
  rcases Nat.lt_or_ge ix 80 with q0 | q0
  · exact sy_okM_r sy_by176 sy_o176_0 (by omega) (by omega) hi
  rcases Nat.lt_or_ge ix 160 with q80 | q80
  · exact sy_okM_r sy_by176 sy_o176_80 (by omega) (by omega) hi
  exact sy_okM_r sy_by176 sy_o176_160 (by omega) (by omega) hi⟩
theorem sy_oo177 : sy_op 177 ((sy_my 8 239 240, prog_9_method_8_code, 4, (some .boolean)), sy_c177) := ⟨sy_pl8, rfl, fun ix i hi => by
  have hl : ix < 55 := by
    have hc : sy_c177.length = 55 := by decide +kernel
    rw [← hc]
    exact (List.getElem?_eq_some_iff.mp hi).1
  exact sy_okM_r sy_by177 sy_o177_0 (by omega) (by omega) hi⟩
theorem sy_oo178 : sy_op 178 ((sy_my 5 15 75, prog_6_method_6_code, 3, none), sy_c178) := ⟨sy_pl5, rfl, fun ix i hi => by
  have hl : ix < 37 := by
    have hc : sy_c178.length = 37 := by decide +kernel
    rw [← hc]
    exact (List.getElem?_eq_some_iff.mp hi).1
  exact sy_okM_r sy_by178 sy_o178_0 (by omega) (by omega) hi⟩
theorem sy_oo179 : sy_op 179 ((sy_my 8 65 241, prog_9_method_9_code, 4, none), sy_c179) := ⟨sy_pl8, rfl, fun ix i hi => by
  have hl : ix < 65 := by
    have hc : sy_c179.length = 65 := by decide +kernel
    rw [← hc]
    exact (List.getElem?_eq_some_iff.mp hi).1
  exact sy_okM_r sy_by179 sy_o179_0 (by omega) (by omega) hi⟩
theorem sy_oo180 : sy_op 180 ((sy_my 6 242 28, prog_7_method_17_code, 2, (some .int)), sy_c180) := ⟨sy_pl6, rfl, fun ix i hi => by
  have hl : ix < 42 := by
    have hc : sy_c180.length = 42 := by decide +kernel
    rw [← hc]
    exact (List.getElem?_eq_some_iff.mp hi).1
  exact sy_okM_r sy_by180 sy_o180_0 (by omega) (by omega) hi⟩
theorem sy_oo181 : sy_op 181 ((sy_my 0 243 134, prog_1_method_10_code, 7, (some .int)), sy_c181) := ⟨sy_pl0, rfl, fun ix i hi => by
  have hl : ix < 39 := by
    have hc : sy_c181.length = 39 := by decide +kernel
    rw [← hc]
    exact (List.getElem?_eq_some_iff.mp hi).1
  exact sy_okM_r sy_by181 sy_o181_0 (by omega) (by omega) hi⟩
theorem sy_oo182 : sy_op 182 ((sy_my 0 244 28, prog_1_method_11_code, 2, (some .int)), sy_c182) := ⟨sy_pl0, rfl, fun ix i hi => by
  have hl : ix < 16 := by
    have hc : sy_c182.length = 16 := by decide +kernel
    rw [← hc]
    exact (List.getElem?_eq_some_iff.mp hi).1
  exact sy_okM_r sy_by182 sy_o182_0 (by omega) (by omega) hi⟩
theorem sy_oo183 : sy_op 183 ((sy_my 0 245 28, prog_1_method_12_code, 2, (some .int)), sy_c183) := ⟨sy_pl0, rfl, fun ix i hi => by
  have hl : ix < 20 := by
    have hc : sy_c183.length = 20 := by decide +kernel
    rw [← hc]
    exact (List.getElem?_eq_some_iff.mp hi).1
  exact sy_okM_r sy_by183 sy_o183_0 (by omega) (by omega) hi⟩
theorem sy_oo184 : sy_op 184 ((sy_my 0 246 20, prog_1_method_13_code, 2, (some .boolean)), sy_c184) := ⟨sy_pl0, rfl, fun ix i hi => by
  have hl : ix < 26 := by
    have hc : sy_c184.length = 26 := by decide +kernel
    rw [← hc]
    exact (List.getElem?_eq_some_iff.mp hi).1
  exact sy_okM_r sy_by184 sy_o184_0 (by omega) (by omega) hi⟩
theorem sy_oo185 : sy_op 185 ((sy_my 0 247 20, prog_1_method_14_code, 2, (some .boolean)), sy_c185) := ⟨sy_pl0, rfl, fun ix i hi => by
  have hl : ix < 14 := by
    have hc : sy_c185.length = 14 := by decide +kernel
    rw [← hc]
    exact (List.getElem?_eq_some_iff.mp hi).1
  exact sy_okM_r sy_by185 sy_o185_0 (by omega) (by omega) hi⟩
theorem sy_oo186 : sy_op 186 ((sy_my 0 248 32, prog_1_method_20_code, 5, (some .boolean)), sy_c186) := ⟨sy_pl0, rfl, fun ix i hi => by
  have hl : ix < 79 := by
    have hc : sy_c186.length = 79 := by decide +kernel
    rw [← hc]
    exact (List.getElem?_eq_some_iff.mp hi).1
  exact sy_okM_r sy_by186 sy_o186_0 (by omega) (by omega) hi⟩
theorem sy_oo187 : sy_op 187 ((sy_my 0 144 45, prog_1_method_21_code, 6, none), sy_c187) := ⟨sy_pl0, rfl, fun ix i hi => by
  have hl : ix < 47 := by
    have hc : sy_c187.length = 47 := by decide +kernel
    rw [← hc]
    exact (List.getElem?_eq_some_iff.mp hi).1
  exact sy_okM_r sy_by187 sy_o187_0 (by omega) (by omega) hi⟩
theorem sy_oo188 : sy_op 188 ((sy_my 0 249 51, prog_1_method_19_code, 6, (some .boolean)), sy_c188) := ⟨sy_pl0, rfl, fun ix i hi => by
  have hl : ix < 131 := by
    have hc : sy_c188.length = 131 := by decide +kernel
    rw [← hc]
    exact (List.getElem?_eq_some_iff.mp hi).1
  rcases Nat.lt_or_ge ix 80 with q0 | q0
  · exact sy_okM_r sy_by188 sy_o188_0 (by omega) (by omega) hi
  exact sy_okM_r sy_by188 sy_o188_80 (by omega) (by omega) hi⟩
theorem sy_oo189 : sy_op 189 ((sy_my 0 250 28, prog_1_method_15_code, 6, (some .int)), sy_c189) := ⟨sy_pl0, rfl, fun ix i hi => by
  have hl : ix < 156 := by
    have hc : sy_c189.length = 156 := by decide +kernel
    rw [← hc]
    exact (List.getElem?_eq_some_iff.mp hi).1
  rcases Nat.lt_or_ge ix 80 with q0 | q0
  · exact sy_okM_r sy_by189 sy_o189_0 (by omega) (by omega) hi
  exact sy_okM_r sy_by189 sy_o189_80 (by omega) (by omega) hi⟩
theorem sy_oo190 : sy_op 190 ((sy_my 0 251 28, prog_1_method_16_code, 2, (some .int)), sy_c190) := ⟨sy_pl0, rfl, fun ix i hi => by
  have hl : ix < 27 := by
    have hc : sy_c190.length = 27 := by decide +kernel
    rw [← hc]
    exact (List.getElem?_eq_some_iff.mp hi).1
  exact sy_okM_r sy_by190 sy_o190_0 (by omega) (by omega) hi⟩
theorem sy_oo191 : sy_op 191 ((sy_my 11 252 41, prog_12_method_4_code, 2, none), sy_c191) := ⟨sy_pl11, rfl, fun ix i hi => by
  have hl : ix < 21 := by
    have hc : sy_c191.length = 21 := by decide +kernel
    rw [← hc]
    exact (List.getElem?_eq_some_iff.mp hi).1
  exact sy_okM_r sy_by191 sy_o191_0 (by omega) (by omega) hi⟩
theorem sy_oo192 : sy_op 192 ((sy_my 11 253 79, prog_12_method_2_code, 4, (some .int)), sy_c192) := ⟨sy_pl11, rfl, fun ix i hi => by
  have hl : ix < 28 := by
    have hc : sy_c192.length = 28 := by decide +kernel
    rw [← hc]
    exact (List.getElem?_eq_some_iff.mp hi).1
  exact sy_okM_r sy_by192 sy_o192_0 (by omega) (by omega) hi⟩
theorem sy_oo193 : sy_op 193 ((sy_my 0 254 79, prog_1_method_17_code, 4, (some .int)), sy_c193) := ⟨sy_pl0, rfl, fun ix i hi => by
  have hl : ix < 22 := by
    have hc : sy_c193.length = 22 := by decide +kernel
    rw [← hc]
    exact (List.getElem?_eq_some_iff.mp hi).1
  exact sy_okM_r sy_by193 sy_o193_0 (by omega) (by omega) hi⟩
theorem sy_oo194 : sy_op 194 ((sy_my 11 255 41, prog_12_method_3_code, 2, none), sy_c194) := ⟨sy_pl11, rfl, fun ix i hi => by
  have hl : ix < 16 := by
    have hc : sy_c194.length = 16 := by decide +kernel
    rw [← hc]
    exact (List.getElem?_eq_some_iff.mp hi).1
  exact sy_okM_r sy_by194 sy_o194_0 (by omega) (by omega) hi⟩
theorem sy_oo195 : sy_op 195 ((sy_my 0 256 20, prog_1_method_18_code, 2, (some .boolean)), sy_c195) := ⟨sy_pl0, rfl, fun ix i hi => by
  have hl : ix < 13 := by
    have hc : sy_c195.length = 13 := by decide +kernel
    rw [← hc]
    exact (List.getElem?_eq_some_iff.mp hi).1
  exact sy_okM_r sy_by195 sy_o195_0 (by omega) (by omega) hi⟩
theorem sy_oo196 : sy_op 196 ((sy_my 12 17 18, prog_14_method_3_code, 8, (some .boolean)), sy_c196) := ⟨sy_pl12, rfl, fun ix i hi => by
  have hl : ix < 63 := by
    have hc : sy_c196.length = 63 := by decide +kernel
    rw [← hc]
    exact (List.getElem?_eq_some_iff.mp hi).1
  exact sy_okM_r sy_by196 sy_o196_0 (by omega) (by omega) hi⟩
theorem sy_oo197 : sy_op 197 ((sy_my 12 19 20, prog_14_method_4_code, 2, (some .boolean)), sy_c197) := ⟨sy_pl12, rfl, fun ix i hi => by
  have hl : ix < 16 := by
    have hc : sy_c197.length = 16 := by decide +kernel
    rw [← hc]
    exact (List.getElem?_eq_some_iff.mp hi).1
  exact sy_okM_r sy_by197 sy_o197_0 (by omega) (by omega) hi⟩
theorem sy_oo198 : sy_op 198 ((sy_my 12 257 258, prog_14_method_13_code, 5, (some .int)), sy_c198) := ⟨sy_pl12, rfl, fun ix i hi => by
  have hl : ix < 39 := by
    have hc : sy_c198.length = 39 := by decide +kernel
    rw [← hc]
    exact (List.getElem?_eq_some_iff.mp hi).1
  exact sy_okM_r sy_by198 sy_o198_0 (by omega) (by omega) hi⟩
theorem sy_oo199 : sy_op 199 ((sy_my 12 259 63, prog_14_method_12_code, 2, (some .int)), sy_c199) := ⟨sy_pl12, rfl, fun ix i hi => by
  have hl : ix < 10 := by
    have hc : sy_c199.length = 10 := by decide +kernel
    rw [← hc]
    exact (List.getElem?_eq_some_iff.mp hi).1
  exact sy_okM_r sy_by199 sy_o199_0 (by omega) (by omega) hi⟩
theorem sy_oo200 : sy_op 200 ((sy_my 12 260 34, prog_14_method_15_code, 12, none), sy_c200) := ⟨sy_pl12, rfl, fun ix i hi => by
  have hl : ix < 190 := by
    have hc : sy_c200.length = 190 := by decide +kernel
    rw [← hc]
    exact (List.getElem?_eq_some_iff.mp hi).1
  rcases Nat.lt_or_ge ix 80 with q0 | q0
  · exact sy_okM_r sy_by200 sy_o200_0 (by omega) (by omega) hi
  rcases Nat.lt_or_ge ix 160 with q80 | q80
  · exact sy_okM_r sy_by200 sy_o200_80 (by omega) (by omega) hi
  exact sy_okM_r sy_by200 sy_o200_160 (by omega) (by omega) hi⟩
theorem sy_oo201 : sy_op 201 ((sy_my 12 261 16, prog_14_method_14_code, 9, none), sy_c201) := ⟨sy_pl12, rfl, fun ix i hi => by
  have hl : ix < 161 := by
    have hc : sy_c201.length = 161 := by decide +kernel
    rw [← hc]
    exact (List.getElem?_eq_some_iff.mp hi).1
  rcases Nat.lt_or_ge ix 80 with q0 | q0
  · exact sy_okM_r sy_by201 sy_o201_0 (by omega) (by omega) hi
  rcases Nat.lt_or_ge ix 160 with q80 | q80
  · exact sy_okM_r sy_by201 sy_o201_80 (by omega) (by omega) hi
  exact sy_okM_r sy_by201 sy_o201_160 (by omega) (by omega) hi⟩
theorem sy_oo202 : sy_op 202 ((sy_my 12 27 28, prog_14_method_5_code, 3, (some .int)), sy_c202) := ⟨sy_pl12, rfl, fun ix i hi => by
  have hl : ix < 61 := by
    have hc : sy_c202.length = 61 := by decide +kernel
    rw [← hc]
    exact (List.getElem?_eq_some_iff.mp hi).1
  exact sy_okM_r sy_by202 sy_o202_0 (by omega) (by omega) hi⟩
theorem sy_oo203 : sy_op 203 ((sy_my 12 29 30, prog_14_method_6_code, 2, (some .boolean)), sy_c203) := ⟨sy_pl12, rfl, fun ix i hi => by
  have hl : ix < 32 := by
    have hc : sy_c203.length = 32 := by decide +kernel
    rw [← hc]
    exact (List.getElem?_eq_some_iff.mp hi).1
  exact sy_okM_r sy_by203 sy_o203_0 (by omega) (by omega) hi⟩
theorem sy_oo204 : sy_op 204 ((sy_my 12 31 32, prog_14_method_7_code, 4, (some .boolean)), sy_c204) := ⟨sy_pl12, rfl, fun ix i hi => by
  have hl : ix < 36 := by
    have hc : sy_c204.length = 36 := by decide +kernel
    rw [← hc]
    exact (List.getElem?_eq_some_iff.mp hi).1
  exact sy_okM_r sy_by204 sy_o204_0 (by omega) (by omega) hi⟩
theorem sy_oo205 : sy_op 205 ((sy_my 12 262 263, prog_14_method_24_code, 8, none), sy_c205) := ⟨sy_pl12, rfl, fun ix i hi => by
  have hl : ix < 113 := by
    have hc : sy_c205.length = 113 := by decide +kernel
    rw [← hc]
    exact (List.getElem?_eq_some_iff.mp hi).1
  rcases Nat.lt_or_ge ix 80 with q0 | q0
  · exact sy_okM_r sy_by205 sy_o205_0 (by omega) (by omega) hi
  exact sy_okM_r sy_by205 sy_o205_80 (by omega) (by omega) hi⟩
theorem sy_oo206 : sy_op 206 ((sy_my 12 264 265, prog_14_method_21_code, 3, (some .long)), sy_c206) := ⟨sy_pl12, rfl, fun ix i hi => by
  have hl : ix < 10 := by
    have hc : sy_c206.length = 10 := by decide +kernel
    rw [← hc]
    exact (List.getElem?_eq_some_iff.mp hi).1
  exact sy_okM_r sy_by206 sy_o206_0 (by omega) (by omega) hi⟩
theorem sy_oo207 : sy_op 207 ((sy_my 12 266 34, prog_14_method_23_code, 22, none), sy_c207) := ⟨sy_pl12, rfl, fun ix i hi => by
  have hl : ix < 190 := by
    have hc : sy_c207.length = 190 := by decide +kernel
    rw [← hc]
    exact (List.getElem?_eq_some_iff.mp hi).1
  rcases Nat.lt_or_ge ix 80 with q0 | q0
  · exact sy_okM_r sy_by207 sy_o207_0 (by omega) (by omega) hi
  rcases Nat.lt_or_ge ix 160 with q80 | q80
  · exact sy_okM_r sy_by207 sy_o207_80 (by omega) (by omega) hi
  exact sy_okM_r sy_by207 sy_o207_160 (by omega) (by omega) hi⟩
theorem sy_oo208 : sy_op 208 ((sy_my 12 267 22, prog_14_method_22_code, 11, none), sy_c208) := ⟨sy_pl12, rfl, fun ix i hi => by
  have hl : ix < 197 := by
    have hc : sy_c208.length = 197 := by decide +kernel
    rw [← hc]
    exact (List.getElem?_eq_some_iff.mp hi).1
  rcases Nat.lt_or_ge ix 80 with q0 | q0
  · exact sy_okM_r sy_by208 sy_o208_0 (by omega) (by omega) hi
  rcases Nat.lt_or_ge ix 160 with q80 | q80
  · exact sy_okM_r sy_by208 sy_o208_80 (by omega) (by omega) hi
  exact sy_okM_r sy_by208 sy_o208_160 (by omega) (by omega) hi⟩
theorem sy_oo209 : sy_op 209 ((sy_my 12 268 75, prog_14_method_25_code, 4, none), sy_c209) := ⟨sy_pl12, rfl, fun ix i hi => by
  have hl : ix < 20 := by
    have hc : sy_c209.length = 20 := by decide +kernel
    rw [← hc]
    exact (List.getElem?_eq_some_iff.mp hi).1
  exact sy_okM_r sy_by209 sy_o209_0 (by omega) (by omega) hi⟩
theorem sy_oo210 : sy_op 210 ((sy_my 12 269 270, prog_14_method_26_code, 5, none), sy_c210) := ⟨sy_pl12, rfl, fun ix i hi => by
  have hl : ix < 19 := by
    have hc : sy_c210.length = 19 := by decide +kernel
    rw [← hc]
    exact (List.getElem?_eq_some_iff.mp hi).1
  exact sy_okM_r sy_by210 sy_o210_0 (by omega) (by omega) hi⟩
theorem sy_oo211 : sy_op 211 ((sy_my 12 271 41, prog_14_method_27_code, 5, none), sy_c211) := ⟨sy_pl12, rfl, fun ix i hi => by
  have hl : ix < 69 := by
    have hc : sy_c211.length = 69 := by decide +kernel
    rw [← hc]
    exact (List.getElem?_eq_some_iff.mp hi).1
  exact sy_okM_r sy_by211 sy_o211_0 (by omega) (by omega) hi⟩
theorem sy_oo212 : sy_op 212 ((sy_my 12 230 45, prog_14_method_30_code, 6, none), sy_c212) := ⟨sy_pl12, rfl, fun ix i hi => by
  have hl : ix < 94 := by
    have hc : sy_c212.length = 94 := by decide +kernel
    rw [← hc]
    exact (List.getElem?_eq_some_iff.mp hi).1
  rcases Nat.lt_or_ge ix 80 with q0 | q0
  · exact sy_okM_r sy_by212 sy_o212_0 (by omega) (by omega) hi
  exact sy_okM_r sy_by212 sy_o212_80 (by omega) (by omega) hi⟩
theorem sy_oo213 : sy_op 213 ((sy_my 12 272 41, prog_14_method_38_code, 2, none), sy_c213) := ⟨sy_pl12, rfl, fun ix i hi => by
  have hl : ix < 24 := by
    have hc : sy_c213.length = 24 := by decide +kernel
    rw [← hc]
    exact (List.getElem?_eq_some_iff.mp hi).1
  exact sy_okM_r sy_by213 sy_o213_0 (by omega) (by omega) hi⟩
theorem sy_oo214 : sy_op 214 ((sy_my 12 273 41, prog_14_method_36_code, 2, none), sy_c214) := ⟨sy_pl12, rfl, fun ix i hi => by
  have hl : ix < 23 := by
    have hc : sy_c214.length = 23 := by decide +kernel
    rw [← hc]
    exact (List.getElem?_eq_some_iff.mp hi).1
  exact sy_okM_r sy_by214 sy_o214_0 (by omega) (by omega) hi⟩
theorem sy_oo215 : sy_op 215 ((sy_my 12 274 45, prog_14_method_29_code, 5, none), sy_c215) := ⟨sy_pl12, rfl, fun ix i hi => by
  have hl : ix < 27 := by
    have hc : sy_c215.length = 27 := by decide +kernel
    rw [← hc]
    exact (List.getElem?_eq_some_iff.mp hi).1
  exact sy_okM_r sy_by215 sy_o215_0 (by omega) (by omega) hi⟩
theorem sy_oo216 : sy_op 216 ((sy_my 12 275 45, prog_14_method_28_code, 5, none), sy_c216) := ⟨sy_pl12, rfl, fun ix i hi => by
  have hl : ix < 27 := by
    have hc : sy_c216.length = 27 := by decide +kernel
    rw [← hc]
    exact (List.getElem?_eq_some_iff.mp hi).1
  exact sy_okM_r sy_by216 sy_o216_0 (by omega) (by omega) hi⟩
theorem sy_oo217 : sy_op 217 ((sy_my 12 276 75, prog_14_method_35_code, 3, none), sy_c217) := ⟨sy_pl12, rfl, fun ix i hi => by
  have hl : ix < 113 := by
    have hc : sy_c217.length = 113 := by decide +kernel
    rw [← hc]
    exact (List.getElem?_eq_some_iff.mp hi).1
  rcases Nat.lt_or_ge ix 80 with q0 | q0
  · exact sy_okM_r sy_by217 sy_o217_0 (by omega) (by omega) hi
  exact sy_okM_r sy_by217 sy_o217_80 (by omega) (by omega) hi⟩
theorem sy_oo218 : sy_op 218 ((sy_my 12 277 278, prog_14_method_37_code, 7, none), sy_c218) := ⟨sy_pl12, rfl, fun ix i hi => by
  have hl : ix < 52 := by
    have hc : sy_c218.length = 52 := by decide +kernel
    rw [← hc]
    exact (List.getElem?_eq_some_iff.mp hi).1
  exact sy_okM_r sy_by218 sy_o218_0 (by omega) (by omega) hi⟩
theorem sy_oo219 : sy_op 219 ((sy_my 12 40 279, prog_14_method_34_code, 5, none), sy_c219) := ⟨sy_pl12, rfl, fun ix i hi => by
  have hl : ix < 41 := by
    have hc : sy_c219.length = 41 := by decide +kernel
    rw [← hc]
    exact (List.getElem?_eq_some_iff.mp hi).1
  exact sy_okM_r sy_by219 sy_o219_0 (by omega) (by omega) hi⟩
theorem sy_oo220 : sy_op 220 ((sy_my 12 121 41, prog_14_method_31_code, 4, none), sy_c220) := ⟨sy_pl12, rfl, fun ix i hi => by
  have hl : ix < 164 := by
    have hc : sy_c220.length = 164 := by decide +kernel
    rw [← hc]
    exact (List.getElem?_eq_some_iff.mp hi).1
  rcases Nat.lt_or_ge ix 80 with q0 | q0
  · exact sy_okM_r sy_by220 sy_o220_0 (by omega) (by omega) hi
  rcases Nat.lt_or_ge ix 160 with q80 | q80
  · exact sy_okM_r sy_by220 sy_o220_80 (by omega) (by omega) hi
  exact sy_okM_r sy_by220 sy_o220_160 (by omega) (by omega) hi⟩
theorem sy_oo221 : sy_op 221 ((sy_my 12 280 20, prog_14_method_33_code, 2, (some .boolean)), sy_c221) := ⟨sy_pl12, rfl, fun ix i hi => by
  have hl : ix < 15 := by
    have hc : sy_c221.length = 15 := by decide +kernel
    rw [← hc]
    exact (List.getElem?_eq_some_iff.mp hi).1
  exact sy_okM_r sy_by221 sy_o221_0 (by omega) (by omega) hi⟩
theorem sy_oo222 : sy_op 222 ((sy_my 12 281 41, prog_14_method_39_code, 4, none), sy_c222) := ⟨sy_pl12, rfl, fun ix i hi => by
  have hl : ix < 57 := by
    have hc : sy_c222.length = 57 := by decide +kernel
    rw [← hc]
    exact (List.getElem?_eq_some_iff.mp hi).1
  exact sy_okM_r sy_by222 sy_o222_0 (by omega) (by omega) hi⟩
theorem sy_oo223 : sy_op 223 ((sy_my 12 282 34, prog_14_method_40_code, 2, none), sy_c223) := ⟨sy_pl12, rfl, fun ix i hi => by
  have hl : ix < 101 := by
    have hc : sy_c223.length = 101 := by decide +kernel
    rw [← hc]
    exact (List.getElem?_eq_some_iff.mp hi).1
  rcases Nat.lt_or_ge ix 80 with q0 | q0
  · exact sy_okM_r sy_by223 sy_o223_0 (by omega) (by omega) hi
  exact sy_okM_r sy_by223 sy_o223_80 (by omega) (by omega) hi⟩
theorem sy_oo224 : sy_op 224 ((sy_my 12 39 30, prog_14_method_8_code, 2, (some .boolean)), sy_c224) := ⟨sy_pl12, rfl, fun ix i hi => by
  have hl : ix < 125 := by
    have hc : sy_c224.length = 125 := by decide +kernel
    rw [← hc]
    exact (List.getElem?_eq_some_iff.mp hi).1
  rcases Nat.lt_or_ge ix 80 with q0 | q0
  · exact sy_okM_r sy_by224 sy_o224_0 (by omega) (by omega) hi
  exact sy_okM_r sy_by224 sy_o224_80 (by omega) (by omega) hi⟩
theorem sy_oo225 : sy_op 225 ((sy_my 12 40 41, prog_14_method_10_code, 2, none), sy_c225) := ⟨sy_pl12, rfl, fun ix i hi => by
  have hl : ix < 12 := by
    have hc : sy_c225.length = 12 := by decide +kernel
    rw [← hc]
    exact (List.getElem?_eq_some_iff.mp hi).1
  exact sy_okM_r sy_by225 sy_o225_0 (by omega) (by omega) hi⟩
theorem sy_oo226 : sy_op 226 ((sy_my 12 42 30, prog_14_method_11_code, 1, (some .boolean)), sy_c226) := ⟨sy_pl12, rfl, fun ix i hi => by
  have hl : ix < 10 := by
    have hc : sy_c226.length = 10 := by decide +kernel
    rw [← hc]
    exact (List.getElem?_eq_some_iff.mp hi).1
  exact sy_okM_r sy_by226 sy_o226_0 (by omega) (by omega) hi⟩
theorem sy_oo227 : sy_op 227 ((sy_my 12 283 284, prog_14_method_57_code, 5, (some .boolean)), sy_c227) := ⟨sy_pl12, rfl, fun ix i hi => by
  have hl : ix < 49 := by
    have hc : sy_c227.length = 49 := by decide +kernel
    rw [← hc]
    exact (List.getElem?_eq_some_iff.mp hi).1
  exact sy_okM_r sy_by227 sy_o227_0 (by omega) (by omega) hi⟩
theorem sy_oo228 : sy_op 228 ((sy_my 12 245 28, prog_14_method_58_code, 2, (some .int)), sy_c228) := ⟨sy_pl12, rfl, fun ix i hi => by
  have hl : ix < 20 := by
    have hc : sy_c228.length = 20 := by decide +kernel
    rw [← hc]
    exact (List.getElem?_eq_some_iff.mp hi).1
  exact sy_okM_r sy_by228 sy_o228_0 (by omega) (by omega) hi⟩
theorem sy_oo229 : sy_op 229 ((sy_my 12 246 20, prog_14_method_59_code, 3, (some .boolean)), sy_c229) := ⟨sy_pl12, rfl, fun ix i hi => by
  have hl : ix < 38 := by
    have hc : sy_c229.length = 38 := by decide +kernel
    rw [← hc]
    exact (List.getElem?_eq_some_iff.mp hi).1
  exact sy_okM_r sy_by229 sy_o229_0 (by omega) (by omega) hi⟩
theorem sy_oo230 : sy_op 230 ((sy_my 12 254 79, prog_14_method_60_code, 4, (some .int)), sy_c230) := ⟨sy_pl12, rfl, fun ix i hi => by
  have hl : ix < 46 := by
    have hc : sy_c230.length = 46 := by decide +kernel
    rw [← hc]
    exact (List.getElem?_eq_some_iff.mp hi).1
  exact sy_okM_r sy_by230 sy_o230_0 (by omega) (by omega) hi⟩
theorem sy_oo231 : sy_op 231 ((sy_my 12 256 20, prog_14_method_61_code, 3, (some .boolean)), sy_c231) := ⟨sy_pl12, rfl, fun ix i hi => by
  have hl : ix < 35 := by
    have hc : sy_c231.length = 35 := by decide +kernel
    rw [← hc]
    exact (List.getElem?_eq_some_iff.mp hi).1
  exact sy_okM_r sy_by231 sy_o231_0 (by omega) (by omega) hi⟩
theorem sy_oo232 : sy_op 232 ((sy_my 12 244 28, prog_14_method_62_code, 2, (some .int)), sy_c232) := ⟨sy_pl12, rfl, fun ix i hi => by
  have hl : ix < 21 := by
    have hc : sy_c232.length = 21 := by decide +kernel
    rw [← hc]
    exact (List.getElem?_eq_some_iff.mp hi).1
  exact sy_okM_r sy_by232 sy_o232_0 (by omega) (by omega) hi⟩
theorem sy_oo233 : sy_op 233 ((sy_my 12 285 41, prog_14_method_66_code, 3, none), sy_c233) := ⟨sy_pl12, rfl, fun ix i hi => by
  have hl : ix < 22 := by
    have hc : sy_c233.length = 22 := by decide +kernel
    rw [← hc]
    exact (List.getElem?_eq_some_iff.mp hi).1
  exact sy_okM_r sy_by233 sy_o233_0 (by omega) (by omega) hi⟩
theorem sy_oo234 : sy_op 234 ((sy_my 12 286 287, prog_14_method_16_code, 4, (some .boolean)), sy_c234) := ⟨sy_pl12, rfl, fun ix i hi => by
  have hl : ix < 21 := by
    have hc : sy_c234.length = 21 := by decide +kernel
    rw [← hc]
    exact (List.getElem?_eq_some_iff.mp hi).1
  exact sy_okM_r sy_by234 sy_o234_0 (by omega) (by omega) hi⟩
theorem sy_oo235 : sy_op 235 ((sy_my 12 288 59, prog_14_method_70_code, 3, (some .int)), sy_c235) := ⟨sy_pl12, rfl, fun ix i hi => by
  have hl : ix < 27 := by
    have hc : sy_c235.length = 27 := by decide +kernel
    rw [← hc]
    exact (List.getElem?_eq_some_iff.mp hi).1
  exact sy_okM_r sy_by235 sy_o235_0 (by omega) (by omega) hi⟩
theorem sy_oo236 : sy_op 236 ((sy_my 12 289 59, prog_14_method_69_code, 2, (some .int)), sy_c236) := ⟨sy_pl12, rfl, fun ix i hi => by
  have hl : ix < 21 := by
    have hc : sy_c236.length = 21 := by decide +kernel
    rw [← hc]
    exact (List.getElem?_eq_some_iff.mp hi).1
  exact sy_okM_r sy_by236 sy_o236_0 (by omega) (by omega) hi⟩
theorem sy_oo237 : sy_op 237 ((sy_my 12 151 41, prog_14_method_71_code, 3, none), sy_c237) := ⟨sy_pl12, rfl, fun ix i hi => by
  have hl : ix < 29 := by
    have hc : sy_c237.length = 29 := by decide +kernel
    rw [← hc]
    exact (List.getElem?_eq_some_iff.mp hi).1
  exact sy_okM_r sy_by237 sy_o237_0 (by omega) (by omega) hi⟩
theorem sy_oo238 : sy_op 238 ((sy_my 12 290 63, prog_14_method_72_code, 8, (some .int)), sy_c238) := ⟨sy_pl12, rfl, fun ix i hi => by
  have hl : ix < 248 := by
    have hc : sy_c238.length = 248 := by decide +kernel
    rw [← hc]
    exact (List.getElem?_eq_some_iff.mp hi).1
  rcases Nat.lt_or_ge ix 80 with q0 | q0
  · exact sy_okM_r sy_by238 sy_o238_0 (by omega) (by omega) hi
  rcases Nat.lt_or_ge ix 160 with q80 | q80
  · exact sy_okM_r sy_by238 sy_o238_80 (by omega) (by omega) hi
  rcases Nat.lt_or_ge ix 240 with q160 | q160
  · exact sy_okM_r sy_by238 sy_o238_160 (by omega) (by omega) hi
  exact sy_okM_r sy_by238 sy_o238_240 (by omega) (by omega) hi⟩
theorem sy_oo239 : sy_op 239 ((sy_my 12 64 20, prog_14_method_67_code, 2, (some .boolean)), sy_c239) := ⟨sy_pl12, rfl, fun ix i hi => by
  have hl : ix < 14 := by
    have hc : sy_c239.length = 14 := by decide +kernel
    rw [← hc]
    exact (List.getElem?_eq_some_iff.mp hi).1
  exact sy_okM_r sy_by239 sy_o239_0 (by omega) (by omega) hi⟩
theorem sy_oo240 : sy_op 240 ((sy_my 12 291 41, prog_14_method_73_code, 3, none), sy_c240) := ⟨sy_pl12, rfl, fun ix i hi => by
  have hl : ix < 38 := by
    have hc : sy_c240.length = 38 := by decide +kernel
    rw [← hc]
    exact (List.getElem?_eq_some_iff.mp hi).1
  exact sy_okM_r sy_by240 sy_o240_0 (by omega) (by omega) hi⟩
theorem sy_oo241 : sy_op 241 ((sy_my 12 292 41, prog_14_method_74_code, 2, none), sy_c241) := ⟨sy_pl12, rfl, fun ix i hi => by
  have hl : ix < 9 := by
    have hc : sy_c241.length = 9 := by decide +kernel
    rw [← hc]
    exact (List.getElem?_eq_some_iff.mp hi).1
  exact sy_okM_r sy_by241 sy_o241_0 (by omega) (by omega) hi⟩
theorem sy_oo242 : sy_op 242 ((sy_my 12 66 41, prog_14_method_75_code, 3, none), sy_c242) := ⟨sy_pl12, rfl, fun ix i hi => by
  have hl : ix < 52 := by
    have hc : sy_c242.length = 52 := by decide +kernel
    rw [← hc]
    exact (List.getElem?_eq_some_iff.mp hi).1
  exact sy_okM_r sy_by242 sy_o242_0 (by omega) (by omega) hi⟩
theorem sy_oo243 : sy_op 243 ((sy_my 12 293 28, prog_14_method_76_code, 3, (some .int)), sy_c243) := ⟨sy_pl12, rfl, fun ix i hi => by
  have hl : ix < 53 := by
    have hc : sy_c243.length = 53 := by decide +kernel
    rw [← hc]
    exact (List.getElem?_eq_some_iff.mp hi).1
  exact sy_okM_r sy_by243 sy_o243_0 (by omega) (by omega) hi⟩
theorem sy_oo244 : sy_op 244 ((sy_my 12 69 20, prog_14_method_68_code, 2, (some .boolean)), sy_c244) := ⟨sy_pl12, rfl, fun ix i hi => by
  have hl : ix < 14 := by
    have hc : sy_c244.length = 14 := by decide +kernel
    rw [← hc]
    exact (List.getElem?_eq_some_iff.mp hi).1
  exact sy_okM_r sy_by244 sy_o244_0 (by omega) (by omega) hi⟩
theorem sy_oo245 : sy_op 245 ((sy_my 12 71 99, prog_14_method_54_code, 2, (some .int)), sy_c245) := ⟨sy_pl12, rfl, fun ix i hi => by
  have hl : ix < 36 := by
    have hc : sy_c245.length = 36 := by decide +kernel
    rw [← hc]
    exact (List.getElem?_eq_some_iff.mp hi).1
  exact sy_okM_r sy_by245 sy_o245_0 (by omega) (by omega) hi⟩
theorem sy_oo246 : sy_op 246 ((sy_my 12 294 45, prog_14_method_81_code, 5, none), sy_c246) := ⟨sy_pl12, rfl, fun ix i hi => by
  have hl : ix < 42 := by
    have hc : sy_c246.length = 42 := by decide +kernel
    rw [← hc]
    exact (List.getElem?_eq_some_iff.mp hi).1
  exact sy_okM_r sy_by246 sy_o246_0 (by omega) (by omega) hi⟩
theorem sy_oo247 : sy_op 247 ((sy_my 12 295 28, prog_14_method_85_code, 2, (some .int)), sy_c247) := ⟨sy_pl12, rfl, fun ix i hi => by
  have hl : ix < 9 := by
    have hc : sy_c247.length = 9 := by decide +kernel
    rw [← hc]
    exact (List.getElem?_eq_some_iff.mp hi).1
  exact sy_okM_r sy_by247 sy_o247_0 (by omega) (by omega) hi⟩
theorem sy_oo248 : sy_op 248 ((sy_my 12 296 28, prog_14_method_97_code, 1, (some .int)), sy_c248) := ⟨sy_pl12, rfl, fun ix i hi => by
  have hl : ix < 47 := by
    have hc : sy_c248.length = 47 := by decide +kernel
    rw [← hc]
    exact (List.getElem?_eq_some_iff.mp hi).1
  exact sy_okM_r sy_by248 sy_o248_0 (by omega) (by omega) hi⟩
theorem sy_oo249 : sy_op 249 ((sy_my 12 297 28, prog_14_method_98_code, 1, (some .int)), sy_c249) := ⟨sy_pl12, rfl, fun ix i hi => by
  have hl : ix < 51 := by
    have hc : sy_c249.length = 51 := by decide +kernel
    rw [← hc]
    exact (List.getElem?_eq_some_iff.mp hi).1
  exact sy_okM_r sy_by249 sy_o249_0 (by omega) (by omega) hi⟩
theorem sy_oo250 : sy_op 250 ((sy_my 12 298 63, prog_14_method_86_code, 4, (some .int)), sy_c250) := ⟨sy_pl12, rfl, fun ix i hi => by
  have hl : ix < 20 := by
    have hc : sy_c250.length = 20 := by decide +kernel
    rw [← hc]
    exact (List.getElem?_eq_some_iff.mp hi).1
  exact sy_okM_r sy_by250 sy_o250_0 (by omega) (by omega) hi⟩
theorem sy_oo251 : sy_op 251 ((sy_my 12 299 63, prog_14_method_99_code, 5, (some .int)), sy_c251) := ⟨sy_pl12, rfl, fun ix i hi => by
  have hl : ix < 77 := by
    have hc : sy_c251.length = 77 := by decide +kernel
    rw [← hc]
    exact (List.getElem?_eq_some_iff.mp hi).1
  exact sy_okM_r sy_by251 sy_o251_0 (by omega) (by omega) hi⟩
theorem sy_oo252 : sy_op 252 ((sy_my 12 300 75, prog_14_method_87_code, 3, none), sy_c252) := ⟨sy_pl12, rfl, fun ix i hi => by
  have hl : ix < 11 := by
    have hc : sy_c252.length = 11 := by decide +kernel
    rw [← hc]
    exact (List.getElem?_eq_some_iff.mp hi).1
  exact sy_okM_r sy_by252 sy_o252_0 (by omega) (by omega) hi⟩
theorem sy_oo253 : sy_op 253 ((sy_my 12 235 75, prog_14_method_88_code, 4, none), sy_c253) := ⟨sy_pl12, rfl, fun ix i hi => by
  have hl : ix < 25 := by
    have hc : sy_c253.length = 25 := by decide +kernel
    rw [← hc]
    exact (List.getElem?_eq_some_iff.mp hi).1
  exact sy_okM_r sy_by253 sy_o253_0 (by omega) (by omega) hi⟩
theorem sy_oo254 : sy_op 254 ((sy_my 12 150 63, prog_14_method_102_code, 9, (some .int)), sy_c254) := ⟨sy_pl12, rfl, fun ix i hi => by
  have hl : ix < 191 := by
    have hc : sy_c254.length = 191 := by decide +kernel
    rw [← hc]
    exact (List.getElem?_eq_some_iff.mp hi).1
  rcases Nat.lt_or_ge ix 80 with q0 | q0
  · exact sy_okM_r sy_by254 sy_o254_0 (by omega) (by omega) hi
  rcases Nat.lt_or_ge ix 160 with q80 | q80
  · exact sy_okM_r sy_by254 sy_o254_80 (by omega) (by omega) hi
  exact sy_okM_r sy_by254 sy_o254_160 (by omega) (by omega) hi⟩
theorem sy_oo255 : sy_op 255 ((sy_my 12 145 301, prog_14_method_89_code, 5, (some .boolean)), sy_c255) := ⟨sy_pl12, rfl, fun ix i hi => by
  have hl : ix < 19 := by
    have hc : sy_c255.length = 19 := by decide +kernel
    rw [← hc]
    exact (List.getElem?_eq_some_iff.mp hi).1
  exact sy_okM_r sy_by255 sy_o255_0 (by omega) (by omega) hi⟩
theorem sy_oo256 : sy_op 256 ((sy_my 12 302 63, prog_14_method_90_code, 3, (some .int)), sy_c256) := ⟨sy_pl12, rfl, fun ix i hi => by
  have hl : ix < 17 := by
    have hc : sy_c256.length = 17 := by decide +kernel
    rw [← hc]
    exact (List.getElem?_eq_some_iff.mp hi).1
  exact sy_okM_r sy_by256 sy_o256_0 (by omega) (by omega) hi⟩
theorem sy_oo257 : sy_op 257 ((sy_my 12 303 63, prog_14_method_91_code, 3, (some .int)), sy_c257) := ⟨sy_pl12, rfl, fun ix i hi => by
  have hl : ix < 10 := by
    have hc : sy_c257.length = 10 := by decide +kernel
    rw [← hc]
    exact (List.getElem?_eq_some_iff.mp hi).1
  exact sy_okM_r sy_by257 sy_o257_0 (by omega) (by omega) hi⟩
theorem sy_oo258 : sy_op 258 ((sy_my 12 304 28, prog_14_method_142_code, 6, (some .int)), sy_c258) := ⟨sy_pl12, rfl, fun ix i hi => by
  have hl : ix < 59 := by
    have hc : sy_c258.length = 59 := by decide +kernel
    rw [← hc]
    exact (List.getElem?_eq_some_iff.mp hi).1
  exact sy_okM_r sy_by258 sy_o258_0 (by omega) (by omega) hi⟩
theorem sy_oo259 : sy_op 259 ((sy_my 12 165 305, prog_14_method_144_code, 9, (some .int)), sy_c259) := ⟨sy_pl12, rfl, fun ix i hi => by
  have hl : ix < 88 := by
    have hc : sy_c259.length = 88 := by decide +kernel
    rw [← hc]
    exact (List.getElem?_eq_some_iff.mp hi).1
  rcases Nat.lt_or_ge ix 80 with q0 | q0
  · exact sy_okM_r sy_by259 sy_o259_0 (by omega) (by omega) hi
  exact sy_okM_r sy_by259 sy_o259_80 (by omega) (by omega) hi⟩
theorem sy_oo260 : sy_op 260 ((sy_my 12 306 45, prog_14_method_92_code, 4, none), sy_c260) := ⟨sy_pl12, rfl, fun ix i hi => by
  have hl : ix < 10 := by
    have hc : sy_c260.length = 10 := by decide +kernel
    rw [← hc]
    exact (List.getElem?_eq_some_iff.mp hi).1
  exact sy_okM_r sy_by260 sy_o260_0 (by omega) (by omega) hi⟩
theorem sy_oo261 : sy_op 261 ((sy_my 12 307 63, prog_14_method_115_code, 3, (some .int)), sy_c261) := ⟨sy_pl12, rfl, fun ix i hi => by
  have hl : ix < 11 := by
    have hc : sy_c261.length = 11 := by decide +kernel
    rw [← hc]
    exact (List.getElem?_eq_some_iff.mp hi).1
  exact sy_okM_r sy_by261 sy_o261_0 (by omega) (by omega) hi⟩
theorem sy_oo262 : sy_op 262 ((sy_my 12 219 32, prog_14_method_118_code, 6, (some .boolean)), sy_c262) := ⟨sy_pl12, rfl, fun ix i hi => by
  have hl : ix < 22 := by
    have hc : sy_c262.length = 22 := by decide +kernel
    rw [← hc]
    exact (List.getElem?_eq_some_iff.mp hi).1
  exact sy_okM_r sy_by262 sy_o262_0 (by omega) (by omega) hi⟩
theorem sy_oo263 : sy_op 263 ((sy_my 12 82 20, prog_14_method_119_code, 3, (some .boolean)), sy_c263) := ⟨sy_pl12, rfl, fun ix i hi => by
  have hl : ix < 37 := by
    have hc : sy_c263.length = 37 := by decide +kernel
    rw [← hc]
    exact (List.getElem?_eq_some_iff.mp hi).1
  exact sy_okM_r sy_by263 sy_o263_0 (by omega) (by omega) hi⟩
theorem sy_oo264 : sy_op 264 ((sy_my 12 86 28, prog_14_method_116_code, 2, (some .int)), sy_c264) := ⟨sy_pl12, rfl, fun ix i hi => by
  have hl : ix < 12 := by
    have hc : sy_c264.length = 12 := by decide +kernel
    rw [← hc]
    exact (List.getElem?_eq_some_iff.mp hi).1
  exact sy_okM_r sy_by264 sy_o264_0 (by omega) (by omega) hi⟩
theorem sy_oo265 : sy_op 265 ((sy_my 12 308 28, prog_14_method_124_code, 2, (some .int)), sy_c265) := ⟨sy_pl12, rfl, fun ix i hi => by
  have hl : ix < 8 := by
    have hc : sy_c265.length = 8 := by decide +kernel
    rw [← hc]
    exact (List.getElem?_eq_some_iff.mp hi).1
  exact sy_okM_r sy_by265 sy_o265_0 (by omega) (by omega) hi⟩
theorem sy_oo266 : sy_op 266 ((sy_my 12 83 20, prog_14_method_120_code, 3, (some .boolean)), sy_c266) := ⟨sy_pl12, rfl, fun ix i hi => by
  have hl : ix < 48 := by
    have hc : sy_c266.length = 48 := by decide +kernel
    rw [← hc]
    exact (List.getElem?_eq_some_iff.mp hi).1
  exact sy_okM_r sy_by266 sy_o266_0 (by omega) (by omega) hi⟩
theorem sy_oo267 : sy_op 267 ((sy_my 12 309 85, prog_14_method_117_code, 5, (some .boolean)), sy_c267) := ⟨sy_pl12, rfl, fun ix i hi => by
  have hl : ix < 37 := by
    have hc : sy_c267.length = 37 := by decide +kernel
    rw [← hc]
    exact (List.getElem?_eq_some_iff.mp hi).1
  exact sy_okM_r sy_by267 sy_o267_0 (by omega) (by omega) hi⟩
theorem sy_oo268 : sy_op 268 ((sy_my 12 310 311, prog_14_method_121_code, 6, (some .boolean)), sy_c268) := ⟨sy_pl12, rfl, fun ix i hi => by
  have hl : ix < 23 := by
    have hc : sy_c268.length = 23 := by decide +kernel
    rw [← hc]
    exact (List.getElem?_eq_some_iff.mp hi).1
  exact sy_okM_r sy_by268 sy_o268_0 (by omega) (by omega) hi⟩
theorem sy_oo269 : sy_op 269 ((sy_my 12 174 51, prog_14_method_123_code, 5, (some .boolean)), sy_c269) := ⟨sy_pl12, rfl, fun ix i hi => by
  have hl : ix < 46 := by
    have hc : sy_c269.length = 46 := by decide +kernel
    rw [← hc]
    exact (List.getElem?_eq_some_iff.mp hi).1
  exact sy_okM_r sy_by269 sy_o269_0 (by omega) (by omega) hi⟩
theorem sy_oo270 : sy_op 270 ((sy_my 12 158 28, prog_14_method_122_code, 5, (some .int)), sy_c270) := ⟨sy_pl12, rfl, fun ix i hi => by
  have hl : ix < 130 := by
    have hc : sy_c270.length = 130 := by decide +kernel
    rw [← hc]
    exact (List.getElem?_eq_some_iff.mp hi).1
  rcases Nat.lt_or_ge ix 80 with q0 | q0
  · exact sy_okM_r sy_by270 sy_o270_0 (by omega) (by omega) hi
  exact sy_okM_r sy_by270 sy_o270_80 (by omega) (by omega) hi⟩
theorem sy_oo271 : sy_op 271 ((sy_my 12 312 313, prog_14_method_101_code, 6, none), sy_c271) := ⟨sy_pl12, rfl, fun ix i hi => by
  have hl : ix < 21 := by
    have hc : sy_c271.length = 21 := by decide +kernel
    rw [← hc]
    exact (List.getElem?_eq_some_iff.mp hi).1
  exact sy_okM_r sy_by271 sy_o271_0 (by omega) (by omega) hi⟩
theorem sy_oo272 : sy_op 272 ((sy_my 12 314 41, prog_14_method_125_code, 2, none), sy_c272) := ⟨sy_pl12, rfl, fun ix i hi => by
  have hl : ix < 17 := by
    have hc : sy_c272.length = 17 := by decide +kernel
    rw [← hc]
    exact (List.getElem?_eq_some_iff.mp hi).1
  exact sy_okM_r sy_by272 sy_o272_0 (by omega) (by omega) hi⟩
theorem sy_oo273 : sy_op 273 ((sy_my 12 89 28, prog_14_method_126_code, 7, (some .int)), sy_c273) := ⟨sy_pl12, rfl, fun ix i hi => by
  have hl : ix < 165 := by
    have hc : sy_c273.length = 165 := by decide +kernel
    rw [← hc]
    exact (List.getElem?_eq_some_iff.mp hi).1
  rcases Nat.lt_or_ge ix 80 with q0 | q0
  · exact sy_okM_r sy_by273 sy_o273_0 (by omega) (by omega) hi
  rcases Nat.lt_or_ge ix 160 with q80 | q80
  · exact sy_okM_r sy_by273 sy_o273_80 (by omega) (by omega) hi
  exact sy_okM_r sy_by273 sy_o273_160 (by omega) (by omega) hi⟩
theorem sy_oo274 : sy_op 274 ((sy_my 12 178 313, prog_14_method_55_code, 5, none), sy_c274) := ⟨sy_pl12, rfl, fun ix i hi => by
  have hl : ix < 105 := by
    have hc : sy_c274.length = 105 := by decide +kernel
    rw [← hc]
    exact (List.getElem?_eq_some_iff.mp hi).1
  rcases Nat.lt_or_ge ix 80 with q0 | q0
  · exact sy_okM_r sy_by274 sy_o274_0 (by omega) (by omega) hi
  exact sy_okM_r sy_by274 sy_o274_80 (by omega) (by omega) hi⟩
theorem sy_oo275 : sy_op 275 ((sy_my 12 315 22, prog_14_method_56_code, 5, none), sy_c275) := ⟨sy_pl12, rfl, fun ix i hi => by
  have hl : ix < 177 := by
    have hc : sy_c275.length = 177 := by decide +kernel
    rw [← hc]
    exact (List.getElem?_eq_some_iff.mp hi).1
  rcases Nat.lt_or_ge ix 80 with q0 | q0
  · exact sy_okM_r sy_by275 sy_o275_0 (by omega) (by omega) hi
  rcases Nat.lt_or_ge ix 160 with q80 | q80
  · exact sy_okM_r sy_by275 sy_o275_80 (by omega) (by omega) hi
  exact sy_okM_r sy_by275 sy_o275_160 (by omega) (by omega) hi⟩
theorem sy_oo276 : sy_op 276 ((sy_my 12 316 317, prog_14_method_137_code, 5, none), sy_c276) := ⟨sy_pl12, rfl, fun ix i hi => by
  have hl : ix < 44 := by
    have hc : sy_c276.length = 44 := by decide +kernel
    rw [← hc]
    exact (List.getElem?_eq_some_iff.mp hi).1
  exact sy_okM_r sy_by276 sy_o276_0 (by omega) (by omega) hi⟩
theorem sy_oo277 : sy_op 277 ((sy_my 12 318 34, prog_14_method_9_code, 1, none), sy_c277) := ⟨sy_pl12, rfl, fun ix i hi => by
  have hl : ix < 9 := by
    have hc : sy_c277.length = 9 := by decide +kernel
    rw [← hc]
    exact (List.getElem?_eq_some_iff.mp hi).1
  exact sy_okM_r sy_by277 sy_o277_0 (by omega) (by omega) hi⟩
theorem sy_oo278 : sy_op 278 ((sy_my 12 319 30, prog_14_method_130_code, 1, (some .boolean)), sy_c278) := ⟨sy_pl12, rfl, fun ix i hi => by
  have hl : ix < 22 := by
    have hc : sy_c278.length = 22 := by decide +kernel
    rw [← hc]
    exact (List.getElem?_eq_some_iff.mp hi).1
  exact sy_okM_r sy_by278 sy_o278_0 (by omega) (by omega) hi⟩
theorem sy_oo279 : sy_op 279 ((sy_my 12 320 30, prog_14_method_131_code, 3, (some .boolean)), sy_c279) := ⟨sy_pl12, rfl, fun ix i hi => by
  have hl : ix < 65 := by
    have hc : sy_c279.length = 65 := by decide +kernel
    rw [← hc]
    exact (List.getElem?_eq_some_iff.mp hi).1
  exact sy_okM_r sy_by279 sy_o279_0 (by omega) (by omega) hi⟩
theorem sy_oo280 : sy_op 280 ((sy_my 12 321 85, prog_14_method_138_code, 8, (some .boolean)), sy_c280) := ⟨sy_pl12, rfl, fun ix i hi => by
  have hl : ix < 188 := by
    have hc : sy_c280.length = 188 := by decide +kernel
    rw [← hc]
    exact (List.getElem?_eq_some_iff.mp hi).1
  rcases Nat.lt_or_ge ix 80 with q0 | q0
  · exact sy_okM_r sy_by280 sy_o280_0 (by omega) (by omega) hi
  rcases Nat.lt_or_ge ix 160 with q80 | q80
  · exact sy_okM_r sy_by280 sy_o280_80 (by omega) (by omega) hi
  exact sy_okM_r sy_by280 sy_o280_160 (by omega) (by omega) hi⟩
theorem sy_oo281 : sy_op 281 ((sy_my 12 322 34, prog_14_method_133_code, 2, none), sy_c281) := ⟨sy_pl12, rfl, fun ix i hi => by
  have hl : ix < 13 := by
    have hc : sy_c281.length = 13 := by decide +kernel
    rw [← hc]
    exact (List.getElem?_eq_some_iff.mp hi).1
  exact sy_okM_r sy_by281 sy_o281_0 (by omega) (by omega) hi⟩
theorem sy_oo282 : sy_op 282 ((sy_my 12 323 41, prog_14_method_134_code, 3, none), sy_c282) := ⟨sy_pl12, rfl, fun ix i hi => by
  have hl : ix < 38 := by
    have hc : sy_c282.length = 38 := by decide +kernel
    rw [← hc]
    exact (List.getElem?_eq_some_iff.mp hi).1
  exact sy_okM_r sy_by282 sy_o282_0 (by omega) (by omega) hi⟩
theorem sy_oo283 : sy_op 283 ((sy_my 12 324 325, prog_14_method_132_code, 5, none), sy_c283) := ⟨sy_pl12, rfl, fun ix i hi => by
  have hl : ix < 39 := by
    have hc : sy_c283.length = 39 := by decide +kernel
    rw [← hc]
    exact (List.getElem?_eq_some_iff.mp hi).1
  exact sy_okM_r sy_by283 sy_o283_0 (by omega) (by omega) hi⟩
theorem sy_oo284 : sy_op 284 ((sy_my 12 326 327, prog_14_method_136_code, 3, (some .boolean)), sy_c284) := ⟨sy_pl12, rfl, fun ix i hi => by
  have hl : ix < 40 := by
    have hc : sy_c284.length = 40 := by decide +kernel
    rw [← hc]
    exact (List.getElem?_eq_some_iff.mp hi).1
  exact sy_okM_r sy_by284 sy_o284_0 (by omega) (by omega) hi⟩
theorem sy_oo285 : sy_op 285 ((sy_my 12 328 63, prog_14_method_139_code, 5, (some .int)), sy_c285) := ⟨sy_pl12, rfl, fun ix i hi => by
  have hl : ix < 99 := by
    have hc : sy_c285.length = 99 := by decide +kernel
    rw [← hc]
    exact (List.getElem?_eq_some_iff.mp hi).1
  rcases Nat.lt_or_ge ix 80 with q0 | q0
  · exact sy_okM_r sy_by285 sy_o285_0 (by omega) (by omega) hi
  exact sy_okM_r sy_by285 sy_o285_80 (by omega) (by omega) hi⟩
theorem sy_oo286 : sy_op 286 ((sy_my 12 329 79, prog_14_method_140_code, 10, (some .int)), sy_c286) := ⟨sy_pl12, rfl, fun ix i hi => by
  have hl : ix < 112 := by
    have hc : sy_c286.length = 112 := by decide +kernel
    rw [← hc]
    exact (List.getElem?_eq_some_iff.mp hi).1
  rcases Nat.lt_or_ge ix 80 with q0 | q0
  · exact sy_okM_r sy_by286 sy_o286_0 (by omega) (by omega) hi
  exact sy_okM_r sy_by286 sy_o286_80 (by omega) (by omega) hi⟩
theorem sy_oo287 : sy_op 287 ((sy_my 12 330 30, prog_14_method_135_code, 2, (some .boolean)), sy_c287) := ⟨sy_pl12, rfl, fun ix i hi => by
  have hl : ix < 21 := by
    have hc : sy_c287.length = 21 := by decide +kernel
    rw [← hc]
    exact (List.getElem?_eq_some_iff.mp hi).1
  exact sy_okM_r sy_by287 sy_o287_0 (by omega) (by omega) hi⟩
theorem sy_oo288 : sy_op 288 ((sy_my 12 331 59, prog_14_method_141_code, 3, (some .int)), sy_c288) := ⟨sy_pl12, rfl, fun ix i hi => by
  have hl : ix < 104 := by
    have hc : sy_c288.length = 104 := by decide +kernel
    rw [← hc]
    exact (List.getElem?_eq_some_iff.mp hi).1
  rcases Nat.lt_or_ge ix 80 with q0 | q0
  · exact sy_okM_r sy_by288 sy_o288_0 (by omega) (by omega) hi
  exact sy_okM_r sy_by288 sy_o288_80 (by omega) (by omega) hi⟩
theorem sy_oo289 : sy_op 289 ((sy_my 12 332 134, prog_14_method_114_code, 6, (some .int)), sy_c289) := ⟨sy_pl12, rfl, fun ix i hi => by
  have hl : ix < 56 := by
    have hc : sy_c289.length = 56 := by decide +kernel
    rw [← hc]
    exact (List.getElem?_eq_some_iff.mp hi).1
  exact sy_okM_r sy_by289 sy_o289_0 (by omega) (by omega) hi⟩
theorem sy_oo290 : sy_op 290 ((sy_my 12 333 334, prog_14_method_143_code, 8, (some .int)), sy_c290) := ⟨sy_pl12, rfl, fun ix i hi => by
  have hl : ix < 108 := by
    have hc : sy_c290.length = 108 := by decide +kernel
    rw [← hc]
    exact (List.getElem?_eq_some_iff.mp hi).1
  rcases Nat.lt_or_ge ix 80 with q0 | q0
  · exact sy_okM_r sy_by290 sy_o290_0 (by omega) (by omega) hi
  exact sy_okM_r sy_by290 sy_o290_80 (by omega) (by omega) hi⟩
theorem sy_oo291 : sy_op 291 ((sy_my 12 335 79, prog_14_method_113_code, 10, (some .int)), sy_c291) := ⟨sy_pl12, rfl, fun ix i hi => by
  have hl : ix < 162 := by
    have hc : sy_c291.length = 162 := by decide +kernel
    rw [← hc]
    exact (List.getElem?_eq_some_iff.mp hi).1
  rcases Nat.lt_or_ge ix 80 with q0 | q0
  · exact sy_okM_r sy_by291 sy_o291_0 (by omega) (by omega) hi
  rcases Nat.lt_or_ge ix 160 with q80 | q80
  · exact sy_okM_r sy_by291 sy_o291_80 (by omega) (by omega) hi
  exact sy_okM_r sy_by291 sy_o291_160 (by omega) (by omega) hi⟩
theorem sy_oo292 : sy_op 292 ((sy_my 12 336 63, prog_14_method_109_code, 10, (some .int)), sy_c292) := ⟨sy_pl12, rfl, fun ix i hi => by
  have hl : ix < 101 := by
    have hc : sy_c292.length = 101 := by decide +kernel
    rw [← hc]
    exact (List.getElem?_eq_some_iff.mp hi).1
  rcases Nat.lt_or_ge ix 80 with q0 | q0
  · exact sy_okM_r sy_by292 sy_o292_0 (by omega) (by omega) hi
  exact sy_okM_r sy_by292 sy_o292_80 (by omega) (by omega) hi⟩
theorem sy_oo293 : sy_op 293 ((sy_my 12 337 41, prog_14_method_48_code, 3, none), sy_c293) := ⟨sy_pl12, rfl, fun ix i hi => by
  have hl : ix < 28 := by
    have hc : sy_c293.length = 28 := by decide +kernel
    rw [← hc]
    exact (List.getElem?_eq_some_iff.mp hi).1
  exact sy_okM_r sy_by293 sy_o293_0 (by omega) (by omega) hi⟩
theorem sy_oo294 : sy_op 294 ((sy_my 12 338 41, prog_14_method_53_code, 4, none), sy_c294) := ⟨sy_pl12, rfl, fun ix i hi => by
  have hl : ix < 43 := by
    have hc : sy_c294.length = 43 := by decide +kernel
    rw [← hc]
    exact (List.getElem?_eq_some_iff.mp hi).1
  exact sy_okM_r sy_by294 sy_o294_0 (by omega) (by omega) hi⟩
theorem sy_oo295 : sy_op 295 ((sy_my 12 339 334, prog_14_method_50_code, 7, (some .int)), sy_c295) := ⟨sy_pl12, rfl, fun ix i hi => by
  have hl : ix < 53 := by
    have hc : sy_c295.length = 53 := by decide +kernel
    rw [← hc]
    exact (List.getElem?_eq_some_iff.mp hi).1
  exact sy_okM_r sy_by295 sy_o295_0 (by omega) (by omega) hi⟩
theorem sy_oo296 : sy_op 296 ((sy_my 12 107 34, prog_14_method_51_code, 5, none), sy_c296) := ⟨sy_pl12, rfl, fun ix i hi => by
  have hl : ix < 130 := by
    have hc : sy_c296.length = 130 := by decide +kernel
    rw [← hc]
    exact (List.getElem?_eq_some_iff.mp hi).1
  rcases Nat.lt_or_ge ix 80 with q0 | q0
  · exact sy_okM_r sy_by296 sy_o296_0 (by omega) (by omega) hi
  exact sy_okM_r sy_by296 sy_o296_80 (by omega) (by omega) hi⟩
theorem sy_oo297 : sy_op 297 ((sy_my 12 242 34, prog_14_method_52_code, 5, none), sy_c297) := ⟨sy_pl12, rfl, fun ix i hi => by
  have hl : ix < 87 := by
    have hc : sy_c297.length = 87 := by decide +kernel
    rw [← hc]
    exact (List.getElem?_eq_some_iff.mp hi).1
  rcases Nat.lt_or_ge ix 80 with q0 | q0
  · exact sy_okM_r sy_by297 sy_o297_0 (by omega) (by omega) hi
  exact sy_okM_r sy_by297 sy_o297_80 (by omega) (by omega) hi⟩
theorem sy_oo298 : sy_op 298 ((sy_my 12 340 75, prog_14_method_49_code, 6, none), sy_c298) := ⟨sy_pl12, rfl, fun ix i hi => by
  have hl : ix < 115 := by
    have hc : sy_c298.length = 115 := by decide +kernel
    rw [← hc]
    exact (List.getElem?_eq_some_iff.mp hi).1
  rcases Nat.lt_or_ge ix 80 with q0 | q0
  · exact sy_okM_r sy_by298 sy_o298_0 (by omega) (by omega) hi
  exact sy_okM_r sy_by298 sy_o298_80 (by omega) (by omega) hi⟩
theorem sy_oo299 : sy_op 299 ((sy_my 12 341 342, prog_14_method_110_code, 9, (some .int)), sy_c299) := ⟨sy_pl12, rfl, fun ix i hi => by
  have hl : ix < 191 := by
    have hc : sy_c299.length = 191 := by decide +kernel
    rw [← hc]
    exact (List.getElem?_eq_some_iff.mp hi).1
  rcases Nat.lt_or_ge ix 80 with q0 | q0
  · exact sy_okM_r sy_by299 sy_o299_0 (by omega) (by omega) hi
  rcases Nat.lt_or_ge ix 160 with q80 | q80
  · exact sy_okM_r sy_by299 sy_o299_80 (by omega) (by omega) hi
  exact sy_okM_r sy_by299 sy_o299_160 (by omega) (by omega) hi⟩
theorem sy_oo300 : sy_op 300 ((sy_my 12 128 34, prog_14_method_41_code, 5, none), sy_c300) := ⟨sy_pl12, rfl, fun ix i hi => by
  have hl : ix < 181 := by
    have hc : sy_c300.length = 181 := by decide +kernel
    rw [← hc]
    exact (List.getElem?_eq_some_iff.mp hi).1
  rcases Nat.lt_or_ge ix 80 with q0 | q0
  · exact sy_okM_r sy_by300 sy_o300_0 (by omega) (by omega) hi
  rcases Nat.lt_or_ge ix 160 with q80 | q80
  · exact sy_okM_r sy_by300 sy_o300_80 (by omega) (by omega) hi
  exact sy_okM_r sy_by300 sy_o300_160 (by omega) (by omega) hi⟩
theorem sy_oo301 : sy_op 301 ((sy_my 12 129 34, prog_14_method_42_code, 2, none), sy_c301) := ⟨sy_pl12, rfl, fun ix i hi => by
  have hl : ix < 21 := by
    have hc : sy_c301.length = 21 := by decide +kernel
    rw [← hc]
    exact (List.getElem?_eq_some_iff.mp hi).1
  exact sy_okM_r sy_by301 sy_o301_0 (by omega) (by omega) hi⟩
theorem sy_oo302 : sy_op 302 ((sy_my 12 131 41, prog_14_method_43_code, 4, none), sy_c302) := ⟨sy_pl12, rfl, fun ix i hi => by
  have hl : ix < 196 := by
    have hc : sy_c302.length = 196 := by decide +kernel
    rw [← hc]
    exact (List.getElem?_eq_some_iff.mp hi).1
  rcases Nat.lt_or_ge ix 80 with q0 | q0
  · exact sy_okM_r sy_by302 sy_o302_0 (by omega) (by omega) hi
  rcases Nat.lt_or_ge ix 160 with q80 | q80
  · exact sy_okM_r sy_by302 sy_o302_80 (by omega) (by omega) hi
  exact sy_okM_r sy_by302 sy_o302_160 (by omega) (by omega) hi⟩
theorem sy_oo303 : sy_op 303 ((sy_my 12 343 63, prog_14_method_111_code, 7, (some .int)), sy_c303) := ⟨sy_pl12, rfl, fun ix i hi => by
  have hl : ix < 76 := by
    have hc : sy_c303.length = 76 := by decide +kernel
    rw [← hc]
    exact (List.getElem?_eq_some_iff.mp hi).1
  exact sy_okM_r sy_by303 sy_o303_0 (by omega) (by omega) hi⟩
theorem sy_oo304 : sy_op 304 ((sy_my 12 218 287, prog_14_method_46_code, 4, (some .boolean)), sy_c304) := ⟨sy_pl12, rfl, fun ix i hi => by
  have hl : ix < 36 := by
    have hc : sy_c304.length = 36 := by decide +kernel
    rw [← hc]
    exact (List.getElem?_eq_some_iff.mp hi).1
  exact sy_okM_r sy_by304 sy_o304_0 (by omega) (by omega) hi⟩
theorem sy_oo305 : sy_op 305 ((sy_my 12 344 287, prog_14_method_45_code, 3, (some .boolean)), sy_c305) := ⟨sy_pl12, rfl, fun ix i hi => by
  have hl : ix < 37 := by
    have hc : sy_c305.length = 37 := by decide +kernel
    rw [← hc]
    exact (List.getElem?_eq_some_iff.mp hi).1
  exact sy_okM_r sy_by305 sy_o305_0 (by omega) (by omega) hi⟩
theorem sy_oo306 : sy_op 306 ((sy_my 12 345 51, prog_14_method_32_code, 4, (some .boolean)), sy_c306) := ⟨sy_pl12, rfl, fun ix i hi => by
  have hl : ix < 24 := by
    have hc : sy_c306.length = 24 := by decide +kernel
    rw [← hc]
    exact (List.getElem?_eq_some_iff.mp hi).1
  exact sy_okM_r sy_by306 sy_o306_0 (by omega) (by omega) hi⟩
theorem sy_oo307 : sy_op 307 ((sy_my 12 346 287, prog_14_method_44_code, 6, (some .boolean)), sy_c307) := ⟨sy_pl12, rfl, fun ix i hi => by
  have hl : ix < 209 := by
    have hc : sy_c307.length = 209 := by decide +kernel
    rw [← hc]
    exact (List.getElem?_eq_some_iff.mp hi).1
  rcases Nat.lt_or_ge ix 80 with q0 | q0
  · exact sy_okM_r sy_by307 sy_o307_0 (by omega) (by omega) hi
  rcases Nat.lt_or_ge ix 160 with q80 | q80
  · exact sy_okM_r sy_by307 sy_o307_80 (by omega) (by omega) hi
  exact sy_okM_r sy_by307 sy_o307_160 (by omega) (by omega) hi⟩
theorem sy_oo308 : sy_op 308 ((sy_my 12 234 20, prog_14_method_47_code, 3, (some .boolean)), sy_c308) := ⟨sy_pl12, rfl, fun ix i hi => by
  have hl : ix < 131 := by
    have hc : sy_c308.length = 131 := by decide +kernel
    rw [← hc]
    exact (List.getElem?_eq_some_iff.mp hi).1
  rcases Nat.lt_or_ge ix 80 with q0 | q0
  · exact sy_okM_r sy_by308 sy_o308_0 (by omega) (by omega) hi
  exact sy_okM_r sy_by308 sy_o308_80 (by omega) (by omega) hi⟩
theorem sy_oo309 : sy_op 309 ((sy_my 12 232 63, prog_14_method_112_code, 8, (some .int)), sy_c309) := ⟨sy_pl12, rfl, fun ix i hi => by
  have hl : ix < 94 := by
    have hc : sy_c309.length = 94 := by decide +kernel
    rw [← hc]
    exact (List.getElem?_eq_some_iff.mp hi).1
  rcases Nat.lt_or_ge ix 80 with q0 | q0
  · exact sy_okM_r sy_by309 sy_o309_0 (by omega) (by omega) hi
  exact sy_okM_r sy_by309 sy_o309_80 (by omega) (by omega) hi⟩
theorem sy_oo310 : sy_op 310 ((sy_my 12 347 348, prog_14_method_128_code, 10, (some .int)), sy_c310) := ⟨sy_pl12, rfl, fun ix i hi => by
  have hl : ix < 105 := by
    have hc : sy_c310.length = 105 := by decide +kernel
    rw [← hc]
    exact (List.getElem?_eq_some_iff.mp hi).1
  rcases Nat.lt_or_ge ix 80 with q0 | q0
  · exact sy_okM_r sy_by310 sy_o310_0 (by omega) (by omega) hi
  exact sy_okM_r sy_by310 sy_o310_80 (by omega) (by omega) hi⟩
theorem sy_oo311 : sy_op 311 ((sy_my 12 349 63, prog_14_method_129_code, 10, (some .int)), sy_c311) := ⟨sy_pl12, rfl, fun ix i hi => by
  have hl : ix < 91 := by
    have hc : sy_c311.length = 91 := by decide +kernel
    rw [← hc]
    exact (List.getElem?_eq_some_iff.mp hi).1
  rcases Nat.lt_or_ge ix 80 with q0 | q0
  · exact sy_okM_r sy_by311 sy_o311_0 (by omega) (by omega) hi
  exact sy_okM_r sy_by311 sy_o311_80 (by omega) (by omega) hi⟩
theorem sy_oo312 : sy_op 312 ((sy_my 12 350 34, prog_14_method_145_code, 4, none), sy_c312) := ⟨sy_pl12, rfl, fun ix i hi => by
  have hl : ix < 53 := by
    have hc : sy_c312.length = 53 := by decide +kernel
    rw [← hc]
    exact (List.getElem?_eq_some_iff.mp hi).1
  exact sy_okM_r sy_by312 sy_o312_0 (by omega) (by omega) hi⟩
theorem sy_oo313 : sy_op 313 ((sy_my 12 351 41, prog_14_method_146_code, 3, none), sy_c313) := ⟨sy_pl12, rfl, fun ix i hi => by
  have hl : ix < 26 := by
    have hc : sy_c313.length = 26 := by decide +kernel
    rw [← hc]
    exact (List.getElem?_eq_some_iff.mp hi).1
  exact sy_okM_r sy_by313 sy_o313_0 (by omega) (by omega) hi⟩
theorem sy_oo314 : sy_op 314 ((sy_my 12 352 28, prog_14_method_147_code, 5, (some .int)), sy_c314) := ⟨sy_pl12, rfl, fun ix i hi => by
  have hl : ix < 53 := by
    have hc : sy_c314.length = 53 := by decide +kernel
    rw [← hc]
    exact (List.getElem?_eq_some_iff.mp hi).1
  exact sy_okM_r sy_by314 sy_o314_0 (by omega) (by omega) hi⟩
theorem sy_oo315 : sy_op 315 ((sy_my 12 353 20, prog_14_method_149_code, 3, (some .boolean)), sy_c315) := ⟨sy_pl12, rfl, fun ix i hi => by
  have hl : ix < 21 := by
    have hc : sy_c315.length = 21 := by decide +kernel
    rw [← hc]
    exact (List.getElem?_eq_some_iff.mp hi).1
  exact sy_okM_r sy_by315 sy_o315_0 (by omega) (by omega) hi⟩
theorem sy_oo316 : sy_op 316 ((sy_my 12 354 355, prog_14_method_150_code, 9, (some .boolean)), sy_c316) := ⟨sy_pl12, rfl, fun ix i hi => by
  have hl : ix < 293 := by
    have hc : sy_c316.length = 293 := by decide +kernel
    rw [← hc]
    exact (List.getElem?_eq_some_iff.mp hi).1
  rcases Nat.lt_or_ge ix 80 with q0 | q0
  · exact sy_okM_r sy_by316 sy_o316_0 (by omega) (by omega) hi
  rcases Nat.lt_or_ge ix 160 with q80 | q80
  · exact sy_okM_r sy_by316 sy_o316_80 (by omega) (by omega) hi
  rcases Nat.lt_or_ge ix 240 with q160 | q160
  · exact sy_okM_r sy_by316 sy_o316_160 (by omega) (by omega) hi
  exact sy_okM_r sy_by316 sy_o316_240 (by omega) (by omega) hi⟩
theorem sy_oo317 : sy_op 317 ((sy_my 12 356 63, prog_14_method_148_code, 10, (some .int)), sy_c317) := ⟨sy_pl12, rfl, fun ix i hi => by
  have hl : ix < 173 := by
    have hc : sy_c317.length = 173 := by decide +kernel
    rw [← hc]
    exact (List.getElem?_eq_some_iff.mp hi).1
  rcases Nat.lt_or_ge ix 80 with q0 | q0
  · exact sy_okM_r sy_by317 sy_o317_0 (by omega) (by omega) hi
  rcases Nat.lt_or_ge ix 160 with q80 | q80
  · exact sy_okM_r sy_by317 sy_o317_80 (by omega) (by omega) hi
  exact sy_okM_r sy_by317 sy_o317_160 (by omega) (by omega) hi⟩
theorem sy_oo318 : sy_op 318 ((sy_my 12 194 75, prog_14_method_107_code, 6, none), sy_c318) := ⟨sy_pl12, rfl, fun ix i hi => by
  have hl : ix < 34 := by
    have hc : sy_c318.length = 34 := by decide +kernel
    rw [← hc]
    exact (List.getElem?_eq_some_iff.mp hi).1
  exact sy_okM_r sy_by318 sy_o318_0 (by omega) (by omega) hi⟩
theorem sy_oo319 : sy_op 319 ((sy_my 12 357 34, prog_14_method_108_code, 11, none), sy_c319) := ⟨sy_pl12, rfl, fun ix i hi => by
  have hl : ix < 239 := by
    have hc : sy_c319.length = 239 := by decide +kernel
    rw [← hc]
    exact (List.getElem?_eq_some_iff.mp hi).1
  rcases Nat.lt_or_ge ix 80 with q0 | q0
  · exact sy_okM_r sy_by319 sy_o319_0 (by omega) (by omega) hi
  rcases Nat.lt_or_ge ix 160 with q80 | q80
  · exact sy_okM_r sy_by319 sy_o319_80 (by omega) (by omega) hi
  exact sy_okM_r sy_by319 sy_o319_160 (by omega) (by omega) hi⟩
theorem sy_oo320 : sy_op 320 ((sy_my 12 358 63, prog_14_method_106_code, 7, (some .int)), sy_c320) := ⟨sy_pl12, rfl, fun ix i hi => by
  have hl : ix < 108 := by
    have hc : sy_c320.length = 108 := by decide +kernel
    rw [← hc]
    exact (List.getElem?_eq_some_iff.mp hi).1
  rcases Nat.lt_or_ge ix 80 with q0 | q0
  · exact sy_okM_r sy_by320 sy_o320_0 (by omega) (by omega) hi
  exact sy_okM_r sy_by320 sy_o320_80 (by omega) (by omega) hi⟩
theorem sy_oo321 : sy_op 321 ((sy_my 12 359 79, prog_14_method_105_code, 9, (some .int)), sy_c321) := ⟨sy_pl12, rfl, fun ix i hi => by
  have hl : ix < 255 := by
    have hc : sy_c321.length = 255 := by decide +kernel
    rw [← hc]
    exact (List.getElem?_eq_some_iff.mp hi).1
  rcases Nat.lt_or_ge ix 80 with q0 | q0
  · exact sy_okM_r sy_by321 sy_o321_0 (by omega) (by omega) hi
  rcases Nat.lt_or_ge ix 160 with q80 | q80
  · exact sy_okM_r sy_by321 sy_o321_80 (by omega) (by omega) hi
  rcases Nat.lt_or_ge ix 240 with q160 | q160
  · exact sy_okM_r sy_by321 sy_o321_160 (by omega) (by omega) hi
  exact sy_okM_r sy_by321 sy_o321_240 (by omega) (by omega) hi⟩
theorem sy_oo322 : sy_op 322 ((sy_my 12 360 16, prog_14_method_78_code, 5, none), sy_c322) := ⟨sy_pl12, rfl, fun ix i hi => by
  have hl : ix < 21 := by
    have hc : sy_c322.length = 21 := by decide +kernel
    rw [← hc]
    exact (List.getElem?_eq_some_iff.mp hi).1
  exact sy_okM_r sy_by322 sy_o322_0 (by omega) (by omega) hi⟩
theorem sy_oo323 : sy_op 323 ((sy_my 12 199 63, prog_14_method_103_code, 7, (some .int)), sy_c323) := ⟨sy_pl12, rfl, fun ix i hi => by
  have hl : ix < 94 := by
    have hc : sy_c323.length = 94 := by decide +kernel
    rw [← hc]
    exact (List.getElem?_eq_some_iff.mp hi).1
  rcases Nat.lt_or_ge ix 80 with q0 | q0
  · exact sy_okM_r sy_by323 sy_o323_0 (by omega) (by omega) hi
  exact sy_okM_r sy_by323 sy_o323_80 (by omega) (by omega) hi⟩
theorem sy_oo324 : sy_op 324 ((sy_my 12 133 63, prog_14_method_104_code, 6, (some .int)), sy_c324) := ⟨sy_pl12, rfl, fun ix i hi => by
  have hl : ix < 81 := by
    have hc : sy_c324.length = 81 := by decide +kernel
    rw [← hc]
    exact (List.getElem?_eq_some_iff.mp hi).1
  rcases Nat.lt_or_ge ix 80 with q0 | q0
  · exact sy_okM_r sy_by324 sy_o324_0 (by omega) (by omega) hi
  exact sy_okM_r sy_by324 sy_o324_80 (by omega) (by omega) hi⟩
theorem sy_oo325 : sy_op 325 ((sy_my 12 361 79, prog_14_method_100_code, 11, (some .int)), sy_c325) := ⟨sy_pl12, rfl, fun ix i hi => by
  have hl : ix < 225 := by
    have hc : sy_c325.length = 225 := by decide +kernel
    rw [← hc]
    exact (List.getElem?_eq_some_iff.mp hi).1
  rcases Nat.lt_or_ge ix 80 with q0 | q0
  · exact sy_okM_r sy_by325 sy_o325_0 (by omega) (by omega) hi
  rcases Nat.lt_or_ge ix 160 with q80 | q80
  · exact sy_okM_r sy_by325 sy_o325_80 (by omega) (by omega) hi
  exact sy_okM_r sy_by325 sy_o325_160 (by omega) (by omega) hi⟩
theorem sy_oo326 : sy_op 326 ((sy_my 12 362 28, prog_14_method_93_code, 1, (some .int)), sy_c326) := ⟨sy_pl12, rfl, fun ix i hi => by
  have hl : ix < 36 := by
    have hc : sy_c326.length = 36 := by decide +kernel
    rw [← hc]
    exact (List.getElem?_eq_some_iff.mp hi).1
  exact sy_okM_r sy_by326 sy_o326_0 (by omega) (by omega) hi⟩
theorem sy_oo327 : sy_op 327 ((sy_my 12 143 79, prog_14_method_95_code, 3, (some .int)), sy_c327) := ⟨sy_pl12, rfl, fun ix i hi => by
  have hl : ix < 65 := by
    have hc : sy_c327.length = 65 := by decide +kernel
    rw [← hc]
    exact (List.getElem?_eq_some_iff.mp hi).1
  exact sy_okM_r sy_by327 sy_o327_0 (by omega) (by omega) hi⟩
theorem sy_oo328 : sy_op 328 ((sy_my 12 147 79, prog_14_method_96_code, 8, (some .int)), sy_c328) := ⟨sy_pl12, rfl, fun ix i hi => by
  have hl : ix < 87 := by
    have hc : sy_c328.length = 87 := by decide +kernel
    rw [← hc]
    exact (List.getElem?_eq_some_iff.mp hi).1
  rcases Nat.lt_or_ge ix 80 with q0 | q0
  · exact sy_okM_r sy_by328 sy_o328_0 (by omega) (by omega) hi
  exact sy_okM_r sy_by328 sy_o328_80 (by omega) (by omega) hi⟩
theorem sy_oo329 : sy_op 329 ((sy_my 12 210 28, prog_14_method_94_code, 11, (some .int)), sy_c329) := ⟨sy_pl12, rfl, fun ix i hi => by
  have hl : ix < 381 := by
    have hc : sy_c329.length = 381 := by decide +kernel
    rw [← hc]
    exact (List.getElem?_eq_some_iff.mp hi).1
  rcases Nat.lt_or_ge ix 80 with q0 | q0
  · exact sy_okM_r sy_by329 sy_o329_0 (by omega) (by omega) hi
  rcases Nat.lt_or_ge ix 160 with q80 | q80
  · exact sy_okM_r sy_by329 sy_o329_80 (by omega) (by omega) hi
  rcases Nat.lt_or_ge ix 240 with q160 | q160
  · exact sy_okM_r sy_by329 sy_o329_160 (by omega) (by omega) hi
  rcases Nat.lt_or_ge ix 320 with q240 | q240
  · exact sy_okM_r sy_by329 sy_o329_240 (by omega) (by omega) hi
  exact sy_okM_r sy_by329 sy_o329_320 (by omega) (by omega) hi⟩
theorem sy_oo330 : sy_op 330 ((sy_my 12 363 63, prog_14_method_84_code, 7, (some .int)), sy_c330) := ⟨sy_pl12, rfl, fun ix i hi => by
  have hl : ix < 200 := by
    have hc : sy_c330.length = 200 := by decide +kernel
    rw [← hc]
    exact (List.getElem?_eq_some_iff.mp hi).1
  rcases Nat.lt_or_ge ix 80 with q0 | q0
  · exact sy_okM_r sy_by330 sy_o330_0 (by omega) (by omega) hi
  rcases Nat.lt_or_ge ix 160 with q80 | q80
  · exact sy_okM_r sy_by330 sy_o330_80 (by omega) (by omega) hi
  exact sy_okM_r sy_by330 sy_o330_160 (by omega) (by omega) hi⟩
theorem sy_oo331 : sy_op 331 ((sy_my 12 364 75, prog_14_method_83_code, 4, none), sy_c331) := ⟨sy_pl12, rfl, fun ix i hi => by
  have hl : ix < 62 := by
    have hc : sy_c331.length = 62 := by decide +kernel
    rw [← hc]
    exact (List.getElem?_eq_some_iff.mp hi).1
  exact sy_okM_r sy_by331 sy_o331_0 (by omega) (by omega) hi⟩
theorem sy_oo332 : sy_op 332 ((sy_my 12 365 28, prog_14_method_82_code, 4, (some .int)), sy_c332) := ⟨sy_pl12, rfl, fun ix i hi => by
  have hl : ix < 59 := by
    have hc : sy_c332.length = 59 := by decide +kernel
    rw [← hc]
    exact (List.getElem?_eq_some_iff.mp hi).1
  exact sy_okM_r sy_by332 sy_o332_0 (by omega) (by omega) hi⟩
theorem sy_oo333 : sy_op 333 ((sy_my 12 78 79, prog_14_method_80_code, 8, (some .int)), sy_c333) := ⟨sy_pl12, rfl, fun ix i hi => by
  have hl : ix < 254 := by
    have hc : sy_c333.length = 254 := by decide +kernel
    rw [← hc]
    exact (List.getElem?_eq_some_iff.mp hi).1
  rcases Nat.lt_or_ge ix 80 with q0 | q0
  · exact sy_okM_r sy_by333 sy_o333_0 (by omega) (by omega) hi
  rcases Nat.lt_or_ge ix 160 with q80 | q80
  · exact sy_okM_r sy_by333 sy_o333_80 (by omega) (by omega) hi
  rcases Nat.lt_or_ge ix 240 with q160 | q160
  · exact sy_okM_r sy_by333 sy_o333_160 (by omega) (by omega) hi
  exact sy_okM_r sy_by333 sy_o333_240 (by omega) (by omega) hi⟩
theorem sy_oo334 : sy_op 334 ((sy_my 12 92 28, prog_14_method_127_code, 2, (some .int)), sy_c334) := ⟨sy_pl12, rfl, fun ix i hi => by
  have hl : ix < 33 := by
    have hc : sy_c334.length = 33 := by decide +kernel
    rw [← hc]
    exact (List.getElem?_eq_some_iff.mp hi).1
  exact sy_okM_r sy_by334 sy_o334_0 (by omega) (by omega) hi⟩
theorem sy_oo335 : sy_op 335 ((sy_my 12 96 28, prog_14_method_77_code, 2, (some .int)), sy_c335) := ⟨sy_pl12, rfl, fun ix i hi => by
  have hl : ix < 44 := by
    have hc : sy_c335.length = 44 := by decide +kernel
    rw [← hc]
    exact (List.getElem?_eq_some_iff.mp hi).1
  exact sy_okM_r sy_by335 sy_o335_0 (by omega) (by omega) hi⟩
theorem sy_oo336 : sy_op 336 ((sy_my 12 132 79, prog_14_method_79_code, 6, (some .int)), sy_c336) := ⟨sy_pl12, rfl, fun ix i hi => by
  have hl : ix < 121 := by
    have hc : sy_c336.length = 121 := by decide +kernel
    rw [← hc]
    exact (List.getElem?_eq_some_iff.mp hi).1
  rcases Nat.lt_or_ge ix 80 with q0 | q0
  · exact sy_okM_r sy_by336 sy_o336_0 (by omega) (by omega) hi
  exact sy_okM_r sy_by336 sy_o336_80 (by omega) (by omega) hi⟩
theorem sy_oo337 : sy_op 337 ((sy_my 12 366 134, prog_14_method_65_code, 6, (some .int)), sy_c337) := ⟨sy_pl12, rfl, fun ix i hi => by
  have hl : ix < 268 := by
    have hc : sy_c337.length = 268 := by decide +kernel
    rw [← hc]
    exact (List.getElem?_eq_some_iff.mp hi).1
  rcases Nat.lt_or_ge ix 80 with q0 | q0
  · exact sy_okM_r sy_by337 sy_o337_0 (by omega) (by omega) hi
  rcases Nat.lt_or_ge ix 160 with q80 | q80
  · exact sy_okM_r sy_by337 sy_o337_80 (by omega) (by omega) hi
  rcases Nat.lt_or_ge ix 240 with q160 | q160
  · exact sy_okM_r sy_by337 sy_o337_160 (by omega) (by omega) hi
  exact sy_okM_r sy_by337 sy_o337_240 (by omega) (by omega) hi⟩
theorem sy_oo338 : sy_op 338 ((sy_my 12 367 134, prog_14_method_64_code, 7, (some .int)), sy_c338) := ⟨sy_pl12, rfl, fun ix i hi => by
  have hl : ix < 53 := by
    have hc : sy_c338.length = 53 := by decide +kernel
    rw [← hc]
    exact (List.getElem?_eq_some_iff.mp hi).1
  exact sy_okM_r sy_by338 sy_o338_0 (by omega) (by omega) hi⟩
theorem sy_oo339 : sy_op 339 ((sy_my 12 243 134, prog_14_method_63_code, 5, (some .int)), sy_c339) := ⟨sy_pl12, rfl, fun ix i hi => by
  have hl : ix < 10 := by
    have hc : sy_c339.length = 10 := by decide +kernel
    rw [← hc]
    exact (List.getElem?_eq_some_iff.mp hi).1
  exact sy_okM_r sy_by339 sy_o339_0 (by omega) (by omega) hi⟩
theorem sy_oo340 : sy_op 340 ((sy_my 12 247 20, prog_14_method_151_code, 2, (some .boolean)), sy_c340) := ⟨sy_pl12, rfl, fun ix i hi => by
  have hl : ix < 20 := by
    have hc : sy_c340.length = 20 := by decide +kernel
    rw [← hc]
    exact (List.getElem?_eq_some_iff.mp hi).1
  exact sy_okM_r sy_by340 sy_o340_0 (by omega) (by omega) hi⟩
theorem sy_oo341 : sy_op 341 ((sy_my 12 251 28, prog_14_method_152_code, 2, (some .int)), sy_c341) := ⟨sy_pl12, rfl, fun ix i hi => by
  have hl : ix < 21 := by
    have hc : sy_c341.length = 21 := by decide +kernel
    rw [← hc]
    exact (List.getElem?_eq_some_iff.mp hi).1
  exact sy_okM_r sy_by341 sy_o341_0 (by omega) (by omega) hi⟩
theorem sy_oo342 : sy_op 342 ((sy_my 12 368 32, prog_14_method_155_code, 7, (some .boolean)), sy_c342) := ⟨sy_pl12, rfl, fun ix i hi => by
  have hl : ix < 75 := by
    have hc : sy_c342.length = 75 := by decide +kernel
    rw [← hc]
    exact (List.getElem?_eq_some_iff.mp hi).1
  exact sy_okM_r sy_by342 sy_o342_0 (by omega) (by omega) hi⟩
theorem sy_oo343 : sy_op 343 ((sy_my 12 369 30, prog_14_method_154_code, 12, (some .boolean)), sy_c343) := ⟨sy_pl12, rfl, fun ix i hi => by
  have hl : ix < 308 := by
    have hc : sy_c343.length = 308 := by decide +kernel
    rw [← hc]
    exact (List.getElem?_eq_some_iff.mp hi).1
  rcases Nat.lt_or_ge ix 80 with q0 | q0
  · exact sy_okM_r sy_by343 sy_o343_0 (by omega) (by omega) hi
  rcases Nat.lt_or_ge ix 160 with q80 | q80
  · exact sy_okM_r sy_by343 sy_o343_80 (by omega) (by omega) hi
  rcases Nat.lt_or_ge ix 240 with q160 | q160
  · exact sy_okM_r sy_by343 sy_o343_160 (by omega) (by omega) hi
  exact sy_okM_r sy_by343 sy_o343_240 (by omega) (by omega) hi⟩
theorem sy_oo344 : sy_op 344 ((sy_my 12 250 28, prog_14_method_153_code, 3, (some .int)), sy_c344) := ⟨sy_pl12, rfl, fun ix i hi => by
  have hl : ix < 37 := by
    have hc : sy_c344.length = 37 := by decide +kernel
    rw [← hc]
    exact (List.getElem?_eq_some_iff.mp hi).1
  exact sy_okM_r sy_by344 sy_o344_0 (by omega) (by omega) hi⟩
set_option maxRecDepth 100000 in
theorem sy_oal : sy_al sy_op 0 sy_pg := ⟨sy_oo0, sy_oo1, sy_oo2, sy_oo3, sy_oo4, sy_oo5, sy_oo6, sy_oo7, sy_oo8, sy_oo9, sy_oo10, sy_oo11, sy_oo12, sy_oo13, sy_oo14, sy_oo15, sy_oo16, sy_oo17, sy_oo18, sy_oo19, sy_oo20, sy_oo21, sy_oo22, sy_oo23, sy_oo24, sy_oo25, sy_oo26, sy_oo27, sy_oo28, sy_oo29, sy_oo30, sy_oo31, sy_oo32, sy_oo33, sy_oo34, sy_oo35, sy_oo36, sy_oo37, sy_oo38, sy_oo39, sy_oo40, sy_oo41, sy_oo42, sy_oo43, sy_oo44, sy_oo45, sy_oo46, sy_oo47, sy_oo48, sy_oo49, sy_oo50, sy_oo51, sy_oo52, sy_oo53, sy_oo54, sy_oo55, sy_oo56, sy_oo57, sy_oo58, sy_oo59, sy_oo60, sy_oo61, sy_oo62, sy_oo63, sy_oo64, sy_oo65, sy_oo66, sy_oo67, sy_oo68, sy_oo69, sy_oo70, sy_oo71, sy_oo72, sy_oo73, sy_oo74, sy_oo75, sy_oo76, sy_oo77, sy_oo78, sy_oo79, sy_oo80, sy_oo81, sy_oo82, sy_oo83, sy_oo84, sy_oo85, sy_oo86, sy_oo87, sy_oo88, sy_oo89, sy_oo90, sy_oo91, sy_oo92, sy_oo93, sy_oo94, sy_oo95, sy_oo96, sy_oo97, sy_oo98, sy_oo99, sy_oo100, sy_oo101, sy_oo102, sy_oo103, sy_oo104, sy_oo105, sy_oo106, sy_oo107, sy_oo108, sy_oo109, sy_oo110, sy_oo111, sy_oo112, sy_oo113, sy_oo114, sy_oo115, sy_oo116, sy_oo117, sy_oo118, sy_oo119, sy_oo120, sy_oo121, sy_oo122, sy_oo123, sy_oo124, sy_oo125, sy_oo126, sy_oo127, sy_oo128, sy_oo129, sy_oo130, sy_oo131, sy_oo132, sy_oo133, sy_oo134, sy_oo135, sy_oo136, sy_oo137, sy_oo138, sy_oo139, sy_oo140, sy_oo141, sy_oo142, sy_oo143, sy_oo144, sy_oo145, sy_oo146, sy_oo147, sy_oo148, sy_oo149, sy_oo150, sy_oo151, sy_oo152, sy_oo153, sy_oo154, sy_oo155, sy_oo156, sy_oo157, sy_oo158, sy_oo159, sy_oo160, sy_oo161, sy_oo162, sy_oo163, sy_oo164, sy_oo165, sy_oo166, sy_oo167, sy_oo168, sy_oo169, sy_oo170, sy_oo171, sy_oo172, sy_oo173, sy_oo174, sy_oo175, sy_oo176, sy_oo177, sy_oo178, sy_oo179, sy_oo180, sy_oo181, sy_oo182, sy_oo183, sy_oo184, sy_oo185, sy_oo186, sy_oo187, sy_oo188, sy_oo189, sy_oo190, sy_oo191, sy_oo192, sy_oo193, sy_oo194, sy_oo195, sy_oo196, sy_oo197, sy_oo198, sy_oo199, sy_oo200, sy_oo201, sy_oo202, sy_oo203, sy_oo204, sy_oo205, sy_oo206, sy_oo207, sy_oo208, sy_oo209, sy_oo210, sy_oo211, sy_oo212, sy_oo213, sy_oo214, sy_oo215, sy_oo216, sy_oo217, sy_oo218, sy_oo219, sy_oo220, sy_oo221, sy_oo222, sy_oo223, sy_oo224, sy_oo225, sy_oo226, sy_oo227, sy_oo228, sy_oo229, sy_oo230, sy_oo231, sy_oo232, sy_oo233, sy_oo234, sy_oo235, sy_oo236, sy_oo237, sy_oo238, sy_oo239, sy_oo240, sy_oo241, sy_oo242, sy_oo243, sy_oo244, sy_oo245, sy_oo246, sy_oo247, sy_oo248, sy_oo249, sy_oo250, sy_oo251, sy_oo252, sy_oo253, sy_oo254, sy_oo255, sy_oo256, sy_oo257, sy_oo258, sy_oo259, sy_oo260, sy_oo261, sy_oo262, sy_oo263, sy_oo264, sy_oo265, sy_oo266, sy_oo267, sy_oo268, sy_oo269, sy_oo270, sy_oo271, sy_oo272, sy_oo273, sy_oo274, sy_oo275, sy_oo276, sy_oo277, sy_oo278, sy_oo279, sy_oo280, sy_oo281, sy_oo282, sy_oo283, sy_oo284, sy_oo285, sy_oo286, sy_oo287, sy_oo288, sy_oo289, sy_oo290, sy_oo291, sy_oo292, sy_oo293, sy_oo294, sy_oo295, sy_oo296, sy_oo297, sy_oo298, sy_oo299, sy_oo300, sy_oo301, sy_oo302, sy_oo303, sy_oo304, sy_oo305, sy_oo306, sy_oo307, sy_oo308, sy_oo309, sy_oo310, sy_oo311, sy_oo312, sy_oo313, sy_oo314, sy_oo315, sy_oo316, sy_oo317, sy_oo318, sy_oo319, sy_oo320, sy_oo321, sy_oo322, sy_oo323, sy_oo324, sy_oo325, sy_oo326, sy_oo327, sy_oo328, sy_oo329, sy_oo330, sy_oo331, sy_oo332, sy_oo333, sy_oo334, sy_oo335, sy_oo336, sy_oo337, sy_oo338, sy_oo339, sy_oo340, sy_oo341, sy_oo342, sy_oo343, sy_oo344, trivial⟩
theorem sy_okPP : sx_okP sy_gc ct_all ct_kt sy_pg [] sy_tb := fun k y bytes maxL rt cd hk => sy_al_r sy_oal k _ hk
