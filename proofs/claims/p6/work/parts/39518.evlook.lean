/-! All methods that were looked at. Written by a program (wip/tools/gen42.py). -/
theorem ct_pok (sm : ev_Sm) : ev_okP ct_gc ct_all ct_kt ct_pg sm := by
  intro k y bytes maxL rt cd hk
  match k, hk with
  | 0, hk =>
    cases Option.some.inj hk
    refine ⟨by decide +kernel, rfl, fun ix i hi => ?_⟩
    have hl : ix < 95 := by
      have hc : ct_c0.length = 95 := by decide +kernel
      rw [← hc]
      exact (List.getElem?_eq_some_iff.mp hi).1
    rcases Nat.lt_or_ge ix 60 with q0 | q0
    · exact cf_okM_r cf_by0 ct_m0_0 (by omega) (by omega) hi
    exact cf_okM_r cf_by0 ct_m0_60 (by omega) (by omega) hi
  | 1, hk =>
    cases Option.some.inj hk
    refine ⟨by decide +kernel, rfl, fun ix i hi => ?_⟩
    have hl : ix < 11 := by
      have hc : ct_c1.length = 11 := by decide +kernel
      rw [← hc]
      exact (List.getElem?_eq_some_iff.mp hi).1
    exact cf_okM_r cf_by1 ct_m1_0 (by omega) (by omega) hi
  | 2, hk =>
    cases Option.some.inj hk
    refine ⟨by decide +kernel, rfl, fun ix i hi => ?_⟩
    have hl : ix < 23 := by
      have hc : ct_c2.length = 23 := by decide +kernel
      rw [← hc]
      exact (List.getElem?_eq_some_iff.mp hi).1
    exact cf_okM_r cf_by2 ct_m2_0 (by omega) (by omega) hi
  | 3, hk =>
    cases Option.some.inj hk
    refine ⟨by decide +kernel, rfl, fun ix i hi => ?_⟩
    have hl : ix < 39 := by
      have hc : ct_c3.length = 39 := by decide +kernel
      rw [← hc]
      exact (List.getElem?_eq_some_iff.mp hi).1
    exact cf_okM_r cf_by3 ct_m3_0 (by omega) (by omega) hi
  | 4, hk =>
    cases Option.some.inj hk
    refine ⟨by decide +kernel, rfl, fun ix i hi => ?_⟩
    have hl : ix < 93 := by
      have hc : ct_c4.length = 93 := by decide +kernel
      rw [← hc]
      exact (List.getElem?_eq_some_iff.mp hi).1
    rcases Nat.lt_or_ge ix 60 with q0 | q0
    · exact cf_okM_r cf_by4 ct_m4_0 (by omega) (by omega) hi
    exact cf_okM_r cf_by4 ct_m4_60 (by omega) (by omega) hi
  | 5, hk =>
    cases Option.some.inj hk
    refine ⟨by decide +kernel, rfl, fun ix i hi => ?_⟩
    have hl : ix < 21 := by
      have hc : ct_c5.length = 21 := by decide +kernel
      rw [← hc]
      exact (List.getElem?_eq_some_iff.mp hi).1
    exact cf_okM_r cf_by5 ct_m5_0 (by omega) (by omega) hi
  | 6, hk =>
    cases Option.some.inj hk
    refine ⟨by decide +kernel, rfl, fun ix i hi => ?_⟩
    have hl : ix < 47 := by
      have hc : ct_c6.length = 47 := by decide +kernel
      rw [← hc]
      exact (List.getElem?_eq_some_iff.mp hi).1
    exact cf_okM_r cf_by6 ct_m6_0 (by omega) (by omega) hi
  | 7, hk =>
    cases Option.some.inj hk
    refine ⟨by decide +kernel, rfl, fun ix i hi => ?_⟩
    have hl : ix < 33 := by
      have hc : ct_c7.length = 33 := by decide +kernel
      rw [← hc]
      exact (List.getElem?_eq_some_iff.mp hi).1
    exact cf_okM_r cf_by7 ct_m7_0 (by omega) (by omega) hi
  | 8, hk =>
    cases Option.some.inj hk
    refine ⟨by decide +kernel, rfl, fun ix i hi => ?_⟩
    have hl : ix < 32 := by
      have hc : ct_c8.length = 32 := by decide +kernel
      rw [← hc]
      exact (List.getElem?_eq_some_iff.mp hi).1
    exact cf_okM_r cf_by8 ct_m8_0 (by omega) (by omega) hi
  | 9, hk =>
    cases Option.some.inj hk
    refine ⟨by decide +kernel, rfl, fun ix i hi => ?_⟩
    have hl : ix < 64 := by
      have hc : ct_c9.length = 64 := by decide +kernel
      rw [← hc]
      exact (List.getElem?_eq_some_iff.mp hi).1
    rcases Nat.lt_or_ge ix 60 with q0 | q0
    · exact cf_okM_r cf_by9 ct_m9_0 (by omega) (by omega) hi
    exact cf_okM_r cf_by9 ct_m9_60 (by omega) (by omega) hi
  | 10, hk =>
    cases Option.some.inj hk
    refine ⟨by decide +kernel, rfl, fun ix i hi => ?_⟩
    have hl : ix < 47 := by
      have hc : ct_c10.length = 47 := by decide +kernel
      rw [← hc]
      exact (List.getElem?_eq_some_iff.mp hi).1
    exact cf_okM_r cf_by10 ct_m10_0 (by omega) (by omega) hi
  | 11, hk =>
    cases Option.some.inj hk
    refine ⟨by decide +kernel, rfl, fun ix i hi => ?_⟩
    have hl : ix < 55 := by
      have hc : ct_c11.length = 55 := by decide +kernel
      rw [← hc]
      exact (List.getElem?_eq_some_iff.mp hi).1
    exact cf_okM_r cf_by11 ct_m11_0 (by omega) (by omega) hi
  | 12, hk =>
    cases Option.some.inj hk
    refine ⟨by decide +kernel, rfl, fun ix i hi => ?_⟩
    have hl : ix < 1177 := by
      have hc : ct_c12.length = 1177 := by decide +kernel
      rw [← hc]
      exact (List.getElem?_eq_some_iff.mp hi).1
    rcases Nat.lt_or_ge ix 60 with q0 | q0
    · exact cf_okM_r cf_by12 ct_m12_0 (by omega) (by omega) hi
    rcases Nat.lt_or_ge ix 120 with q60 | q60
    · exact cf_okM_r cf_by12 ct_m12_60 (by omega) (by omega) hi
    rcases Nat.lt_or_ge ix 180 with q120 | q120
    · exact cf_okM_r cf_by12 ct_m12_120 (by omega) (by omega) hi
    rcases Nat.lt_or_ge ix 240 with q180 | q180
    · exact cf_okM_r cf_by12 ct_m12_180 (by omega) (by omega) hi
    rcases Nat.lt_or_ge ix 300 with q240 | q240
    · exact cf_okM_r cf_by12 ct_m12_240 (by omega) (by omega) hi
    rcases Nat.lt_or_ge ix 360 with q300 | q300
    · exact cf_okM_r cf_by12 ct_m12_300 (by omega) (by omega) hi
    rcases Nat.lt_or_ge ix 420 with q360 | q360
    · exact cf_okM_r cf_by12 ct_m12_360 (by omega) (by omega) hi
    rcases Nat.lt_or_ge ix 480 with q420 | q420
    · exact cf_okM_r cf_by12 ct_m12_420 (by omega) (by omega) hi
    rcases Nat.lt_or_ge ix 540 with q480 | q480
    · exact cf_okM_r cf_by12 ct_m12_480 (by omega) (by omega) hi
    rcases Nat.lt_or_ge ix 600 with q540 | q540
    · exact cf_okM_r cf_by12 ct_m12_540 (by omega) (by omega) hi
    rcases Nat.lt_or_ge ix 660 with q600 | q600
    · exact cf_okM_r cf_by12 ct_m12_600 (by omega) (by omega) hi
    rcases Nat.lt_or_ge ix 720 with q660 | q660
    · exact cf_okM_r cf_by12 ct_m12_660 (by omega) (by omega) hi
    rcases Nat.lt_or_ge ix 780 with q720 | q720
    · exact cf_okM_r cf_by12 ct_m12_720 (by omega) (by omega) hi
    rcases Nat.lt_or_ge ix 840 with q780 | q780
    · exact cf_okM_r cf_by12 ct_m12_780 (by omega) (by omega) hi
    rcases Nat.lt_or_ge ix 900 with q840 | q840
    · exact cf_okM_r cf_by12 ct_m12_840 (by omega) (by omega) hi
    rcases Nat.lt_or_ge ix 960 with q900 | q900
    · exact cf_okM_r cf_by12 ct_m12_900 (by omega) (by omega) hi
    rcases Nat.lt_or_ge ix 1020 with q960 | q960
    · exact cf_okM_r cf_by12 ct_m12_960 (by omega) (by omega) hi
    rcases Nat.lt_or_ge ix 1080 with q1020 | q1020
    · exact cf_okM_r cf_by12 ct_m12_1020 (by omega) (by omega) hi
    rcases Nat.lt_or_ge ix 1140 with q1080 | q1080
    · exact cf_okM_r cf_by12 ct_m12_1080 (by omega) (by omega) hi
    exact cf_okM_r cf_by12 ct_m12_1140 (by omega) (by omega) hi
  | 13, hk =>
    cases Option.some.inj hk
    refine ⟨by decide +kernel, rfl, fun ix i hi => ?_⟩
    have hl : ix < 33 := by
      have hc : ct_c13.length = 33 := by decide +kernel
      rw [← hc]
      exact (List.getElem?_eq_some_iff.mp hi).1
    exact cf_okM_r cf_by13 ct_m13_0 (by omega) (by omega) hi
  | 14, hk =>
    cases Option.some.inj hk
    refine ⟨by decide +kernel, rfl, fun ix i hi => ?_⟩
    have hl : ix < 99 := by
      have hc : ct_c14.length = 99 := by decide +kernel
      rw [← hc]
      exact (List.getElem?_eq_some_iff.mp hi).1
    rcases Nat.lt_or_ge ix 60 with q0 | q0
    · exact cf_okM_r cf_by14 ct_m14_0 (by omega) (by omega) hi
    exact cf_okM_r cf_by14 ct_m14_60 (by omega) (by omega) hi
  | 15, hk =>
    cases Option.some.inj hk
    refine ⟨by decide +kernel, rfl, fun ix i hi => ?_⟩
    have hl : ix < 335 := by
      have hc : ct_c15.length = 335 := by decide +kernel
      rw [← hc]
      exact (List.getElem?_eq_some_iff.mp hi).1
    rcases Nat.lt_or_ge ix 60 with q0 | q0
    · exact cf_okM_r cf_by15 ct_m15_0 (by omega) (by omega) hi
    rcases Nat.lt_or_ge ix 120 with q60 | q60
    · exact cf_okM_r cf_by15 ct_m15_60 (by omega) (by omega) hi
    rcases Nat.lt_or_ge ix 180 with q120 | q120
    · exact cf_okM_r cf_by15 ct_m15_120 (by omega) (by omega) hi
    rcases Nat.lt_or_ge ix 240 with q180 | q180
    · exact cf_okM_r cf_by15 ct_m15_180 (by omega) (by omega) hi
    rcases Nat.lt_or_ge ix 300 with q240 | q240
    · exact cf_okM_r cf_by15 ct_m15_240 (by omega) (by omega) hi
    exact cf_okM_r cf_by15 ct_m15_300 (by omega) (by omega) hi
  | 16, hk =>
    cases Option.some.inj hk
    refine ⟨by decide +kernel, rfl, fun ix i hi => ?_⟩
    have hl : ix < 79 := by
      have hc : ct_c16.length = 79 := by decide +kernel
      rw [← hc]
      exact (List.getElem?_eq_some_iff.mp hi).1
    rcases Nat.lt_or_ge ix 60 with q0 | q0
    · exact cf_okM_r cf_by16 ct_m16_0 (by omega) (by omega) hi
    exact cf_okM_r cf_by16 ct_m16_60 (by omega) (by omega) hi
  | 17, hk =>
    cases Option.some.inj hk
    refine ⟨by decide +kernel, rfl, fun ix i hi => ?_⟩
    have hl : ix < 169 := by
      have hc : ct_c17.length = 169 := by decide +kernel
      rw [← hc]
      exact (List.getElem?_eq_some_iff.mp hi).1
    rcases Nat.lt_or_ge ix 60 with q0 | q0
    · exact cf_okM_r cf_by17 ct_m17_0 (by omega) (by omega) hi
    rcases Nat.lt_or_ge ix 120 with q60 | q60
    · exact cf_okM_r cf_by17 ct_m17_60 (by omega) (by omega) hi
    exact cf_okM_r cf_by17 ct_m17_120 (by omega) (by omega) hi
  | 18, hk =>
    cases Option.some.inj hk
    refine ⟨by decide +kernel, rfl, fun ix i hi => ?_⟩
    have hl : ix < 17 := by
      have hc : ct_c18.length = 17 := by decide +kernel
      rw [← hc]
      exact (List.getElem?_eq_some_iff.mp hi).1
    exact cf_okM_r cf_by18 ct_m18_0 (by omega) (by omega) hi
  | 19, hk =>
    cases Option.some.inj hk
    refine ⟨by decide +kernel, rfl, fun ix i hi => ?_⟩
    have hl : ix < 35 := by
      have hc : ct_c19.length = 35 := by decide +kernel
      rw [← hc]
      exact (List.getElem?_eq_some_iff.mp hi).1
    exact cf_okM_r cf_by19 ct_m19_0 (by omega) (by omega) hi
  | 20, hk =>
    cases Option.some.inj hk
    refine ⟨by decide +kernel, rfl, fun ix i hi => ?_⟩
    have hl : ix < 15 := by
      have hc : ct_c20.length = 15 := by decide +kernel
      rw [← hc]
      exact (List.getElem?_eq_some_iff.mp hi).1
    exact cf_okM_r cf_by20 ct_m20_0 (by omega) (by omega) hi
  | 21, hk =>
    cases Option.some.inj hk
    refine ⟨by decide +kernel, rfl, fun ix i hi => ?_⟩
    have hl : ix < 15 := by
      have hc : ct_c21.length = 15 := by decide +kernel
      rw [← hc]
      exact (List.getElem?_eq_some_iff.mp hi).1
    exact cf_okM_r cf_by21 ct_m21_0 (by omega) (by omega) hi
  | k + 22, hk => simp [ct_pg] at hk
