/-! All methods that were looked at. Written by a program (wip/tools/gen42.py). -/
theorem ct_pok (sm : ev_Sm) : ev_okP ct_gc ct_all ct_kt ct_pg sm := by
  intro k y bytes maxL rt cd hk
  match k, hk with
  | 0, hk =>
    cases Option.some.inj hk
    refine ⟨by decide +kernel, rfl, fun ix i hi => ?_⟩
    have hl : ix < 95 := by
      have hc : ct_c0.length = 95 := by decide +kernel
      rw [← hc]
      exact (List.getElem?_eq_some_iff.mp hi).1
    rcases Nat.lt_or_ge ix 60 with q0 | q0
    · exact ev_okM_r ct_m0_0 (by omega) (by omega) hi
    exact ev_okM_r ct_m0_60 (by omega) (by omega) hi
  | 1, hk =>
    cases Option.some.inj hk
    refine ⟨by decide +kernel, rfl, fun ix i hi => ?_⟩
    have hl : ix < 11 := by
      have hc : ct_c1.length = 11 := by decide +kernel
      rw [← hc]
      exact (List.getElem?_eq_some_iff.mp hi).1
    exact ev_okM_r ct_m1_0 (by omega) (by omega) hi
  | 2, hk =>
    cases Option.some.inj hk
    refine ⟨by decide +kernel, rfl, fun ix i hi => ?_⟩
    have hl : ix < 23 := by
      have hc : ct_c2.length = 23 := by decide +kernel
      rw [← hc]
      exact (List.getElem?_eq_some_iff.mp hi).1
    exact ev_okM_r ct_m2_0 (by omega) (by omega) hi
  | 3, hk =>
    cases Option.some.inj hk
    refine ⟨by decide +kernel, rfl, fun ix i hi => ?_⟩
    have hl : ix < 39 := by
      have hc : ct_c3.length = 39 := by decide +kernel
      rw [← hc]
      exact (List.getElem?_eq_some_iff.mp hi).1
    exact ev_okM_r ct_m3_0 (by omega) (by omega) hi
  | 4, hk =>
    cases Option.some.inj hk
    refine ⟨by decide +kernel, rfl, fun ix i hi => ?_⟩
    have hl : ix < 93 := by
      have hc : ct_c4.length = 93 := by decide +kernel
      rw [← hc]
      exact (List.getElem?_eq_some_iff.mp hi).1
    rcases Nat.lt_or_ge ix 60 with q0 | q0
    · exact ev_okM_r ct_m4_0 (by omega) (by omega) hi
    exact ev_okM_r ct_m4_60 (by omega) (by omega) hi
  | 5, hk =>
    cases Option.some.inj hk
    refine ⟨by decide +kernel, rfl, fun ix i hi => ?_⟩
    have hl : ix < 21 := by
      have hc : ct_c5.length = 21 := by decide +kernel
      rw [← hc]
      exact (List.getElem?_eq_some_iff.mp hi).1
    exact ev_okM_r ct_m5_0 (by omega) (by omega) hi
  | 6, hk =>
    cases Option.some.inj hk
    refine ⟨by decide +kernel, rfl, fun ix i hi => ?_⟩
    have hl : ix < 47 := by
      have hc : ct_c6.length = 47 := by decide +kernel
      rw [← hc]
      exact (List.getElem?_eq_some_iff.mp hi).1
    exact ev_okM_r ct_m6_0 (by omega) (by omega) hi
  | 7, hk =>
    cases Option.some.inj hk
    refine ⟨by decide +kernel, rfl, fun ix i hi => ?_⟩
    have hl : ix < 33 := by
      have hc : ct_c7.length = 33 := by decide +kernel
      rw [← hc]
      exact (List.getElem?_eq_some_iff.mp hi).1
    exact ev_okM_r ct_m7_0 (by omega) (by omega) hi
  | 8, hk =>
    cases Option.some.inj hk
    refine ⟨by decide +kernel, rfl, fun ix i hi => ?_⟩
    have hl : ix < 32 := by
      have hc : ct_c8.length = 32 := by decide +kernel
      rw [← hc]
      exact (List.getElem?_eq_some_iff.mp hi).1
    exact ev_okM_r ct_m8_0 (by omega) (by omega) hi
  | 9, hk =>
    cases Option.some.inj hk
    refine ⟨by decide +kernel, rfl, fun ix i hi => ?_⟩
    have hl : ix < 64 := by
      have hc : ct_c9.length = 64 := by decide +kernel
      rw [← hc]
      exact (List.getElem?_eq_some_iff.mp hi).1
    rcases Nat.lt_or_ge ix 60 with q0 | q0
    · exact ev_okM_r ct_m9_0 (by omega) (by omega) hi
    exact ev_okM_r ct_m9_60 (by omega) (by omega) hi
  | 10, hk =>
    cases Option.some.inj hk
    refine ⟨by decide +kernel, rfl, fun ix i hi => ?_⟩
    have hl : ix < 47 := by
      have hc : ct_c10.length = 47 := by decide +kernel
      rw [← hc]
      exact (List.getElem?_eq_some_iff.mp hi).1
    exact ev_okM_r ct_m10_0 (by omega) (by omega) hi
  | 11, hk =>
    cases Option.some.inj hk
    refine ⟨by decide +kernel, rfl, fun ix i hi => ?_⟩
    have hl : ix < 55 := by
      have hc : ct_c11.length = 55 := by decide +kernel
      rw [← hc]
      exact (List.getElem?_eq_some_iff.mp hi).1
    exact ev_okM_r ct_m11_0 (by omega) (by omega) hi
  | 12, hk =>
    cases Option.some.inj hk
    refine ⟨by decide +kernel, rfl, fun ix i hi => ?_⟩
    have hl : ix < 1177 := by
      have hc : ct_c12.length = 1177 := by decide +kernel
      rw [← hc]
      exact (List.getElem?_eq_some_iff.mp hi).1
    rcases Nat.lt_or_ge ix 60 with q0 | q0
    · exact ev_okM_r ct_m12_0 (by omega) (by omega) hi
    rcases Nat.lt_or_ge ix 120 with q60 | q60
    · exact ev_okM_r ct_m12_60 (by omega) (by omega) hi
    rcases Nat.lt_or_ge ix 180 with q120 | q120
    · exact ev_okM_r ct_m12_120 (by omega) (by omega) hi
    rcases Nat.lt_or_ge ix 240 with q180 | q180
    · exact ev_okM_r ct_m12_180 (by omega) (by omega) hi
    rcases Nat.lt_or_ge ix 300 with q240 | q240
    · exact ev_okM_r ct_m12_240 (by omega) (by omega) hi
    rcases Nat.lt_or_ge ix 360 with q300 | q300
    · exact ev_okM_r ct_m12_300 (by omega) (by omega) hi
    rcases Nat.lt_or_ge ix 420 with q360 | q360
    · exact ev_okM_r ct_m12_360 (by omega) (by omega) hi
    rcases Nat.lt_or_ge ix 480 with q420 | q420
    · exact ev_okM_r ct_m12_420 (by omega) (by omega) hi
    rcases Nat.lt_or_ge ix 540 with q480 | q480
    · exact ev_okM_r ct_m12_480 (by omega) (by omega) hi
    rcases Nat.lt_or_ge ix 600 with q540 | q540
    · exact ev_okM_r ct_m12_540 (by omega) (by omega) hi
    rcases Nat.lt_or_ge ix 660 with q600 | q600
    · exact ev_okM_r ct_m12_600 (by omega) (by omega) hi
    rcases Nat.lt_or_ge ix 720 with q660 | q660
    · exact ev_okM_r ct_m12_660 (by omega) (by omega) hi
    rcases Nat.lt_or_ge ix 780 with q720 | q720
    · exact ev_okM_r ct_m12_720 (by omega) (by omega) hi
    rcases Nat.lt_or_ge ix 840 with q780 | q780
    · exact ev_okM_r ct_m12_780 (by omega) (by omega) hi
    rcases Nat.lt_or_ge ix 900 with q840 | q840
    · exact ev_okM_r ct_m12_840 (by omega) (by omega) hi
    rcases Nat.lt_or_ge ix 960 with q900 | q900
    · exact ev_okM_r ct_m12_900 (by omega) (by omega) hi
    rcases Nat.lt_or_ge ix 1020 with q960 | q960
    · exact ev_okM_r ct_m12_960 (by omega) (by omega) hi
    rcases Nat.lt_or_ge ix 1080 with q1020 | q1020
    · exact ev_okM_r ct_m12_1020 (by omega) (by omega) hi
    rcases Nat.lt_or_ge ix 1140 with q1080 | q1080
    · exact ev_okM_r ct_m12_1080 (by omega) (by omega) hi
    exact ev_okM_r ct_m12_1140 (by omega) (by omega) hi
  | 13, hk =>
    cases Option.some.inj hk
    refine ⟨by decide +kernel, rfl, fun ix i hi => ?_⟩
    have hl : ix < 52 := by
      have hc : ct_c13.length = 52 := by decide +kernel
      rw [← hc]
      exact (List.getElem?_eq_some_iff.mp hi).1
    exact ev_okM_r ct_m13_0 (by omega) (by omega) hi
  | 14, hk =>
    cases Option.some.inj hk
    refine ⟨by decide +kernel, rfl, fun ix i hi => ?_⟩
    have hl : ix < 13 := by
      have hc : ct_c14.length = 13 := by decide +kernel
      rw [← hc]
      exact (List.getElem?_eq_some_iff.mp hi).1
    exact ev_okM_r ct_m14_0 (by omega) (by omega) hi
  | 15, hk =>
    cases Option.some.inj hk
    refine ⟨by decide +kernel, rfl, fun ix i hi => ?_⟩
    have hl : ix < 49 := by
      have hc : ct_c15.length = 49 := by decide +kernel
      rw [← hc]
      exact (List.getElem?_eq_some_iff.mp hi).1
    exact ev_okM_r ct_m15_0 (by omega) (by omega) hi
  | 16, hk =>
    cases Option.some.inj hk
    refine ⟨by decide +kernel, rfl, fun ix i hi => ?_⟩
    have hl : ix < 23 := by
      have hc : ct_c16.length = 23 := by decide +kernel
      rw [← hc]
      exact (List.getElem?_eq_some_iff.mp hi).1
    exact ev_okM_r ct_m16_0 (by omega) (by omega) hi
  | 17, hk =>
    cases Option.some.inj hk
    refine ⟨by decide +kernel, rfl, fun ix i hi => ?_⟩
    have hl : ix < 43 := by
      have hc : ct_c17.length = 43 := by decide +kernel
      rw [← hc]
      exact (List.getElem?_eq_some_iff.mp hi).1
    exact ev_okM_r ct_m17_0 (by omega) (by omega) hi
  | 18, hk =>
    cases Option.some.inj hk
    refine ⟨by decide +kernel, rfl, fun ix i hi => ?_⟩
    have hl : ix < 35 := by
      have hc : ct_c18.length = 35 := by decide +kernel
      rw [← hc]
      exact (List.getElem?_eq_some_iff.mp hi).1
    exact ev_okM_r ct_m18_0 (by omega) (by omega) hi
  | 19, hk =>
    cases Option.some.inj hk
    refine ⟨by decide +kernel, rfl, fun ix i hi => ?_⟩
    have hl : ix < 9 := by
      have hc : ct_c19.length = 9 := by decide +kernel
      rw [← hc]
      exact (List.getElem?_eq_some_iff.mp hi).1
    exact ev_okM_r ct_m19_0 (by omega) (by omega) hi
  | 20, hk =>
    cases Option.some.inj hk
    refine ⟨by decide +kernel, rfl, fun ix i hi => ?_⟩
    have hl : ix < 4 := by
      have hc : ct_c20.length = 4 := by decide +kernel
      rw [← hc]
      exact (List.getElem?_eq_some_iff.mp hi).1
    exact ev_okM_r ct_m20_0 (by omega) (by omega) hi
  | 21, hk =>
    cases Option.some.inj hk
    refine ⟨by decide +kernel, rfl, fun ix i hi => ?_⟩
    have hl : ix < 39 := by
      have hc : ct_c21.length = 39 := by decide +kernel
      rw [← hc]
      exact (List.getElem?_eq_some_iff.mp hi).1
    exact ev_okM_r ct_m21_0 (by omega) (by omega) hi
  | 22, hk =>
    cases Option.some.inj hk
    refine ⟨by decide +kernel, rfl, fun ix i hi => ?_⟩
    have hl : ix < 16 := by
      have hc : ct_c22.length = 16 := by decide +kernel
      rw [← hc]
      exact (List.getElem?_eq_some_iff.mp hi).1
    exact ev_okM_r ct_m22_0 (by omega) (by omega) hi
  | 23, hk =>
    cases Option.some.inj hk
    refine ⟨by decide +kernel, rfl, fun ix i hi => ?_⟩
    have hl : ix < 20 := by
      have hc : ct_c23.length = 20 := by decide +kernel
      rw [← hc]
      exact (List.getElem?_eq_some_iff.mp hi).1
    exact ev_okM_r ct_m23_0 (by omega) (by omega) hi
  | 24, hk =>
    cases Option.some.inj hk
    refine ⟨by decide +kernel, rfl, fun ix i hi => ?_⟩
    have hl : ix < 26 := by
      have hc : ct_c24.length = 26 := by decide +kernel
      rw [← hc]
      exact (List.getElem?_eq_some_iff.mp hi).1
    exact ev_okM_r ct_m24_0 (by omega) (by omega) hi
  | 25, hk =>
    cases Option.some.inj hk
    refine ⟨by decide +kernel, rfl, fun ix i hi => ?_⟩
    have hl : ix < 14 := by
      have hc : ct_c25.length = 14 := by decide +kernel
      rw [← hc]
      exact (List.getElem?_eq_some_iff.mp hi).1
    exact ev_okM_r ct_m25_0 (by omega) (by omega) hi
  | 26, hk =>
    cases Option.some.inj hk
    refine ⟨by decide +kernel, rfl, fun ix i hi => ?_⟩
    have hl : ix < 156 := by
      have hc : ct_c26.length = 156 := by decide +kernel
      rw [← hc]
      exact (List.getElem?_eq_some_iff.mp hi).1
    rcases Nat.lt_or_ge ix 60 with q0 | q0
    · exact ev_okM_r ct_m26_0 (by omega) (by omega) hi
    rcases Nat.lt_or_ge ix 120 with q60 | q60
    · exact ev_okM_r ct_m26_60 (by omega) (by omega) hi
    exact ev_okM_r ct_m26_120 (by omega) (by omega) hi
  | 27, hk =>
    cases Option.some.inj hk
    refine ⟨by decide +kernel, rfl, fun ix i hi => ?_⟩
    have hl : ix < 27 := by
      have hc : ct_c27.length = 27 := by decide +kernel
      rw [← hc]
      exact (List.getElem?_eq_some_iff.mp hi).1
    exact ev_okM_r ct_m27_0 (by omega) (by omega) hi
  | 28, hk =>
    cases Option.some.inj hk
    refine ⟨by decide +kernel, rfl, fun ix i hi => ?_⟩
    have hl : ix < 22 := by
      have hc : ct_c28.length = 22 := by decide +kernel
      rw [← hc]
      exact (List.getElem?_eq_some_iff.mp hi).1
    exact ev_okM_r ct_m28_0 (by omega) (by omega) hi
  | 29, hk =>
    cases Option.some.inj hk
    refine ⟨by decide +kernel, rfl, fun ix i hi => ?_⟩
    have hl : ix < 13 := by
      have hc : ct_c29.length = 13 := by decide +kernel
      rw [← hc]
      exact (List.getElem?_eq_some_iff.mp hi).1
    exact ev_okM_r ct_m29_0 (by omega) (by omega) hi
  | 30, hk =>
    cases Option.some.inj hk
    refine ⟨by decide +kernel, rfl, fun ix i hi => ?_⟩
    have hl : ix < 22 := by
      have hc : ct_c30.length = 22 := by decide +kernel
      rw [← hc]
      exact (List.getElem?_eq_some_iff.mp hi).1
    exact ev_okM_r ct_m30_0 (by omega) (by omega) hi
  | 31, hk =>
    cases Option.some.inj hk
    refine ⟨by decide +kernel, rfl, fun ix i hi => ?_⟩
    have hl : ix < 33 := by
      have hc : ct_c31.length = 33 := by decide +kernel
      rw [← hc]
      exact (List.getElem?_eq_some_iff.mp hi).1
    exact ev_okM_r ct_m31_0 (by omega) (by omega) hi
  | 32, hk =>
    cases Option.some.inj hk
    refine ⟨by decide +kernel, rfl, fun ix i hi => ?_⟩
    have hl : ix < 99 := by
      have hc : ct_c32.length = 99 := by decide +kernel
      rw [← hc]
      exact (List.getElem?_eq_some_iff.mp hi).1
    rcases Nat.lt_or_ge ix 60 with q0 | q0
    · exact ev_okM_r ct_m32_0 (by omega) (by omega) hi
    exact ev_okM_r ct_m32_60 (by omega) (by omega) hi
  | 33, hk =>
    cases Option.some.inj hk
    refine ⟨by decide +kernel, rfl, fun ix i hi => ?_⟩
    have hl : ix < 335 := by
      have hc : ct_c33.length = 335 := by decide +kernel
      rw [← hc]
      exact (List.getElem?_eq_some_iff.mp hi).1
    rcases Nat.lt_or_ge ix 60 with q0 | q0
    · exact ev_okM_r ct_m33_0 (by omega) (by omega) hi
    rcases Nat.lt_or_ge ix 120 with q60 | q60
    · exact ev_okM_r ct_m33_60 (by omega) (by omega) hi
    rcases Nat.lt_or_ge ix 180 with q120 | q120
    · exact ev_okM_r ct_m33_120 (by omega) (by omega) hi
    rcases Nat.lt_or_ge ix 240 with q180 | q180
    · exact ev_okM_r ct_m33_180 (by omega) (by omega) hi
    rcases Nat.lt_or_ge ix 300 with q240 | q240
    · exact ev_okM_r ct_m33_240 (by omega) (by omega) hi
    exact ev_okM_r ct_m33_300 (by omega) (by omega) hi
  | 34, hk =>
    cases Option.some.inj hk
    refine ⟨by decide +kernel, rfl, fun ix i hi => ?_⟩
    have hl : ix < 28 := by
      have hc : ct_c34.length = 28 := by decide +kernel
      rw [← hc]
      exact (List.getElem?_eq_some_iff.mp hi).1
    exact ev_okM_r ct_m34_0 (by omega) (by omega) hi
  | 35, hk =>
    cases Option.some.inj hk
    refine ⟨by decide +kernel, rfl, fun ix i hi => ?_⟩
    have hl : ix < 16 := by
      have hc : ct_c35.length = 16 := by decide +kernel
      rw [← hc]
      exact (List.getElem?_eq_some_iff.mp hi).1
    exact ev_okM_r ct_m35_0 (by omega) (by omega) hi
  | 36, hk =>
    cases Option.some.inj hk
    refine ⟨by decide +kernel, rfl, fun ix i hi => ?_⟩
    have hl : ix < 21 := by
      have hc : ct_c36.length = 21 := by decide +kernel
      rw [← hc]
      exact (List.getElem?_eq_some_iff.mp hi).1
    exact ev_okM_r ct_m36_0 (by omega) (by omega) hi
  | 37, hk =>
    cases Option.some.inj hk
    refine ⟨by decide +kernel, rfl, fun ix i hi => ?_⟩
    have hl : ix < 6 := by
      have hc : ct_c37.length = 6 := by decide +kernel
      rw [← hc]
      exact (List.getElem?_eq_some_iff.mp hi).1
    exact ev_okM_r ct_m37_0 (by omega) (by omega) hi
  | 38, hk =>
    cases Option.some.inj hk
    refine ⟨by decide +kernel, rfl, fun ix i hi => ?_⟩
    have hl : ix < 27 := by
      have hc : ct_c38.length = 27 := by decide +kernel
      rw [← hc]
      exact (List.getElem?_eq_some_iff.mp hi).1
    exact ev_okM_r ct_m38_0 (by omega) (by omega) hi
  | 39, hk =>
    cases Option.some.inj hk
    refine ⟨by decide +kernel, rfl, fun ix i hi => ?_⟩
    have hl : ix < 10 := by
      have hc : ct_c39.length = 10 := by decide +kernel
      rw [← hc]
      exact (List.getElem?_eq_some_iff.mp hi).1
    exact ev_okM_r ct_m39_0 (by omega) (by omega) hi
  | 40, hk =>
    cases Option.some.inj hk
    refine ⟨by decide +kernel, rfl, fun ix i hi => ?_⟩
    have hl : ix < 33 := by
      have hc : ct_c40.length = 33 := by decide +kernel
      rw [← hc]
      exact (List.getElem?_eq_some_iff.mp hi).1
    exact ev_okM_r ct_m40_0 (by omega) (by omega) hi
  | 41, hk =>
    cases Option.some.inj hk
    refine ⟨by decide +kernel, rfl, fun ix i hi => ?_⟩
    have hl : ix < 91 := by
      have hc : ct_c41.length = 91 := by decide +kernel
      rw [← hc]
      exact (List.getElem?_eq_some_iff.mp hi).1
    rcases Nat.lt_or_ge ix 60 with q0 | q0
    · exact ev_okM_r ct_m41_0 (by omega) (by omega) hi
    exact ev_okM_r ct_m41_60 (by omega) (by omega) hi
  | 42, hk =>
    cases Option.some.inj hk
    refine ⟨by decide +kernel, rfl, fun ix i hi => ?_⟩
    have hl : ix < 3 := by
      have hc : ct_c42.length = 3 := by decide +kernel
      rw [← hc]
      exact (List.getElem?_eq_some_iff.mp hi).1
    exact ev_okM_r ct_m42_0 (by omega) (by omega) hi
  | 43, hk =>
    cases Option.some.inj hk
    refine ⟨by decide +kernel, rfl, fun ix i hi => ?_⟩
    have hl : ix < 63 := by
      have hc : ct_c43.length = 63 := by decide +kernel
      rw [← hc]
      exact (List.getElem?_eq_some_iff.mp hi).1
    rcases Nat.lt_or_ge ix 60 with q0 | q0
    · exact ev_okM_r ct_m43_0 (by omega) (by omega) hi
    exact ev_okM_r ct_m43_60 (by omega) (by omega) hi
  | 44, hk =>
    cases Option.some.inj hk
    refine ⟨by decide +kernel, rfl, fun ix i hi => ?_⟩
    have hl : ix < 16 := by
      have hc : ct_c44.length = 16 := by decide +kernel
      rw [← hc]
      exact (List.getElem?_eq_some_iff.mp hi).1
    exact ev_okM_r ct_m44_0 (by omega) (by omega) hi
  | 45, hk =>
    cases Option.some.inj hk
    refine ⟨by decide +kernel, rfl, fun ix i hi => ?_⟩
    have hl : ix < 61 := by
      have hc : ct_c45.length = 61 := by decide +kernel
      rw [← hc]
      exact (List.getElem?_eq_some_iff.mp hi).1
    rcases Nat.lt_or_ge ix 60 with q0 | q0
    · exact ev_okM_r ct_m45_0 (by omega) (by omega) hi
    exact ev_okM_r ct_m45_60 (by omega) (by omega) hi
  | 46, hk =>
    cases Option.some.inj hk
    refine ⟨by decide +kernel, rfl, fun ix i hi => ?_⟩
    have hl : ix < 32 := by
      have hc : ct_c46.length = 32 := by decide +kernel
      rw [← hc]
      exact (List.getElem?_eq_some_iff.mp hi).1
    exact ev_okM_r ct_m46_0 (by omega) (by omega) hi
  | 47, hk =>
    cases Option.some.inj hk
    refine ⟨by decide +kernel, rfl, fun ix i hi => ?_⟩
    have hl : ix < 36 := by
      have hc : ct_c47.length = 36 := by decide +kernel
      rw [← hc]
      exact (List.getElem?_eq_some_iff.mp hi).1
    exact ev_okM_r ct_m47_0 (by omega) (by omega) hi
  | 48, hk =>
    cases Option.some.inj hk
    refine ⟨by decide +kernel, rfl, fun ix i hi => ?_⟩
    have hl : ix < 125 := by
      have hc : ct_c48.length = 125 := by decide +kernel
      rw [← hc]
      exact (List.getElem?_eq_some_iff.mp hi).1
    rcases Nat.lt_or_ge ix 60 with q0 | q0
    · exact ev_okM_r ct_m48_0 (by omega) (by omega) hi
    rcases Nat.lt_or_ge ix 120 with q60 | q60
    · exact ev_okM_r ct_m48_60 (by omega) (by omega) hi
    exact ev_okM_r ct_m48_120 (by omega) (by omega) hi
  | 49, hk =>
    cases Option.some.inj hk
    refine ⟨by decide +kernel, rfl, fun ix i hi => ?_⟩
    have hl : ix < 12 := by
      have hc : ct_c49.length = 12 := by decide +kernel
      rw [← hc]
      exact (List.getElem?_eq_some_iff.mp hi).1
    exact ev_okM_r ct_m49_0 (by omega) (by omega) hi
  | 50, hk =>
    cases Option.some.inj hk
    refine ⟨by decide +kernel, rfl, fun ix i hi => ?_⟩
    have hl : ix < 10 := by
      have hc : ct_c50.length = 10 := by decide +kernel
      rw [← hc]
      exact (List.getElem?_eq_some_iff.mp hi).1
    exact ev_okM_r ct_m50_0 (by omega) (by omega) hi
  | 51, hk =>
    cases Option.some.inj hk
    refine ⟨by decide +kernel, rfl, fun ix i hi => ?_⟩
    have hl : ix < 10 := by
      have hc : ct_c51.length = 10 := by decide +kernel
      rw [← hc]
      exact (List.getElem?_eq_some_iff.mp hi).1
    exact ev_okM_r ct_m51_0 (by omega) (by omega) hi
  | 52, hk =>
    cases Option.some.inj hk
    refine ⟨by decide +kernel, rfl, fun ix i hi => ?_⟩
    have hl : ix < 39 := by
      have hc : ct_c52.length = 39 := by decide +kernel
      rw [← hc]
      exact (List.getElem?_eq_some_iff.mp hi).1
    exact ev_okM_r ct_m52_0 (by omega) (by omega) hi
  | 53, hk =>
    cases Option.some.inj hk
    refine ⟨by decide +kernel, rfl, fun ix i hi => ?_⟩
    have hl : ix < 161 := by
      have hc : ct_c53.length = 161 := by decide +kernel
      rw [← hc]
      exact (List.getElem?_eq_some_iff.mp hi).1
    rcases Nat.lt_or_ge ix 60 with q0 | q0
    · exact ev_okM_r ct_m53_0 (by omega) (by omega) hi
    rcases Nat.lt_or_ge ix 120 with q60 | q60
    · exact ev_okM_r ct_m53_60 (by omega) (by omega) hi
    exact ev_okM_r ct_m53_120 (by omega) (by omega) hi
  | 54, hk =>
    cases Option.some.inj hk
    refine ⟨by decide +kernel, rfl, fun ix i hi => ?_⟩
    have hl : ix < 190 := by
      have hc : ct_c54.length = 190 := by decide +kernel
      rw [← hc]
      exact (List.getElem?_eq_some_iff.mp hi).1
    rcases Nat.lt_or_ge ix 60 with q0 | q0
    · exact ev_okM_r ct_m54_0 (by omega) (by omega) hi
    rcases Nat.lt_or_ge ix 120 with q60 | q60
    · exact ev_okM_r ct_m54_60 (by omega) (by omega) hi
    rcases Nat.lt_or_ge ix 180 with q120 | q120
    · exact ev_okM_r ct_m54_120 (by omega) (by omega) hi
    exact ev_okM_r ct_m54_180 (by omega) (by omega) hi
  | 55, hk =>
    cases Option.some.inj hk
    refine ⟨by decide +kernel, rfl, fun ix i hi => ?_⟩
    have hl : ix < 79 := by
      have hc : ct_c55.length = 79 := by decide +kernel
      rw [← hc]
      exact (List.getElem?_eq_some_iff.mp hi).1
    rcases Nat.lt_or_ge ix 60 with q0 | q0
    · exact ev_okM_r ct_m55_0 (by omega) (by omega) hi
    exact ev_okM_r ct_m55_60 (by omega) (by omega) hi
  | 56, hk =>
    cases Option.some.inj hk
    refine ⟨by decide +kernel, rfl, fun ix i hi => ?_⟩
    have hl : ix < 169 := by
      have hc : ct_c56.length = 169 := by decide +kernel
      rw [← hc]
      exact (List.getElem?_eq_some_iff.mp hi).1
    rcases Nat.lt_or_ge ix 60 with q0 | q0
    · exact ev_okM_r ct_m56_0 (by omega) (by omega) hi
    rcases Nat.lt_or_ge ix 120 with q60 | q60
    · exact ev_okM_r ct_m56_60 (by omega) (by omega) hi
    exact ev_okM_r ct_m56_120 (by omega) (by omega) hi
  | 57, hk =>
    cases Option.some.inj hk
    refine ⟨by decide +kernel, rfl, fun ix i hi => ?_⟩
    have hl : ix < 17 := by
      have hc : ct_c57.length = 17 := by decide +kernel
      rw [← hc]
      exact (List.getElem?_eq_some_iff.mp hi).1
    exact ev_okM_r ct_m57_0 (by omega) (by omega) hi
  | 58, hk =>
    cases Option.some.inj hk
    refine ⟨by decide +kernel, rfl, fun ix i hi => ?_⟩
    have hl : ix < 35 := by
      have hc : ct_c58.length = 35 := by decide +kernel
      rw [← hc]
      exact (List.getElem?_eq_some_iff.mp hi).1
    exact ev_okM_r ct_m58_0 (by omega) (by omega) hi
  | 59, hk =>
    cases Option.some.inj hk
    refine ⟨by decide +kernel, rfl, fun ix i hi => ?_⟩
    have hl : ix < 10 := by
      have hc : ct_c59.length = 10 := by decide +kernel
      rw [← hc]
      exact (List.getElem?_eq_some_iff.mp hi).1
    exact ev_okM_r ct_m59_0 (by omega) (by omega) hi
  | 60, hk =>
    cases Option.some.inj hk
    refine ⟨by decide +kernel, rfl, fun ix i hi => ?_⟩
    have hl : ix < 197 := by
      have hc : ct_c60.length = 197 := by decide +kernel
      rw [← hc]
      exact (List.getElem?_eq_some_iff.mp hi).1
    rcases Nat.lt_or_ge ix 60 with q0 | q0
    · exact ev_okM_r ct_m60_0 (by omega) (by omega) hi
    rcases Nat.lt_or_ge ix 120 with q60 | q60
    · exact ev_okM_r ct_m60_60 (by omega) (by omega) hi
    rcases Nat.lt_or_ge ix 180 with q120 | q120
    · exact ev_okM_r ct_m60_120 (by omega) (by omega) hi
    exact ev_okM_r ct_m60_180 (by omega) (by omega) hi
  | 61, hk =>
    cases Option.some.inj hk
    refine ⟨by decide +kernel, rfl, fun ix i hi => ?_⟩
    have hl : ix < 190 := by
      have hc : ct_c61.length = 190 := by decide +kernel
      rw [← hc]
      exact (List.getElem?_eq_some_iff.mp hi).1
    rcases Nat.lt_or_ge ix 60 with q0 | q0
    · exact ev_okM_r ct_m61_0 (by omega) (by omega) hi
    rcases Nat.lt_or_ge ix 120 with q60 | q60
    · exact ev_okM_r ct_m61_60 (by omega) (by omega) hi
    rcases Nat.lt_or_ge ix 180 with q120 | q120
    · exact ev_okM_r ct_m61_120 (by omega) (by omega) hi
    exact ev_okM_r ct_m61_180 (by omega) (by omega) hi
  | 62, hk =>
    cases Option.some.inj hk
    refine ⟨by decide +kernel, rfl, fun ix i hi => ?_⟩
    have hl : ix < 113 := by
      have hc : ct_c62.length = 113 := by decide +kernel
      rw [← hc]
      exact (List.getElem?_eq_some_iff.mp hi).1
    rcases Nat.lt_or_ge ix 60 with q0 | q0
    · exact ev_okM_r ct_m62_0 (by omega) (by omega) hi
    exact ev_okM_r ct_m62_60 (by omega) (by omega) hi
  | 63, hk =>
    cases Option.some.inj hk
    refine ⟨by decide +kernel, rfl, fun ix i hi => ?_⟩
    have hl : ix < 20 := by
      have hc : ct_c63.length = 20 := by decide +kernel
      rw [← hc]
      exact (List.getElem?_eq_some_iff.mp hi).1
    exact ev_okM_r ct_m63_0 (by omega) (by omega) hi
  | 64, hk =>
    cases Option.some.inj hk
    refine ⟨by decide +kernel, rfl, fun ix i hi => ?_⟩
    have hl : ix < 19 := by
      have hc : ct_c64.length = 19 := by decide +kernel
      rw [← hc]
      exact (List.getElem?_eq_some_iff.mp hi).1
    exact ev_okM_r ct_m64_0 (by omega) (by omega) hi
  | 65, hk =>
    cases Option.some.inj hk
    refine ⟨by decide +kernel, rfl, fun ix i hi => ?_⟩
    have hl : ix < 69 := by
      have hc : ct_c65.length = 69 := by decide +kernel
      rw [← hc]
      exact (List.getElem?_eq_some_iff.mp hi).1
    rcases Nat.lt_or_ge ix 60 with q0 | q0
    · exact ev_okM_r ct_m65_0 (by omega) (by omega) hi
    exact ev_okM_r ct_m65_60 (by omega) (by omega) hi
  | 66, hk =>
    cases Option.some.inj hk
    refine ⟨by decide +kernel, rfl, fun ix i hi => ?_⟩
    have hl : ix < 27 := by
      have hc : ct_c66.length = 27 := by decide +kernel
      rw [← hc]
      exact (List.getElem?_eq_some_iff.mp hi).1
    exact ev_okM_r ct_m66_0 (by omega) (by omega) hi
  | 67, hk =>
    cases Option.some.inj hk
    refine ⟨by decide +kernel, rfl, fun ix i hi => ?_⟩
    have hl : ix < 27 := by
      have hc : ct_c67.length = 27 := by decide +kernel
      rw [← hc]
      exact (List.getElem?_eq_some_iff.mp hi).1
    exact ev_okM_r ct_m67_0 (by omega) (by omega) hi
  | 68, hk =>
    cases Option.some.inj hk
    refine ⟨by decide +kernel, rfl, fun ix i hi => ?_⟩
    have hl : ix < 94 := by
      have hc : ct_c68.length = 94 := by decide +kernel
      rw [← hc]
      exact (List.getElem?_eq_some_iff.mp hi).1
    rcases Nat.lt_or_ge ix 60 with q0 | q0
    · exact ev_okM_r ct_m68_0 (by omega) (by omega) hi
    exact ev_okM_r ct_m68_60 (by omega) (by omega) hi
  | 69, hk =>
    cases Option.some.inj hk
    refine ⟨by decide +kernel, rfl, fun ix i hi => ?_⟩
    have hl : ix < 164 := by
      have hc : ct_c69.length = 164 := by decide +kernel
      rw [← hc]
      exact (List.getElem?_eq_some_iff.mp hi).1
    rcases Nat.lt_or_ge ix 60 with q0 | q0
    · exact ev_okM_r ct_m69_0 (by omega) (by omega) hi
    rcases Nat.lt_or_ge ix 120 with q60 | q60
    · exact ev_okM_r ct_m69_60 (by omega) (by omega) hi
    exact ev_okM_r ct_m69_120 (by omega) (by omega) hi
  | 70, hk =>
    cases Option.some.inj hk
    refine ⟨by decide +kernel, rfl, fun ix i hi => ?_⟩
    have hl : ix < 15 := by
      have hc : ct_c70.length = 15 := by decide +kernel
      rw [← hc]
      exact (List.getElem?_eq_some_iff.mp hi).1
    exact ev_okM_r ct_m70_0 (by omega) (by omega) hi
  | 71, hk =>
    cases Option.some.inj hk
    refine ⟨by decide +kernel, rfl, fun ix i hi => ?_⟩
    have hl : ix < 41 := by
      have hc : ct_c71.length = 41 := by decide +kernel
      rw [← hc]
      exact (List.getElem?_eq_some_iff.mp hi).1
    exact ev_okM_r ct_m71_0 (by omega) (by omega) hi
  | 72, hk =>
    cases Option.some.inj hk
    refine ⟨by decide +kernel, rfl, fun ix i hi => ?_⟩
    have hl : ix < 113 := by
      have hc : ct_c72.length = 113 := by decide +kernel
      rw [← hc]
      exact (List.getElem?_eq_some_iff.mp hi).1
    rcases Nat.lt_or_ge ix 60 with q0 | q0
    · exact ev_okM_r ct_m72_0 (by omega) (by omega) hi
    exact ev_okM_r ct_m72_60 (by omega) (by omega) hi
  | 73, hk =>
    cases Option.some.inj hk
    refine ⟨by decide +kernel, rfl, fun ix i hi => ?_⟩
    have hl : ix < 23 := by
      have hc : ct_c73.length = 23 := by decide +kernel
      rw [← hc]
      exact (List.getElem?_eq_some_iff.mp hi).1
    exact ev_okM_r ct_m73_0 (by omega) (by omega) hi
  | 74, hk =>
    cases Option.some.inj hk
    refine ⟨by decide +kernel, rfl, fun ix i hi => ?_⟩
    have hl : ix < 52 := by
      have hc : ct_c74.length = 52 := by decide +kernel
      rw [← hc]
      exact (List.getElem?_eq_some_iff.mp hi).1
    exact ev_okM_r ct_m74_0 (by omega) (by omega) hi
  | 75, hk =>
    cases Option.some.inj hk
    refine ⟨by decide +kernel, rfl, fun ix i hi => ?_⟩
    have hl : ix < 24 := by
      have hc : ct_c75.length = 24 := by decide +kernel
      rw [← hc]
      exact (List.getElem?_eq_some_iff.mp hi).1
    exact ev_okM_r ct_m75_0 (by omega) (by omega) hi
  | 76, hk =>
    cases Option.some.inj hk
    refine ⟨by decide +kernel, rfl, fun ix i hi => ?_⟩
    have hl : ix < 57 := by
      have hc : ct_c76.length = 57 := by decide +kernel
      rw [← hc]
      exact (List.getElem?_eq_some_iff.mp hi).1
    exact ev_okM_r ct_m76_0 (by omega) (by omega) hi
  | 77, hk =>
    cases Option.some.inj hk
    refine ⟨by decide +kernel, rfl, fun ix i hi => ?_⟩
    have hl : ix < 101 := by
      have hc : ct_c77.length = 101 := by decide +kernel
      rw [← hc]
      exact (List.getElem?_eq_some_iff.mp hi).1
    rcases Nat.lt_or_ge ix 60 with q0 | q0
    · exact ev_okM_r ct_m77_0 (by omega) (by omega) hi
    exact ev_okM_r ct_m77_60 (by omega) (by omega) hi
  | 78, hk =>
    cases Option.some.inj hk
    refine ⟨by decide +kernel, rfl, fun ix i hi => ?_⟩
    have hl : ix < 20 := by
      have hc : ct_c78.length = 20 := by decide +kernel
      rw [← hc]
      exact (List.getElem?_eq_some_iff.mp hi).1
    exact ev_okM_r ct_m78_0 (by omega) (by omega) hi
  | 79, hk =>
    cases Option.some.inj hk
    refine ⟨by decide +kernel, rfl, fun ix i hi => ?_⟩
    have hl : ix < 38 := by
      have hc : ct_c79.length = 38 := by decide +kernel
      rw [← hc]
      exact (List.getElem?_eq_some_iff.mp hi).1
    exact ev_okM_r ct_m79_0 (by omega) (by omega) hi
  | 80, hk =>
    cases Option.some.inj hk
    refine ⟨by decide +kernel, rfl, fun ix i hi => ?_⟩
    have hl : ix < 46 := by
      have hc : ct_c80.length = 46 := by decide +kernel
      rw [← hc]
      exact (List.getElem?_eq_some_iff.mp hi).1
    exact ev_okM_r ct_m80_0 (by omega) (by omega) hi
  | 81, hk =>
    cases Option.some.inj hk
    refine ⟨by decide +kernel, rfl, fun ix i hi => ?_⟩
    have hl : ix < 35 := by
      have hc : ct_c81.length = 35 := by decide +kernel
      rw [← hc]
      exact (List.getElem?_eq_some_iff.mp hi).1
    exact ev_okM_r ct_m81_0 (by omega) (by omega) hi
  | 82, hk =>
    cases Option.some.inj hk
    refine ⟨by decide +kernel, rfl, fun ix i hi => ?_⟩
    have hl : ix < 21 := by
      have hc : ct_c82.length = 21 := by decide +kernel
      rw [← hc]
      exact (List.getElem?_eq_some_iff.mp hi).1
    exact ev_okM_r ct_m82_0 (by omega) (by omega) hi
  | 83, hk =>
    cases Option.some.inj hk
    refine ⟨by decide +kernel, rfl, fun ix i hi => ?_⟩
    have hl : ix < 10 := by
      have hc : ct_c83.length = 10 := by decide +kernel
      rw [← hc]
      exact (List.getElem?_eq_some_iff.mp hi).1
    exact ev_okM_r ct_m83_0 (by omega) (by omega) hi
  | 84, hk =>
    cases Option.some.inj hk
    refine ⟨by decide +kernel, rfl, fun ix i hi => ?_⟩
    have hl : ix < 53 := by
      have hc : ct_c84.length = 53 := by decide +kernel
      rw [← hc]
      exact (List.getElem?_eq_some_iff.mp hi).1
    exact ev_okM_r ct_m84_0 (by omega) (by omega) hi
  | 85, hk =>
    cases Option.some.inj hk
    refine ⟨by decide +kernel, rfl, fun ix i hi => ?_⟩
    have hl : ix < 20 := by
      have hc : ct_c85.length = 20 := by decide +kernel
      rw [← hc]
      exact (List.getElem?_eq_some_iff.mp hi).1
    exact ev_okM_r ct_m85_0 (by omega) (by omega) hi
  | 86, hk =>
    cases Option.some.inj hk
    refine ⟨by decide +kernel, rfl, fun ix i hi => ?_⟩
    have hl : ix < 21 := by
      have hc : ct_c86.length = 21 := by decide +kernel
      rw [← hc]
      exact (List.getElem?_eq_some_iff.mp hi).1
    exact ev_okM_r ct_m86_0 (by omega) (by omega) hi
  | 87, hk =>
    cases Option.some.inj hk
    refine ⟨by decide +kernel, rfl, fun ix i hi => ?_⟩
    have hl : ix < 37 := by
      have hc : ct_c87.length = 37 := by decide +kernel
      rw [← hc]
      exact (List.getElem?_eq_some_iff.mp hi).1
    exact ev_okM_r ct_m87_0 (by omega) (by omega) hi
  | 88, hk =>
    cases Option.some.inj hk
    refine ⟨by decide +kernel, rfl, fun ix i hi => ?_⟩
    have hl : ix < 15 := by
      have hc : ct_c88.length = 15 := by decide +kernel
      rw [← hc]
      exact (List.getElem?_eq_some_iff.mp hi).1
    exact ev_okM_r ct_m88_0 (by omega) (by omega) hi
  | 89, hk =>
    cases Option.some.inj hk
    refine ⟨by decide +kernel, rfl, fun ix i hi => ?_⟩
    have hl : ix < 15 := by
      have hc : ct_c89.length = 15 := by decide +kernel
      rw [← hc]
      exact (List.getElem?_eq_some_iff.mp hi).1
    exact ev_okM_r ct_m89_0 (by omega) (by omega) hi
  | k + 90, hk => simp [ct_pg] at hk
