/-! The methods looked at (0). Written by a program (wip/tools/gen431.py). -/
theorem sy_o0_0 : sy_okM 9 (sy_my 9 15 16) prog_10_method_3_code 3 none sy_c0 0 33 = true := by decide +kernel
theorem sy_o1_0 : sy_okM 0 (sy_my 0 17 18) prog_1_method_2_code 6 (some .boolean) sy_c1 0 52 = true := by decide +kernel
theorem sy_o2_0 : sy_okM 0 (sy_my 0 19 20) prog_1_method_3_code 2 (some .boolean) sy_c2 0 13 = true := by decide +kernel
theorem sy_o3_0 : sy_okM 9 (sy_my 9 21 22) prog_10_method_6_code 15 none sy_c3 0 80 = true := by decide +kernel
theorem sy_o3_80 : sy_okM 9 (sy_my 9 21 22) prog_10_method_6_code 15 none sy_c3 80 80 = true := by decide +kernel
theorem sy_o3_160 : sy_okM 9 (sy_my 9 21 22) prog_10_method_6_code 15 none sy_c3 160 80 = true := by decide +kernel
theorem sy_o3_240 : sy_okM 9 (sy_my 9 21 22) prog_10_method_6_code 15 none sy_c3 240 80 = true := by decide +kernel
theorem sy_o3_320 : sy_okM 9 (sy_my 9 21 22) prog_10_method_6_code 15 none sy_c3 320 15 = true := by decide +kernel
theorem sy_o4_0 : sy_okM 13 (sy_my 13 23 24) prog_29_method_109_code 4 none sy_c4 0 15 = true := by decide +kernel
theorem sy_o5_0 : sy_okM 9 (sy_my 9 25 26) prog_10_method_4_code 11 none sy_c5 0 80 = true := by decide +kernel
theorem sy_o5_80 : sy_okM 9 (sy_my 9 25 26) prog_10_method_4_code 11 none sy_c5 80 19 = true := by decide +kernel
theorem sy_o6_0 : sy_okM 0 (sy_my 0 27 28) prog_1_method_4_code 3 (some .int) sy_c6 0 49 = true := by decide +kernel
theorem sy_o7_0 : sy_okM 0 (sy_my 0 29 30) prog_1_method_5_code 1 (some .boolean) sy_c7 0 23 = true := by decide +kernel
theorem sy_o8_0 : sy_okM 0 (sy_my 0 31 32) prog_1_method_6_code 4 (some .boolean) sy_c8 0 43 = true := by decide +kernel
theorem sy_o9_0 : sy_okM 5 (sy_my 5 33 34) prog_6_method_2_code 2 none sy_c9 0 22 = true := by decide +kernel
theorem sy_o10_0 : sy_okM 8 (sy_my 8 35 34) prog_9_method_5_code 2 none sy_c10 0 27 = true := by decide +kernel
theorem sy_o11_0 : sy_okM 8 (sy_my 8 36 34) prog_9_method_6_code 2 none sy_c11 0 10 = true := by decide +kernel
theorem sy_o12_0 : sy_okM 8 (sy_my 8 37 34) prog_9_method_3_code 1 none sy_c12 0 6 = true := by decide +kernel
theorem sy_o13_0 : sy_okM 6 (sy_my 6 33 34) prog_7_method_2_code 2 none sy_c13 0 33 = true := by decide +kernel
theorem sy_o14_0 : sy_okM 13 (sy_my 13 23 38) prog_29_method_103_code 4 none sy_c14 0 15 = true := by decide +kernel
theorem sy_o15_0 : sy_okM 0 (sy_my 0 39 30) prog_1_method_7_code 1 (some .boolean) sy_c15 0 35 = true := by decide +kernel
theorem sy_o16_0 : sy_okM 0 (sy_my 0 40 41) prog_1_method_8_code 2 none sy_c16 0 9 = true := by decide +kernel
theorem sy_o17_0 : sy_okM 0 (sy_my 0 42 30) prog_1_method_9_code 1 (some .boolean) sy_c17 0 4 = true := by decide +kernel
theorem sy_o18_0 : sy_okM 6 (sy_my 6 43 28) prog_7_method_4_code 2 (some .int) sy_c18 0 7 = true := by decide +kernel
theorem sy_o19_0 : sy_okM 13 (sy_my 13 44 45) prog_29_method_30_code 3 none sy_c19 0 37 = true := by decide +kernel
theorem sy_o20_0 : sy_okM 13 (sy_my 13 23 46) prog_29_method_110_code 5 none sy_c20 0 17 = true := by decide +kernel
theorem sy_o21_0 : sy_okM 5 (sy_my 5 47 41) prog_6_method_9_code 2 none sy_c21 0 18 = true := by decide +kernel
theorem sy_o22_0 : sy_okM 6 (sy_my 6 48 28) prog_7_method_5_code 2 (some .int) sy_c22 0 22 = true := by decide +kernel
theorem sy_o23_0 : sy_okM 6 (sy_my 6 49 28) prog_7_method_6_code 2 (some .int) sy_c23 0 33 = true := by decide +kernel
theorem sy_o24_0 : sy_okM 5 (sy_my 5 50 51) prog_6_method_3_code 5 (some .boolean) sy_c24 0 46 = true := by decide +kernel
theorem sy_o25_0 : sy_okM 1 (sy_my 1 52 53) prog_2_method_2_code 3 (some .boolean) sy_c25 0 25 = true := by decide +kernel
theorem sy_o26_0 : sy_okM 6 (sy_my 6 54 55) prog_7_method_8_code 3 (some .int) sy_c26 0 18 = true := by decide +kernel
theorem sy_o27_0 : sy_okM 6 (sy_my 6 56 20) prog_7_method_9_code 3 (some .boolean) sy_c27 0 24 = true := by decide +kernel
theorem sy_o28_0 : sy_okM 1 (sy_my 1 57 51) prog_2_method_3_code 6 (some .boolean) sy_c28 0 80 = true := by decide +kernel
theorem sy_o28_80 : sy_okM 1 (sy_my 1 57 51) prog_2_method_3_code 6 (some .boolean) sy_c28 80 38 = true := by decide +kernel
theorem sy_o29_0 : sy_okM 5 (sy_my 5 58 59) prog_6_method_7_code 3 (some .int) sy_c29 0 18 = true := by decide +kernel
theorem sy_o30_0 : sy_okM 5 (sy_my 5 60 59) prog_6_method_8_code 2 (some .int) sy_c30 0 22 = true := by decide +kernel
theorem sy_o31_0 : sy_okM 1 (sy_my 1 61 34) prog_2_method_4_code 2 none sy_c31 0 22 = true := by decide +kernel
theorem sy_o32_0 : sy_okM 6 (sy_my 6 62 63) prog_7_method_7_code 5 (some .int) sy_c32 0 80 = true := by decide +kernel
theorem sy_o32_80 : sy_okM 6 (sy_my 6 62 63) prog_7_method_7_code 5 (some .int) sy_c32 80 4 = true := by decide +kernel
theorem sy_o33_0 : sy_okM 6 (sy_my 6 64 20) prog_7_method_10_code 2 (some .boolean) sy_c33 0 15 = true := by decide +kernel
theorem sy_o34_0 : sy_okM 1 (sy_my 1 65 34) prog_2_method_5_code 2 none sy_c34 0 19 = true := by decide +kernel
theorem sy_o35_0 : sy_okM 6 (sy_my 6 66 28) prog_7_method_12_code 4 (some .int) sy_c35 0 56 = true := by decide +kernel
theorem sy_o36_0 : sy_okM 8 (sy_my 8 67 41) prog_9_method_2_code 2 none sy_c36 0 10 = true := by decide +kernel
theorem sy_o37_0 : sy_okM 6 (sy_my 6 68 28) prog_7_method_13_code 3 (some .int) sy_c37 0 31 = true := by decide +kernel
theorem sy_o38_0 : sy_okM 6 (sy_my 6 69 20) prog_7_method_11_code 2 (some .boolean) sy_c38 0 15 = true := by decide +kernel
theorem sy_o39_0 : sy_okM 6 (sy_my 6 70 28) prog_7_method_14_code 2 (some .int) sy_c39 0 13 = true := by decide +kernel
theorem sy_o40_0 : sy_okM 5 (sy_my 5 71 28) prog_6_method_5_code 2 (some .int) sy_c40 0 40 = true := by decide +kernel
theorem sy_o41_0 : sy_okM 8 (sy_my 8 72 73) prog_9_method_7_code 7 (some .boolean) sy_c41 0 80 = true := by decide +kernel
theorem sy_o41_80 : sy_okM 8 (sy_my 8 72 73) prog_9_method_7_code 7 (some .boolean) sy_c41 80 33 = true := by decide +kernel
theorem sy_o42_0 : sy_okM 1 (sy_my 1 74 75) prog_2_method_7_code 3 none sy_c42 0 16 = true := by decide +kernel
theorem sy_o43_0 : sy_okM 8 (sy_my 8 76 77) prog_9_method_4_code 3 none sy_c43 0 19 = true := by decide +kernel
theorem sy_o44_0 : sy_okM 6 (sy_my 6 78 79) prog_7_method_15_code 6 (some .int) sy_c44 0 62 = true := by decide +kernel
theorem sy_o45_0 : sy_okM 6 (sy_my 6 80 28) prog_7_method_18_code 2 (some .int) sy_c45 0 14 = true := by decide +kernel
theorem sy_o46_0 : sy_okM 6 (sy_my 6 81 79) prog_7_method_19_code 4 (some .int) sy_c46 0 34 = true := by decide +kernel
theorem sy_o47_0 : sy_okM 11 (sy_my 11 82 53) prog_12_method_10_code 5 (some .boolean) sy_c47 0 60 = true := by decide +kernel
theorem sy_o48_0 : sy_okM 11 (sy_my 11 83 53) prog_12_method_11_code 5 (some .boolean) sy_c48 0 80 = true := by decide +kernel
theorem sy_o49_0 : sy_okM 11 (sy_my 11 84 85) prog_12_method_9_code 7 (some .boolean) sy_c49 0 64 = true := by decide +kernel
theorem sy_o50_0 : sy_okM 11 (sy_my 11 86 55) prog_12_method_12_code 1 (some .int) sy_c50 0 14 = true := by decide +kernel
theorem sy_o51_0 : sy_okM 11 (sy_my 11 87 28) prog_12_method_13_code 1 (some .int) sy_c51 0 6 = true := by decide +kernel
theorem sy_o52_0 : sy_okM 11 (sy_my 11 88 51) prog_12_method_21_code 8 (some .boolean) sy_c52 0 80 = true := by decide +kernel
theorem sy_o52_80 : sy_okM 11 (sy_my 11 88 51) prog_12_method_21_code 8 (some .boolean) sy_c52 80 27 = true := by decide +kernel
theorem sy_o53_0 : sy_okM 11 (sy_my 11 89 30) prog_12_method_20_code 3 (some .boolean) sy_c53 0 80 = true := by decide +kernel
theorem sy_o53_80 : sy_okM 11 (sy_my 11 89 30) prog_12_method_20_code 3 (some .boolean) sy_c53 80 6 = true := by decide +kernel
theorem sy_o54_0 : sy_okM 11 (sy_my 11 90 28) prog_12_method_23_code 4 (some .int) sy_c54 0 34 = true := by decide +kernel
theorem sy_o55_0 : sy_okM 11 (sy_my 11 91 59) prog_12_method_22_code 3 (some .int) sy_c55 0 18 = true := by decide +kernel
theorem sy_o56_0 : sy_okM 6 (sy_my 6 92 28) prog_7_method_20_code 2 (some .int) sy_c56 0 38 = true := by decide +kernel
theorem sy_o57_0 : sy_okM 6 (sy_my 6 93 28) prog_7_method_21_code 2 (some .int) sy_c57 0 12 = true := by decide +kernel
theorem sy_o58_0 : sy_okM 6 (sy_my 6 94 28) prog_7_method_16_code 2 (some .int) sy_c58 0 22 = true := by decide +kernel
theorem sy_o59_0 : sy_okM 11 (sy_my 11 95 30) prog_12_method_5_code 1 (some .boolean) sy_c59 0 19 = true := by decide +kernel
theorem sy_o60_0 : sy_okM 11 (sy_my 11 96 51) prog_12_method_6_code 3 (some .boolean) sy_c60 0 18 = true := by decide +kernel
theorem sy_o61_0 : sy_okM 6 (sy_my 6 96 28) prog_7_method_22_code 3 (some .int) sy_c61 0 34 = true := by decide +kernel
theorem sy_o62_0 : sy_okM 9 (sy_my 9 97 98) prog_10_method_5_code 7 none sy_c62 0 80 = true := by decide +kernel
theorem sy_o62_80 : sy_okM 9 (sy_my 9 97 98) prog_10_method_5_code 7 none sy_c62 80 1 = true := by decide +kernel
theorem sy_o63_0 : sy_okM 9 (sy_my 9 71 99) prog_10_method_2_code 2 (some .int) sy_c63 0 36 = true := by decide +kernel
theorem sy_o64_0 : sy_okM 10 (sy_my 10 21 22) prog_11_method_10_code 25 none sy_c64 0 80 = true := by decide +kernel
theorem sy_o64_80 : sy_okM 10 (sy_my 10 21 22) prog_11_method_10_code 25 none sy_c64 80 80 = true := by decide +kernel
theorem sy_o64_160 : sy_okM 10 (sy_my 10 21 22) prog_11_method_10_code 25 none sy_c64 160 80 = true := by decide +kernel
theorem sy_o64_240 : sy_okM 10 (sy_my 10 21 22) prog_11_method_10_code 25 none sy_c64 240 77 = true := by decide +kernel
theorem sy_o65_0 : sy_okM 10 (sy_my 10 100 101) prog_11_method_9_code 8 none sy_c65 0 80 = true := by decide +kernel
theorem sy_o65_80 : sy_okM 10 (sy_my 10 100 101) prog_11_method_9_code 8 none sy_c65 80 22 = true := by decide +kernel
theorem sy_o66_0 : sy_okM 13 (sy_my 13 23 102) prog_29_method_101_code 5 none sy_c66 0 15 = true := by decide +kernel
theorem sy_o67_0 : sy_okM 4 (sy_my 4 103 104) prog_5_method_4_code 2 none sy_c67 0 7 = true := by decide +kernel
theorem sy_o68_0 : sy_okM 4 (sy_my 4 105 106) prog_5_method_11_code 1 none sy_c68 0 21 = true := by decide +kernel
theorem sy_o69_0 : sy_okM 4 (sy_my 4 107 108) prog_5_method_6_code 65 none sy_c69 0 80 = true := by decide +kernel
