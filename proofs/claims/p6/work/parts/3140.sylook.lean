/-! The methods looked at (0). Written by a program (wip/tools/gen431.py). -/
theorem sy_o0_0 : sy_okM 9 (sy_my 9 15 16) prog_10_method_3_code 3 none sy_c0 sy_bs0 0 33 = true := by decide +kernel
theorem sy_o1_0 : sy_okM 0 (sy_my 0 17 18) prog_1_method_2_code 6 (some .boolean) sy_c1 sy_bs1 0 52 = true := by decide +kernel
theorem sy_o2_0 : sy_okM 0 (sy_my 0 19 20) prog_1_method_3_code 2 (some .boolean) sy_c2 sy_bs2 0 13 = true := by decide +kernel
theorem sy_o3_0 : sy_okM 9 (sy_my 9 21 22) prog_10_method_6_code 15 none sy_c3 sy_bs3 0 80 = true := by decide +kernel
theorem sy_o3_80 : sy_okM 9 (sy_my 9 21 22) prog_10_method_6_code 15 none sy_c3 sy_bs3 80 80 = true := by decide +kernel
theorem sy_o3_160 : sy_okM 9 (sy_my 9 21 22) prog_10_method_6_code 15 none sy_c3 sy_bs3 160 80 = true := by decide +kernel
theorem sy_o3_240 : sy_okM 9 (sy_my 9 21 22) prog_10_method_6_code 15 none sy_c3 sy_bs3 240 80 = true := by decide +kernel
theorem sy_o3_320 : sy_okM 9 (sy_my 9 21 22) prog_10_method_6_code 15 none sy_c3 sy_bs3 320 15 = true := by decide +kernel
theorem sy_o4_0 : sy_okM 13 (sy_my 13 23 24) prog_29_method_109_code 4 none sy_c4 sy_bs4 0 15 = true := by decide +kernel
theorem sy_o5_0 : sy_okM 9 (sy_my 9 25 26) prog_10_method_4_code 11 none sy_c5 sy_bs5 0 80 = true := by decide +kernel
theorem sy_o5_80 : sy_okM 9 (sy_my 9 25 26) prog_10_method_4_code 11 none sy_c5 sy_bs5 80 19 = true := by decide +kernel
theorem sy_o6_0 : sy_okM 0 (sy_my 0 27 28) prog_1_method_4_code 3 (some .int) sy_c6 sy_bs6 0 49 = true := by decide +kernel
theorem sy_o7_0 : sy_okM 0 (sy_my 0 29 30) prog_1_method_5_code 1 (some .boolean) sy_c7 sy_bs7 0 23 = true := by decide +kernel
theorem sy_o8_0 : sy_okM 0 (sy_my 0 31 32) prog_1_method_6_code 4 (some .boolean) sy_c8 sy_bs8 0 43 = true := by decide +kernel
theorem sy_o9_0 : sy_okM 5 (sy_my 5 33 34) prog_6_method_2_code 2 none sy_c9 sy_bs9 0 22 = true := by decide +kernel
theorem sy_o10_0 : sy_okM 8 (sy_my 8 35 34) prog_9_method_5_code 2 none sy_c10 sy_bs10 0 27 = true := by decide +kernel
theorem sy_o11_0 : sy_okM 8 (sy_my 8 36 34) prog_9_method_6_code 2 none sy_c11 sy_bs11 0 10 = true := by decide +kernel
theorem sy_o12_0 : sy_okM 8 (sy_my 8 37 34) prog_9_method_3_code 1 none sy_c12 sy_bs12 0 6 = true := by decide +kernel
theorem sy_o13_0 : sy_okM 6 (sy_my 6 33 34) prog_7_method_2_code 2 none sy_c13 sy_bs13 0 33 = true := by decide +kernel
theorem sy_o14_0 : sy_okM 13 (sy_my 13 23 38) prog_29_method_103_code 4 none sy_c14 sy_bs14 0 15 = true := by decide +kernel
theorem sy_o15_0 : sy_okM 0 (sy_my 0 39 30) prog_1_method_7_code 1 (some .boolean) sy_c15 sy_bs15 0 35 = true := by decide +kernel
theorem sy_o16_0 : sy_okM 0 (sy_my 0 40 41) prog_1_method_8_code 2 none sy_c16 sy_bs16 0 9 = true := by decide +kernel
theorem sy_o17_0 : sy_okM 0 (sy_my 0 42 30) prog_1_method_9_code 1 (some .boolean) sy_c17 sy_bs17 0 4 = true := by decide +kernel
theorem sy_o18_0 : sy_okM 6 (sy_my 6 43 28) prog_7_method_4_code 2 (some .int) sy_c18 sy_bs18 0 7 = true := by decide +kernel
theorem sy_o19_0 : sy_okM 13 (sy_my 13 44 45) prog_29_method_30_code 3 none sy_c19 sy_bs19 0 37 = true := by decide +kernel
theorem sy_o20_0 : sy_okM 13 (sy_my 13 23 46) prog_29_method_110_code 5 none sy_c20 sy_bs20 0 17 = true := by decide +kernel
theorem sy_o21_0 : sy_okM 5 (sy_my 5 47 41) prog_6_method_9_code 2 none sy_c21 sy_bs21 0 18 = true := by decide +kernel
theorem sy_o22_0 : sy_okM 6 (sy_my 6 48 28) prog_7_method_5_code 2 (some .int) sy_c22 sy_bs22 0 22 = true := by decide +kernel
theorem sy_o23_0 : sy_okM 6 (sy_my 6 49 28) prog_7_method_6_code 2 (some .int) sy_c23 sy_bs23 0 33 = true := by decide +kernel
theorem sy_o24_0 : sy_okM 5 (sy_my 5 50 51) prog_6_method_3_code 5 (some .boolean) sy_c24 sy_bs24 0 46 = true := by decide +kernel
theorem sy_o25_0 : sy_okM 1 (sy_my 1 52 53) prog_2_method_2_code 3 (some .boolean) sy_c25 sy_bs25 0 25 = true := by decide +kernel
theorem sy_o26_0 : sy_okM 6 (sy_my 6 54 55) prog_7_method_8_code 3 (some .int) sy_c26 sy_bs26 0 18 = true := by decide +kernel
theorem sy_o27_0 : sy_okM 6 (sy_my 6 56 20) prog_7_method_9_code 3 (some .boolean) sy_c27 sy_bs27 0 24 = true := by decide +kernel
theorem sy_o28_0 : sy_okM 1 (sy_my 1 57 51) prog_2_method_3_code 6 (some .boolean) sy_c28 sy_bs28 0 80 = true := by decide +kernel
theorem sy_o28_80 : sy_okM 1 (sy_my 1 57 51) prog_2_method_3_code 6 (some .boolean) sy_c28 sy_bs28 80 38 = true := by decide +kernel
theorem sy_o29_0 : sy_okM 5 (sy_my 5 58 59) prog_6_method_7_code 3 (some .int) sy_c29 sy_bs29 0 18 = true := by decide +kernel
theorem sy_o30_0 : sy_okM 5 (sy_my 5 60 59) prog_6_method_8_code 2 (some .int) sy_c30 sy_bs30 0 22 = true := by decide +kernel
theorem sy_o31_0 : sy_okM 1 (sy_my 1 61 34) prog_2_method_4_code 2 none sy_c31 sy_bs31 0 22 = true := by decide +kernel
theorem sy_o32_0 : sy_okM 6 (sy_my 6 62 63) prog_7_method_7_code 5 (some .int) sy_c32 sy_bs32 0 80 = true := by decide +kernel
theorem sy_o32_80 : sy_okM 6 (sy_my 6 62 63) prog_7_method_7_code 5 (some .int) sy_c32 sy_bs32 80 4 = true := by decide +kernel
theorem sy_o33_0 : sy_okM 6 (sy_my 6 64 20) prog_7_method_10_code 2 (some .boolean) sy_c33 sy_bs33 0 15 = true := by decide +kernel
theorem sy_o34_0 : sy_okM 1 (sy_my 1 65 34) prog_2_method_5_code 2 none sy_c34 sy_bs34 0 19 = true := by decide +kernel
theorem sy_o35_0 : sy_okM 6 (sy_my 6 66 28) prog_7_method_12_code 4 (some .int) sy_c35 sy_bs35 0 56 = true := by decide +kernel
theorem sy_o36_0 : sy_okM 8 (sy_my 8 67 41) prog_9_method_2_code 2 none sy_c36 sy_bs36 0 10 = true := by decide +kernel
theorem sy_o37_0 : sy_okM 6 (sy_my 6 68 28) prog_7_method_13_code 3 (some .int) sy_c37 sy_bs37 0 31 = true := by decide +kernel
theorem sy_o38_0 : sy_okM 6 (sy_my 6 69 20) prog_7_method_11_code 2 (some .boolean) sy_c38 sy_bs38 0 15 = true := by decide +kernel
theorem sy_o39_0 : sy_okM 6 (sy_my 6 70 28) prog_7_method_14_code 2 (some .int) sy_c39 sy_bs39 0 13 = true := by decide +kernel
theorem sy_o40_0 : sy_okM 5 (sy_my 5 71 28) prog_6_method_5_code 2 (some .int) sy_c40 sy_bs40 0 40 = true := by decide +kernel
theorem sy_o41_0 : sy_okM 8 (sy_my 8 72 73) prog_9_method_7_code 7 (some .boolean) sy_c41 sy_bs41 0 80 = true := by decide +kernel
theorem sy_o41_80 : sy_okM 8 (sy_my 8 72 73) prog_9_method_7_code 7 (some .boolean) sy_c41 sy_bs41 80 33 = true := by decide +kernel
theorem sy_o42_0 : sy_okM 1 (sy_my 1 74 75) prog_2_method_7_code 3 none sy_c42 sy_bs42 0 16 = true := by decide +kernel
theorem sy_o43_0 : sy_okM 8 (sy_my 8 76 77) prog_9_method_4_code 3 none sy_c43 sy_bs43 0 19 = true := by decide +kernel
theorem sy_o44_0 : sy_okM 6 (sy_my 6 78 79) prog_7_method_15_code 6 (some .int) sy_c44 sy_bs44 0 62 = true := by decide +kernel
theorem sy_o45_0 : sy_okM 6 (sy_my 6 80 28) prog_7_method_18_code 2 (some .int) sy_c45 sy_bs45 0 14 = true := by decide +kernel
theorem sy_o46_0 : sy_okM 6 (sy_my 6 81 79) prog_7_method_19_code 4 (some .int) sy_c46 sy_bs46 0 34 = true := by decide +kernel
theorem sy_o47_0 : sy_okM 11 (sy_my 11 82 53) prog_12_method_10_code 5 (some .boolean) sy_c47 sy_bs47 0 60 = true := by decide +kernel
theorem sy_o48_0 : sy_okM 11 (sy_my 11 83 53) prog_12_method_11_code 5 (some .boolean) sy_c48 sy_bs48 0 80 = true := by decide +kernel
theorem sy_o49_0 : sy_okM 11 (sy_my 11 84 85) prog_12_method_9_code 7 (some .boolean) sy_c49 sy_bs49 0 64 = true := by decide +kernel
theorem sy_o50_0 : sy_okM 11 (sy_my 11 86 55) prog_12_method_12_code 1 (some .int) sy_c50 sy_bs50 0 14 = true := by decide +kernel
theorem sy_o51_0 : sy_okM 11 (sy_my 11 87 28) prog_12_method_13_code 1 (some .int) sy_c51 sy_bs51 0 6 = true := by decide +kernel
theorem sy_o52_0 : sy_okM 11 (sy_my 11 88 51) prog_12_method_21_code 8 (some .boolean) sy_c52 sy_bs52 0 80 = true := by decide +kernel
theorem sy_o52_80 : sy_okM 11 (sy_my 11 88 51) prog_12_method_21_code 8 (some .boolean) sy_c52 sy_bs52 80 27 = true := by decide +kernel
theorem sy_o53_0 : sy_okM 11 (sy_my 11 89 30) prog_12_method_20_code 3 (some .boolean) sy_c53 sy_bs53 0 80 = true := by decide +kernel
theorem sy_o53_80 : sy_okM 11 (sy_my 11 89 30) prog_12_method_20_code 3 (some .boolean) sy_c53 sy_bs53 80 6 = true := by decide +kernel
theorem sy_o54_0 : sy_okM 11 (sy_my 11 90 28) prog_12_method_23_code 4 (some .int) sy_c54 sy_bs54 0 34 = true := by decide +kernel
theorem sy_o55_0 : sy_okM 11 (sy_my 11 91 59) prog_12_method_22_code 3 (some .int) sy_c55 sy_bs55 0 18 = true := by decide +kernel
theorem sy_o56_0 : sy_okM 6 (sy_my 6 92 28) prog_7_method_20_code 2 (some .int) sy_c56 sy_bs56 0 38 = true := by decide +kernel
theorem sy_o57_0 : sy_okM 6 (sy_my 6 93 28) prog_7_method_21_code 2 (some .int) sy_c57 sy_bs57 0 12 = true := by decide +kernel
theorem sy_o58_0 : sy_okM 6 (sy_my 6 94 28) prog_7_method_16_code 2 (some .int) sy_c58 sy_bs58 0 22 = true := by decide +kernel
theorem sy_o59_0 : sy_okM 11 (sy_my 11 95 30) prog_12_method_5_code 1 (some .boolean) sy_c59 sy_bs59 0 19 = true := by decide +kernel
theorem sy_o60_0 : sy_okM 11 (sy_my 11 96 51) prog_12_method_6_code 3 (some .boolean) sy_c60 sy_bs60 0 18 = true := by decide +kernel
theorem sy_o61_0 : sy_okM 6 (sy_my 6 96 28) prog_7_method_22_code 3 (some .int) sy_c61 sy_bs61 0 34 = true := by decide +kernel
theorem sy_o62_0 : sy_okM 9 (sy_my 9 97 98) prog_10_method_5_code 7 none sy_c62 sy_bs62 0 80 = true := by decide +kernel
theorem sy_o62_80 : sy_okM 9 (sy_my 9 97 98) prog_10_method_5_code 7 none sy_c62 sy_bs62 80 1 = true := by decide +kernel
theorem sy_o63_0 : sy_okM 9 (sy_my 9 71 99) prog_10_method_2_code 2 (some .int) sy_c63 sy_bs63 0 36 = true := by decide +kernel
theorem sy_o64_0 : sy_okM 10 (sy_my 10 21 22) prog_11_method_10_code 25 none sy_c64 sy_bs64 0 80 = true := by decide +kernel
theorem sy_o64_80 : sy_okM 10 (sy_my 10 21 22) prog_11_method_10_code 25 none sy_c64 sy_bs64 80 80 = true := by decide +kernel
theorem sy_o64_160 : sy_okM 10 (sy_my 10 21 22) prog_11_method_10_code 25 none sy_c64 sy_bs64 160 80 = true := by decide +kernel
theorem sy_o64_240 : sy_okM 10 (sy_my 10 21 22) prog_11_method_10_code 25 none sy_c64 sy_bs64 240 77 = true := by decide +kernel
theorem sy_o65_0 : sy_okM 10 (sy_my 10 100 101) prog_11_method_9_code 8 none sy_c65 sy_bs65 0 80 = true := by decide +kernel
theorem sy_o65_80 : sy_okM 10 (sy_my 10 100 101) prog_11_method_9_code 8 none sy_c65 sy_bs65 80 22 = true := by decide +kernel
theorem sy_o66_0 : sy_okM 13 (sy_my 13 23 102) prog_29_method_101_code 5 none sy_c66 sy_bs66 0 15 = true := by decide +kernel
theorem sy_o67_0 : sy_okM 4 (sy_my 4 103 104) prog_5_method_4_code 2 none sy_c67 sy_bs67 0 7 = true := by decide +kernel
theorem sy_o68_0 : sy_okM 4 (sy_my 4 105 106) prog_5_method_11_code 1 none sy_c68 sy_bs68 0 21 = true := by decide +kernel
theorem sy_o69_0 : sy_okM 4 (sy_my 4 107 108) prog_5_method_6_code 65 none sy_c69 sy_bs69 0 80 = true := by decide +kernel
