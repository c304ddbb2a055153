/-! The methods looked at (1). Written by a program (wip/tools/gen431.py). -/
theorem sy_o69_80 : sy_okM 4 (sy_my 4 107 108) prog_5_method_6_code 65 none sy_c69 sy_bs69 80 80 = true := by decide +kernel
theorem sy_o69_160 : sy_okM 4 (sy_my 4 107 108) prog_5_method_6_code 65 none sy_c69 sy_bs69 160 80 = true := by decide +kernel
theorem sy_o69_240 : sy_okM 4 (sy_my 4 107 108) prog_5_method_6_code 65 none sy_c69 sy_bs69 240 80 = true := by decide +kernel
theorem sy_o69_320 : sy_okM 4 (sy_my 4 107 108) prog_5_method_6_code 65 none sy_c69 sy_bs69 320 80 = true := by decide +kernel
theorem sy_o69_400 : sy_okM 4 (sy_my 4 107 108) prog_5_method_6_code 65 none sy_c69 sy_bs69 400 80 = true := by decide +kernel
theorem sy_o69_480 : sy_okM 4 (sy_my 4 107 108) prog_5_method_6_code 65 none sy_c69 sy_bs69 480 80 = true := by decide +kernel
theorem sy_o69_560 : sy_okM 4 (sy_my 4 107 108) prog_5_method_6_code 65 none sy_c69 sy_bs69 560 80 = true := by decide +kernel
theorem sy_o69_640 : sy_okM 4 (sy_my 4 107 108) prog_5_method_6_code 65 none sy_c69 sy_bs69 640 80 = true := by decide +kernel
theorem sy_o69_720 : sy_okM 4 (sy_my 4 107 108) prog_5_method_6_code 65 none sy_c69 sy_bs69 720 31 = true := by decide +kernel
theorem sy_o70_0 : sy_okM 4 (sy_my 4 109 108) prog_5_method_2_code 4 none sy_c70 sy_bs70 0 18 = true := by decide +kernel
theorem sy_o71_0 : sy_okM 4 (sy_my 4 110 108) prog_5_method_3_code 4 none sy_c71 sy_bs71 0 18 = true := by decide +kernel
theorem sy_o72_0 : sy_okM 4 (sy_my 4 111 106) prog_5_method_12_code 2 none sy_c72 sy_bs72 0 80 = true := by decide +kernel
theorem sy_o72_80 : sy_okM 4 (sy_my 4 111 106) prog_5_method_12_code 2 none sy_c72 sy_bs72 80 80 = true := by decide +kernel
theorem sy_o72_160 : sy_okM 4 (sy_my 4 111 106) prog_5_method_12_code 2 none sy_c72 sy_bs72 160 11 = true := by decide +kernel
theorem sy_o73_0 : sy_okM 4 (sy_my 4 112 99) prog_5_method_16_code 2 (some .int) sy_c73 sy_bs73 0 12 = true := by decide +kernel
theorem sy_o74_0 : sy_okM 4 (sy_my 4 113 114) prog_5_method_15_code 5 none sy_c74 sy_bs74 0 80 = true := by decide +kernel
theorem sy_o74_80 : sy_okM 4 (sy_my 4 113 114) prog_5_method_15_code 5 none sy_c74 sy_bs74 80 72 = true := by decide +kernel
theorem sy_o75_0 : sy_okM 4 (sy_my 4 115 116) prog_5_method_14_code 4 none sy_c75 sy_bs75 0 54 = true := by decide +kernel
theorem sy_o76_0 : sy_okM 4 (sy_my 4 117 118) prog_5_method_17_code 5 none sy_c76 sy_bs76 0 46 = true := by decide +kernel
theorem sy_o77_0 : sy_okM 4 (sy_my 4 119 120) prog_5_method_10_code 7 none sy_c77 sy_bs77 0 80 = true := by decide +kernel
theorem sy_o77_80 : sy_okM 4 (sy_my 4 119 120) prog_5_method_10_code 7 none sy_c77 sy_bs77 80 13 = true := by decide +kernel
theorem sy_o78_0 : sy_okM 4 (sy_my 4 121 122) prog_5_method_8_code 13 none sy_c78 sy_bs78 0 80 = true := by decide +kernel
theorem sy_o78_80 : sy_okM 4 (sy_my 4 121 122) prog_5_method_8_code 13 none sy_c78 sy_bs78 80 25 = true := by decide +kernel
theorem sy_o79_0 : sy_okM 4 (sy_my 4 123 124) prog_5_method_19_code 4 none sy_c79 sy_bs79 0 66 = true := by decide +kernel
theorem sy_o80_0 : sy_okM 10 (sy_my 10 125 34) prog_11_method_2_code 1 none sy_c80 sy_bs80 0 68 = true := by decide +kernel
theorem sy_o81_0 : sy_okM 5 (sy_my 5 126 16) prog_6_method_4_code 4 none sy_c81 sy_bs81 0 10 = true := by decide +kernel
theorem sy_o82_0 : sy_okM 6 (sy_my 6 127 28) prog_7_method_23_code 2 (some .int) sy_c82 sy_bs82 0 21 = true := by decide +kernel
theorem sy_o83_0 : sy_okM 10 (sy_my 10 128 22) prog_11_method_8_code 8 none sy_c83 sy_bs83 0 80 = true := by decide +kernel
theorem sy_o83_80 : sy_okM 10 (sy_my 10 128 22) prog_11_method_8_code 8 none sy_c83 sy_bs83 80 80 = true := by decide +kernel
theorem sy_o83_160 : sy_okM 10 (sy_my 10 128 22) prog_11_method_8_code 8 none sy_c83 sy_bs83 160 15 = true := by decide +kernel
theorem sy_o84_0 : sy_okM 10 (sy_my 10 129 34) prog_11_method_7_code 2 none sy_c84 sy_bs84 0 24 = true := by decide +kernel
theorem sy_o85_0 : sy_okM 10 (sy_my 10 130 101) prog_11_method_6_code 4 none sy_c85 sy_bs85 0 32 = true := by decide +kernel
theorem sy_o86_0 : sy_okM 10 (sy_my 10 131 22) prog_11_method_3_code 5 none sy_c86 sy_bs86 0 80 = true := by decide +kernel
theorem sy_o86_80 : sy_okM 10 (sy_my 10 131 22) prog_11_method_3_code 5 none sy_c86 sy_bs86 80 45 = true := by decide +kernel
theorem sy_o87_0 : sy_okM 6 (sy_my 6 132 79) prog_7_method_24_code 6 (some .int) sy_c87 sy_bs87 0 80 = true := by decide +kernel
theorem sy_o87_80 : sy_okM 6 (sy_my 6 132 79) prog_7_method_24_code 6 (some .int) sy_c87 sy_bs87 80 23 = true := by decide +kernel
theorem sy_o88_0 : sy_okM 6 (sy_my 6 133 134) prog_7_method_3_code 5 (some .int) sy_c88 sy_bs88 0 80 = true := by decide +kernel
theorem sy_o88_80 : sy_okM 6 (sy_my 6 133 134) prog_7_method_3_code 5 (some .int) sy_c88 sy_bs88 80 28 = true := by decide +kernel
theorem sy_o89_0 : sy_okM 3 (sy_my 3 135 75) prog_4_method_5_code 4 none sy_c89 sy_bs89 0 74 = true := by decide +kernel
