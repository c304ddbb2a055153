/-! The methods looked at (2). Written by a program (wip/tools/gen431.py). -/
theorem sy_o90_0 : sy_okM 3 (sy_my 3 136 28) prog_4_method_7_code 2 (some .int) sy_c90 sy_bs90 0 9 = true := by decide +kernel
theorem sy_o91_0 : sy_okM 3 (sy_my 3 137 28) prog_4_method_6_code 4 (some .int) sy_c91 sy_bs91 0 38 = true := by decide +kernel
theorem sy_o92_0 : sy_okM 3 (sy_my 3 138 59) prog_4_method_4_code 4 (some .int) sy_c92 sy_bs92 0 80 = true := by decide +kernel
theorem sy_o92_80 : sy_okM 3 (sy_my 3 138 59) prog_4_method_4_code 4 (some .int) sy_c92 sy_bs92 80 47 = true := by decide +kernel
theorem sy_o93_0 : sy_okM 3 (sy_my 3 139 28) prog_4_method_8_code 2 (some .int) sy_c93 sy_bs93 0 16 = true := by decide +kernel
theorem sy_o94_0 : sy_okM 3 (sy_my 3 140 63) prog_4_method_9_code 3 (some .int) sy_c94 sy_bs94 0 25 = true := by decide +kernel
theorem sy_o95_0 : sy_okM 3 (sy_my 3 141 59) prog_4_method_10_code 1 (some .int) sy_c95 sy_bs95 0 7 = true := by decide +kernel
theorem sy_o96_0 : sy_okM 3 (sy_my 3 142 79) prog_4_method_12_code 3 (some .int) sy_c96 sy_bs96 0 65 = true := by decide +kernel
theorem sy_o97_0 : sy_okM 3 (sy_my 3 143 59) prog_4_method_11_code 1 (some .int) sy_c97 sy_bs97 0 65 = true := by decide +kernel
theorem sy_o98_0 : sy_okM 3 (sy_my 3 144 59) prog_4_method_13_code 1 (some .int) sy_c98 sy_bs98 0 79 = true := by decide +kernel
theorem sy_o99_0 : sy_okM 1 (sy_my 1 145 51) prog_2_method_8_code 3 (some .boolean) sy_c99 sy_bs99 0 16 = true := by decide +kernel
theorem sy_o100_0 : sy_okM 1 (sy_my 1 146 28) prog_2_method_9_code 2 (some .int) sy_c100 sy_bs100 0 13 = true := by decide +kernel
theorem sy_o101_0 : sy_okM 3 (sy_my 3 147 59) prog_4_method_14_code 6 (some .int) sy_c101 sy_bs101 0 80 = true := by decide +kernel
theorem sy_o101_80 : sy_okM 3 (sy_my 3 147 59) prog_4_method_14_code 6 (some .int) sy_c101 sy_bs101 80 17 = true := by decide +kernel
theorem sy_o102_0 : sy_okM 3 (sy_my 3 148 149) prog_4_method_16_code 4 (some .int) sy_c102 sy_bs102 0 60 = true := by decide +kernel
theorem sy_o103_0 : sy_okM 3 (sy_my 3 150 28) prog_4_method_15_code 6 (some .int) sy_c103 sy_bs103 0 80 = true := by decide +kernel
theorem sy_o103_80 : sy_okM 3 (sy_my 3 150 28) prog_4_method_15_code 6 (some .int) sy_c103 sy_bs103 80 51 = true := by decide +kernel
theorem sy_o104_0 : sy_okM 9 (sy_my 9 15 16) prog_10_method_3_code 3 none sy_c104 sy_bs104 0 33 = true := by decide +kernel
theorem sy_o105_0 : sy_okM 1 (sy_my 1 151 152) prog_2_method_10_code 6 none sy_c105 sy_bs105 0 35 = true := by decide +kernel
theorem sy_o106_0 : sy_okM 3 (sy_my 3 153 59) prog_4_method_17_code 3 (some .int) sy_c106 sy_bs106 0 47 = true := by decide +kernel
theorem sy_o107_0 : sy_okM 3 (sy_my 3 154 20) prog_4_method_18_code 2 (some .boolean) sy_c107 sy_bs107 0 10 = true := by decide +kernel
theorem sy_o108_0 : sy_okM 7 (sy_my 7 155 156) prog_8_method_4_code 3 (some .boolean) sy_c108 sy_bs108 0 18 = true := by decide +kernel
theorem sy_o109_0 : sy_okM 7 (sy_my 7 157 99) prog_8_method_2_code 4 (some .int) sy_c109 sy_bs109 0 25 = true := by decide +kernel
theorem sy_o110_0 : sy_okM 11 (sy_my 11 158 159) prog_12_method_14_code 5 (some .int) sy_c110 sy_bs110 0 21 = true := by decide +kernel
theorem sy_o111_0 : sy_okM 11 (sy_my 11 160 161) prog_12_method_15_code 5 (some .boolean) sy_c111 sy_bs111 0 32 = true := by decide +kernel
theorem sy_o112_0 : sy_okM 11 (sy_my 11 162 159) prog_12_method_16_code 8 (some .int) sy_c112 sy_bs112 0 80 = true := by decide +kernel
theorem sy_o112_80 : sy_okM 11 (sy_my 11 162 159) prog_12_method_16_code 8 (some .int) sy_c112 sy_bs112 80 37 = true := by decide +kernel
theorem sy_o113_0 : sy_okM 3 (sy_my 3 163 149) prog_4_method_20_code 4 (some .int) sy_c113 sy_bs113 0 37 = true := by decide +kernel
theorem sy_o114_0 : sy_okM 3 (sy_my 3 164 149) prog_4_method_21_code 4 (some .int) sy_c114 sy_bs114 0 25 = true := by decide +kernel
theorem sy_o115_0 : sy_okM 7 (sy_my 7 165 166) prog_8_method_3_code 5 (some .int) sy_c115 sy_bs115 0 44 = true := by decide +kernel
theorem sy_o116_0 : sy_okM 11 (sy_my 11 167 168) prog_12_method_25_code 6 (some .int) sy_c116 sy_bs116 0 35 = true := by decide +kernel
theorem sy_o117_0 : sy_okM 11 (sy_my 11 169 28) prog_12_method_26_code 3 (some .int) sy_c117 sy_bs117 0 23 = true := by decide +kernel
theorem sy_o118_0 : sy_okM 11 (sy_my 11 170 171) prog_12_method_24_code 8 (some .int) sy_c118 sy_bs118 0 80 = true := by decide +kernel
theorem sy_o118_80 : sy_okM 11 (sy_my 11 170 171) prog_12_method_24_code 8 (some .int) sy_c118 sy_bs118 80 13 = true := by decide +kernel
theorem sy_o119_0 : sy_okM 11 (sy_my 11 172 20) prog_12_method_27_code 3 (some .boolean) sy_c119 sy_bs119 0 23 = true := by decide +kernel
theorem sy_o120_0 : sy_okM 11 (sy_my 11 173 34) prog_12_method_28_code 2 none sy_c120 sy_bs120 0 23 = true := by decide +kernel
theorem sy_o121_0 : sy_okM 11 (sy_my 11 174 20) prog_12_method_29_code 2 (some .boolean) sy_c121 sy_bs121 0 20 = true := by decide +kernel
theorem sy_o122_0 : sy_okM 11 (sy_my 11 175 59) prog_12_method_30_code 6 (some .int) sy_c122 sy_bs122 0 47 = true := by decide +kernel
theorem sy_o123_0 : sy_okM 11 (sy_my 11 176 45) prog_12_method_19_code 4 none sy_c123 sy_bs123 0 19 = true := by decide +kernel
theorem sy_o124_0 : sy_okM 2 (sy_my 2 125 177) prog_3_method_5_code 3 none sy_c124 sy_bs124 0 80 = true := by decide +kernel
theorem sy_o124_80 : sy_okM 2 (sy_my 2 125 177) prog_3_method_5_code 3 none sy_c124 sy_bs124 80 4 = true := by decide +kernel
theorem sy_o125_0 : sy_okM 2 (sy_my 2 178 179) prog_3_method_6_code 9 none sy_c125 sy_bs125 0 80 = true := by decide +kernel
theorem sy_o125_80 : sy_okM 2 (sy_my 2 178 179) prog_3_method_6_code 9 none sy_c125 sy_bs125 80 9 = true := by decide +kernel
theorem sy_o126_0 : sy_okM 2 (sy_my 2 180 181) prog_3_method_4_code 11 none sy_c126 sy_bs126 0 80 = true := by decide +kernel
theorem sy_o126_80 : sy_okM 2 (sy_my 2 180 181) prog_3_method_4_code 11 none sy_c126 sy_bs126 80 50 = true := by decide +kernel
theorem sy_o127_0 : sy_okM 11 (sy_my 11 182 16) prog_12_method_34_code 4 none sy_c127 sy_bs127 0 39 = true := by decide +kernel
theorem sy_o128_0 : sy_okM 11 (sy_my 11 126 30) prog_12_method_7_code 1 (some .boolean) sy_c128 sy_bs128 0 80 = true := by decide +kernel
theorem sy_o128_80 : sy_okM 11 (sy_my 11 126 30) prog_12_method_7_code 1 (some .boolean) sy_c128 sy_bs128 80 2 = true := by decide +kernel
theorem sy_o129_0 : sy_okM 11 (sy_my 11 183 75) prog_12_method_38_code 3 none sy_c129 sy_bs129 0 24 = true := by decide +kernel
theorem sy_o130_0 : sy_okM 11 (sy_my 11 184 185) prog_12_method_35_code 6 none sy_c130 sy_bs130 0 71 = true := by decide +kernel
theorem sy_o131_0 : sy_okM 11 (sy_my 11 186 187) prog_12_method_32_code 8 (some .boolean) sy_c131 sy_bs131 0 71 = true := by decide +kernel
theorem sy_o132_0 : sy_okM 11 (sy_my 11 188 41) prog_12_method_36_code 5 none sy_c132 sy_bs132 0 46 = true := by decide +kernel
theorem sy_o133_0 : sy_okM 11 (sy_my 11 189 30) prog_12_method_37_code 3 (some .boolean) sy_c133 sy_bs133 0 36 = true := by decide +kernel
theorem sy_o134_0 : sy_okM 11 (sy_my 11 190 20) prog_12_method_8_code 2 (some .boolean) sy_c134 sy_bs134 0 33 = true := by decide +kernel
theorem sy_o135_0 : sy_okM 11 (sy_my 11 191 30) prog_12_method_33_code 3 (some .boolean) sy_c135 sy_bs135 0 63 = true := by decide +kernel
theorem sy_o136_0 : sy_okM 11 (sy_my 11 192 193) prog_12_method_31_code 5 (some .int) sy_c136 sy_bs136 0 42 = true := by decide +kernel
theorem sy_o137_0 : sy_okM 3 (sy_my 3 194 28) prog_4_method_19_code 10 (some .int) sy_c137 sy_bs137 0 80 = true := by decide +kernel
theorem sy_o137_80 : sy_okM 3 (sy_my 3 194 28) prog_4_method_19_code 10 (some .int) sy_c137 sy_bs137 80 65 = true := by decide +kernel
theorem sy_o138_0 : sy_okM 11 (sy_my 11 195 63) prog_12_method_17_code 8 (some .int) sy_c138 sy_bs138 0 80 = true := by decide +kernel
theorem sy_o138_80 : sy_okM 11 (sy_my 11 195 63) prog_12_method_17_code 8 (some .int) sy_c138 sy_bs138 80 37 = true := by decide +kernel
theorem sy_o139_0 : sy_okM 1 (sy_my 1 196 16) prog_2_method_11_code 6 none sy_c139 sy_bs139 0 35 = true := by decide +kernel
theorem sy_o140_0 : sy_okM 3 (sy_my 3 195 59) prog_4_method_23_code 4 (some .int) sy_c140 sy_bs140 0 64 = true := by decide +kernel
theorem sy_o141_0 : sy_okM 11 (sy_my 11 138 55) prog_12_method_18_code 5 (some .int) sy_c141 sy_bs141 0 80 = true := by decide +kernel
theorem sy_o141_80 : sy_okM 11 (sy_my 11 138 55) prog_12_method_18_code 5 (some .int) sy_c141 sy_bs141 80 5 = true := by decide +kernel
theorem sy_o142_0 : sy_okM 3 (sy_my 3 197 28) prog_4_method_22_code 9 (some .int) sy_c142 sy_bs142 0 80 = true := by decide +kernel
theorem sy_o142_80 : sy_okM 3 (sy_my 3 197 28) prog_4_method_22_code 9 (some .int) sy_c142 sy_bs142 80 80 = true := by decide +kernel
theorem sy_o143_0 : sy_okM 3 (sy_my 3 198 28) prog_4_method_24_code 7 (some .int) sy_c143 sy_bs143 0 80 = true := by decide +kernel
theorem sy_o143_80 : sy_okM 3 (sy_my 3 198 28) prog_4_method_24_code 7 (some .int) sy_c143 sy_bs143 80 54 = true := by decide +kernel
theorem sy_o144_0 : sy_okM 3 (sy_my 3 199 63) prog_4_method_26_code 3 (some .int) sy_c144 sy_bs144 0 54 = true := by decide +kernel
theorem sy_o145_0 : sy_okM 2 (sy_my 2 15 16) prog_3_method_3_code 3 none sy_c145 sy_bs145 0 33 = true := by decide +kernel
theorem sy_o146_0 : sy_okM 2 (sy_my 2 71 99) prog_3_method_2_code 2 (some .int) sy_c146 sy_bs146 0 36 = true := by decide +kernel
theorem sy_o147_0 : sy_okM 2 (sy_my 2 107 34) prog_3_method_11_code 33 none sy_c147 sy_bs147 0 80 = true := by decide +kernel
theorem sy_o147_80 : sy_okM 2 (sy_my 2 107 34) prog_3_method_11_code 33 none sy_c147 sy_bs147 80 80 = true := by decide +kernel
