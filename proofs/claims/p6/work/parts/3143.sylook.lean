/-! The methods looked at (3). Written by a program (wip/tools/gen431.py). -/
theorem sy_o147_160 : sy_okM 2 (sy_my 2 107 34) prog_3_method_11_code 33 none sy_c147 sy_bs147 160 72 = true := by decide +kernel
theorem sy_o148_0 : sy_okM 13 (sy_my 13 23 200) prog_29_method_102_code 6 none sy_c148 sy_bs148 0 17 = true := by decide +kernel
theorem sy_o149_0 : sy_okM 2 (sy_my 2 128 34) prog_3_method_12_code 3 none sy_c149 sy_bs149 0 80 = true := by decide +kernel
theorem sy_o149_80 : sy_okM 2 (sy_my 2 128 34) prog_3_method_12_code 3 none sy_c149 sy_bs149 80 28 = true := by decide +kernel
theorem sy_o150_0 : sy_okM 2 (sy_my 2 201 34) prog_3_method_13_code 9 none sy_c150 sy_bs150 0 72 = true := by decide +kernel
theorem sy_o151_0 : sy_okM 2 (sy_my 2 202 41) prog_3_method_10_code 3 none sy_c151 sy_bs151 0 80 = true := by decide +kernel
theorem sy_o151_80 : sy_okM 2 (sy_my 2 202 41) prog_3_method_10_code 3 none sy_c151 sy_bs151 80 80 = true := by decide +kernel
theorem sy_o151_160 : sy_okM 2 (sy_my 2 202 41) prog_3_method_10_code 3 none sy_c151 sy_bs151 160 5 = true := by decide +kernel
theorem sy_o152_0 : sy_okM 2 (sy_my 2 203 204) prog_3_method_9_code 6 none sy_c152 sy_bs152 0 55 = true := by decide +kernel
theorem sy_o153_0 : sy_okM 2 (sy_my 2 205 204) prog_3_method_7_code 5 none sy_c153 sy_bs153 0 21 = true := by decide +kernel
theorem sy_o154_0 : sy_okM 2 (sy_my 2 206 161) prog_3_method_8_code 6 (some .boolean) sy_c154 sy_bs154 0 34 = true := by decide +kernel
theorem sy_o155_0 : sy_okM 3 (sy_my 3 207 28) prog_4_method_25_code 5 (some .int) sy_c155 sy_bs155 0 80 = true := by decide +kernel
theorem sy_o155_80 : sy_okM 3 (sy_my 3 207 28) prog_4_method_25_code 5 (some .int) sy_c155 sy_bs155 80 69 = true := by decide +kernel
theorem sy_o156_0 : sy_okM 4 (sy_my 4 208 209) prog_5_method_7_code 7 none sy_c156 sy_bs156 0 74 = true := by decide +kernel
theorem sy_o157_0 : sy_okM 4 (sy_my 4 210 211) prog_5_method_24_code 5 none sy_c157 sy_bs157 0 80 = true := by decide +kernel
theorem sy_o157_80 : sy_okM 4 (sy_my 4 210 211) prog_5_method_24_code 5 none sy_c157 sy_bs157 80 80 = true := by decide +kernel
theorem sy_o158_0 : sy_okM 4 (sy_my 4 212 213) prog_5_method_23_code 7 none sy_c158 sy_bs158 0 80 = true := by decide +kernel
theorem sy_o158_80 : sy_okM 4 (sy_my 4 212 213) prog_5_method_23_code 7 none sy_c158 sy_bs158 80 51 = true := by decide +kernel
theorem sy_o159_0 : sy_okM 3 (sy_my 3 214 28) prog_4_method_27_code 4 (some .int) sy_c159 sy_bs159 0 80 = true := by decide +kernel
theorem sy_o159_80 : sy_okM 3 (sy_my 3 214 28) prog_4_method_27_code 4 (some .int) sy_c159 sy_bs159 80 78 = true := by decide +kernel
theorem sy_o160_0 : sy_okM 3 (sy_my 3 133 63) prog_4_method_30_code 3 (some .int) sy_c160 sy_bs160 0 62 = true := by decide +kernel
theorem sy_o161_0 : sy_okM 1 (sy_my 1 215 30) prog_2_method_6_code 2 (some .boolean) sy_c161 sy_bs161 0 29 = true := by decide +kernel
theorem sy_o162_0 : sy_okM 3 (sy_my 3 216 28) prog_4_method_29_code 2 (some .int) sy_c162 sy_bs162 0 59 = true := by decide +kernel
theorem sy_o163_0 : sy_okM 3 (sy_my 3 217 28) prog_4_method_31_code 3 (some .int) sy_c163 sy_bs163 0 77 = true := by decide +kernel
theorem sy_o164_0 : sy_okM 10 (sy_my 10 218 30) prog_11_method_5_code 3 (some .boolean) sy_c164 sy_bs164 0 31 = true := by decide +kernel
theorem sy_o165_0 : sy_okM 4 (sy_my 4 219 220) prog_5_method_9_code 4 (some .boolean) sy_c165 sy_bs165 0 27 = true := by decide +kernel
theorem sy_o166_0 : sy_okM 4 (sy_my 4 221 222) prog_5_method_21_code 5 (some .boolean) sy_c166 sy_bs166 0 80 = true := by decide +kernel
theorem sy_o166_80 : sy_okM 4 (sy_my 4 221 222) prog_5_method_21_code 5 (some .boolean) sy_c166 sy_bs166 80 45 = true := by decide +kernel
theorem sy_o167_0 : sy_okM 4 (sy_my 4 223 224) prog_5_method_5_code 2 none sy_c167 sy_bs167 0 15 = true := by decide +kernel
theorem sy_o168_0 : sy_okM 4 (sy_my 4 225 226) prog_5_method_20_code 5 (some .boolean) sy_c168 sy_bs168 0 80 = true := by decide +kernel
theorem sy_o168_80 : sy_okM 4 (sy_my 4 225 226) prog_5_method_20_code 5 (some .boolean) sy_c168 sy_bs168 80 21 = true := by decide +kernel
theorem sy_o169_0 : sy_okM 4 (sy_my 4 227 106) prog_5_method_22_code 1 none sy_c169 sy_bs169 0 9 = true := by decide +kernel
theorem sy_o170_0 : sy_okM 4 (sy_my 4 228 229) prog_5_method_13_code 4 none sy_c170 sy_bs170 0 79 = true := by decide +kernel
theorem sy_o171_0 : sy_okM 4 (sy_my 4 230 231) prog_5_method_18_code 6 none sy_c171 sy_bs171 0 76 = true := by decide +kernel
theorem sy_o172_0 : sy_okM 10 (sy_my 10 232 233) prog_11_method_4_code 5 (some .boolean) sy_c172 sy_bs172 0 80 = true := by decide +kernel
theorem sy_o172_80 : sy_okM 10 (sy_my 10 232 233) prog_11_method_4_code 5 (some .boolean) sy_c172 sy_bs172 80 2 = true := by decide +kernel
theorem sy_o173_0 : sy_okM 3 (sy_my 3 234 59) prog_4_method_28_code 5 (some .int) sy_c173 sy_bs173 0 78 = true := by decide +kernel
theorem sy_o174_0 : sy_okM 1 (sy_my 1 235 41) prog_2_method_12_code 2 none sy_c174 sy_bs174 0 13 = true := by decide +kernel
theorem sy_o175_0 : sy_okM 3 (sy_my 3 236 20) prog_4_method_3_code 3 (some .boolean) sy_c175 sy_bs175 0 48 = true := by decide +kernel
theorem sy_o176_0 : sy_okM 3 (sy_my 3 237 238) prog_4_method_2_code 7 (some .int) sy_c176 sy_bs176 0 80 = true := by decide +kernel
theorem sy_o176_80 : sy_okM 3 (sy_my 3 237 238) prog_4_method_2_code 7 (some .int) sy_c176 sy_bs176 80 80 = true := by decide +kernel
theorem sy_o176_160 : sy_okM 3 (sy_my 3 237 238) prog_4_method_2_code 7 (some .int) sy_c176 sy_bs176 160 12 = true := by decide +kernel
theorem sy_o177_0 : sy_okM 8 (sy_my 8 239 240) prog_9_method_8_code 4 (some .boolean) sy_c177 sy_bs177 0 55 = true := by decide +kernel
theorem sy_o178_0 : sy_okM 5 (sy_my 5 15 75) prog_6_method_6_code 3 none sy_c178 sy_bs178 0 37 = true := by decide +kernel
theorem sy_o179_0 : sy_okM 8 (sy_my 8 65 241) prog_9_method_9_code 4 none sy_c179 sy_bs179 0 65 = true := by decide +kernel
theorem sy_o180_0 : sy_okM 6 (sy_my 6 242 28) prog_7_method_17_code 2 (some .int) sy_c180 sy_bs180 0 42 = true := by decide +kernel
theorem sy_o181_0 : sy_okM 0 (sy_my 0 243 134) prog_1_method_10_code 7 (some .int) sy_c181 sy_bs181 0 39 = true := by decide +kernel
theorem sy_o182_0 : sy_okM 0 (sy_my 0 244 28) prog_1_method_11_code 2 (some .int) sy_c182 sy_bs182 0 16 = true := by decide +kernel
theorem sy_o183_0 : sy_okM 0 (sy_my 0 245 28) prog_1_method_12_code 2 (some .int) sy_c183 sy_bs183 0 20 = true := by decide +kernel
theorem sy_o184_0 : sy_okM 0 (sy_my 0 246 20) prog_1_method_13_code 2 (some .boolean) sy_c184 sy_bs184 0 26 = true := by decide +kernel
theorem sy_o185_0 : sy_okM 0 (sy_my 0 247 20) prog_1_method_14_code 2 (some .boolean) sy_c185 sy_bs185 0 14 = true := by decide +kernel
theorem sy_o186_0 : sy_okM 0 (sy_my 0 248 32) prog_1_method_20_code 5 (some .boolean) sy_c186 sy_bs186 0 79 = true := by decide +kernel
theorem sy_o187_0 : sy_okM 0 (sy_my 0 144 45) prog_1_method_21_code 6 none sy_c187 sy_bs187 0 47 = true := by decide +kernel
theorem sy_o188_0 : sy_okM 0 (sy_my 0 249 51) prog_1_method_19_code 6 (some .boolean) sy_c188 sy_bs188 0 80 = true := by decide +kernel
theorem sy_o188_80 : sy_okM 0 (sy_my 0 249 51) prog_1_method_19_code 6 (some .boolean) sy_c188 sy_bs188 80 51 = true := by decide +kernel
theorem sy_o189_0 : sy_okM 0 (sy_my 0 250 28) prog_1_method_15_code 6 (some .int) sy_c189 sy_bs189 0 80 = true := by decide +kernel
theorem sy_o189_80 : sy_okM 0 (sy_my 0 250 28) prog_1_method_15_code 6 (some .int) sy_c189 sy_bs189 80 76 = true := by decide +kernel
theorem sy_o190_0 : sy_okM 0 (sy_my 0 251 28) prog_1_method_16_code 2 (some .int) sy_c190 sy_bs190 0 27 = true := by decide +kernel
theorem sy_o191_0 : sy_okM 11 (sy_my 11 252 41) prog_12_method_4_code 2 none sy_c191 sy_bs191 0 21 = true := by decide +kernel
theorem sy_o192_0 : sy_okM 11 (sy_my 11 253 79) prog_12_method_2_code 4 (some .int) sy_c192 sy_bs192 0 28 = true := by decide +kernel
theorem sy_o193_0 : sy_okM 0 (sy_my 0 254 79) prog_1_method_17_code 4 (some .int) sy_c193 sy_bs193 0 22 = true := by decide +kernel
theorem sy_o194_0 : sy_okM 11 (sy_my 11 255 41) prog_12_method_3_code 2 none sy_c194 sy_bs194 0 16 = true := by decide +kernel
theorem sy_o195_0 : sy_okM 0 (sy_my 0 256 20) prog_1_method_18_code 2 (some .boolean) sy_c195 sy_bs195 0 13 = true := by decide +kernel
