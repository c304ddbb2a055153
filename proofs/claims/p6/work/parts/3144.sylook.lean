/-! The methods looked at (4). Written by a program (wip/tools/gen431.py). -/
theorem sy_o196_0 : sy_okM 12 (sy_my 12 17 18) prog_14_method_3_code 8 (some .boolean) sy_c196 sy_bs196 0 63 = true := by decide +kernel
theorem sy_o197_0 : sy_okM 12 (sy_my 12 19 20) prog_14_method_4_code 2 (some .boolean) sy_c197 sy_bs197 0 16 = true := by decide +kernel
theorem sy_o198_0 : sy_okM 12 (sy_my 12 257 258) prog_14_method_13_code 5 (some .int) sy_c198 sy_bs198 0 39 = true := by decide +kernel
theorem sy_o199_0 : sy_okM 12 (sy_my 12 259 63) prog_14_method_12_code 2 (some .int) sy_c199 sy_bs199 0 10 = true := by decide +kernel
theorem sy_o200_0 : sy_okM 12 (sy_my 12 260 34) prog_14_method_15_code 12 none sy_c200 sy_bs200 0 80 = true := by decide +kernel
theorem sy_o200_80 : sy_okM 12 (sy_my 12 260 34) prog_14_method_15_code 12 none sy_c200 sy_bs200 80 80 = true := by decide +kernel
theorem sy_o200_160 : sy_okM 12 (sy_my 12 260 34) prog_14_method_15_code 12 none sy_c200 sy_bs200 160 30 = true := by decide +kernel
theorem sy_o201_0 : sy_okM 12 (sy_my 12 261 16) prog_14_method_14_code 9 none sy_c201 sy_bs201 0 80 = true := by decide +kernel
theorem sy_o201_80 : sy_okM 12 (sy_my 12 261 16) prog_14_method_14_code 9 none sy_c201 sy_bs201 80 80 = true := by decide +kernel
theorem sy_o201_160 : sy_okM 12 (sy_my 12 261 16) prog_14_method_14_code 9 none sy_c201 sy_bs201 160 1 = true := by decide +kernel
theorem sy_o202_0 : sy_okM 12 (sy_my 12 27 28) prog_14_method_5_code 3 (some .int) sy_c202 sy_bs202 0 61 = true := by decide +kernel
theorem sy_o203_0 : sy_okM 12 (sy_my 12 29 30) prog_14_method_6_code 2 (some .boolean) sy_c203 sy_bs203 0 32 = true := by decide +kernel
theorem sy_o204_0 : sy_okM 12 (sy_my 12 31 32) prog_14_method_7_code 4 (some .boolean) sy_c204 sy_bs204 0 36 = true := by decide +kernel
theorem sy_o205_0 : sy_okM 12 (sy_my 12 262 263) prog_14_method_24_code 8 none sy_c205 sy_bs205 0 80 = true := by decide +kernel
theorem sy_o205_80 : sy_okM 12 (sy_my 12 262 263) prog_14_method_24_code 8 none sy_c205 sy_bs205 80 33 = true := by decide +kernel
theorem sy_o206_0 : sy_okM 12 (sy_my 12 264 265) prog_14_method_21_code 3 (some .long) sy_c206 sy_bs206 0 10 = true := by decide +kernel
theorem sy_o207_0 : sy_okM 12 (sy_my 12 266 34) prog_14_method_23_code 22 none sy_c207 sy_bs207 0 80 = true := by decide +kernel
theorem sy_o207_80 : sy_okM 12 (sy_my 12 266 34) prog_14_method_23_code 22 none sy_c207 sy_bs207 80 80 = true := by decide +kernel
theorem sy_o207_160 : sy_okM 12 (sy_my 12 266 34) prog_14_method_23_code 22 none sy_c207 sy_bs207 160 30 = true := by decide +kernel
theorem sy_o208_0 : sy_okM 12 (sy_my 12 267 22) prog_14_method_22_code 11 none sy_c208 sy_bs208 0 80 = true := by decide +kernel
theorem sy_o208_80 : sy_okM 12 (sy_my 12 267 22) prog_14_method_22_code 11 none sy_c208 sy_bs208 80 80 = true := by decide +kernel
theorem sy_o208_160 : sy_okM 12 (sy_my 12 267 22) prog_14_method_22_code 11 none sy_c208 sy_bs208 160 37 = true := by decide +kernel
theorem sy_o209_0 : sy_okM 12 (sy_my 12 268 75) prog_14_method_25_code 4 none sy_c209 sy_bs209 0 20 = true := by decide +kernel
theorem sy_o210_0 : sy_okM 12 (sy_my 12 269 270) prog_14_method_26_code 5 none sy_c210 sy_bs210 0 19 = true := by decide +kernel
theorem sy_o211_0 : sy_okM 12 (sy_my 12 271 41) prog_14_method_27_code 5 none sy_c211 sy_bs211 0 69 = true := by decide +kernel
theorem sy_o212_0 : sy_okM 12 (sy_my 12 230 45) prog_14_method_30_code 6 none sy_c212 sy_bs212 0 80 = true := by decide +kernel
theorem sy_o212_80 : sy_okM 12 (sy_my 12 230 45) prog_14_method_30_code 6 none sy_c212 sy_bs212 80 14 = true := by decide +kernel
theorem sy_o213_0 : sy_okM 12 (sy_my 12 272 41) prog_14_method_38_code 2 none sy_c213 sy_bs213 0 24 = true := by decide +kernel
theorem sy_o214_0 : sy_okM 12 (sy_my 12 273 41) prog_14_method_36_code 2 none sy_c214 sy_bs214 0 23 = true := by decide +kernel
theorem sy_o215_0 : sy_okM 12 (sy_my 12 274 45) prog_14_method_29_code 5 none sy_c215 sy_bs215 0 27 = true := by decide +kernel
theorem sy_o216_0 : sy_okM 12 (sy_my 12 275 45) prog_14_method_28_code 5 none sy_c216 sy_bs216 0 27 = true := by decide +kernel
theorem sy_o217_0 : sy_okM 12 (sy_my 12 276 75) prog_14_method_35_code 3 none sy_c217 sy_bs217 0 80 = true := by decide +kernel
theorem sy_o217_80 : sy_okM 12 (sy_my 12 276 75) prog_14_method_35_code 3 none sy_c217 sy_bs217 80 33 = true := by decide +kernel
theorem sy_o218_0 : sy_okM 12 (sy_my 12 277 278) prog_14_method_37_code 7 none sy_c218 sy_bs218 0 52 = true := by decide +kernel
theorem sy_o219_0 : sy_okM 12 (sy_my 12 40 279) prog_14_method_34_code 5 none sy_c219 sy_bs219 0 41 = true := by decide +kernel
theorem sy_o220_0 : sy_okM 12 (sy_my 12 121 41) prog_14_method_31_code 4 none sy_c220 sy_bs220 0 80 = true := by decide +kernel
theorem sy_o220_80 : sy_okM 12 (sy_my 12 121 41) prog_14_method_31_code 4 none sy_c220 sy_bs220 80 80 = true := by decide +kernel
theorem sy_o220_160 : sy_okM 12 (sy_my 12 121 41) prog_14_method_31_code 4 none sy_c220 sy_bs220 160 4 = true := by decide +kernel
theorem sy_o221_0 : sy_okM 12 (sy_my 12 280 20) prog_14_method_33_code 2 (some .boolean) sy_c221 sy_bs221 0 15 = true := by decide +kernel
theorem sy_o222_0 : sy_okM 12 (sy_my 12 281 41) prog_14_method_39_code 4 none sy_c222 sy_bs222 0 57 = true := by decide +kernel
theorem sy_o223_0 : sy_okM 12 (sy_my 12 282 34) prog_14_method_40_code 2 none sy_c223 sy_bs223 0 80 = true := by decide +kernel
theorem sy_o223_80 : sy_okM 12 (sy_my 12 282 34) prog_14_method_40_code 2 none sy_c223 sy_bs223 80 21 = true := by decide +kernel
theorem sy_o224_0 : sy_okM 12 (sy_my 12 39 30) prog_14_method_8_code 2 (some .boolean) sy_c224 sy_bs224 0 80 = true := by decide +kernel
theorem sy_o224_80 : sy_okM 12 (sy_my 12 39 30) prog_14_method_8_code 2 (some .boolean) sy_c224 sy_bs224 80 45 = true := by decide +kernel
theorem sy_o225_0 : sy_okM 12 (sy_my 12 40 41) prog_14_method_10_code 2 none sy_c225 sy_bs225 0 12 = true := by decide +kernel
theorem sy_o226_0 : sy_okM 12 (sy_my 12 42 30) prog_14_method_11_code 1 (some .boolean) sy_c226 sy_bs226 0 10 = true := by decide +kernel
theorem sy_o227_0 : sy_okM 12 (sy_my 12 283 284) prog_14_method_57_code 5 (some .boolean) sy_c227 sy_bs227 0 49 = true := by decide +kernel
theorem sy_o228_0 : sy_okM 12 (sy_my 12 245 28) prog_14_method_58_code 2 (some .int) sy_c228 sy_bs228 0 20 = true := by decide +kernel
theorem sy_o229_0 : sy_okM 12 (sy_my 12 246 20) prog_14_method_59_code 3 (some .boolean) sy_c229 sy_bs229 0 38 = true := by decide +kernel
theorem sy_o230_0 : sy_okM 12 (sy_my 12 254 79) prog_14_method_60_code 4 (some .int) sy_c230 sy_bs230 0 46 = true := by decide +kernel
theorem sy_o231_0 : sy_okM 12 (sy_my 12 256 20) prog_14_method_61_code 3 (some .boolean) sy_c231 sy_bs231 0 35 = true := by decide +kernel
theorem sy_o232_0 : sy_okM 12 (sy_my 12 244 28) prog_14_method_62_code 2 (some .int) sy_c232 sy_bs232 0 21 = true := by decide +kernel
theorem sy_o233_0 : sy_okM 12 (sy_my 12 285 41) prog_14_method_66_code 3 none sy_c233 sy_bs233 0 22 = true := by decide +kernel
theorem sy_o234_0 : sy_okM 12 (sy_my 12 286 287) prog_14_method_16_code 4 (some .boolean) sy_c234 sy_bs234 0 21 = true := by decide +kernel
theorem sy_o235_0 : sy_okM 12 (sy_my 12 288 59) prog_14_method_70_code 3 (some .int) sy_c235 sy_bs235 0 27 = true := by decide +kernel
theorem sy_o236_0 : sy_okM 12 (sy_my 12 289 59) prog_14_method_69_code 2 (some .int) sy_c236 sy_bs236 0 21 = true := by decide +kernel
theorem sy_o237_0 : sy_okM 12 (sy_my 12 151 41) prog_14_method_71_code 3 none sy_c237 sy_bs237 0 29 = true := by decide +kernel
theorem sy_o238_0 : sy_okM 12 (sy_my 12 290 63) prog_14_method_72_code 8 (some .int) sy_c238 sy_bs238 0 80 = true := by decide +kernel
theorem sy_o238_80 : sy_okM 12 (sy_my 12 290 63) prog_14_method_72_code 8 (some .int) sy_c238 sy_bs238 80 80 = true := by decide +kernel
theorem sy_o238_160 : sy_okM 12 (sy_my 12 290 63) prog_14_method_72_code 8 (some .int) sy_c238 sy_bs238 160 80 = true := by decide +kernel
theorem sy_o238_240 : sy_okM 12 (sy_my 12 290 63) prog_14_method_72_code 8 (some .int) sy_c238 sy_bs238 240 8 = true := by decide +kernel
theorem sy_o239_0 : sy_okM 12 (sy_my 12 64 20) prog_14_method_67_code 2 (some .boolean) sy_c239 sy_bs239 0 14 = true := by decide +kernel
theorem sy_o240_0 : sy_okM 12 (sy_my 12 291 41) prog_14_method_73_code 3 none sy_c240 sy_bs240 0 38 = true := by decide +kernel
theorem sy_o241_0 : sy_okM 12 (sy_my 12 292 41) prog_14_method_74_code 2 none sy_c241 sy_bs241 0 9 = true := by decide +kernel
theorem sy_o242_0 : sy_okM 12 (sy_my 12 66 41) prog_14_method_75_code 3 none sy_c242 sy_bs242 0 52 = true := by decide +kernel
theorem sy_o243_0 : sy_okM 12 (sy_my 12 293 28) prog_14_method_76_code 3 (some .int) sy_c243 sy_bs243 0 53 = true := by decide +kernel
theorem sy_o244_0 : sy_okM 12 (sy_my 12 69 20) prog_14_method_68_code 2 (some .boolean) sy_c244 sy_bs244 0 14 = true := by decide +kernel
theorem sy_o245_0 : sy_okM 12 (sy_my 12 71 99) prog_14_method_54_code 2 (some .int) sy_c245 sy_bs245 0 36 = true := by decide +kernel
theorem sy_o246_0 : sy_okM 12 (sy_my 12 294 45) prog_14_method_81_code 5 none sy_c246 sy_bs246 0 42 = true := by decide +kernel
theorem sy_o247_0 : sy_okM 12 (sy_my 12 295 28) prog_14_method_85_code 2 (some .int) sy_c247 sy_bs247 0 9 = true := by decide +kernel
theorem sy_o248_0 : sy_okM 12 (sy_my 12 296 28) prog_14_method_97_code 1 (some .int) sy_c248 sy_bs248 0 47 = true := by decide +kernel
theorem sy_o249_0 : sy_okM 12 (sy_my 12 297 28) prog_14_method_98_code 1 (some .int) sy_c249 sy_bs249 0 51 = true := by decide +kernel
theorem sy_o250_0 : sy_okM 12 (sy_my 12 298 63) prog_14_method_86_code 4 (some .int) sy_c250 sy_bs250 0 20 = true := by decide +kernel
theorem sy_o251_0 : sy_okM 12 (sy_my 12 299 63) prog_14_method_99_code 5 (some .int) sy_c251 sy_bs251 0 77 = true := by decide +kernel
