/-! The methods looked at (5). Written by a program (wip/tools/gen431.py). -/
theorem sy_o252_0 : sy_okM 12 (sy_my 12 300 75) prog_14_method_87_code 3 none sy_c252 sy_bs252 0 11 = true := by decide +kernel
theorem sy_o253_0 : sy_okM 12 (sy_my 12 235 75) prog_14_method_88_code 4 none sy_c253 sy_bs253 0 25 = true := by decide +kernel
theorem sy_o254_0 : sy_okM 12 (sy_my 12 150 63) prog_14_method_102_code 9 (some .int) sy_c254 sy_bs254 0 80 = true := by decide +kernel
theorem sy_o254_80 : sy_okM 12 (sy_my 12 150 63) prog_14_method_102_code 9 (some .int) sy_c254 sy_bs254 80 80 = true := by decide +kernel
theorem sy_o254_160 : sy_okM 12 (sy_my 12 150 63) prog_14_method_102_code 9 (some .int) sy_c254 sy_bs254 160 31 = true := by decide +kernel
theorem sy_o255_0 : sy_okM 12 (sy_my 12 145 301) prog_14_method_89_code 5 (some .boolean) sy_c255 sy_bs255 0 19 = true := by decide +kernel
theorem sy_o256_0 : sy_okM 12 (sy_my 12 302 63) prog_14_method_90_code 3 (some .int) sy_c256 sy_bs256 0 17 = true := by decide +kernel
theorem sy_o257_0 : sy_okM 12 (sy_my 12 303 63) prog_14_method_91_code 3 (some .int) sy_c257 sy_bs257 0 10 = true := by decide +kernel
theorem sy_o258_0 : sy_okM 12 (sy_my 12 304 28) prog_14_method_142_code 6 (some .int) sy_c258 sy_bs258 0 59 = true := by decide +kernel
theorem sy_o259_0 : sy_okM 12 (sy_my 12 165 305) prog_14_method_144_code 9 (some .int) sy_c259 sy_bs259 0 80 = true := by decide +kernel
theorem sy_o259_80 : sy_okM 12 (sy_my 12 165 305) prog_14_method_144_code 9 (some .int) sy_c259 sy_bs259 80 8 = true := by decide +kernel
theorem sy_o260_0 : sy_okM 12 (sy_my 12 306 45) prog_14_method_92_code 4 none sy_c260 sy_bs260 0 10 = true := by decide +kernel
theorem sy_o261_0 : sy_okM 12 (sy_my 12 307 63) prog_14_method_115_code 3 (some .int) sy_c261 sy_bs261 0 11 = true := by decide +kernel
theorem sy_o262_0 : sy_okM 12 (sy_my 12 219 32) prog_14_method_118_code 6 (some .boolean) sy_c262 sy_bs262 0 22 = true := by decide +kernel
theorem sy_o263_0 : sy_okM 12 (sy_my 12 82 20) prog_14_method_119_code 3 (some .boolean) sy_c263 sy_bs263 0 37 = true := by decide +kernel
theorem sy_o264_0 : sy_okM 12 (sy_my 12 86 28) prog_14_method_116_code 2 (some .int) sy_c264 sy_bs264 0 12 = true := by decide +kernel
theorem sy_o265_0 : sy_okM 12 (sy_my 12 308 28) prog_14_method_124_code 2 (some .int) sy_c265 sy_bs265 0 8 = true := by decide +kernel
theorem sy_o266_0 : sy_okM 12 (sy_my 12 83 20) prog_14_method_120_code 3 (some .boolean) sy_c266 sy_bs266 0 48 = true := by decide +kernel
theorem sy_o267_0 : sy_okM 12 (sy_my 12 309 85) prog_14_method_117_code 5 (some .boolean) sy_c267 sy_bs267 0 37 = true := by decide +kernel
theorem sy_o268_0 : sy_okM 12 (sy_my 12 310 311) prog_14_method_121_code 6 (some .boolean) sy_c268 sy_bs268 0 23 = true := by decide +kernel
theorem sy_o269_0 : sy_okM 12 (sy_my 12 174 51) prog_14_method_123_code 5 (some .boolean) sy_c269 sy_bs269 0 46 = true := by decide +kernel
theorem sy_o270_0 : sy_okM 12 (sy_my 12 158 28) prog_14_method_122_code 5 (some .int) sy_c270 sy_bs270 0 80 = true := by decide +kernel
theorem sy_o270_80 : sy_okM 12 (sy_my 12 158 28) prog_14_method_122_code 5 (some .int) sy_c270 sy_bs270 80 50 = true := by decide +kernel
theorem sy_o271_0 : sy_okM 12 (sy_my 12 312 313) prog_14_method_101_code 6 none sy_c271 sy_bs271 0 21 = true := by decide +kernel
theorem sy_o272_0 : sy_okM 12 (sy_my 12 314 41) prog_14_method_125_code 2 none sy_c272 sy_bs272 0 17 = true := by decide +kernel
theorem sy_o273_0 : sy_okM 12 (sy_my 12 89 28) prog_14_method_126_code 7 (some .int) sy_c273 sy_bs273 0 80 = true := by decide +kernel
theorem sy_o273_80 : sy_okM 12 (sy_my 12 89 28) prog_14_method_126_code 7 (some .int) sy_c273 sy_bs273 80 80 = true := by decide +kernel
theorem sy_o273_160 : sy_okM 12 (sy_my 12 89 28) prog_14_method_126_code 7 (some .int) sy_c273 sy_bs273 160 5 = true := by decide +kernel
theorem sy_o274_0 : sy_okM 12 (sy_my 12 178 313) prog_14_method_55_code 5 none sy_c274 sy_bs274 0 80 = true := by decide +kernel
theorem sy_o274_80 : sy_okM 12 (sy_my 12 178 313) prog_14_method_55_code 5 none sy_c274 sy_bs274 80 25 = true := by decide +kernel
theorem sy_o275_0 : sy_okM 12 (sy_my 12 315 22) prog_14_method_56_code 5 none sy_c275 sy_bs275 0 80 = true := by decide +kernel
theorem sy_o275_80 : sy_okM 12 (sy_my 12 315 22) prog_14_method_56_code 5 none sy_c275 sy_bs275 80 80 = true := by decide +kernel
theorem sy_o275_160 : sy_okM 12 (sy_my 12 315 22) prog_14_method_56_code 5 none sy_c275 sy_bs275 160 17 = true := by decide +kernel
theorem sy_o276_0 : sy_okM 12 (sy_my 12 316 317) prog_14_method_137_code 5 none sy_c276 sy_bs276 0 44 = true := by decide +kernel
theorem sy_o277_0 : sy_okM 12 (sy_my 12 318 34) prog_14_method_9_code 1 none sy_c277 sy_bs277 0 9 = true := by decide +kernel
theorem sy_o278_0 : sy_okM 12 (sy_my 12 319 30) prog_14_method_130_code 1 (some .boolean) sy_c278 sy_bs278 0 22 = true := by decide +kernel
theorem sy_o279_0 : sy_okM 12 (sy_my 12 320 30) prog_14_method_131_code 3 (some .boolean) sy_c279 sy_bs279 0 65 = true := by decide +kernel
theorem sy_o280_0 : sy_okM 12 (sy_my 12 321 85) prog_14_method_138_code 8 (some .boolean) sy_c280 sy_bs280 0 80 = true := by decide +kernel
theorem sy_o280_80 : sy_okM 12 (sy_my 12 321 85) prog_14_method_138_code 8 (some .boolean) sy_c280 sy_bs280 80 80 = true := by decide +kernel
theorem sy_o280_160 : sy_okM 12 (sy_my 12 321 85) prog_14_method_138_code 8 (some .boolean) sy_c280 sy_bs280 160 28 = true := by decide +kernel
theorem sy_o281_0 : sy_okM 12 (sy_my 12 322 34) prog_14_method_133_code 2 none sy_c281 sy_bs281 0 13 = true := by decide +kernel
theorem sy_o282_0 : sy_okM 12 (sy_my 12 323 41) prog_14_method_134_code 3 none sy_c282 sy_bs282 0 38 = true := by decide +kernel
theorem sy_o283_0 : sy_okM 12 (sy_my 12 324 325) prog_14_method_132_code 5 none sy_c283 sy_bs283 0 39 = true := by decide +kernel
theorem sy_o284_0 : sy_okM 12 (sy_my 12 326 327) prog_14_method_136_code 3 (some .boolean) sy_c284 sy_bs284 0 40 = true := by decide +kernel
theorem sy_o285_0 : sy_okM 12 (sy_my 12 328 63) prog_14_method_139_code 5 (some .int) sy_c285 sy_bs285 0 80 = true := by decide +kernel
theorem sy_o285_80 : sy_okM 12 (sy_my 12 328 63) prog_14_method_139_code 5 (some .int) sy_c285 sy_bs285 80 19 = true := by decide +kernel
theorem sy_o286_0 : sy_okM 12 (sy_my 12 329 79) prog_14_method_140_code 10 (some .int) sy_c286 sy_bs286 0 80 = true := by decide +kernel
theorem sy_o286_80 : sy_okM 12 (sy_my 12 329 79) prog_14_method_140_code 10 (some .int) sy_c286 sy_bs286 80 32 = true := by decide +kernel
theorem sy_o287_0 : sy_okM 12 (sy_my 12 330 30) prog_14_method_135_code 2 (some .boolean) sy_c287 sy_bs287 0 21 = true := by decide +kernel
theorem sy_o288_0 : sy_okM 12 (sy_my 12 331 59) prog_14_method_141_code 3 (some .int) sy_c288 sy_bs288 0 80 = true := by decide +kernel
theorem sy_o288_80 : sy_okM 12 (sy_my 12 331 59) prog_14_method_141_code 3 (some .int) sy_c288 sy_bs288 80 24 = true := by decide +kernel
theorem sy_o289_0 : sy_okM 12 (sy_my 12 332 134) prog_14_method_114_code 6 (some .int) sy_c289 sy_bs289 0 56 = true := by decide +kernel
theorem sy_o290_0 : sy_okM 12 (sy_my 12 333 334) prog_14_method_143_code 8 (some .int) sy_c290 sy_bs290 0 80 = true := by decide +kernel
theorem sy_o290_80 : sy_okM 12 (sy_my 12 333 334) prog_14_method_143_code 8 (some .int) sy_c290 sy_bs290 80 28 = true := by decide +kernel
theorem sy_o291_0 : sy_okM 12 (sy_my 12 335 79) prog_14_method_113_code 10 (some .int) sy_c291 sy_bs291 0 80 = true := by decide +kernel
theorem sy_o291_80 : sy_okM 12 (sy_my 12 335 79) prog_14_method_113_code 10 (some .int) sy_c291 sy_bs291 80 80 = true := by decide +kernel
theorem sy_o291_160 : sy_okM 12 (sy_my 12 335 79) prog_14_method_113_code 10 (some .int) sy_c291 sy_bs291 160 2 = true := by decide +kernel
theorem sy_o292_0 : sy_okM 12 (sy_my 12 336 63) prog_14_method_109_code 10 (some .int) sy_c292 sy_bs292 0 80 = true := by decide +kernel
theorem sy_o292_80 : sy_okM 12 (sy_my 12 336 63) prog_14_method_109_code 10 (some .int) sy_c292 sy_bs292 80 21 = true := by decide +kernel
theorem sy_o293_0 : sy_okM 12 (sy_my 12 337 41) prog_14_method_48_code 3 none sy_c293 sy_bs293 0 28 = true := by decide +kernel
theorem sy_o294_0 : sy_okM 12 (sy_my 12 338 41) prog_14_method_53_code 4 none sy_c294 sy_bs294 0 43 = true := by decide +kernel
theorem sy_o295_0 : sy_okM 12 (sy_my 12 339 334) prog_14_method_50_code 7 (some .int) sy_c295 sy_bs295 0 53 = true := by decide +kernel
theorem sy_o296_0 : sy_okM 12 (sy_my 12 107 34) prog_14_method_51_code 5 none sy_c296 sy_bs296 0 80 = true := by decide +kernel
theorem sy_o296_80 : sy_okM 12 (sy_my 12 107 34) prog_14_method_51_code 5 none sy_c296 sy_bs296 80 50 = true := by decide +kernel
theorem sy_o297_0 : sy_okM 12 (sy_my 12 242 34) prog_14_method_52_code 5 none sy_c297 sy_bs297 0 80 = true := by decide +kernel
theorem sy_o297_80 : sy_okM 12 (sy_my 12 242 34) prog_14_method_52_code 5 none sy_c297 sy_bs297 80 7 = true := by decide +kernel
theorem sy_o298_0 : sy_okM 12 (sy_my 12 340 75) prog_14_method_49_code 6 none sy_c298 sy_bs298 0 80 = true := by decide +kernel
theorem sy_o298_80 : sy_okM 12 (sy_my 12 340 75) prog_14_method_49_code 6 none sy_c298 sy_bs298 80 35 = true := by decide +kernel
theorem sy_o299_0 : sy_okM 12 (sy_my 12 341 342) prog_14_method_110_code 9 (some .int) sy_c299 sy_bs299 0 80 = true := by decide +kernel
theorem sy_o299_80 : sy_okM 12 (sy_my 12 341 342) prog_14_method_110_code 9 (some .int) sy_c299 sy_bs299 80 80 = true := by decide +kernel
