/-! The methods looked at (6). Written by a program (wip/tools/gen431.py). -/
theorem sy_o299_160 : sy_okM 12 (sy_my 12 341 342) prog_14_method_110_code 9 (some .int) sy_c299 sy_bs299 160 31 = true := by decide +kernel
theorem sy_o300_0 : sy_okM 12 (sy_my 12 128 34) prog_14_method_41_code 5 none sy_c300 sy_bs300 0 80 = true := by decide +kernel
theorem sy_o300_80 : sy_okM 12 (sy_my 12 128 34) prog_14_method_41_code 5 none sy_c300 sy_bs300 80 80 = true := by decide +kernel
theorem sy_o300_160 : sy_okM 12 (sy_my 12 128 34) prog_14_method_41_code 5 none sy_c300 sy_bs300 160 21 = true := by decide +kernel
theorem sy_o301_0 : sy_okM 12 (sy_my 12 129 34) prog_14_method_42_code 2 none sy_c301 sy_bs301 0 21 = true := by decide +kernel
theorem sy_o302_0 : sy_okM 12 (sy_my 12 131 41) prog_14_method_43_code 4 none sy_c302 sy_bs302 0 80 = true := by decide +kernel
theorem sy_o302_80 : sy_okM 12 (sy_my 12 131 41) prog_14_method_43_code 4 none sy_c302 sy_bs302 80 80 = true := by decide +kernel
theorem sy_o302_160 : sy_okM 12 (sy_my 12 131 41) prog_14_method_43_code 4 none sy_c302 sy_bs302 160 36 = true := by decide +kernel
theorem sy_o303_0 : sy_okM 12 (sy_my 12 343 63) prog_14_method_111_code 7 (some .int) sy_c303 sy_bs303 0 76 = true := by decide +kernel
theorem sy_o304_0 : sy_okM 12 (sy_my 12 218 287) prog_14_method_46_code 4 (some .boolean) sy_c304 sy_bs304 0 36 = true := by decide +kernel
theorem sy_o305_0 : sy_okM 12 (sy_my 12 344 287) prog_14_method_45_code 3 (some .boolean) sy_c305 sy_bs305 0 37 = true := by decide +kernel
theorem sy_o306_0 : sy_okM 12 (sy_my 12 345 51) prog_14_method_32_code 4 (some .boolean) sy_c306 sy_bs306 0 24 = true := by decide +kernel
theorem sy_o307_0 : sy_okM 12 (sy_my 12 346 287) prog_14_method_44_code 6 (some .boolean) sy_c307 sy_bs307 0 80 = true := by decide +kernel
theorem sy_o307_80 : sy_okM 12 (sy_my 12 346 287) prog_14_method_44_code 6 (some .boolean) sy_c307 sy_bs307 80 80 = true := by decide +kernel
theorem sy_o307_160 : sy_okM 12 (sy_my 12 346 287) prog_14_method_44_code 6 (some .boolean) sy_c307 sy_bs307 160 49 = true := by decide +kernel
theorem sy_o308_0 : sy_okM 12 (sy_my 12 234 20) prog_14_method_47_code 3 (some .boolean) sy_c308 sy_bs308 0 80 = true := by decide +kernel
theorem sy_o308_80 : sy_okM 12 (sy_my 12 234 20) prog_14_method_47_code 3 (some .boolean) sy_c308 sy_bs308 80 51 = true := by decide +kernel
theorem sy_o309_0 : sy_okM 12 (sy_my 12 232 63) prog_14_method_112_code 8 (some .int) sy_c309 sy_bs309 0 80 = true := by decide +kernel
theorem sy_o309_80 : sy_okM 12 (sy_my 12 232 63) prog_14_method_112_code 8 (some .int) sy_c309 sy_bs309 80 14 = true := by decide +kernel
theorem sy_o310_0 : sy_okM 12 (sy_my 12 347 348) prog_14_method_128_code 10 (some .int) sy_c310 sy_bs310 0 80 = true := by decide +kernel
theorem sy_o310_80 : sy_okM 12 (sy_my 12 347 348) prog_14_method_128_code 10 (some .int) sy_c310 sy_bs310 80 25 = true := by decide +kernel
theorem sy_o311_0 : sy_okM 12 (sy_my 12 349 63) prog_14_method_129_code 10 (some .int) sy_c311 sy_bs311 0 80 = true := by decide +kernel
theorem sy_o311_80 : sy_okM 12 (sy_my 12 349 63) prog_14_method_129_code 10 (some .int) sy_c311 sy_bs311 80 11 = true := by decide +kernel
theorem sy_o312_0 : sy_okM 12 (sy_my 12 350 34) prog_14_method_145_code 4 none sy_c312 sy_bs312 0 53 = true := by decide +kernel
theorem sy_o313_0 : sy_okM 12 (sy_my 12 351 41) prog_14_method_146_code 3 none sy_c313 sy_bs313 0 26 = true := by decide +kernel
theorem sy_o314_0 : sy_okM 12 (sy_my 12 352 28) prog_14_method_147_code 5 (some .int) sy_c314 sy_bs314 0 53 = true := by decide +kernel
theorem sy_o315_0 : sy_okM 12 (sy_my 12 353 20) prog_14_method_149_code 3 (some .boolean) sy_c315 sy_bs315 0 21 = true := by decide +kernel
theorem sy_o316_0 : sy_okM 12 (sy_my 12 354 355) prog_14_method_150_code 9 (some .boolean) sy_c316 sy_bs316 0 80 = true := by decide +kernel
theorem sy_o316_80 : sy_okM 12 (sy_my 12 354 355) prog_14_method_150_code 9 (some .boolean) sy_c316 sy_bs316 80 80 = true := by decide +kernel
theorem sy_o316_160 : sy_okM 12 (sy_my 12 354 355) prog_14_method_150_code 9 (some .boolean) sy_c316 sy_bs316 160 80 = true := by decide +kernel
theorem sy_o316_240 : sy_okM 12 (sy_my 12 354 355) prog_14_method_150_code 9 (some .boolean) sy_c316 sy_bs316 240 53 = true := by decide +kernel
theorem sy_o317_0 : sy_okM 12 (sy_my 12 356 63) prog_14_method_148_code 10 (some .int) sy_c317 sy_bs317 0 80 = true := by decide +kernel
theorem sy_o317_80 : sy_okM 12 (sy_my 12 356 63) prog_14_method_148_code 10 (some .int) sy_c317 sy_bs317 80 80 = true := by decide +kernel
theorem sy_o317_160 : sy_okM 12 (sy_my 12 356 63) prog_14_method_148_code 10 (some .int) sy_c317 sy_bs317 160 13 = true := by decide +kernel
theorem sy_o318_0 : sy_okM 12 (sy_my 12 194 75) prog_14_method_107_code 6 none sy_c318 sy_bs318 0 34 = true := by decide +kernel
theorem sy_o319_0 : sy_okM 12 (sy_my 12 357 34) prog_14_method_108_code 11 none sy_c319 sy_bs319 0 80 = true := by decide +kernel
theorem sy_o319_80 : sy_okM 12 (sy_my 12 357 34) prog_14_method_108_code 11 none sy_c319 sy_bs319 80 80 = true := by decide +kernel
theorem sy_o319_160 : sy_okM 12 (sy_my 12 357 34) prog_14_method_108_code 11 none sy_c319 sy_bs319 160 79 = true := by decide +kernel
theorem sy_o320_0 : sy_okM 12 (sy_my 12 358 63) prog_14_method_106_code 7 (some .int) sy_c320 sy_bs320 0 80 = true := by decide +kernel
theorem sy_o320_80 : sy_okM 12 (sy_my 12 358 63) prog_14_method_106_code 7 (some .int) sy_c320 sy_bs320 80 28 = true := by decide +kernel
theorem sy_o321_0 : sy_okM 12 (sy_my 12 359 79) prog_14_method_105_code 9 (some .int) sy_c321 sy_bs321 0 80 = true := by decide +kernel
theorem sy_o321_80 : sy_okM 12 (sy_my 12 359 79) prog_14_method_105_code 9 (some .int) sy_c321 sy_bs321 80 80 = true := by decide +kernel
theorem sy_o321_160 : sy_okM 12 (sy_my 12 359 79) prog_14_method_105_code 9 (some .int) sy_c321 sy_bs321 160 80 = true := by decide +kernel
theorem sy_o321_240 : sy_okM 12 (sy_my 12 359 79) prog_14_method_105_code 9 (some .int) sy_c321 sy_bs321 240 15 = true := by decide +kernel
theorem sy_o322_0 : sy_okM 12 (sy_my 12 360 16) prog_14_method_78_code 5 none sy_c322 sy_bs322 0 21 = true := by decide +kernel
theorem sy_o323_0 : sy_okM 12 (sy_my 12 199 63) prog_14_method_103_code 7 (some .int) sy_c323 sy_bs323 0 80 = true := by decide +kernel
theorem sy_o323_80 : sy_okM 12 (sy_my 12 199 63) prog_14_method_103_code 7 (some .int) sy_c323 sy_bs323 80 14 = true := by decide +kernel
theorem sy_o324_0 : sy_okM 12 (sy_my 12 133 63) prog_14_method_104_code 6 (some .int) sy_c324 sy_bs324 0 80 = true := by decide +kernel
theorem sy_o324_80 : sy_okM 12 (sy_my 12 133 63) prog_14_method_104_code 6 (some .int) sy_c324 sy_bs324 80 1 = true := by decide +kernel
theorem sy_o325_0 : sy_okM 12 (sy_my 12 361 79) prog_14_method_100_code 11 (some .int) sy_c325 sy_bs325 0 80 = true := by decide +kernel
