/-! The methods looked at, instruction by instruction (4). Written by a program (wip/tools/gen42.py). -/
theorem ct_m12_1080 : ev_okM ct_gc ct_all ct_kt ct_pg ⟨"TrustedMachineModel", "<init>", "()V"⟩ prog_14_method_1_code 2 none ct_c12 1080 60 = true := by decide +kernel
theorem ct_m12_1140 : ev_okM ct_gc ct_all ct_kt ct_pg ⟨"TrustedMachineModel", "<init>", "()V"⟩ prog_14_method_1_code 2 none ct_c12 1140 37 = true := by decide +kernel
theorem ct_m13_0 : ev_okM ct_gc ct_all ct_kt ct_pg ⟨"TrustedMachine", "feed", "(IIIII)Z"⟩ prog_1_method_2_code 6 (some .boolean) ct_c13 0 52 = true := by decide +kernel
theorem ct_m14_0 : ev_okM ct_gc ct_all ct_kt ct_pg ⟨"TrustedMachine", "end", "(I)Z"⟩ prog_1_method_3_code 2 (some .boolean) ct_c14 0 13 = true := by decide +kernel
theorem ct_m15_0 : ev_okM ct_gc ct_all ct_kt ct_pg ⟨"TrustedMachine", "burn", "(I)I"⟩ prog_1_method_4_code 3 (some .int) ct_c15 0 49 = true := by decide +kernel
theorem ct_m16_0 : ev_okM ct_gc ct_all ct_kt ct_pg ⟨"TrustedMachine", "key", "()Z"⟩ prog_1_method_5_code 1 (some .boolean) ct_c16 0 23 = true := by decide +kernel
theorem ct_m17_0 : ev_okM ct_gc ct_all ct_kt ct_pg ⟨"TrustedMachine", "product", "(III)Z"⟩ prog_1_method_6_code 4 (some .boolean) ct_c17 0 43 = true := by decide +kernel
theorem ct_m18_0 : ev_okM ct_gc ct_all ct_kt ct_pg ⟨"TrustedMachine", "boot", "()Z"⟩ prog_1_method_7_code 1 (some .boolean) ct_c18 0 35 = true := by decide +kernel
theorem ct_m19_0 : ev_okM ct_gc ct_all ct_kt ct_pg ⟨"TrustedMachine", "power", "(I)V"⟩ prog_1_method_8_code 2 none ct_c19 0 9 = true := by decide +kernel
theorem ct_m20_0 : ev_okM ct_gc ct_all ct_kt ct_pg ⟨"TrustedMachine", "isDown", "()Z"⟩ prog_1_method_9_code 1 (some .boolean) ct_c20 0 4 = true := by decide +kernel
theorem ct_m21_0 : ev_okM ct_gc ct_all ct_kt ct_pg ⟨"TrustedMachine", "call", "(IIII)I"⟩ prog_1_method_10_code 7 (some .int) ct_c21 0 39 = true := by decide +kernel
theorem ct_m22_0 : ev_okM ct_gc ct_all ct_kt ct_pg ⟨"TrustedMachine", "result", "(I)I"⟩ prog_1_method_11_code 2 (some .int) ct_c22 0 16 = true := by decide +kernel
theorem ct_m23_0 : ev_okM ct_gc ct_all ct_kt ct_pg ⟨"TrustedMachine", "load", "(I)I"⟩ prog_1_method_12_code 2 (some .int) ct_c23 0 20 = true := by decide +kernel
theorem ct_m24_0 : ev_okM ct_gc ct_all ct_kt ct_pg ⟨"TrustedMachine", "store", "(I)Z"⟩ prog_1_method_13_code 2 (some .boolean) ct_c24 0 26 = true := by decide +kernel
theorem ct_m25_0 : ev_okM ct_gc ct_all ct_kt ct_pg ⟨"TrustedMachine", "go", "(I)Z"⟩ prog_1_method_14_code 2 (some .boolean) ct_c25 0 14 = true := by decide +kernel
theorem ct_m26_0 : ev_okM ct_gc ct_all ct_kt ct_pg ⟨"TrustedMachine", "walk", "(I)I"⟩ prog_1_method_15_code 6 (some .int) ct_c26 0 60 = true := by decide +kernel
theorem ct_m26_60 : ev_okM ct_gc ct_all ct_kt ct_pg ⟨"TrustedMachine", "walk", "(I)I"⟩ prog_1_method_15_code 6 (some .int) ct_c26 60 60 = true := by decide +kernel
