/-! The methods looked at, instruction by instruction (6). Written by a program (wip/tools/gen42.py). -/
theorem ct_m13_0 : cf_okM ct_gc ct_all ct_kt ct_pg ⟨"TrustedMachine$Sha256", "putWord", "([BII)V"⟩ prog_10_method_3_code 3 none ct_c13 cf_bs13 0 33 = true := by decide +kernel
theorem ct_m14_0 : cf_okM ct_gc ct_all ct_kt ct_pg ⟨"TrustedMachine$Sha256", "digest", "([BIII[BI)V"⟩ prog_10_method_4_code 11 none ct_c14 cf_bs14 0 60 = true := by decide +kernel
theorem ct_m14_60 : cf_okM ct_gc ct_all ct_kt ct_pg ⟨"TrustedMachine$Sha256", "digest", "([BIII[BI)V"⟩ prog_10_method_4_code 11 none ct_c14 cf_bs14 60 39 = true := by decide +kernel
theorem ct_m15_0 : cf_okM ct_gc ct_all ct_kt ct_pg ⟨"TrustedMachine$Sha256", "compress", "([BI)V"⟩ prog_10_method_6_code 15 none ct_c15 cf_bs15 0 60 = true := by decide +kernel
theorem ct_m15_60 : cf_okM ct_gc ct_all ct_kt ct_pg ⟨"TrustedMachine$Sha256", "compress", "([BI)V"⟩ prog_10_method_6_code 15 none ct_c15 cf_bs15 60 60 = true := by decide +kernel
theorem ct_m15_120 : cf_okM ct_gc ct_all ct_kt ct_pg ⟨"TrustedMachine$Sha256", "compress", "([BI)V"⟩ prog_10_method_6_code 15 none ct_c15 cf_bs15 120 60 = true := by decide +kernel
theorem ct_m15_180 : cf_okM ct_gc ct_all ct_kt ct_pg ⟨"TrustedMachine$Sha256", "compress", "([BI)V"⟩ prog_10_method_6_code 15 none ct_c15 cf_bs15 180 60 = true := by decide +kernel
theorem ct_m15_240 : cf_okM ct_gc ct_all ct_kt ct_pg ⟨"TrustedMachine$Sha256", "compress", "([BI)V"⟩ prog_10_method_6_code 15 none ct_c15 cf_bs15 240 60 = true := by decide +kernel
theorem ct_m15_300 : cf_okM ct_gc ct_all ct_kt ct_pg ⟨"TrustedMachine$Sha256", "compress", "([BI)V"⟩ prog_10_method_6_code 15 none ct_c15 cf_bs15 300 35 = true := by decide +kernel
theorem ct_m16_0 : cf_okM ct_gc ct_all ct_kt ct_pg ⟨"TrustedMachineModel", "fraction", "(II)J"⟩ prog_14_method_17_code 4 (some .long) ct_c16 cf_bs16 0 60 = true := by decide +kernel
theorem ct_m16_60 : cf_okM ct_gc ct_all ct_kt ct_pg ⟨"TrustedMachineModel", "fraction", "(II)J"⟩ prog_14_method_17_code 4 (some .long) ct_c16 cf_bs16 60 19 = true := by decide +kernel
theorem ct_m17_0 : cf_okM ct_gc ct_all ct_kt ct_pg ⟨"TrustedMachineModel", "isAtMost", "(II)Z"⟩ prog_14_method_18_code 8 (some .boolean) ct_c17 cf_bs17 0 60 = true := by decide +kernel
theorem ct_m17_60 : cf_okM ct_gc ct_all ct_kt ct_pg ⟨"TrustedMachineModel", "isAtMost", "(II)Z"⟩ prog_14_method_18_code 8 (some .boolean) ct_c17 cf_bs17 60 60 = true := by decide +kernel
theorem ct_m17_120 : cf_okM ct_gc ct_all ct_kt ct_pg ⟨"TrustedMachineModel", "isAtMost", "(II)Z"⟩ prog_14_method_18_code 8 (some .boolean) ct_c17 cf_bs17 120 49 = true := by decide +kernel
theorem ct_m18_0 : cf_okM ct_gc ct_all ct_kt ct_pg ⟨"TrustedMachineModel", "isPrime", "(I)Z"⟩ prog_14_method_19_code 2 (some .boolean) ct_c18 cf_bs18 0 17 = true := by decide +kernel
theorem ct_m19_0 : cf_okM ct_gc ct_all ct_kt ct_pg ⟨"TrustedMachineModel", "constants", "()V"⟩ prog_14_method_20_code 3 none ct_c19 cf_bs19 0 35 = true := by decide +kernel
theorem ct_m20_0 : cf_okM ct_gc ct_all ct_kt ct_pg ⟨"java/util/Arrays", "fill", "([BB)V"⟩ prog_29_method_109_code 4 none ct_c20 cf_bs20 0 15 = true := by decide +kernel
theorem ct_m21_0 : cf_okM ct_gc ct_all ct_kt ct_pg ⟨"java/util/Arrays", "fill", "([II)V"⟩ prog_29_method_103_code 4 none ct_c21 cf_bs21 0 15 = true := by decide +kernel
