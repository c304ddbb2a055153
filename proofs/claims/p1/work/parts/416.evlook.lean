/-! The methods looked at, instruction by instruction (6). Written by a program (wip/tools/gen42.py). -/
theorem ct_m53_0 : ev_okM ct_gc ct_all ct_kt ct_pg ⟨"TrustedMachineModel", "sha", "([BII)V"⟩ prog_14_method_14_code 9 none ct_c53 0 60 = true := by decide +kernel
theorem ct_m53_60 : ev_okM ct_gc ct_all ct_kt ct_pg ⟨"TrustedMachineModel", "sha", "([BII)V"⟩ prog_14_method_14_code 9 none ct_c53 60 60 = true := by decide +kernel
theorem ct_m53_120 : ev_okM ct_gc ct_all ct_kt ct_pg ⟨"TrustedMachineModel", "sha", "([BII)V"⟩ prog_14_method_14_code 9 none ct_c53 120 41 = true := by decide +kernel
theorem ct_m54_0 : ev_okM ct_gc ct_all ct_kt ct_pg ⟨"TrustedMachineModel", "round", "()V"⟩ prog_14_method_15_code 12 none ct_c54 0 60 = true := by decide +kernel
theorem ct_m54_60 : ev_okM ct_gc ct_all ct_kt ct_pg ⟨"TrustedMachineModel", "round", "()V"⟩ prog_14_method_15_code 12 none ct_c54 60 60 = true := by decide +kernel
theorem ct_m54_120 : ev_okM ct_gc ct_all ct_kt ct_pg ⟨"TrustedMachineModel", "round", "()V"⟩ prog_14_method_15_code 12 none ct_c54 120 60 = true := by decide +kernel
theorem ct_m54_180 : ev_okM ct_gc ct_all ct_kt ct_pg ⟨"TrustedMachineModel", "round", "()V"⟩ prog_14_method_15_code 12 none ct_c54 180 10 = true := by decide +kernel
theorem ct_m55_0 : ev_okM ct_gc ct_all ct_kt ct_pg ⟨"TrustedMachineModel", "fraction", "(II)J"⟩ prog_14_method_17_code 4 (some .long) ct_c55 0 60 = true := by decide +kernel
theorem ct_m55_60 : ev_okM ct_gc ct_all ct_kt ct_pg ⟨"TrustedMachineModel", "fraction", "(II)J"⟩ prog_14_method_17_code 4 (some .long) ct_c55 60 19 = true := by decide +kernel
theorem ct_m56_0 : ev_okM ct_gc ct_all ct_kt ct_pg ⟨"TrustedMachineModel", "isAtMost", "(II)Z"⟩ prog_14_method_18_code 8 (some .boolean) ct_c56 0 60 = true := by decide +kernel
theorem ct_m56_60 : ev_okM ct_gc ct_all ct_kt ct_pg ⟨"TrustedMachineModel", "isAtMost", "(II)Z"⟩ prog_14_method_18_code 8 (some .boolean) ct_c56 60 60 = true := by decide +kernel
theorem ct_m56_120 : ev_okM ct_gc ct_all ct_kt ct_pg ⟨"TrustedMachineModel", "isAtMost", "(II)Z"⟩ prog_14_method_18_code 8 (some .boolean) ct_c56 120 49 = true := by decide +kernel
theorem ct_m57_0 : ev_okM ct_gc ct_all ct_kt ct_pg ⟨"TrustedMachineModel", "isPrime", "(I)Z"⟩ prog_14_method_19_code 2 (some .boolean) ct_c57 0 17 = true := by decide +kernel
theorem ct_m58_0 : ev_okM ct_gc ct_all ct_kt ct_pg ⟨"TrustedMachineModel", "constants", "()V"⟩ prog_14_method_20_code 3 none ct_c58 0 35 = true := by decide +kernel
theorem ct_m59_0 : ev_okM ct_gc ct_all ct_kt ct_pg ⟨"TrustedMachineModel", "turn5", "(JI)J"⟩ prog_14_method_21_code 3 (some .long) ct_c59 0 10 = true := by decide +kernel
theorem ct_m60_0 : ev_okM ct_gc ct_all ct_kt ct_pg ⟨"TrustedMachineModel", "sha5", "([BI)V"⟩ prog_14_method_22_code 11 none ct_c60 0 60 = true := by decide +kernel
theorem ct_m60_60 : ev_okM ct_gc ct_all ct_kt ct_pg ⟨"TrustedMachineModel", "sha5", "([BI)V"⟩ prog_14_method_22_code 11 none ct_c60 60 60 = true := by decide +kernel
theorem ct_m60_120 : ev_okM ct_gc ct_all ct_kt ct_pg ⟨"TrustedMachineModel", "sha5", "([BI)V"⟩ prog_14_method_22_code 11 none ct_c60 120 60 = true := by decide +kernel
theorem ct_m60_180 : ev_okM ct_gc ct_all ct_kt ct_pg ⟨"TrustedMachineModel", "sha5", "([BI)V"⟩ prog_14_method_22_code 11 none ct_c60 180 17 = true := by decide +kernel
theorem ct_m61_0 : ev_okM ct_gc ct_all ct_kt ct_pg ⟨"TrustedMachineModel", "round5", "()V"⟩ prog_14_method_23_code 22 none ct_c61 0 60 = true := by decide +kernel
theorem ct_m61_60 : ev_okM ct_gc ct_all ct_kt ct_pg ⟨"TrustedMachineModel", "round5", "()V"⟩ prog_14_method_23_code 22 none ct_c61 60 60 = true := by decide +kernel
theorem ct_m61_120 : ev_okM ct_gc ct_all ct_kt ct_pg ⟨"TrustedMachineModel", "round5", "()V"⟩ prog_14_method_23_code 22 none ct_c61 120 60 = true := by decide +kernel
theorem ct_m61_180 : ev_okM ct_gc ct_all ct_kt ct_pg ⟨"TrustedMachineModel", "round5", "()V"⟩ prog_14_method_23_code 22 none ct_c61 180 10 = true := by decide +kernel
theorem ct_m62_0 : ev_okM ct_gc ct_all ct_kt ct_pg ⟨"TrustedMachineModel", "hmac", "([BII[BII)V"⟩ prog_14_method_24_code 8 none ct_c62 0 60 = true := by decide +kernel
theorem ct_m62_60 : ev_okM ct_gc ct_all ct_kt ct_pg ⟨"TrustedMachineModel", "hmac", "([BII[BII)V"⟩ prog_14_method_24_code 8 none ct_c62 60 53 = true := by decide +kernel
theorem ct_m63_0 : ev_okM ct_gc ct_all ct_kt ct_pg ⟨"TrustedMachineModel", "copyGf", "(II)V"⟩ prog_14_method_25_code 4 none ct_c63 0 20 = true := by decide +kernel
theorem ct_m64_0 : ev_okM ct_gc ct_all ct_kt ct_pg ⟨"TrustedMachineModel", "setGf", "(IJ)V"⟩ prog_14_method_26_code 5 none ct_c64 0 19 = true := by decide +kernel
theorem ct_m65_0 : ev_okM ct_gc ct_all ct_kt ct_pg ⟨"TrustedMachineModel", "carry", "(I)V"⟩ prog_14_method_27_code 5 none ct_c65 0 60 = true := by decide +kernel
theorem ct_m65_60 : ev_okM ct_gc ct_all ct_kt ct_pg ⟨"TrustedMachineModel", "carry", "(I)V"⟩ prog_14_method_27_code 5 none ct_c65 60 9 = true := by decide +kernel
theorem ct_m66_0 : ev_okM ct_gc ct_all ct_kt ct_pg ⟨"TrustedMachineModel", "plus", "(III)V"⟩ prog_14_method_28_code 5 none ct_c66 0 27 = true := by decide +kernel
theorem ct_m67_0 : ev_okM ct_gc ct_all ct_kt ct_pg ⟨"TrustedMachineModel", "minus", "(III)V"⟩ prog_14_method_29_code 5 none ct_c67 0 27 = true := by decide +kernel
theorem ct_m68_0 : ev_okM ct_gc ct_all ct_kt ct_pg ⟨"TrustedMachineModel", "times", "(III)V"⟩ prog_14_method_30_code 6 none ct_c68 0 60 = true := by decide +kernel
