/-! The methods looked at, instruction by instruction (7). Written by a program (wip/tools/gen42.py). -/
theorem ct_m68_60 : ev_okM ct_gc ct_all ct_kt ct_pg ⟨"TrustedMachineModel", "times", "(III)V"⟩ prog_14_method_30_code 6 none ct_c68 60 34 = true := by decide +kernel
theorem ct_m69_0 : ev_okM ct_gc ct_all ct_kt ct_pg ⟨"TrustedMachineModel", "pack", "(I)V"⟩ prog_14_method_31_code 4 none ct_c69 0 60 = true := by decide +kernel
theorem ct_m69_60 : ev_okM ct_gc ct_all ct_kt ct_pg ⟨"TrustedMachineModel", "pack", "(I)V"⟩ prog_14_method_31_code 4 none ct_c69 60 60 = true := by decide +kernel
theorem ct_m69_120 : ev_okM ct_gc ct_all ct_kt ct_pg ⟨"TrustedMachineModel", "pack", "(I)V"⟩ prog_14_method_31_code 4 none ct_c69 120 44 = true := by decide +kernel
theorem ct_m70_0 : ev_okM ct_gc ct_all ct_kt ct_pg ⟨"TrustedMachineModel", "isOdd", "(I)Z"⟩ prog_14_method_33_code 2 (some .boolean) ct_c70 0 15 = true := by decide +kernel
theorem ct_m71_0 : ev_okM ct_gc ct_all ct_kt ct_pg ⟨"TrustedMachineModel", "power", "(IIZ)V"⟩ prog_14_method_34_code 5 none ct_c71 0 41 = true := by decide +kernel
theorem ct_m72_0 : ev_okM ct_gc ct_all ct_kt ct_pg ⟨"TrustedMachineModel", "addPoint", "(II)V"⟩ prog_14_method_35_code 3 none ct_c72 0 60 = true := by decide +kernel
theorem ct_m72_60 : ev_okM ct_gc ct_all ct_kt ct_pg ⟨"TrustedMachineModel", "addPoint", "(II)V"⟩ prog_14_method_35_code 3 none ct_c72 60 53 = true := by decide +kernel
theorem ct_m73_0 : ev_okM ct_gc ct_all ct_kt ct_pg ⟨"TrustedMachineModel", "none", "(I)V"⟩ prog_14_method_36_code 2 none ct_c73 0 23 = true := by decide +kernel
theorem ct_m74_0 : ev_okM ct_gc ct_all ct_kt ct_pg ⟨"TrustedMachineModel", "multiple", "(II[BI)V"⟩ prog_14_method_37_code 7 none ct_c74 0 52 = true := by decide +kernel
theorem ct_m75_0 : ev_okM ct_gc ct_all ct_kt ct_pg ⟨"TrustedMachineModel", "basePoint", "(I)V"⟩ prog_14_method_38_code 2 none ct_c75 0 24 = true := by decide +kernel
theorem ct_m76_0 : ev_okM ct_gc ct_all ct_kt ct_pg ⟨"TrustedMachineModel", "packPoint", "(I)V"⟩ prog_14_method_39_code 4 none ct_c76 0 57 = true := by decide +kernel
theorem ct_m77_0 : ev_okM ct_gc ct_all ct_kt ct_pg ⟨"TrustedMachineModel", "keys", "()V"⟩ prog_14_method_40_code 2 none ct_c77 0 60 = true := by decide +kernel
theorem ct_m77_60 : ev_okM ct_gc ct_all ct_kt ct_pg ⟨"TrustedMachineModel", "keys", "()V"⟩ prog_14_method_40_code 2 none ct_c77 60 41 = true := by decide +kernel
theorem ct_m78_0 : ev_okM ct_gc ct_all ct_kt ct_pg ⟨"TrustedMachineModel", "load", "(I)I"⟩ prog_14_method_58_code 2 (some .int) ct_c78 0 20 = true := by decide +kernel
theorem ct_m79_0 : ev_okM ct_gc ct_all ct_kt ct_pg ⟨"TrustedMachineModel", "store", "(I)Z"⟩ prog_14_method_59_code 3 (some .boolean) ct_c79 0 38 = true := by decide +kernel
theorem ct_m80_0 : ev_okM ct_gc ct_all ct_kt ct_pg ⟨"TrustedMachineModel", "disk", "(III)I"⟩ prog_14_method_60_code 4 (some .int) ct_c80 0 46 = true := by decide +kernel
theorem ct_m81_0 : ev_okM ct_gc ct_all ct_kt ct_pg ⟨"TrustedMachineModel", "replay", "(I)Z"⟩ prog_14_method_61_code 3 (some .boolean) ct_c81 0 35 = true := by decide +kernel
theorem ct_m82_0 : ev_okM ct_gc ct_all ct_kt ct_pg ⟨"TrustedMachineModel", "result", "(I)I"⟩ prog_14_method_62_code 2 (some .int) ct_c82 0 21 = true := by decide +kernel
theorem ct_m83_0 : ev_okM ct_gc ct_all ct_kt ct_pg ⟨"TrustedMachineModel", "call", "(IIII)I"⟩ prog_14_method_63_code 5 (some .int) ct_c83 0 10 = true := by decide +kernel
theorem ct_m84_0 : ev_okM ct_gc ct_all ct_kt ct_pg ⟨"TrustedMachineModel", "calls", "(IIII)I"⟩ prog_14_method_64_code 7 (some .int) ct_c84 0 53 = true := by decide +kernel
theorem ct_m85_0 : ev_okM ct_gc ct_all ct_kt ct_pg ⟨"TrustedMachineModel", "go", "(I)Z"⟩ prog_14_method_151_code 2 (some .boolean) ct_c85 0 20 = true := by decide +kernel
theorem ct_m86_0 : ev_okM ct_gc ct_all ct_kt ct_pg ⟨"TrustedMachineModel", "register", "(I)I"⟩ prog_14_method_152_code 2 (some .int) ct_c86 0 21 = true := by decide +kernel
theorem ct_m87_0 : ev_okM ct_gc ct_all ct_kt ct_pg ⟨"TrustedMachineModel", "walk", "(I)I"⟩ prog_14_method_153_code 3 (some .int) ct_c87 0 37 = true := by decide +kernel
theorem ct_m88_0 : ev_okM ct_gc ct_all ct_kt ct_pg ⟨"java/util/Arrays", "fill", "([BB)V"⟩ prog_29_method_109_code 4 none ct_c88 0 15 = true := by decide +kernel
theorem ct_m89_0 : ev_okM ct_gc ct_all ct_kt ct_pg ⟨"java/util/Arrays", "fill", "([II)V"⟩ prog_29_method_103_code 4 none ct_c89 0 15 = true := by decide +kernel
