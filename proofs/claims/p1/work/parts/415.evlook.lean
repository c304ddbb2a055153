/-! The methods looked at, instruction by instruction (5). Written by a program (wip/tools/gen42.py). -/
theorem ct_m26_120 : ev_okM ct_gc ct_all ct_kt ct_pg ⟨"TrustedMachine", "walk", "(I)I"⟩ prog_1_method_15_code 6 (some .int) ct_c26 120 36 = true := by decide +kernel
theorem ct_m27_0 : ev_okM ct_gc ct_all ct_kt ct_pg ⟨"TrustedMachine", "register", "(I)I"⟩ prog_1_method_16_code 2 (some .int) ct_c27 0 27 = true := by decide +kernel
theorem ct_m28_0 : ev_okM ct_gc ct_all ct_kt ct_pg ⟨"TrustedMachine", "disk", "(III)I"⟩ prog_1_method_17_code 4 (some .int) ct_c28 0 22 = true := by decide +kernel
theorem ct_m29_0 : ev_okM ct_gc ct_all ct_kt ct_pg ⟨"TrustedMachine", "replay", "(I)Z"⟩ prog_1_method_18_code 2 (some .boolean) ct_c29 0 13 = true := by decide +kernel
theorem ct_m30_0 : ev_okM ct_gc ct_all ct_kt ct_pg ⟨"TrustedMachine$Memory", "restart", "()V"⟩ prog_6_method_2_code 2 none ct_c30 0 22 = true := by decide +kernel
theorem ct_m31_0 : ev_okM ct_gc ct_all ct_kt ct_pg ⟨"TrustedMachine$Sha256", "putWord", "([BII)V"⟩ prog_10_method_3_code 3 none ct_c31 0 33 = true := by decide +kernel
theorem ct_m32_0 : ev_okM ct_gc ct_all ct_kt ct_pg ⟨"TrustedMachine$Sha256", "digest", "([BIII[BI)V"⟩ prog_10_method_4_code 11 none ct_c32 0 60 = true := by decide +kernel
theorem ct_m32_60 : ev_okM ct_gc ct_all ct_kt ct_pg ⟨"TrustedMachine$Sha256", "digest", "([BIII[BI)V"⟩ prog_10_method_4_code 11 none ct_c32 60 39 = true := by decide +kernel
theorem ct_m33_0 : ev_okM ct_gc ct_all ct_kt ct_pg ⟨"TrustedMachine$Sha256", "compress", "([BI)V"⟩ prog_10_method_6_code 15 none ct_c33 0 60 = true := by decide +kernel
theorem ct_m33_60 : ev_okM ct_gc ct_all ct_kt ct_pg ⟨"TrustedMachine$Sha256", "compress", "([BI)V"⟩ prog_10_method_6_code 15 none ct_c33 60 60 = true := by decide +kernel
theorem ct_m33_120 : ev_okM ct_gc ct_all ct_kt ct_pg ⟨"TrustedMachine$Sha256", "compress", "([BI)V"⟩ prog_10_method_6_code 15 none ct_c33 120 60 = true := by decide +kernel
theorem ct_m33_180 : ev_okM ct_gc ct_all ct_kt ct_pg ⟨"TrustedMachine$Sha256", "compress", "([BI)V"⟩ prog_10_method_6_code 15 none ct_c33 180 60 = true := by decide +kernel
theorem ct_m33_240 : ev_okM ct_gc ct_all ct_kt ct_pg ⟨"TrustedMachine$Sha256", "compress", "([BI)V"⟩ prog_10_method_6_code 15 none ct_c33 240 60 = true := by decide +kernel
theorem ct_m33_300 : ev_okM ct_gc ct_all ct_kt ct_pg ⟨"TrustedMachine$Sha256", "compress", "([BI)V"⟩ prog_10_method_6_code 15 none ct_c33 300 35 = true := by decide +kernel
theorem ct_m34_0 : ev_okM ct_gc ct_all ct_kt ct_pg ⟨"TrustedMachine$Vault", "edit", "(III)I"⟩ prog_12_method_2_code 4 (some .int) ct_c34 0 28 = true := by decide +kernel
theorem ct_m35_0 : ev_okM ct_gc ct_all ct_kt ct_pg ⟨"TrustedMachine$Vault", "bringBack", "(I)V"⟩ prog_12_method_3_code 2 none ct_c35 0 16 = true := by decide +kernel
theorem ct_m36_0 : ev_okM ct_gc ct_all ct_kt ct_pg ⟨"TrustedMachine$Vault", "changed", "(I)V"⟩ prog_12_method_4_code 2 none ct_c36 0 21 = true := by decide +kernel
theorem ct_m37_0 : ev_okM ct_gc ct_all ct_kt ct_pg ⟨"TrustedMachine$Session", "close", "()V"⟩ prog_9_method_3_code 1 none ct_c37 0 6 = true := by decide +kernel
theorem ct_m38_0 : ev_okM ct_gc ct_all ct_kt ct_pg ⟨"TrustedMachine$Session", "leave", "()V"⟩ prog_9_method_5_code 2 none ct_c38 0 27 = true := by decide +kernel
theorem ct_m39_0 : ev_okM ct_gc ct_all ct_kt ct_pg ⟨"TrustedMachine$Session", "endRun", "()V"⟩ prog_9_method_6_code 2 none ct_c39 0 10 = true := by decide +kernel
theorem ct_m40_0 : ev_okM ct_gc ct_all ct_kt ct_pg ⟨"TrustedMachine$Monitor", "restart", "()V"⟩ prog_7_method_2_code 2 none ct_c40 0 33 = true := by decide +kernel
theorem ct_m41_0 : ev_okM ct_gc ct_all ct_kt ct_pg ⟨"TrustedMachine$Monitor", "ask", "(IIII)I"⟩ prog_7_method_3_code 5 (some .int) ct_c41 0 60 = true := by decide +kernel
theorem ct_m41_60 : ev_okM ct_gc ct_all ct_kt ct_pg ⟨"TrustedMachine$Monitor", "ask", "(IIII)I"⟩ prog_7_method_3_code 5 (some .int) ct_c41 60 31 = true := by decide +kernel
theorem ct_m42_0 : ev_okM ct_gc ct_all ct_kt ct_pg ⟨"TrustedMachineModel", "thrown", "()I"⟩ prog_14_method_2_code 1 (some .int) ct_c42 0 3 = true := by decide +kernel
theorem ct_m43_0 : ev_okM ct_gc ct_all ct_kt ct_pg ⟨"TrustedMachineModel", "feed", "(IIIII)Z"⟩ prog_14_method_3_code 8 (some .boolean) ct_c43 0 60 = true := by decide +kernel
theorem ct_m43_60 : ev_okM ct_gc ct_all ct_kt ct_pg ⟨"TrustedMachineModel", "feed", "(IIIII)Z"⟩ prog_14_method_3_code 8 (some .boolean) ct_c43 60 3 = true := by decide +kernel
theorem ct_m44_0 : ev_okM ct_gc ct_all ct_kt ct_pg ⟨"TrustedMachineModel", "end", "(I)Z"⟩ prog_14_method_4_code 2 (some .boolean) ct_c44 0 16 = true := by decide +kernel
theorem ct_m45_0 : ev_okM ct_gc ct_all ct_kt ct_pg ⟨"TrustedMachineModel", "burn", "(I)I"⟩ prog_14_method_5_code 3 (some .int) ct_c45 0 60 = true := by decide +kernel
theorem ct_m45_60 : ev_okM ct_gc ct_all ct_kt ct_pg ⟨"TrustedMachineModel", "burn", "(I)I"⟩ prog_14_method_5_code 3 (some .int) ct_c45 60 1 = true := by decide +kernel
theorem ct_m46_0 : ev_okM ct_gc ct_all ct_kt ct_pg ⟨"TrustedMachineModel", "key", "()Z"⟩ prog_14_method_6_code 2 (some .boolean) ct_c46 0 32 = true := by decide +kernel
theorem ct_m47_0 : ev_okM ct_gc ct_all ct_kt ct_pg ⟨"TrustedMachineModel", "product", "(III)Z"⟩ prog_14_method_7_code 4 (some .boolean) ct_c47 0 36 = true := by decide +kernel
theorem ct_m48_0 : ev_okM ct_gc ct_all ct_kt ct_pg ⟨"TrustedMachineModel", "boot", "()Z"⟩ prog_14_method_8_code 2 (some .boolean) ct_c48 0 60 = true := by decide +kernel
theorem ct_m48_60 : ev_okM ct_gc ct_all ct_kt ct_pg ⟨"TrustedMachineModel", "boot", "()Z"⟩ prog_14_method_8_code 2 (some .boolean) ct_c48 60 60 = true := by decide +kernel
theorem ct_m48_120 : ev_okM ct_gc ct_all ct_kt ct_pg ⟨"TrustedMachineModel", "boot", "()Z"⟩ prog_14_method_8_code 2 (some .boolean) ct_c48 120 5 = true := by decide +kernel
theorem ct_m49_0 : ev_okM ct_gc ct_all ct_kt ct_pg ⟨"TrustedMachineModel", "power", "(I)V"⟩ prog_14_method_10_code 2 none ct_c49 0 12 = true := by decide +kernel
theorem ct_m50_0 : ev_okM ct_gc ct_all ct_kt ct_pg ⟨"TrustedMachineModel", "isDown", "()Z"⟩ prog_14_method_11_code 1 (some .boolean) ct_c50 0 10 = true := by decide +kernel
theorem ct_m51_0 : ev_okM ct_gc ct_all ct_kt ct_pg ⟨"TrustedMachineModel", "turn", "(II)I"⟩ prog_14_method_12_code 2 (some .int) ct_c51 0 10 = true := by decide +kernel
theorem ct_m52_0 : ev_okM ct_gc ct_all ct_kt ct_pg ⟨"TrustedMachineModel", "padded", "([BIIII)I"⟩ prog_14_method_13_code 5 (some .int) ct_c52 0 39 = true := by decide +kernel
