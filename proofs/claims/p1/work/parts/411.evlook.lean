/-! The methods looked at, instruction by instruction (1). Written by a program (wip/tools/gen42.py). -/
theorem ct_m12_420 : ev_okM ct_gc ct_all ct_kt ct_pg ⟨"TrustedMachineModel", "<init>", "()V"⟩ prog_14_method_1_code 2 none ct_c12 420 60 = true := by decide +kernel
theorem ct_m12_480 : ev_okM ct_gc ct_all ct_kt ct_pg ⟨"TrustedMachineModel", "<init>", "()V"⟩ prog_14_method_1_code 2 none ct_c12 480 60 = true := by decide +kernel
theorem ct_m12_540 : ev_okM ct_gc ct_all ct_kt ct_pg ⟨"TrustedMachineModel", "<init>", "()V"⟩ prog_14_method_1_code 2 none ct_c12 540 60 = true := by decide +kernel
theorem ct_m12_600 : ev_okM ct_gc ct_all ct_kt ct_pg ⟨"TrustedMachineModel", "<init>", "()V"⟩ prog_14_method_1_code 2 none ct_c12 600 60 = true := by decide +kernel
theorem ct_m12_660 : ev_okM ct_gc ct_all ct_kt ct_pg ⟨"TrustedMachineModel", "<init>", "()V"⟩ prog_14_method_1_code 2 none ct_c12 660 60 = true := by decide +kernel
