/-! The methods looked at, instruction by instruction (1). Written by a program (wip/tools/gen42.py). -/
theorem ct_m12_360 : cf_okM ct_gc ct_all ct_kt ct_pg ⟨"TrustedMachineModel", "<init>", "()V"⟩ prog_14_method_1_code 2 none ct_c12 cf_bs12 360 60 = true := by decide +kernel
theorem ct_m12_420 : cf_okM ct_gc ct_all ct_kt ct_pg ⟨"TrustedMachineModel", "<init>", "()V"⟩ prog_14_method_1_code 2 none ct_c12 cf_bs12 420 60 = true := by decide +kernel
theorem ct_m12_480 : cf_okM ct_gc ct_all ct_kt ct_pg ⟨"TrustedMachineModel", "<init>", "()V"⟩ prog_14_method_1_code 2 none ct_c12 cf_bs12 480 60 = true := by decide +kernel
theorem ct_m12_540 : cf_okM ct_gc ct_all ct_kt ct_pg ⟨"TrustedMachineModel", "<init>", "()V"⟩ prog_14_method_1_code 2 none ct_c12 cf_bs12 540 60 = true := by decide +kernel
