/-! The methods looked at, instruction by instruction (2). Written by a program (wip/tools/gen42.py). -/
theorem ct_m12_600 : cf_okM ct_gc ct_all ct_kt ct_pg ⟨"TrustedMachineModel", "<init>", "()V"⟩ prog_14_method_1_code 2 none ct_c12 cf_bs12 600 60 = true := by decide +kernel
theorem ct_m12_660 : cf_okM ct_gc ct_all ct_kt ct_pg ⟨"TrustedMachineModel", "<init>", "()V"⟩ prog_14_method_1_code 2 none ct_c12 cf_bs12 660 60 = true := by decide +kernel
theorem ct_m12_720 : cf_okM ct_gc ct_all ct_kt ct_pg ⟨"TrustedMachineModel", "<init>", "()V"⟩ prog_14_method_1_code 2 none ct_c12 cf_bs12 720 60 = true := by decide +kernel
