/-! The methods looked at, instruction by instruction (5). Written by a program (wip/tools/gen42.py). -/
theorem ct_m12_1080 : cf_okM ct_gc ct_all ct_kt ct_pg ⟨"TrustedMachineModel", "<init>", "()V"⟩ prog_14_method_1_code 2 none ct_c12 cf_bs12 1080 60 = true := by decide +kernel
theorem ct_m12_1140 : cf_okM ct_gc ct_all ct_kt ct_pg ⟨"TrustedMachineModel", "<init>", "()V"⟩ prog_14_method_1_code 2 none ct_c12 cf_bs12 1140 37 = true := by decide +kernel
