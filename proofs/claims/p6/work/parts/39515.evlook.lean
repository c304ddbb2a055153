/-! The methods looked at, instruction by instruction (4). Written by a program (wip/tools/gen42.py). -/
theorem ct_m12_960 : cf_okM ct_gc ct_all ct_kt ct_pg ⟨"TrustedMachineModel", "<init>", "()V"⟩ prog_14_method_1_code 2 none ct_c12 cf_bs12 960 60 = true := by decide +kernel
theorem ct_m12_1020 : cf_okM ct_gc ct_all ct_kt ct_pg ⟨"TrustedMachineModel", "<init>", "()V"⟩ prog_14_method_1_code 2 none ct_c12 cf_bs12 1020 60 = true := by decide +kernel
