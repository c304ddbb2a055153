/-! The methods looked at, instruction by instruction (3). Written by a program (wip/tools/gen42.py). -/
theorem ct_m12_780 : cf_okM ct_gc ct_all ct_kt ct_pg ⟨"TrustedMachineModel", "<init>", "()V"⟩ prog_14_method_1_code 2 none ct_c12 cf_bs12 780 60 = true := by decide +kernel
theorem ct_m12_840 : cf_okM ct_gc ct_all ct_kt ct_pg ⟨"TrustedMachineModel", "<init>", "()V"⟩ prog_14_method_1_code 2 none ct_c12 cf_bs12 840 60 = true := by decide +kernel
theorem ct_m12_900 : cf_okM ct_gc ct_all ct_kt ct_pg ⟨"TrustedMachineModel", "<init>", "()V"⟩ prog_14_method_1_code 2 none ct_c12 cf_bs12 900 60 = true := by decide +kernel
