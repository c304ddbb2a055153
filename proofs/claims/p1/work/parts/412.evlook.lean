/-! The methods looked at, instruction by instruction (2). Written by a program (wip/tools/gen42.py). -/
theorem ct_m12_720 : ev_okM ct_gc ct_all ct_kt ct_pg ⟨"TrustedMachineModel", "<init>", "()V"⟩ prog_14_method_1_code 2 none ct_c12 720 60 = true := by decide +kernel
theorem ct_m12_780 : ev_okM ct_gc ct_all ct_kt ct_pg ⟨"TrustedMachineModel", "<init>", "()V"⟩ prog_14_method_1_code 2 none ct_c12 780 60 = true := by decide +kernel
theorem ct_m12_840 : ev_okM ct_gc ct_all ct_kt ct_pg ⟨"TrustedMachineModel", "<init>", "()V"⟩ prog_14_method_1_code 2 none ct_c12 840 60 = true := by decide +kernel
