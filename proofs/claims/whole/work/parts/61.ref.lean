/-! Contracts: by runs of the small machine. Written by a program (wip/tools/emit.py over plan.py). -/
/-- TrustedMachineModel.turn -/
def ct_w47 : List ev_C := []
def ct_r47 : ev_R := (some (0, 0, 4294967295), [], 0, 0)
def ct_p47 : ev_S → Option (ev_S ⊕ (ev_R ⊕ (ev_S × ev_S × Nat))) := ev_stp2 ct_all (some .int) ct_S47 0 (ev_call2 ct_pg ct_ck ct_all ct_S47 3000 0) ct_k49
set_option maxRecDepth 1000000 in
theorem ct_e47_0 : ev_go2 ct_p47 3000 10 (0, ev_la 0 [(0, 0, 4294967295), (0, 0, 4294967295)], [], ct_w47, 0, 0) = some (.inr ct_r47) := ev_sameR_r (by decide +kernel)
theorem ct_f47_0 : ev_go2 ct_p47 3000 10 (0, ev_la 0 [(0, 0, 4294967295), (0, 0, 4294967295)], [], ct_w47, 0, 0) = some (.inr ct_r47) := ct_e47_0
def ct_S48 : ev_Sm := (49, 1, [], [(0, 0, 4294967295), (0, 0, 4294967295)], ct_w47, ct_r47) :: ct_S47
theorem ct_SM48 (l : Launch) (D : va_G) (dA : Nat → ClassId) : ev_SM l D ct_cl dA ct_kt ct_gs ct_pg ct_S48 := ev_SM_add3 ct_hg ct_good ct_ok ct_pok ct_kok (ct_SM47 l D dA) (q0 := ((⟨"TrustedMachineModel", "turn", "(II)I"⟩, prog_14_method_12_code, 2, (some .int)), ct_c49)) (cs := ct_k49) rfl rfl (by decide +kernel) ct_f47_0 (by decide +kernel)
/-- TrustedMachineModel.turn5 -/
def ct_w48 : List ev_C := []
def ct_r48 : ev_R := (some (1, 0, 0), [], 0, 0)
def ct_p48 : ev_S → Option (ev_S ⊕ (ev_R ⊕ (ev_S × ev_S × Nat))) := ev_stp2 ct_all (some .long) ct_S48 0 (ev_call2 ct_pg ct_ck ct_all ct_S48 3000 0) ct_k57
set_option maxRecDepth 1000000 in
theorem ct_e48_0 : ev_go2 ct_p48 3000 10 (0, ev_la 0 [(1, 0, 0), (0, 0, 4294967295)], [], ct_w48, 0, 0) = some (.inr ct_r48) := ev_sameR_r (by decide +kernel)
theorem ct_f48_0 : ev_go2 ct_p48 3000 10 (0, ev_la 0 [(1, 0, 0), (0, 0, 4294967295)], [], ct_w48, 0, 0) = some (.inr ct_r48) := ct_e48_0
def ct_S49 : ev_Sm := (57, 1, [], [(1, 0, 0), (0, 0, 4294967295)], ct_w48, ct_r48) :: ct_S48
theorem ct_SM49 (l : Launch) (D : va_G) (dA : Nat → ClassId) : ev_SM l D ct_cl dA ct_kt ct_gs ct_pg ct_S49 := ev_SM_add3 ct_hg ct_good ct_ok ct_pok ct_kok (ct_SM48 l D dA) (q0 := ((⟨"TrustedMachineModel", "turn5", "(JI)J"⟩, prog_14_method_21_code, 3, (some .long)), ct_c57)) (cs := ct_k57) rfl rfl (by decide +kernel) ct_f48_0 (by decide +kernel)
/-- TrustedMachineModel.copyGf -/
def ct_w49 : List ev_C := [(0, 12, 0, [(0, 2147483648, 2147483648), (2, 1, 0), (0, 2147483648, 2147483648), (0, 2147483648, 2147483648), (0, 2147483648, 2147483648), (1, 0, 0), (2, 2, 0), (2, 3, 0), (2, 4, 0), (2, 5, 0), (2, 6, 0), (0, 2147483648, 2147483648), (2, 7, 0), (2, 8, 0), (2, 9, 0), (2, 10, 0), (2, 11, 0), (0, 2147483648, 2147483648), (0, 2147483903, 2147483903), (2, 12, 0), (2, 13, 0), (2, 14, 0), (2, 15, 0), (2, 16, 0), (2, 17, 0), (2, 18, 0), (2, 19, 0), (2, 20, 0), (2, 21, 0), (0, 2147483648, 2147483648), (0, 2147483648, 2147483648), (2, 22, 0), (2, 23, 0), (2, 24, 0), (2, 25, 0), (2, 26, 0), (2, 27, 0), (2, 28, 0), (2, 29, 0), (2, 30, 0), (2, 31, 0), (2, 32, 0), (2, 33, 0), (2, 34, 0), (2, 35, 0), (2, 36, 0), (2, 37, 0), (2, 38, 0), (2, 39, 0), (2, 40, 0), (2, 41, 0), (2, 42, 0), (2, 43, 0), (2, 44, 0), (2, 45, 0), (2, 46, 0), (2, 47, 0), (2, 48, 0), (2, 49, 0), (2, 50, 0), (2, 51, 0), (2, 52, 0), (2, 53, 0), (2, 54, 0), (2, 55, 0), (2, 56, 0), (2, 57, 0), (2, 58, 0), (2, 59, 0), (2, 60, 0), (2, 61, 0), (2, 62, 0), (2, 63, 0), (2, 64, 0), (2, 65, 0), (2, 66, 0), (2, 67, 0), (2, 68, 0), (2, 69, 0), (2, 70, 0), (2, 71, 0), (2, 72, 0), (2, 73, 0), (2, 74, 0), (2, 75, 0), (2, 76, 0), (2, 77, 0), (2, 78, 0), (2, 79, 0), (2, 80, 0), (2, 81, 0), (2, 82, 0), (2, 83, 0), (2, 84, 0), (2, 85, 0), (2, 86, 0), (2, 87, 0), (2, 88, 0), (0, 2147483648, 2147483648), (0, 2147483648, 2147483648), (0, 2147483648, 2147483648), (2, 89, 0), (2, 90, 0), (0, 2147483648, 2147483648), (0, 2147483648, 2147483648), (0, 2147483648, 2147483648), (0, 2147483648, 2147483648), (0, 2147483648, 2147483648), (0, 2147483648, 2147483648), (0, 2147483648, 2147483648), (0, 2147483648, 2147483648), (0, 2147483648, 2147483648), (2, 91, 0), (0, 2147483648, 2147483648), (2, 92, 0), (2, 93, 0), (2, 94, 0), (2, 95, 0), (2, 96, 0), (2, 97, 0), (2, 98, 0), (2, 99, 0)]), (2, 0, 1100, [(0, 2147483648, 2147483648)]), (2, 0, 32, [(0, 2147483648, 2147483648)]), (2, 0, 256, [(0, 2147483648, 2147483648)]), (2, 1, 8, [(0, 2147483648, 2147483648)]), (2, 1, 8, [(0, 2147483648, 2147483655)]), (2, 1, 8, [(0, 2147483648, 2147483648)]), (2, 0, 8192, [(0, 2147483648, 2147483648)]), (2, 3, 32, [(0, 2147483648, 2147483648)]), (2, 1, 32, [(0, 2147483648, 2147483648)]), (2, 0, 16384, [(0, 2147483648, 2147483648)]), (2, 0, 16384, [(0, 2147483648, 2147483648)]), (2, 0, 32, [(0, 2147483648, 2147483648)]), (2, 1, 8, [(0, 2147483648, 2147483648)]), (2, 3, 8, [(0, 2147483648, 2147483648)]), (2, 0, 8192, [(0, 2147483648, 2147483648)]), (2, 1, 8, [(0, 2147483648, 2147483648)]), (2, 1, 64, [(0, 2147483648, 2147483648)]), (2, 1, 8, [(0, 2147483648, 2147483648)]), (2, 1, 64, [(0, 2147483648, 2147483648)]), (2, 1, 8, [(0, 2147483648, 2147483648)]), (2, 1, 8, [(0, 2147483648, 2147483648)]), (2, 3, 16, [(0, 2147483648, 2147483648)]), (2, 1, 16, [(0, 2147483648, 2147483648)]), (2, 3, 16, [(0, 2147483648, 2147483648)]), (2, 3, 16, [(0, 2147483648, 2147483648)]), (2, 1, 16, [(0, 2147483648, 2147483648)]), (2, 1, 16, [(0, 2147483648, 2147483648)]), (2, 1, 16, [(0, 2147483648, 2147483648)]), (2, 1, 64, [(0, 2147483648, 2147483648)]), (2, 1, 64, [(0, 2147483648, 2147483648)]), (2, 1, 64, [(0, 2147483648, 2147483648)]), (2, 1, 64, [(0, 2147483648, 2147483648)]), (2, 1, 4096, [(0, 2147483648, 2147483648)]), (2, 1, 1024, [(0, 2147483648, 2147483648)]), (2, 1, 64, [(0, 2147483648, 2147483648)]), (2, 1, 64, [(0, 2147483648, 2147483648)]), (2, 1, 64, [(0, 2147483648, 2147483648)]), (2, 1, 64, [(0, 2147483648, 2147483648)]), (2, 0, 16384, [(0, 2147483648, 2147483648)]), (2, 1, 16, [(0, 2147483648, 2147483648)]), (2, 1, 16, [(0, 2147483648, 2147483648)]), (2, 1, 16, [(0, 2147483648, 2147483648)]), (2, 0, 1024, [(0, 2147483648, 2147483648)]), (2, 1, 64, [(0, 2147483648, 2147483648)]), (2, 3, 64, [(0, 2147483648, 2147483648)]), (2, 1, 64, [(0, 2147483648, 2147483648)]), (2, 0, 32768, [(0, 2147483648, 2147483648)]), (2, 1, 4, [(0, 2147483648, 2147483648)]), (2, 0, 32, [(0, 2147483520, 2147483775)]), (2, 1, 64, [(0, 0, 4294967295)]), (2, 1, 8, [(0, 0, 4294967295)]), (2, 1, 64, [(0, 14594558, 4171588463)]), (2, 1, 8, [(0, 453339276, 3926517351)]), (3, 2, 8, []), (3, 2, 80, []), (3, 2, 80, []), (3, 2, 8, []), (2, 0, 64, [(0, 2147483520, 2147483775)]), (3, 2, 24, []), (3, 2, 24, []), (3, 2, 6, []), (2, 0, 2400, [(0, 2147483520, 2147483775)]), (2, 0, 32, [(0, 2147483520, 2147483775)]), (3, 2, 480, []), (3, 2, 31, []), (2, 1, 80, [(0, 2147483648, 2147548787)]), (2, 1, 32, [(0, 2147483648, 2147483897)]), (2, 0, 32, [(0, 2147483520, 2147483775)]), (2, 0, 32, [(0, 2147483520, 2147483775)]), (2, 0, 64, [(0, 2147483520, 2147483775)]), (2, 0, 32, [(0, 2147483520, 2147483775)]), (2, 0, 2600, [(0, 2147483520, 2147483775)]), (3, 2, 64, []), (2, 0, 32, [(0, 2147483648, 2147483648)]), (2, 0, 1, [(0, 2147483520, 2147483775)]), (2, 0, 64, [(0, 2147483648, 2147483648)]), (2, 0, 32, [(0, 2147483648, 2147483648)]), (2, 0, 2600, [(0, 2147483648, 2147483648)]), (3, 2, 64, []), (2, 0, 32, [(0, 2147483648, 2147483648)]), (2, 0, 16, [(0, 2147483648, 2147483648)]), (3, 2, 17, []), (3, 2, 17, []), (3, 2, 17, []), (2, 0, 12, [(0, 2147483648, 2147483648)]), (2, 1, 16, [(0, 2147483648, 2147483648)]), (2, 1, 16, [(0, 2147483648, 2147483648)]), (2, 0, 256, [(0, 2147483648, 2147483648)]), (2, 3, 64, [(0, 2147483648, 2147483648)]), (2, 0, 16, [(0, 2147483648, 2147483648)]), (2, 0, 256, [(0, 2147483648, 2147483648)]), (2, 0, 256, [(0, 2147483648, 2147483648)]), (2, 1, 49, [(0, 2147483648, 2147483648)]), (2, 3, 7, [(0, 2147483648, 2147483648)]), (2, 1, 4, [(0, 2147483648, 2147483648)]), (2, 0, 128, [(0, 2147483648, 2147483648)]), (2, 1, 7, [(0, 2147483648, 2147483648)]), (2, 0, 224, [(0, 2147483648, 2147483648)]), (2, 1, 18, [(0, 2147483648, 2147483648)])]
def ct_r49 : ev_R := (none, ct_w49, 0, 0)
def ct_p49 : ev_S → Option (ev_S ⊕ (ev_R ⊕ (ev_S × ev_S × Nat))) := ev_stp2 ct_all none ct_S49 0 (ev_call2 ct_pg ct_ck ct_all ct_S49 3000 0) ct_k61
set_option maxRecDepth 1000000 in
theorem ct_e49_0 : ev_go2 ct_p49 3000 278 (0, ev_la 0 [(2, 0, 0), (0, 2147483648, 2147484112), (0, 2147483648, 2147484112)], [], ct_w49, 0, 0) = some (.inr ct_r49) := ev_sameR_r (by decide +kernel)
theorem ct_f49_0 : ev_go2 ct_p49 3000 278 (0, ev_la 0 [(2, 0, 0), (0, 2147483648, 2147484112), (0, 2147483648, 2147484112)], [], ct_w49, 0, 0) = some (.inr ct_r49) := ct_e49_0
def ct_S50 : ev_Sm := (61, 1, [], [(2, 0, 0), (0, 2147483648, 2147484112), (0, 2147483648, 2147484112)], ct_w49, ct_r49) :: ct_S49
theorem ct_SM50 (l : Launch) (D : va_G) (dA : Nat → ClassId) : ev_SM l D ct_cl dA ct_kt ct_gs ct_pg ct_S50 := ev_SM_add3 ct_hg ct_good ct_ok ct_pok ct_kok (ct_SM49 l D dA) (q0 := ((⟨"TrustedMachineModel", "copyGf", "(II)V"⟩, prog_14_method_25_code, 4, none), ct_c61)) (cs := ct_k61) rfl rfl (by decide +kernel) ct_f49_0 (by decide +kernel)
/-- TrustedMachineModel.setGf -/
def ct_w50 : List ev_C := ct_w49
def ct_r50 : ev_R := (none, ct_w49, 0, 0)
def ct_p50 : ev_S → Option (ev_S ⊕ (ev_R ⊕ (ev_S × ev_S × Nat))) := ev_stp2 ct_all none ct_S50 0 (ev_call2 ct_pg ct_ck ct_all ct_S50 3000 0) ct_k62
set_option maxRecDepth 1000000 in
theorem ct_e50_0 : ev_go2 ct_p50 3000 231 (0, ev_la 0 [(2, 0, 0), (0, 2147483648, 2147484112), (1, 0, 0)], [], ct_w50, 0, 0) = some (.inr ct_r50) := ev_sameR_r (by decide +kernel)
theorem ct_f50_0 : ev_go2 ct_p50 3000 231 (0, ev_la 0 [(2, 0, 0), (0, 2147483648, 2147484112), (1, 0, 0)], [], ct_w50, 0, 0) = some (.inr ct_r50) := ct_e50_0
def ct_S51 : ev_Sm := (62, 1, [], [(2, 0, 0), (0, 2147483648, 2147484112), (1, 0, 0)], ct_w50, ct_r50) :: ct_S50
theorem ct_SM51 (l : Launch) (D : va_G) (dA : Nat → ClassId) : ev_SM l D ct_cl dA ct_kt ct_gs ct_pg ct_S51 := ev_SM_add3 ct_hg ct_good ct_ok ct_pok ct_kok (ct_SM50 l D dA) (q0 := ((⟨"TrustedMachineModel", "setGf", "(IJ)V"⟩, prog_14_method_26_code, 5, none), ct_c62)) (cs := ct_k62) rfl rfl (by decide +kernel) ct_f50_0 (by decide +kernel)
/-- TrustedMachineModel.carry -/
def ct_w51 : List ev_C := ct_w49
def ct_r51 : ev_R := (none, ct_w49, 0, 0)
def ct_p51 : ev_S → Option (ev_S ⊕ (ev_R ⊕ (ev_S × ev_S × Nat))) := ev_stp2 ct_all none ct_S51 0 (ev_call2 ct_pg ct_ck ct_all ct_S51 3000 0) ct_k63
set_option maxRecDepth 1000000 in
theorem ct_e51_0 : ev_go2 ct_p51 3000 867 (0, ev_la 0 [(2, 0, 0), (0, 2147483648, 2147484112)], [], ct_w51, 0, 0) = some (.inr ct_r51) := ev_sameR_r (by decide +kernel)
theorem ct_f51_0 : ev_go2 ct_p51 3000 867 (0, ev_la 0 [(2, 0, 0), (0, 2147483648, 2147484112)], [], ct_w51, 0, 0) = some (.inr ct_r51) := ct_e51_0
def ct_S52 : ev_Sm := (63, 1, [], [(2, 0, 0), (0, 2147483648, 2147484112)], ct_w51, ct_r51) :: ct_S51
theorem ct_SM52 (l : Launch) (D : va_G) (dA : Nat → ClassId) : ev_SM l D ct_cl dA ct_kt ct_gs ct_pg ct_S52 := ev_SM_add3 ct_hg ct_good ct_ok ct_pok ct_kok (ct_SM51 l D dA) (q0 := ((⟨"TrustedMachineModel", "carry", "(I)V"⟩, prog_14_method_27_code, 5, none), ct_c63)) (cs := ct_k63) rfl rfl (by decide +kernel) ct_f51_0 (by decide +kernel)
/-- TrustedMachineModel.plus -/
def ct_w52 : List ev_C := ct_w49
def ct_r52 : ev_R := (none, ct_w49, 0, 0)
def ct_p52 : ev_S → Option (ev_S ⊕ (ev_R ⊕ (ev_S × ev_S × Nat))) := ev_stp2 ct_all none ct_S52 0 (ev_call2 ct_pg ct_ck ct_all ct_S52 3000 0) ct_k64
set_option maxRecDepth 1000000 in
theorem ct_e52_0 : ev_go2 ct_p52 3000 390 (0, ev_la 0 [(2, 0, 0), (0, 2147483648, 2147484112), (0, 2147483648, 2147484112), (0, 2147483648, 2147484112)], [], ct_w52, 0, 0) = some (.inr ct_r52) := ev_sameR_r (by decide +kernel)
theorem ct_f52_0 : ev_go2 ct_p52 3000 390 (0, ev_la 0 [(2, 0, 0), (0, 2147483648, 2147484112), (0, 2147483648, 2147484112), (0, 2147483648, 2147484112)], [], ct_w52, 0, 0) = some (.inr ct_r52) := ct_e52_0
def ct_S53 : ev_Sm := (64, 1, [], [(2, 0, 0), (0, 2147483648, 2147484112), (0, 2147483648, 2147484112), (0, 2147483648, 2147484112)], ct_w52, ct_r52) :: ct_S52
theorem ct_SM53 (l : Launch) (D : va_G) (dA : Nat → ClassId) : ev_SM l D ct_cl dA ct_kt ct_gs ct_pg ct_S53 := ev_SM_add3 ct_hg ct_good ct_ok ct_pok ct_kok (ct_SM52 l D dA) (q0 := ((⟨"TrustedMachineModel", "plus", "(III)V"⟩, prog_14_method_28_code, 5, none), ct_c64)) (cs := ct_k64) rfl rfl (by decide +kernel) ct_f52_0 (by decide +kernel)
/-- TrustedMachineModel.minus -/
def ct_w53 : List ev_C := ct_w49
def ct_r53 : ev_R := (none, ct_w49, 0, 0)
def ct_p53 : ev_S → Option (ev_S ⊕ (ev_R ⊕ (ev_S × ev_S × Nat))) := ev_stp2 ct_all none ct_S53 0 (ev_call2 ct_pg ct_ck ct_all ct_S53 3000 0) ct_k65
set_option maxRecDepth 1000000 in
theorem ct_e53_0 : ev_go2 ct_p53 3000 390 (0, ev_la 0 [(2, 0, 0), (0, 2147483648, 2147484112), (0, 2147483648, 2147484112), (0, 2147483648, 2147484112)], [], ct_w53, 0, 0) = some (.inr ct_r53) := ev_sameR_r (by decide +kernel)
theorem ct_f53_0 : ev_go2 ct_p53 3000 390 (0, ev_la 0 [(2, 0, 0), (0, 2147483648, 2147484112), (0, 2147483648, 2147484112), (0, 2147483648, 2147484112)], [], ct_w53, 0, 0) = some (.inr ct_r53) := ct_e53_0
def ct_S54 : ev_Sm := (65, 1, [], [(2, 0, 0), (0, 2147483648, 2147484112), (0, 2147483648, 2147484112), (0, 2147483648, 2147484112)], ct_w53, ct_r53) :: ct_S53
theorem ct_SM54 (l : Launch) (D : va_G) (dA : Nat → ClassId) : ev_SM l D ct_cl dA ct_kt ct_gs ct_pg ct_S54 := ev_SM_add3 ct_hg ct_good ct_ok ct_pok ct_kok (ct_SM53 l D dA) (q0 := ((⟨"TrustedMachineModel", "minus", "(III)V"⟩, prog_14_method_29_code, 5, none), ct_c65)) (cs := ct_k65) rfl rfl (by decide +kernel) ct_f53_0 (by decide +kernel)
/-- TrustedMachineModel.times -/
def ct_w54 : List ev_C := ct_w49
def ct_r54 : ev_R := (none, ct_w49, 0, 0)
def ct_p54 : ev_S → Option (ev_S ⊕ (ev_R ⊕ (ev_S × ev_S × Nat))) := ev_stp2 ct_all none ct_S54 1 (ev_call2 ct_pg ct_ck ct_all ct_S54 3000 1) ct_k66
def ct_z54_1 : ev_S := (43, [(5, (0, 2147483658, 2147483658)), (4, (0, 2147483650, 2147483650)), (0, (2, 0, 0)), (1, (0, 2147483648, 2147484112)), (2, (0, 2147483648, 2147484112)), (3, (0, 2147483648, 2147484112))], [(1, 0, 0), (0, 2147483660, 2147483660), (2, 65, 0)], ct_w49, 0, 0)
set_option maxRecDepth 1000000 in
theorem ct_e54_0 : ev_go2 ct_p54 3000 1500 (0, ev_la 0 [(2, 0, 0), (0, 2147483648, 2147484112), (0, 2147483648, 2147484112), (0, 2147483648, 2147484112)], [], ct_w54, 0, 0) = some (.inl ct_z54_1) := ev_sameT_r (by decide +kernel)
def ct_z54_2 : ev_S := (45, [(5, (0, 2147483649, 2147483649)), (4, (0, 2147483654, 2147483654)), (0, (2, 0, 0)), (1, (0, 2147483648, 2147484112)), (2, (0, 2147483648, 2147484112)), (3, (0, 2147483648, 2147484112))], [], ct_w49, 0, 0)
set_option maxRecDepth 1000000 in
theorem ct_e54_1 : ev_go2 ct_p54 3000 1500 ct_z54_1 = some (.inl ct_z54_2) := ev_sameT_r (by decide +kernel)
def ct_z54_3 : ev_S := (30, [(5, (0, 2147483655, 2147483655)), (4, (0, 2147483657, 2147483657)), (0, (2, 0, 0)), (1, (0, 2147483648, 2147484112)), (2, (0, 2147483648, 2147484112)), (3, (0, 2147483648, 2147484112))], [(2, 0, 0), (1, 0, 0), (0, 2147483664, 2147483664), (2, 65, 0)], ct_w49, 0, 0)
set_option maxRecDepth 1000000 in
theorem ct_e54_2 : ev_go2 ct_p54 3000 1500 ct_z54_2 = some (.inl ct_z54_3) := ev_sameT_r (by decide +kernel)
def ct_z54_4 : ev_S := (42, [(5, (0, 2147483661, 2147483661)), (4, (0, 2147483660, 2147483660)), (0, (2, 0, 0)), (1, (0, 2147483648, 2147484112)), (2, (0, 2147483648, 2147484112)), (3, (0, 2147483648, 2147484112))], [(1, 0, 0), (1, 0, 0), (0, 2147483673, 2147483673), (2, 65, 0)], ct_w49, 0, 0)
set_option maxRecDepth 1000000 in
theorem ct_e54_3 : ev_go2 ct_p54 3000 1500 ct_z54_3 = some (.inl ct_z54_4) := ev_sameT_r (by decide +kernel)
def ct_z54_5 : ev_S := (56, [(4, (0, 2147483653, 2147483653)), (5, (0, 2147483664, 2147483664)), (0, (2, 0, 0)), (1, (0, 2147483648, 2147484112)), (2, (0, 2147483648, 2147484112)), (3, (0, 2147483648, 2147484112))], [(0, 2147483653, 2147483653), (2, 65, 0)], ct_w49, 0, 0)
set_option maxRecDepth 1000000 in
theorem ct_e54_4 : ev_go2 ct_p54 3000 1500 ct_z54_4 = some (.inl ct_z54_5) := ev_sameT_r (by decide +kernel)
set_option maxRecDepth 1000000 in
theorem ct_e54_5 : ev_go2 ct_p54 3000 449 ct_z54_5 = some (.inr ct_r54) := ev_sameR_r (by decide +kernel)
theorem ct_f54_5 : ev_go2 ct_p54 3000 449 ct_z54_5 = some (.inr ct_r54) := ct_e54_5
theorem ct_f54_4 : ev_go2 ct_p54 3000 1949 ct_z54_4 = some (.inr ct_r54) := ev_go2_app 1500 449 _ _ _ ct_e54_4 ct_f54_5
theorem ct_f54_3 : ev_go2 ct_p54 3000 3449 ct_z54_3 = some (.inr ct_r54) := ev_go2_app 1500 1949 _ _ _ ct_e54_3 ct_f54_4
theorem ct_f54_2 : ev_go2 ct_p54 3000 4949 ct_z54_2 = some (.inr ct_r54) := ev_go2_app 1500 3449 _ _ _ ct_e54_2 ct_f54_3
theorem ct_f54_1 : ev_go2 ct_p54 3000 6449 ct_z54_1 = some (.inr ct_r54) := ev_go2_app 1500 4949 _ _ _ ct_e54_1 ct_f54_2
theorem ct_f54_0 : ev_go2 ct_p54 3000 7949 (0, ev_la 0 [(2, 0, 0), (0, 2147483648, 2147484112), (0, 2147483648, 2147484112), (0, 2147483648, 2147484112)], [], ct_w54, 0, 0) = some (.inr ct_r54) := ev_go2_app 1500 6449 _ _ _ ct_e54_0 ct_f54_1
def ct_S55 : ev_Sm := (66, 2, [], [(2, 0, 0), (0, 2147483648, 2147484112), (0, 2147483648, 2147484112), (0, 2147483648, 2147484112)], ct_w54, ct_r54) :: ct_S54
theorem ct_SM55 (l : Launch) (D : va_G) (dA : Nat → ClassId) : ev_SM l D ct_cl dA ct_kt ct_gs ct_pg ct_S55 := ev_SM_add3 ct_hg ct_good ct_ok ct_pok ct_kok (ct_SM54 l D dA) (q0 := ((⟨"TrustedMachineModel", "times", "(III)V"⟩, prog_14_method_30_code, 6, none), ct_c66)) (cs := ct_k66) rfl rfl (by decide +kernel) ct_f54_0 (by decide +kernel)
/-- TrustedMachineModel.addPoint -/
def ct_w55 : List ev_C := ct_w49
def ct_r55 : ev_R := (none, ct_w49, 0, 0)
def ct_p55 : ev_S → Option (ev_S ⊕ (ev_R ⊕ (ev_S × ev_S × Nat))) := ev_stp2 ct_all none ct_S55 2 (ev_call2 ct_pg ct_ck ct_all ct_S55 3000 2) ct_k70
set_option maxRecDepth 1000000 in
theorem ct_e55_0 : ev_go2 ct_p55 3000 113 (0, ev_la 0 [(2, 0, 0), (0, 2147483648, 2147484064), (0, 2147483648, 2147484064)], [], ct_w55, 0, 0) = some (.inr ct_r55) := ev_sameR_r (by decide +kernel)
theorem ct_f55_0 : ev_go2 ct_p55 3000 113 (0, ev_la 0 [(2, 0, 0), (0, 2147483648, 2147484064), (0, 2147483648, 2147484064)], [], ct_w55, 0, 0) = some (.inr ct_r55) := ct_e55_0
def ct_S56 : ev_Sm := (70, 3, [], [(2, 0, 0), (0, 2147483648, 2147484064), (0, 2147483648, 2147484064)], ct_w55, ct_r55) :: ct_S55
theorem ct_SM56 (l : Launch) (D : va_G) (dA : Nat → ClassId) : ev_SM l D ct_cl dA ct_kt ct_gs ct_pg ct_S56 := ev_SM_add3 ct_hg ct_good ct_ok ct_pok ct_kok (ct_SM55 l D dA) (q0 := ((⟨"TrustedMachineModel", "addPoint", "(II)V"⟩, prog_14_method_35_code, 3, none), ct_c70)) (cs := ct_k70) rfl rfl (by decide +kernel) ct_f55_0 (by decide +kernel)
/-- TrustedMachineModel.none -/
def ct_w56 : List ev_C := ct_w49
def ct_r56 : ev_R := (none, ct_w49, 0, 0)
def ct_p56 : ev_S → Option (ev_S ⊕ (ev_R ⊕ (ev_S × ev_S × Nat))) := ev_stp2 ct_all none ct_S56 1 (ev_call2 ct_pg ct_ck ct_all ct_S56 3000 1) ct_k71
set_option maxRecDepth 1000000 in
theorem ct_e56_0 : ev_go2 ct_p56 3000 23 (0, ev_la 0 [(2, 0, 0), (0, 2147483648, 2147484064)], [], ct_w56, 0, 0) = some (.inr ct_r56) := ev_sameR_r (by decide +kernel)
theorem ct_f56_0 : ev_go2 ct_p56 3000 23 (0, ev_la 0 [(2, 0, 0), (0, 2147483648, 2147484064)], [], ct_w56, 0, 0) = some (.inr ct_r56) := ct_e56_0
def ct_S57 : ev_Sm := (71, 2, [], [(2, 0, 0), (0, 2147483648, 2147484064)], ct_w56, ct_r56) :: ct_S56
theorem ct_SM57 (l : Launch) (D : va_G) (dA : Nat → ClassId) : ev_SM l D ct_cl dA ct_kt ct_gs ct_pg ct_S57 := ev_SM_add3 ct_hg ct_good ct_ok ct_pok ct_kok (ct_SM56 l D dA) (q0 := ((⟨"TrustedMachineModel", "none", "(I)V"⟩, prog_14_method_36_code, 2, none), ct_c71)) (cs := ct_k71) rfl rfl (by decide +kernel) ct_f56_0 (by decide +kernel)
/-- TrustedMachineModel.basePoint -/
def ct_w57 : List ev_C := ct_w49
def ct_r57 : ev_R := (none, ct_w49, 0, 0)
def ct_p57 : ev_S → Option (ev_S ⊕ (ev_R ⊕ (ev_S × ev_S × Nat))) := ev_stp2 ct_all none ct_S57 2 (ev_call2 ct_pg ct_ck ct_all ct_S57 3000 2) ct_k73
set_option maxRecDepth 1000000 in
theorem ct_e57_0 : ev_go2 ct_p57 3000 24 (0, ev_la 0 [(2, 0, 0), (0, 2147483648, 2147484064)], [], ct_w57, 0, 0) = some (.inr ct_r57) := ev_sameR_r (by decide +kernel)
theorem ct_f57_0 : ev_go2 ct_p57 3000 24 (0, ev_la 0 [(2, 0, 0), (0, 2147483648, 2147484064)], [], ct_w57, 0, 0) = some (.inr ct_r57) := ct_e57_0
def ct_S58 : ev_Sm := (73, 3, [], [(2, 0, 0), (0, 2147483648, 2147484064)], ct_w57, ct_r57) :: ct_S57
theorem ct_SM58 (l : Launch) (D : va_G) (dA : Nat → ClassId) : ev_SM l D ct_cl dA ct_kt ct_gs ct_pg ct_S58 := ev_SM_add3 ct_hg ct_good ct_ok ct_pok ct_kok (ct_SM57 l D dA) (q0 := ((⟨"TrustedMachineModel", "basePoint", "(I)V"⟩, prog_14_method_38_code, 2, none), ct_c73)) (cs := ct_k73) rfl rfl (by decide +kernel) ct_f57_0 (by decide +kernel)
/-- TrustedMachineModel.pack -/
def ct_w58 : List ev_C := ct_w49
def ct_r58 : ev_R := (none, ct_w49, 0, 0)
def ct_p58 : ev_S → Option (ev_S ⊕ (ev_R ⊕ (ev_S × ev_S × Nat))) := ev_stp2 ct_all none ct_S58 1 (ev_call2 ct_pg ct_ck ct_all ct_S58 3000 1) ct_k67
def ct_z58_1 : ev_S := (127, [(2, (0, 2147483651, 2147483651)), (3, (0, 2147483648, 2147483649)), (0, (2, 0, 0)), (1, (0, 2147483648, 2147484112))], [(0, 2147483651, 2147483651)], ct_w49, 0, 0)
set_option maxRecDepth 1000000 in
theorem ct_e58_0 : ev_go2 ct_p58 3000 1486 (0, ev_la 0 [(2, 0, 0), (0, 2147483648, 2147484112)], [], ct_w58, 0, 0) = some (.inl ct_z58_1) := ev_sameT_r (by decide +kernel)
set_option maxRecDepth 1000000 in
theorem ct_e58_1 : ev_go2 ct_p58 3000 484 ct_z58_1 = some (.inr ct_r58) := ev_sameR_r (by decide +kernel)
theorem ct_f58_1 : ev_go2 ct_p58 3000 484 ct_z58_1 = some (.inr ct_r58) := ct_e58_1
theorem ct_f58_0 : ev_go2 ct_p58 3000 1970 (0, ev_la 0 [(2, 0, 0), (0, 2147483648, 2147484112)], [], ct_w58, 0, 0) = some (.inr ct_r58) := ev_go2_app 1486 484 _ _ _ ct_e58_0 ct_f58_1
def ct_S59 : ev_Sm := (67, 2, [], [(2, 0, 0), (0, 2147483648, 2147484112)], ct_w58, ct_r58) :: ct_S58
theorem ct_SM59 (l : Launch) (D : va_G) (dA : Nat → ClassId) : ev_SM l D ct_cl dA ct_kt ct_gs ct_pg ct_S59 := ev_SM_add3 ct_hg ct_good ct_ok ct_pok ct_kok (ct_SM58 l D dA) (q0 := ((⟨"TrustedMachineModel", "pack", "(I)V"⟩, prog_14_method_31_code, 4, none), ct_c67)) (cs := ct_k67) rfl rfl (by decide +kernel) ct_f58_0 (by decide +kernel)
/-- TrustedMachineModel.isOdd -/
def ct_w59 : List ev_C := ct_w49
def ct_r59 : ev_R := (some (0, 2147483648, 2147483649), ct_w49, 0, 0)
def ct_p59 : ev_S → Option (ev_S ⊕ (ev_R ⊕ (ev_S × ev_S × Nat))) := ev_stp2 ct_all (some .boolean) ct_S59 2 (ev_call2 ct_pg ct_ck ct_all ct_S59 3000 2) ct_k68
set_option maxRecDepth 1000000 in
theorem ct_e59_0 : ev_go2 ct_p59 3000 12 (0, ev_la 0 [(2, 0, 0), (0, 2147483648, 2147484112)], [], ct_w59, 0, 0) = some (.inr ct_r59) := ev_sameR_r (by decide +kernel)
theorem ct_f59_0 : ev_go2 ct_p59 3000 12 (0, ev_la 0 [(2, 0, 0), (0, 2147483648, 2147484112)], [], ct_w59, 0, 0) = some (.inr ct_r59) := ct_e59_0
def ct_S60 : ev_Sm := (68, 3, [], [(2, 0, 0), (0, 2147483648, 2147484112)], ct_w59, ct_r59) :: ct_S59
theorem ct_SM60 (l : Launch) (D : va_G) (dA : Nat → ClassId) : ev_SM l D ct_cl dA ct_kt ct_gs ct_pg ct_S60 := ev_SM_add3 ct_hg ct_good ct_ok ct_pok ct_kok (ct_SM59 l D dA) (q0 := ((⟨"TrustedMachineModel", "isOdd", "(I)Z"⟩, prog_14_method_33_code, 2, (some .boolean)), ct_c68)) (cs := ct_k68) rfl rfl (by decide +kernel) ct_f59_0 (by decide +kernel)
/-- TrustedMachineModel.power -/
def ct_w60 : List ev_C := ct_w49
def ct_r60 : ev_R := (none, ct_w49, 0, 0)
def ct_p60 : ev_S → Option (ev_S ⊕ (ev_R ⊕ (ev_S × ev_S × Nat))) := ev_stp2 ct_all none ct_S60 2 (ev_call2 ct_pg ct_ck ct_all ct_S60 3000 2) ct_k69
def ct_z60_1 : ev_S := (32, [(4, (0, 2147483837, 2147483837)), (0, (2, 0, 0)), (1, (0, 2147483648, 2147484112)), (2, (0, 2147483648, 2147484112)), (3, (0, 2147483649, 2147483649))], [(0, 2147483824, 2147483824), (0, 2147483824, 2147483824), (2, 0, 0)], ct_w49, 0, 0)
set_option maxRecDepth 1000000 in
theorem ct_e60_0 : ev_go2 ct_p60 3000 1500 (0, ev_la 0 [(2, 0, 0), (0, 2147483648, 2147484112), (0, 2147483648, 2147484112), (0, 2147483649, 2147483649)], [], ct_w60, 0, 0) = some (.inl ct_z60_1) := ev_sameT_r (by decide +kernel)
def ct_z60_2 : ev_S := (11, [(4, (0, 2147483771, 2147483771)), (0, (2, 0, 0)), (1, (0, 2147483648, 2147484112)), (2, (0, 2147483648, 2147484112)), (3, (0, 2147483649, 2147483649))], [(0, 2147483771, 2147483771)], ct_w49, 0, 0)
set_option maxRecDepth 1000000 in
theorem ct_e60_1 : ev_go2 ct_p60 3000 1500 ct_z60_1 = some (.inl ct_z60_2) := ev_sameT_r (by decide +kernel)
def ct_z60_3 : ev_S := (16, [(4, (0, 2147483706, 2147483706)), (0, (2, 0, 0)), (1, (0, 2147483648, 2147484112)), (2, (0, 2147483648, 2147484112)), (3, (0, 2147483649, 2147483649))], [(0, 2147483824, 2147483824), (0, 2147483824, 2147483824), (0, 2147483824, 2147483824), (2, 0, 0)], ct_w49, 0, 0)
set_option maxRecDepth 1000000 in
theorem ct_e60_2 : ev_go2 ct_p60 3000 1500 ct_z60_2 = some (.inl ct_z60_3) := ev_sameT_r (by decide +kernel)
set_option maxRecDepth 1000000 in
theorem ct_e60_3 : ev_go2 ct_p60 3000 1343 ct_z60_3 = some (.inr ct_r60) := ev_sameR_r (by decide +kernel)
theorem ct_f60_3 : ev_go2 ct_p60 3000 1343 ct_z60_3 = some (.inr ct_r60) := ct_e60_3
theorem ct_f60_2 : ev_go2 ct_p60 3000 2843 ct_z60_2 = some (.inr ct_r60) := ev_go2_app 1500 1343 _ _ _ ct_e60_2 ct_f60_3
theorem ct_f60_1 : ev_go2 ct_p60 3000 4343 ct_z60_1 = some (.inr ct_r60) := ev_go2_app 1500 2843 _ _ _ ct_e60_1 ct_f60_2
theorem ct_f60_0 : ev_go2 ct_p60 3000 5843 (0, ev_la 0 [(2, 0, 0), (0, 2147483648, 2147484112), (0, 2147483648, 2147484112), (0, 2147483649, 2147483649)], [], ct_w60, 0, 0) = some (.inr ct_r60) := ev_go2_app 1500 4343 _ _ _ ct_e60_0 ct_f60_1
def ct_S61 : ev_Sm := (69, 3, [], [(2, 0, 0), (0, 2147483648, 2147484112), (0, 2147483648, 2147484112), (0, 2147483649, 2147483649)], ct_w60, ct_r60) :: ct_S60
theorem ct_SM61 (l : Launch) (D : va_G) (dA : Nat → ClassId) : ev_SM l D ct_cl dA ct_kt ct_gs ct_pg ct_S61 := ev_SM_add3 ct_hg ct_good ct_ok ct_pok ct_kok (ct_SM60 l D dA) (q0 := ((⟨"TrustedMachineModel", "power", "(IIZ)V"⟩, prog_14_method_34_code, 5, none), ct_c69)) (cs := ct_k69) rfl rfl (by decide +kernel) ct_f60_0 (by decide +kernel)
/-- TrustedMachineModel.packPoint -/
def ct_w61 : List ev_C := ct_w49
def ct_r61 : ev_R := (none, ct_w49, 0, 0)
def ct_p61 : ev_S → Option (ev_S ⊕ (ev_R ⊕ (ev_S × ev_S × Nat))) := ev_stp2 ct_all none ct_S61 3 (ev_call2 ct_pg ct_ck ct_all ct_S61 3000 3) ct_k74
set_option maxRecDepth 1000000 in
theorem ct_e61_0 : ev_go2 ct_p61 3000 454 (0, ev_la 0 [(2, 0, 0), (0, 2147483648, 2147484064)], [], ct_w61, 0, 0) = some (.inr ct_r61) := ev_sameR_r (by decide +kernel)
theorem ct_f61_0 : ev_go2 ct_p61 3000 454 (0, ev_la 0 [(2, 0, 0), (0, 2147483648, 2147484064)], [], ct_w61, 0, 0) = some (.inr ct_r61) := ct_e61_0
def ct_S62 : ev_Sm := (74, 4, [], [(2, 0, 0), (0, 2147483648, 2147484064)], ct_w61, ct_r61) :: ct_S61
theorem ct_SM62 (l : Launch) (D : va_G) (dA : Nat → ClassId) : ev_SM l D ct_cl dA ct_kt ct_gs ct_pg ct_S62 := ev_SM_add3 ct_hg ct_good ct_ok ct_pok ct_kok (ct_SM61 l D dA) (q0 := ((⟨"TrustedMachineModel", "packPoint", "(I)V"⟩, prog_14_method_39_code, 4, none), ct_c74)) (cs := ct_k74) rfl rfl (by decide +kernel) ct_f61_0 (by decide +kernel)
