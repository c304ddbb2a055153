/-! Contracts: by runs of the small machine. Written by a program (wip/tools/emit.py over plan.py). -/
def ct_S0 : ev_Sm := []
theorem ct_SM0 (l : Launch) (D : va_G) (dA : Nat → ClassId) : ev_SM l D ct_cl dA ct_kt ct_gs ct_pg ct_S0 := ev_SM_nil
def ct_w0 : List ev_C := [(2, 0, 128, [(0, 2147483520, 2147483775)])]
def ct_r0 : ev_R := (none, [(2, 0, 128, [(0, 2147483520, 2147483775)])], 0, 0)
set_option maxRecDepth 1000000 in
theorem ct_run0 : ev_same (ev_call2 ct_pg ct_ck ct_all ct_S0 1211 1 86 [(2, 0, 0), (0, 2147483648, 2147483648)] ct_w0) ct_r0 = true := by decide +kernel
def ct_S1 : ev_Sm := (86, 1, [(0, 0)], [(2, 0, 0), (0, 2147483648, 2147483648)], ct_w0, ct_r0) :: ct_S0
/-- java/util/Arrays.fill -/
theorem ct_SM1 (l : Launch) (D : va_G) (dA : Nat → ClassId) : ev_SM l D ct_cl dA ct_kt ct_gs ct_pg ct_S1 := ev_SM_add2 ct_hg ct_good ct_ok ct_pok ct_kok (ct_SM0 l D dA) ct_run0
def ct_w1 : List ev_C := [(2, 0, 128, [(0, 2147483520, 2147483775)])]
def ct_r1 : ev_R := (none, [(2, 0, 128, [(0, 2147483520, 2147483775)])], 0, 0)
set_option maxRecDepth 1000000 in
theorem ct_run1 : ev_same (ev_call2 ct_pg ct_ck ct_all ct_S1 83 1 31 [(2, 0, 0), (0, 2147483648, 2147483772), (0, 0, 4294967295)] ct_w1) ct_r1 = true := by decide +kernel
def ct_S2 : ev_Sm := (31, 1, [(0, 0)], [(2, 0, 0), (0, 2147483648, 2147483772), (0, 0, 4294967295)], ct_w1, ct_r1) :: ct_S1
/-- TrustedMachine$Sha256.putWord -/
theorem ct_SM2 (l : Launch) (D : va_G) (dA : Nat → ClassId) : ev_SM l D ct_cl dA ct_kt ct_gs ct_pg ct_S2 := ev_SM_add2 ct_hg ct_good ct_ok ct_pok ct_kok (ct_SM1 l D dA) ct_run1
def ct_w2 : List ev_C := [(2, 0, 32, [(0, 2147483520, 2147483775)])]
def ct_r2 : ev_R := (none, [(2, 0, 32, [(0, 2147483520, 2147483775)])], 0, 0)
set_option maxRecDepth 1000000 in
theorem ct_run2 : ev_same (ev_call2 ct_pg ct_ck ct_all ct_S2 83 1 31 [(2, 0, 0), (0, 2147483648, 2147483676), (0, 0, 4294967295)] ct_w2) ct_r2 = true := by decide +kernel
def ct_S3 : ev_Sm := (31, 1, [(0, 0)], [(2, 0, 0), (0, 2147483648, 2147483676), (0, 0, 4294967295)], ct_w2, ct_r2) :: ct_S2
/-- TrustedMachine$Sha256.putWord -/
theorem ct_SM3 (l : Launch) (D : va_G) (dA : Nat → ClassId) : ev_SM l D ct_cl dA ct_kt ct_gs ct_pg ct_S3 := ev_SM_add2 ct_hg ct_good ct_ok ct_pok ct_kok (ct_SM2 l D dA) ct_run2
def ct_w3 : List ev_C := [(0, 2, 0, [(2, 1, 0), (2, 2, 0), (2, 3, 0), (2, 4, 0), (2, 5, 0)]), (2, 1, 8, [(0, 0, 4294967295)]), (2, 1, 64, [(0, 0, 4294967295)]), (9, 0, 0, []), (9, 0, 0, []), (9, 0, 0, []), (2, 0, 256, [(0, 2147483520, 2147483775)])]
def ct_r3 : ev_R := (none, [(0, 2, 0, [(2, 1, 0), (2, 2, 0), (2, 3, 0), (2, 4, 0), (2, 5, 0)]), (2, 1, 8, [(0, 0, 4294967295)]), (2, 1, 64, [(0, 0, 4294967295)]), (9, 0, 0, []), (9, 0, 0, []), (9, 0, 0, []), (2, 0, 256, [(0, 2147483520, 2147483775)])], 0, 0)
set_option maxRecDepth 1000000 in
theorem ct_run3 : ev_same (ev_call2 ct_pg ct_ck ct_all ct_S3 10701 1 33 [(2, 0, 0), (2, 6, 0), (0, 2147483648, 2147483840)] ct_w3) ct_r3 = true := by decide +kernel
def ct_S4 : ev_Sm := (33, 1, [(0, 0), (1, 0), (1, 1), (1, 2), (1, 3), (1, 4), (0, 1)], [(2, 0, 0), (2, 6, 0), (0, 2147483648, 2147483840)], ct_w3, ct_r3) :: ct_S3
/-- TrustedMachine$Sha256.compress -/
theorem ct_SM4 (l : Launch) (D : va_G) (dA : Nat → ClassId) : ev_SM l D ct_cl dA ct_kt ct_gs ct_pg ct_S4 := ev_SM_add2 ct_hg ct_good ct_ok ct_pok ct_kok (ct_SM3 l D dA) ct_run3
